section
-- ===== PART A: goes FIRST, ahead of the names: the tables' words, and 'selects' of the private methods out of them =====
/-- a private method of a class that the tables say can be made, by its rows of tables_1 -/
def lw_okq (q : MethodName × Nat) : Prop := (q.1.cls ≠ "java/lang/invoke/MethodHandle" ∧ q.1.cls ≠ "java/lang/invoke/VarHandle") ∧ Cond.instantiable q.1.cls q.2 ∈ tables_1 ∧ Cond.privateMethod q.1 ∈ tables_1 ∧ Cond.instanceMethod q.1 ∈ tables_1
theorem lw_p0 : lw_okq (⟨"java/lang/Throwable", "fillInStackTrace", "(I)Ljava/lang/Throwable;"⟩, 6) := ⟨⟨by decide +kernel, by decide +kernel⟩, List.mem_of_getElem? (i := 118) (by decide +kernel), List.mem_of_getElem? (i := 116) (by decide +kernel), List.mem_of_getElem? (i := 117) (by decide +kernel)⟩
theorem lw_p1 : lw_okq (⟨"MoorWatch", "checkBollard", "(I)V"⟩, 15) := ⟨⟨by decide +kernel, by decide +kernel⟩, List.mem_of_getElem? (i := 12) (by decide +kernel), List.mem_of_getElem? (i := 173) (by decide +kernel), List.mem_of_getElem? (i := 174) (by decide +kernel)⟩
theorem lw_p2 : lw_okq (⟨"MoorWatch", "checkLine", "(I)V"⟩, 15) := ⟨⟨by decide +kernel, by decide +kernel⟩, List.mem_of_getElem? (i := 12) (by decide +kernel), List.mem_of_getElem? (i := 204) (by decide +kernel), List.mem_of_getElem? (i := 205) (by decide +kernel)⟩
theorem lw_p3 : lw_okq (⟨"MoorWatch", "forceWith", "(II)I"⟩, 15) := ⟨⟨by decide +kernel, by decide +kernel⟩, List.mem_of_getElem? (i := 12) (by decide +kernel), List.mem_of_getElem? (i := 249) (by decide +kernel), List.mem_of_getElem? (i := 250) (by decide +kernel)⟩
theorem lw_p4 : lw_okq (⟨"MoorWatch", "pullWith", "(III)I"⟩, 15) := ⟨⟨by decide +kernel, by decide +kernel⟩, List.mem_of_getElem? (i := 12) (by decide +kernel), List.mem_of_getElem? (i := 253) (by decide +kernel), List.mem_of_getElem? (i := 254) (by decide +kernel)⟩
theorem lw_p5 : lw_okq (⟨"MoorWatch", "heightIn", "(I)I"⟩, 15) := ⟨⟨by decide +kernel, by decide +kernel⟩, List.mem_of_getElem? (i := 12) (by decide +kernel), List.mem_of_getElem? (i := 257) (by decide +kernel), List.mem_of_getElem? (i := 258) (by decide +kernel)⟩
theorem lw_p6 : lw_okq (⟨"MoorWatch", "tensionAtLength", "(II)I"⟩, 15) := ⟨⟨by decide +kernel, by decide +kernel⟩, List.mem_of_getElem? (i := 12) (by decide +kernel), List.mem_of_getElem? (i := 261) (by decide +kernel), List.mem_of_getElem? (i := 262) (by decide +kernel)⟩
theorem lw_p7 : lw_okq (⟨"MoorWatch", "balanceOf", "(I)I"⟩, 15) := ⟨⟨by decide +kernel, by decide +kernel⟩, List.mem_of_getElem? (i := 12) (by decide +kernel), List.mem_of_getElem? (i := 275) (by decide +kernel), List.mem_of_getElem? (i := 276) (by decide +kernel)⟩
theorem lw_p8 : lw_okq (⟨"MoorWatch", "driftsWith", "(II)Z"⟩, 15) := ⟨⟨by decide +kernel, by decide +kernel⟩, List.mem_of_getElem? (i := 12) (by decide +kernel), List.mem_of_getElem? (i := 289) (by decide +kernel), List.mem_of_getElem? (i := 290) (by decide +kernel)⟩
theorem lw_p9 : lw_okq (⟨"MoorWatch", "lengthWith", "(III)I"⟩, 15) := ⟨⟨by decide +kernel, by decide +kernel⟩, List.mem_of_getElem? (i := 12) (by decide +kernel), List.mem_of_getElem? (i := 300) (by decide +kernel), List.mem_of_getElem? (i := 301) (by decide +kernel)⟩
theorem lw_p10 : lw_okq (⟨"MoorWatch", "bollardTension", "(III)I"⟩, 15) := ⟨⟨by decide +kernel, by decide +kernel⟩, List.mem_of_getElem? (i := 12) (by decide +kernel), List.mem_of_getElem? (i := 318) (by decide +kernel), List.mem_of_getElem? (i := 319) (by decide +kernel)⟩
theorem lw_p11 : lw_okq (⟨"MoorWatch", "holdsIn", "(I)Z"⟩, 15) := ⟨⟨by decide +kernel, by decide +kernel⟩, List.mem_of_getElem? (i := 12) (by decide +kernel), List.mem_of_getElem? (i := 329) (by decide +kernel), List.mem_of_getElem? (i := 330) (by decide +kernel)⟩
theorem lw_p12 : lw_okq (⟨"MoorWatch", "linesHold", "(II)Z"⟩, 15) := ⟨⟨by decide +kernel, by decide +kernel⟩, List.mem_of_getElem? (i := 12) (by decide +kernel), List.mem_of_getElem? (i := 333) (by decide +kernel), List.mem_of_getElem? (i := 334) (by decide +kernel)⟩
theorem lw_p13 : lw_okq (⟨"MoorWatch", "bollardsHold", "(II)Z"⟩, 15) := ⟨⟨by decide +kernel, by decide +kernel⟩, List.mem_of_getElem? (i := 12) (by decide +kernel), List.mem_of_getElem? (i := 337) (by decide +kernel), List.mem_of_getElem? (i := 338) (by decide +kernel)⟩
theorem lw_p14 : lw_okq (⟨"MoorWatch", "tendFastLines", "(I)I"⟩, 15) := ⟨⟨by decide +kernel, by decide +kernel⟩, List.mem_of_getElem? (i := 12) (by decide +kernel), List.mem_of_getElem? (i := 363) (by decide +kernel), List.mem_of_getElem? (i := 364) (by decide +kernel)⟩
theorem lw_p15 : lw_okq (⟨"MoorWatch", "tendThrough", "(II)I"⟩, 15) := ⟨⟨by decide +kernel, by decide +kernel⟩, List.mem_of_getElem? (i := 12) (by decide +kernel), List.mem_of_getElem? (i := 378) (by decide +kernel), List.mem_of_getElem? (i := 379) (by decide +kernel)⟩
def lw_privs_1 : List (MethodName × Nat) := [(⟨"java/lang/Throwable", "fillInStackTrace", "(I)Ljava/lang/Throwable;"⟩, 6), (⟨"MoorWatch", "checkBollard", "(I)V"⟩, 15), (⟨"MoorWatch", "checkLine", "(I)V"⟩, 15), (⟨"MoorWatch", "forceWith", "(II)I"⟩, 15), (⟨"MoorWatch", "pullWith", "(III)I"⟩, 15), (⟨"MoorWatch", "heightIn", "(I)I"⟩, 15), (⟨"MoorWatch", "tensionAtLength", "(II)I"⟩, 15), (⟨"MoorWatch", "balanceOf", "(I)I"⟩, 15), (⟨"MoorWatch", "driftsWith", "(II)Z"⟩, 15), (⟨"MoorWatch", "lengthWith", "(III)I"⟩, 15), (⟨"MoorWatch", "bollardTension", "(III)I"⟩, 15), (⟨"MoorWatch", "holdsIn", "(I)Z"⟩, 15), (⟨"MoorWatch", "linesHold", "(II)Z"⟩, 15), (⟨"MoorWatch", "bollardsHold", "(II)Z"⟩, 15), (⟨"MoorWatch", "tendFastLines", "(I)I"⟩, 15), (⟨"MoorWatch", "tendThrough", "(II)I"⟩, 15)]
theorem lw_r1 : ∀ q ∈ lw_privs_1, lw_okq q := List.forall_mem_cons.mpr ⟨lw_p0, List.forall_mem_cons.mpr ⟨lw_p1, List.forall_mem_cons.mpr ⟨lw_p2, List.forall_mem_cons.mpr ⟨lw_p3, List.forall_mem_cons.mpr ⟨lw_p4, List.forall_mem_cons.mpr ⟨lw_p5, List.forall_mem_cons.mpr ⟨lw_p6, List.forall_mem_cons.mpr ⟨lw_p7, List.forall_mem_cons.mpr ⟨lw_p8, List.forall_mem_cons.mpr ⟨lw_p9, List.forall_mem_cons.mpr ⟨lw_p10, List.forall_mem_cons.mpr ⟨lw_p11, List.forall_mem_cons.mpr ⟨lw_p12, List.forall_mem_cons.mpr ⟨lw_p13, List.forall_mem_cons.mpr ⟨lw_p14, List.forall_mem_cons.mpr ⟨lw_p15, fun _ h => absurd h List.not_mem_nil⟩⟩⟩⟩⟩⟩⟩⟩⟩⟩⟩⟩⟩⟩⟩⟩
theorem lw_p16 : lw_okq (⟨"MoorWatchModel", "goes", "(ZZZ)Z"⟩, 16) := ⟨⟨by decide +kernel, by decide +kernel⟩, List.mem_of_getElem? (i := 382) (by decide +kernel), List.mem_of_getElem? (i := 449) (by decide +kernel), List.mem_of_getElem? (i := 450) (by decide +kernel)⟩
theorem lw_p17 : lw_okq (⟨"MoorWatchModel", "isLine", "(I)Z"⟩, 16) := ⟨⟨by decide +kernel, by decide +kernel⟩, List.mem_of_getElem? (i := 382) (by decide +kernel), List.mem_of_getElem? (i := 464) (by decide +kernel), List.mem_of_getElem? (i := 465) (by decide +kernel)⟩
theorem lw_p18 : lw_okq (⟨"MoorWatchModel", "forceAt", "(II)I"⟩, 16) := ⟨⟨by decide +kernel, by decide +kernel⟩, List.mem_of_getElem? (i := 382) (by decide +kernel), List.mem_of_getElem? (i := 492) (by decide +kernel), List.mem_of_getElem? (i := 493) (by decide +kernel)⟩
theorem lw_p19 : lw_okq (⟨"MoorWatchModel", "lengthAt", "(III)I"⟩, 16) := ⟨⟨by decide +kernel, by decide +kernel⟩, List.mem_of_getElem? (i := 382) (by decide +kernel), List.mem_of_getElem? (i := 496) (by decide +kernel), List.mem_of_getElem? (i := 497) (by decide +kernel)⟩
theorem lw_p20 : lw_okq (⟨"MoorWatchModel", "away", "(II)I"⟩, 16) := ⟨⟨by decide +kernel, by decide +kernel⟩, List.mem_of_getElem? (i := 382) (by decide +kernel), List.mem_of_getElem? (i := 500) (by decide +kernel), List.mem_of_getElem? (i := 501) (by decide +kernel)⟩
theorem lw_p21 : lw_okq (⟨"MoorWatchModel", "tensionAt", "(III)I"⟩, 16) := ⟨⟨by decide +kernel, by decide +kernel⟩, List.mem_of_getElem? (i := 382) (by decide +kernel), List.mem_of_getElem? (i := 504) (by decide +kernel), List.mem_of_getElem? (i := 505) (by decide +kernel)⟩
theorem lw_p22 : lw_okq (⟨"MoorWatchModel", "shiftAt", "(I)I"⟩, 16) := ⟨⟨by decide +kernel, by decide +kernel⟩, List.mem_of_getElem? (i := 382) (by decide +kernel), List.mem_of_getElem? (i := 512) (by decide +kernel), List.mem_of_getElem? (i := 513) (by decide +kernel)⟩
theorem lw_p23 : lw_okq (⟨"MoorWatchModel", "drifts", "(I)Z"⟩, 16) := ⟨⟨by decide +kernel, by decide +kernel⟩, List.mem_of_getElem? (i := 382) (by decide +kernel), List.mem_of_getElem? (i := 520) (by decide +kernel), List.mem_of_getElem? (i := 521) (by decide +kernel)⟩
theorem lw_p24 : lw_okq (⟨"MoorWatchModel", "sumOn", "(III)I"⟩, 16) := ⟨⟨by decide +kernel, by decide +kernel⟩, List.mem_of_getElem? (i := 382) (by decide +kernel), List.mem_of_getElem? (i := 536) (by decide +kernel), List.mem_of_getElem? (i := 537) (by decide +kernel)⟩
theorem lw_p25 : lw_okq (⟨"MoorWatchModel", "holds", "(I)Z"⟩, 16) := ⟨⟨by decide +kernel, by decide +kernel⟩, List.mem_of_getElem? (i := 382) (by decide +kernel), List.mem_of_getElem? (i := 544) (by decide +kernel), List.mem_of_getElem? (i := 545) (by decide +kernel)⟩
theorem lw_p26 : lw_okq (⟨"MoorWatchModel", "tends", "(I)I"⟩, 16) := ⟨⟨by decide +kernel, by decide +kernel⟩, List.mem_of_getElem? (i := 382) (by decide +kernel), List.mem_of_getElem? (i := 562) (by decide +kernel), List.mem_of_getElem? (i := 563) (by decide +kernel)⟩
def lw_privs_2 : List (MethodName × Nat) := [(⟨"MoorWatchModel", "goes", "(ZZZ)Z"⟩, 16), (⟨"MoorWatchModel", "isLine", "(I)Z"⟩, 16), (⟨"MoorWatchModel", "forceAt", "(II)I"⟩, 16), (⟨"MoorWatchModel", "lengthAt", "(III)I"⟩, 16), (⟨"MoorWatchModel", "away", "(II)I"⟩, 16), (⟨"MoorWatchModel", "tensionAt", "(III)I"⟩, 16), (⟨"MoorWatchModel", "shiftAt", "(I)I"⟩, 16), (⟨"MoorWatchModel", "drifts", "(I)Z"⟩, 16), (⟨"MoorWatchModel", "sumOn", "(III)I"⟩, 16), (⟨"MoorWatchModel", "holds", "(I)Z"⟩, 16), (⟨"MoorWatchModel", "tends", "(I)I"⟩, 16)]
theorem lw_r2 : ∀ q ∈ lw_privs_2, lw_okq q := List.forall_mem_cons.mpr ⟨lw_p16, List.forall_mem_cons.mpr ⟨lw_p17, List.forall_mem_cons.mpr ⟨lw_p18, List.forall_mem_cons.mpr ⟨lw_p19, List.forall_mem_cons.mpr ⟨lw_p20, List.forall_mem_cons.mpr ⟨lw_p21, List.forall_mem_cons.mpr ⟨lw_p22, List.forall_mem_cons.mpr ⟨lw_p23, List.forall_mem_cons.mpr ⟨lw_p24, List.forall_mem_cons.mpr ⟨lw_p25, List.forall_mem_cons.mpr ⟨lw_p26, fun _ h => absurd h List.not_mem_nil⟩⟩⟩⟩⟩⟩⟩⟩⟩⟩⟩
def lw_privs : List (MethodName × Nat) := lw_privs_1 ++ (lw_privs_2)
def lw_tbl : List Cond := k2_sels lw_privs ++ tables_1
theorem lw_privs_ok : ∀ q ∈ lw_privs, lw_okq q := by
  show ∀ q ∈ lw_privs_1 ++ (lw_privs_2), lw_okq q
  exact List.forall_mem_append.mpr ⟨lw_r1, lw_r2⟩
-- ===== end of PART A; then your names; then what follows =====
end
section
/-! ===== BEGIN words of one list among another's, by their places ===== -/
theorem goodIn_r {big : List Cond} (ws : List Cond) (ps : List Nat) (hp : ws = ps.filterMap (fun i => big[i]?)) (h : ws.all goodWord = true) : GoodIn big ws := by
  intro w hw
  have h1 := List.all_eq_true.mp h w hw
  rw [hp] at hw
  obtain ⟨i, -, hi⟩ := List.mem_filterMap.mp hw
  have hm : w ∈ big := by first | exact List.mem_of_getElem? hi | exact List.getElem?_mem hi
  exact ⟨hm, good_of_word h1⟩
theorem goodIn_app {big a b : List Cond} (ha : GoodIn big a) (hb : GoodIn big b) : GoodIn big (a ++ b) := fun w h => (List.mem_append.mp h).elim (ha w) (hb w)
theorem goodIn_ca {big a b : List Cond} {c : Cond} (ha : GoodIn big (c :: a)) (hb : GoodIn big b) : GoodIn big (c :: (a ++ b)) := fun w h => (List.mem_cons.mp h).elim (fun e => ha w (List.mem_cons.mpr (Or.inl e))) (fun h => (List.mem_append.mp h).elim (fun h => ha w (List.mem_cons.mpr (Or.inr h))) (hb w))
theorem goodIn_sub {big ws : List Cond} (hm : ∀ w ∈ ws, w ∈ big) (h : ws.all goodWord = true) : GoodIn big ws := fun w hw => ⟨hm w hw, good_of_word (List.all_eq_true.mp h w hw)⟩
/-! ===== END ===== -/

/-! ===== BEGIN exceptions that leave a method, and their catching by the caller (launches without stack traces) ===== -/
section VXA
/-! The laws vx_back, vx_callV, vx_callS, vx_callSW, vx_throw0, vx_throwS follow proofs of the library, with one case more: JvmDerived/Free/Laws.lean (Back.of_free), Shelf42/LK1.lean (callV, callS), Shelf/KitTraced.lean (throwNew0V, throwNewS). -/
/-- where a method has thrown q: the class by its name, the cell, what was written, the world -/
def vx_T (XC : String → State → State → Prop) (st : State) (q : Addr) (t : State) (mc ms : Nat) (free : Addr → Prop) : Prop :=
  ∃ (E : String) (ce : Cell) (L : List Loc), XC E st t ∧ t.heap[q]? = some ce ∧ ce.vm = .none ∧ st.vm.findClass E = some ce.cls ∧ st.WarmedH t.vm ∧ st.sameButNew ({ t with vm := st.vm } : State) L mc ms ∧ ∀ z ∈ L, free z.base
def vx_Q (Qc : Array Value → State → Outcome → State → Prop) (XC : String → State → State → Prop) (mc ms : Nat) (free : Addr → Prop) : Array Value → State → Outcome → State → Prop := fun a st o t =>
  (Qc a st o t ∧ ∃ L, FrameEnd st o t L mc ms ∧ ∀ q ∈ L, free q.base) ∨ ∃ q, o = .threw q ∧ vx_T XC st q t mc ms free
/-- a callee that returns or throws -/
def vx_Met (l : Launch) (y : MethodName) (ws : List Cond) (rm : Room) (Pc : Array Value → State → Prop) (Qc : Array Value → State → Outcome → State → Prop) (XC : String → State → State → Prop) (mc ms : Nat) (free : Addr → Prop) : Prop :=
  MetFree l y (headSpec ws rm) Pc (fun _ _ _ _ _ => True) (vx_Q Qc XC mc ms free)
def vx_Post (XC : String → State → State → Prop) (mc ms : Nat) (free : Addr → Prop) : Pt → Array Value → Addr → Pt → Prop := fun A a q B =>
  ∃ (g : JFrame) (mk : MethodId) (t : State) (L : List Loc) (E : String) (ce : Cell), B.U.heap = t.heap ∧ B.U.vm = t.vm ∧ XC E (A.U.calling g mk a) t ∧ t.heap[q]? = some ce ∧ ce.vm = .none ∧ A.U.vm.findClass E = some ce.cls ∧ B.locs = A.locs ++ L ∧ (∀ z ∈ L, free z.base) ∧ B.cells = A.cells + mc ∧ B.slots = A.slots + ms
def vx_Back (l : Launch) (R : Room) (p : Program) (e : Env) (below : List Frame) (s : State) (sargs : Array Value) (y : MethodName) (len W9 : Nat)
    (Pre : Pt → Array Value → Prop) (Post : Pt → Array Value → Option Value → Pt → Prop) (PostX : Pt → Array Value → Addr → Pt → Prop) : Prop :=
  ∀ (m : MethodId) (meth : Method) (c : Code) (A : Pt) (g : JFrame) (ig : Instr) (mk : MethodId) (a : Array Value),
    Stand p l e R s m sargs below meth c A.U A.locs A.cells A.slots → g.method = m → g.locals.size = c.maxLocals → decode c.code g.pc = .ok (ig, len) →
    2 * g.monitorRoom + (g.stack.map fun v => v.category).sum ≤ W9 → A.U.methodNamed? y = some mk → Pre A a →
    (∃ (v : Option Value) (B : Pt), Stand p l e R s m sargs below meth c B.U B.locs B.cells B.slots ∧ Post A a v B ∧
      Steps p.tables e below (doInvoke e (A.U.setTop g) [] mk a).1 (B.U.setTop { g with pc := g.pc + len, stack := v.toList ++ g.stack })) ∨
    (∃ (q : Addr) (B : Pt), Stand p l e R s m sargs below meth c B.U B.locs B.cells B.slots ∧ PostX A a q B ∧
      Steps p.tables e below (doInvoke e (A.U.setTop g) [] mk a).1 ((B.U.setTop g).pushFrame (.throwing q)))
section Payer
variable {l : Launch} {R : Room} {p : Program} {e : Env} {below : List Frame} {s : State} {sargs : Array Value} {y : MethodName} {len W9 : Nat}
theorem vx_back {ws : List Cond} {rm : Room} {Pc : Array Value → State → Prop} {Qc : Array Value → State → Outcome → State → Prop} {XC : String → State → State → Prop} {mc ms : Nat} {free : Addr → Prop} {bytes : ByteArray} {maxL : Nat} {ret : Option FieldType}
    (hM : vx_Met l y ws rm Pc Qc XC mc ms free) (hblind : FrameBlind Pc) (hrc : rm.cells = mc) (hrs : rm.slots = ms)
    (hframes : rm.frames + 1 ≤ R.frames) (hlocals : W9 + (maxL + 11) + rm.locals ≤ R.locals)
    (hws : ∀ w ∈ ws, ∀ a' U, s.WarmedH U.vm → w.before a' U = true) (hcode : Cond.code y bytes maxL ret ∈ ws) (hinit : ∀ a' U, s.WarmedH U.vm → (Cond.initialized y.cls).before a' U = true) :
    vx_Back l R p e below s sargs y len W9 (PreOf R mc ms Pc) (PostOf Qc mc ms free) (vx_Post XC mc ms free) := by
  intro m meth c A g ig mk a X hg hsize hdg hW hn hp
  have h1 : (headSpec ws rm).pre.before a A.U = true := atoms_intro fun w hw => hws w hw _ _ X.warmed
  have h2 : (Cond.code y bytes maxL ret).before a A.U = true := hws _ hcode _ _ X.warmed
  have h3 : (Cond.initialized y.cls).before a A.U = true := hinit _ _ X.warmed
  have h4 : A.cells + (headSpec ws rm).room.cells ≤ R.cells := by rw [show (headSpec ws rm).room.cells = mc from hrc]; exact hp.1
  have h5 : A.slots + (headSpec ws rm).room.slots ≤ R.slots := by rw [show (headSpec ws rm).room.slots = ms from hrs]; exact hp.2.1
  have hPc : Pc a (A.U.calling g mk a) := hblind _ _ _ _ hp.2.2
  obtain ⟨U, Ls, c0, s0⟩ := A
  dsimp only [Pt.U, Pt.locs, Pt.cells, Pt.slots] at h1 h2 h3 h4 h5 X hn hPc ⊢
  obtain ⟨methY, cY, hmY, hcY, -, hlY, -, -, -, -⟩ := Cond.code_spec hn h2
  obtain ⟨kY, hkY, -⟩ := className_of_methodNamed hn
  have hinitY : kY.init = .initialized := Cond.initialized_spec (findClass_of_methodNamed hn) hkY h3
  have h : At U g.method c below := by rw [hg]; exact X.here
  have hlocals9 : W9 + (maxL + 11) + (headSpec ws rm).room.locals ≤ R.locals := hlocals
  have happ : (headSpec ws rm).appliesLoose y e.platform (U.calling g mk a) = true :=
    Spec.appliesLoose_calling (g := g) h hdg hn hkY hinitY
      (X.room_calling (g := g) (R' := (headSpec ws rm).room) hsize hmY hcY hframes (by rw [hlY]; omega) h4 h5) h1
  obtain ⟨mid, hmid⟩ := h.above
  have hfr : (U.setTop g).frames = (.java g :: mid) ++ below := by rw [State.frames_setTop' g h.top, hmid]; rfl
  obtain ⟨o, s₂, hsteps, -, hend, hq⟩ := Steps.callFree hM p X.admits X.cas X.clock (acts := []) hfr happ hPc trivial
  have hq' : vx_Q Qc XC mc ms free a (U.calling g mk a) o s₂ := hq
  rw [State.frames_setTop' g h.top] at hend
  obtain ⟨g₀, hg0⟩ := Option.isSome_iff_exists.mp h.top
  obtain ⟨r, hr⟩ := State.topJava?_eq_some.mp hg0
  have hr' : (({ U with heap := s₂.heap, slotsUsed := s₂.slotsUsed } : State).setVm s₂.vm).frames = .java g₀ :: r := hr
  rcases hq' with ⟨hqc, L, hfe, hL⟩ | ⟨q, rfl, E, ce, L, hx, hce, hcv, hcl, hW₂, hsm, hL⟩
  · obtain ⟨⟨v, rfl⟩, hW₂, e2, q2, q3, q4, q5, q6⟩ := id hfe
    have e3 : s₂ = ({ (U.calling g mk a).setFrames s₂.frames with heap := s₂.heap, slotsUsed := s₂.slotsUsed } : State).setVm s₂.vm := by
      have : s₂ = ({ s₂ with vm := (U.calling g mk a).vm } : State).setVm s₂.vm := rfl
      rw [e2] at this
      exact this
    obtain ⟨c₂, i₂, len₂, hc₂, hd₂, hf₂⟩ := hend
    have hW' : U.WarmedH s₂.vm := hW₂
    have hcc : c₂ = c := by
      have h1 : s₂.code? g.method = U.code? g.method := by
        rw [State.code?_eq, State.code?_eq, hW'.alike.method?]
      exact Option.some.inj (hc₂.symm.trans (h1.trans h.code))
    subst hcc
    have hlen : len₂ = len := by rw [hdg] at hd₂; cases hd₂; rfl
    subst hlen
    have hs₂ : s₂ = (({ U with heap := s₂.heap, slotsUsed := s₂.slotsUsed } : State).setVm s₂.vm).setTop { g with pc := g.pc + len₂, stack := v.toList ++ g.stack } := by
      refine e3.trans ?_
      rw [hf₂, State.calling_eq h.top, State.setFrames_setFrames, State.setTop_of_frames _ hr', hr]
      rfl
    have hsame : U.sameButNew ({ U with heap := s₂.heap, slotsUsed := s₂.slotsUsed } : State) L mc ms := by
      refine ⟨?_, q2, q3, q4, q5, q6⟩
      obtain ⟨t, ht, -⟩ := State.frames_cons hr
      show ({ U with heap := s₂.heap, slotsUsed := s₂.slotsUsed } : State) = { U.setFrames U.frames with heap := s₂.heap, slotsUsed := s₂.slotsUsed }
      rw [State.setFrames_self ht]
    subst hg
    refine Or.inl ⟨v, ⟨(({ U with heap := s₂.heap, slotsUsed := s₂.slotsUsed } : State).setVm s₂.vm), Ls ++ L, c0 + mc, s0 + ms⟩,
      ⟨X.admits, X.cas, X.clock, X.frames, X.room, X.hears, X.method, X.code, (X.here.setHeapUsed s₂.heap s₂.slotsUsed).setVm hW'.alike, X.tail, State.WarmedH.trans X.warmed hW', X.limits, X.bytes, X.same.trans (hsame.setVm s.vm)⟩,
      ⟨g, mk, s₂, L, rfl, rfl, hqc, rfl, hL, rfl, rfl⟩, ?_⟩
    show Steps p.tables e below _ ((({ U with heap := s₂.heap, slotsUsed := s₂.slotsUsed } : State).setVm s₂.vm).setTop { g with pc := g.pc + len₂, stack := v.toList ++ g.stack })
    rw [← hs₂]
    exact hsteps
  · obtain ⟨e2, q2, q3, q4, q5, q6⟩ := id hsm
    have e3 : s₂ = ({ (U.calling g mk a).setFrames s₂.frames with heap := s₂.heap, slotsUsed := s₂.slotsUsed } : State).setVm s₂.vm := by
      have : s₂ = ({ s₂ with vm := (U.calling g mk a).vm } : State).setVm s₂.vm := rfl
      rw [e2] at this
      exact this
    have hf₂ : s₂.frames = .throwing q :: .java g :: U.frames.tail := hend
    have hW' : U.WarmedH s₂.vm := hW₂
    have hs₂ : s₂ = ((({ U with heap := s₂.heap, slotsUsed := s₂.slotsUsed } : State).setVm s₂.vm).setTop g).pushFrame (.throwing q) := by
      refine e3.trans ?_
      rw [hf₂, State.calling_eq h.top, State.setFrames_setFrames, State.pushFrame, State.frames_setTop _ hr', State.setTop_of_frames _ hr', State.setFrames_setFrames, hr]
      rfl
    have hsame : U.sameButNew ({ U with heap := s₂.heap, slotsUsed := s₂.slotsUsed } : State) L mc ms := by
      refine ⟨?_, q2, q3, q4, q5, q6⟩
      obtain ⟨t, ht, -⟩ := State.frames_cons hr
      show ({ U with heap := s₂.heap, slotsUsed := s₂.slotsUsed } : State) = { U.setFrames U.frames with heap := s₂.heap, slotsUsed := s₂.slotsUsed }
      rw [State.setFrames_self ht]
    subst hg
    refine Or.inr ⟨q, ⟨(({ U with heap := s₂.heap, slotsUsed := s₂.slotsUsed } : State).setVm s₂.vm), Ls ++ L, c0 + mc, s0 + ms⟩,
      ⟨X.admits, X.cas, X.clock, X.frames, X.room, X.hears, X.method, X.code, (X.here.setHeapUsed s₂.heap s₂.slotsUsed).setVm hW'.alike, X.tail, State.WarmedH.trans X.warmed hW', X.limits, X.bytes, X.same.trans (hsame.setVm s.vm)⟩,
      ⟨g, mk, s₂, L, E, ce, rfl, rfl, hx, hce, hcv, hcl, rfl, hL, rfl, rfl⟩, ?_⟩
    show Steps p.tables e below _ (((({ U with heap := s₂.heap, slotsUsed := s₂.slotsUsed } : State).setVm s₂.vm).setTop g).pushFrame (.throwing q))
    rw [← hs₂]
    exact hsteps
end Payer
section Calls
variable {p : Program} {l : Launch} {e : Env} {R : Room} {s : State} {m : MethodId} {args : Array Value} {below : List Frame} {meth : Method} {c : Code} {T : State} {locs : List Loc} {cells slots : Nat}
theorem vx_callV (X : Stand p l e R s m args below meth c T locs cells slots) (hexec : p.tables.exec = Jvm.exec) {own C : String} {index : Nat} {y : MethodName} {bytes : ByteArray} {maxL : Nat} {ret : Option FieldType}
    (hown : s.vm.findClass own = some m.cls) (hlink : (Cond.methodLink own index y).before args s = true) (hinst : (Cond.instanceMethod y).before args s = true) (hsel : (Cond.selects C y y).before args s = true)
    (hcode : (Cond.code y bytes maxL ret).before args s = true) (hy : y.cls ≠ "java/lang/invoke/MethodHandle" ∧ y.cls ≠ "java/lang/invoke/VarHandle")
    {W9 : Nat} {Pre : Pt → Array Value → Prop} {Post : Pt → Array Value → Option Value → Pt → Prop} {PostX : Pt → Array Value → Addr → Pt → Prop} (hK : vx_Back l R p e below s args y 3 W9 Pre Post PostX)
    {b : Addr} {cellB : Cell} (hcell : T.heap[b]? = some cellB) (hobj : cellB.vm.isStatics = false) (hcls : s.vm.findClass C = some cellB.cls)
    {g : JFrame} (hg : g.method = m) (hsize : g.locals.size = c.maxLocals) {argsL rest : List Value} (hlen : ∀ sig, parseMethodDescriptor y.desc = some sig → argsL.length = sig.parameters.length)
    (hstack : g.stack = argsL.reverse ++ .ref b :: rest) (hW : 2 * g.monitorRoom + (rest.map fun v => v.category).sum ≤ W9) (hdg : decode c.code g.pc = .ok (.invokevirtual index, 3))
    (hpre : ∀ vm₁, s.WarmedH vm₁ → Pre ⟨T.setVm vm₁, locs, cells, slots⟩ (Value.ref b :: argsL).toArray) :
    (∃ (v : Option Value) (vm₁ : Vm) (B : Pt), s.WarmedH vm₁ ∧ Stand p l e R s m args below meth c B.U B.locs B.cells B.slots ∧ Post ⟨T.setVm vm₁, locs, cells, slots⟩ (Value.ref b :: argsL).toArray v B ∧
      ∀ target, Steps p.tables e below (B.U.setTop { g with pc := g.pc + 3, stack := v.toList ++ rest }) target → Steps p.tables e below (T.setTop g) target) ∨
    (∃ (q : Addr) (vm₁ : Vm) (B : Pt), s.WarmedH vm₁ ∧ Stand p l e R s m args below meth c B.U B.locs B.cells B.slots ∧ PostX ⟨T.setVm vm₁, locs, cells, slots⟩ (Value.ref b :: argsL).toArray q B ∧
      Steps p.tables e below (T.setTop g) ((B.U.setTop { g with stack := rest }).pushFrame (.throwing q))) := by
  obtain ⟨mk, methM, hnamed, hmethM, hstM, habM⟩ := Cond.instanceMethod_spec hinst
  obtain ⟨methM', cM, hmethM', -, -, -, -, -, -, hsigM⟩ := Cond.code_spec hnamed hcode
  cases hmethM.symm.trans hmethM'
  obtain ⟨c2, r2, m2, q1, q2, q3, q4, kP, hkP, hkPi⟩ := Cond.selects_spec hsel
  cases hcls.symm.trans q1
  cases (State.methodFound?_of_named hnamed hy).symm.trans q2
  cases hnamed.symm.trans q3
  have hselP : selectMethod e.platform s.vm cellB.cls mk = .method mk := by rw [Launch.admits_selectMethod X.admits]; exact q4
  obtain ⟨vm₁, X₁, hstep₁⟩ := X.invokevirtual hexec hown hlink hnamed hmethM hstM hkP hkPi hy (a := b) (cell := cellB) hcell
    (fun z h => by rw [h] at hobj; cases hobj) hselP hmethM habM hkP hkPi (g := g) hg (argsL := argsL) (rest := rest) (hlen _ hsigM) hstack hdg
  rcases hK m meth c ⟨T.setVm vm₁, locs, cells, slots⟩ { g with stack := rest } (.invokevirtual index) mk (Value.ref b :: argsL).toArray X₁ hg hsize hdg hW (X₁.named hnamed) (hpre vm₁ X₁.warmed) with ⟨v, B, X', hpost, hsteps⟩ | ⟨q, B, X', hpost, hsteps⟩
  · exact Or.inl ⟨v, vm₁, B, X₁.warmed, X', hpost, fun target h => hstep₁ _ fun acts => by rw [doInvoke_state]; exact hsteps.trans h⟩
  · exact Or.inr ⟨q, vm₁, B, X₁.warmed, X', hpost, hstep₁ _ fun acts => by rw [doInvoke_state]; exact hsteps⟩
theorem vx_callS (X : Stand p l e R s m args below meth c T locs cells slots) (hexec : p.tables.exec = Jvm.exec) {own : String} {index : Nat} {y : MethodName} {bytes : ByteArray} {maxL : Nat} {ret : Option FieldType}
    (hown : s.vm.findClass own = some m.cls) (hlink : (Cond.methodLink own index y).before args s = true) (hstat : (Cond.static y).before args s = true) (hinit : (Cond.initialized y.cls).before args s = true)
    (hcode : (Cond.code y bytes maxL ret).before args s = true) (hy : y.cls ≠ "java/lang/invoke/MethodHandle" ∧ y.cls ≠ "java/lang/invoke/VarHandle")
    {W9 : Nat} {Pre : Pt → Array Value → Prop} {Post : Pt → Array Value → Option Value → Pt → Prop} {PostX : Pt → Array Value → Addr → Pt → Prop} (hK : vx_Back l R p e below s args y 3 W9 Pre Post PostX)
    {g : JFrame} (hg : g.method = m) (hsize : g.locals.size = c.maxLocals) {argsL rest : List Value} (hlen : ∀ sig, parseMethodDescriptor y.desc = some sig → argsL.length = sig.parameters.length)
    (hstack : g.stack = argsL.reverse ++ rest) (hW : 2 * g.monitorRoom + (rest.map fun v => v.category).sum ≤ W9) (hdg : decode c.code g.pc = .ok (.invokestatic index, 3))
    (hpre : ∀ vm₁, s.WarmedH vm₁ → Pre ⟨T.setVm vm₁, locs, cells, slots⟩ argsL.toArray) :
    (∃ (v : Option Value) (vm₁ : Vm) (B : Pt), s.WarmedH vm₁ ∧ Stand p l e R s m args below meth c B.U B.locs B.cells B.slots ∧ Post ⟨T.setVm vm₁, locs, cells, slots⟩ argsL.toArray v B ∧
      ∀ target, Steps p.tables e below (B.U.setTop { g with pc := g.pc + 3, stack := v.toList ++ rest }) target → Steps p.tables e below (T.setTop g) target) ∨
    (∃ (q : Addr) (vm₁ : Vm) (B : Pt), s.WarmedH vm₁ ∧ Stand p l e R s m args below meth c B.U B.locs B.cells B.slots ∧ PostX ⟨T.setVm vm₁, locs, cells, slots⟩ argsL.toArray q B ∧
      Steps p.tables e below (T.setTop g) ((B.U.setTop { g with stack := rest }).pushFrame (.throwing q))) := by
  obtain ⟨mk, hnamed⟩ := Cond.code_named hcode
  obtain ⟨methM, cM, hmethM, -, -, -, -, -, -, hsigM⟩ := Cond.code_spec hnamed hcode
  have hstatic : methM.isStatic = true := Cond.static_spec hnamed hmethM hstat
  obtain ⟨kP, hkP, -⟩ := className_of_methodNamed hnamed
  have hinitP : kP.init = .initialized := Cond.initialized_spec (findClass_of_methodNamed hnamed) hkP hinit
  obtain ⟨vm₁, X₁, hstep₁⟩ := X.invokestatic hexec hown hlink hnamed hmethM hstatic hkP hinitP hy (g := g) hg (argsL := argsL) (rest := rest) (hlen _ hsigM) hstack hdg
  rcases hK m meth c ⟨T.setVm vm₁, locs, cells, slots⟩ { g with stack := rest } (.invokestatic index) mk argsL.toArray X₁ hg hsize hdg hW (X₁.named hnamed) (hpre vm₁ X₁.warmed) with ⟨v, B, X', hpost, hsteps⟩ | ⟨q, B, X', hpost, hsteps⟩
  · exact Or.inl ⟨v, vm₁, B, X₁.warmed, X', hpost, fun target h => hstep₁ _ fun acts => by rw [doInvoke_state]; exact hsteps.trans h⟩
  · exact Or.inr ⟨q, vm₁, B, X₁.warmed, X', hpost, hstep₁ _ fun acts => by rw [doInvoke_state]; exact hsteps⟩
end Calls
theorem vx_cls {s : State} {T : State} {vm₁ : Vm} {E : String} {k : ClassId} (hW : s.WarmedH vm₁) (h : (T.setVm vm₁).vm.findClass E = some k) : s.vm.findClass E = some k := by
  have h1 : vm₁.findClass E = some k := h
  rw [hW.alike.findClass] at h1
  exact h1
/-- the method's frame g, with q thrown over it -/
def vx_W (p : Program) (l : Launch) (e : Env) (R : Room) (s : State) (m : MethodId) (args : Array Value) (below : List Frame) (meth : Method) (c : Code) (H : Heap) (locs : List Loc) (cells slots : Nat) (Q : State → Prop) (g : JFrame) (q : Addr) : Prop :=
  ∀ T : State, T.heap = H → Stand p l e R s m args below meth c T locs cells slots → ∃ t, Steps p.tables e below ((T.setTop g).pushFrame (.throwing q)) t ∧ Q t
def vx_Run (p : Program) (l : Launch) (e : Env) (R : Room) (s : State) (m : MethodId) (args : Array Value) (below : List Frame) (meth : Method) (c : Code) (H : Heap) (locs : List Loc) (cells slots mc ms : Nat) (g : JFrame) (rest : List Value) (Qa : State → Outcome → State → Prop) (XC : String → State → State → Prop) (free : Addr → Prop) : Prop :=
  ∀ T : State, T.heap = H → Stand p l e R s m args below meth c T locs cells slots →
    (∃ (v : Option Value) (st₀ t T' : State) (L : List Loc), st₀.heap = H ∧ Stand p l e R s m args below meth c T' (locs ++ L) (cells + mc) (slots + ms) ∧ (∀ q ∈ L, free q.base) ∧ T'.heap = t.heap ∧ T'.vm = t.vm ∧ Qa st₀ (.returned v) t ∧
      Goes p e below T g T' { g with pc := g.pc + 3, stack := v.toList ++ rest }) ∨
    (∃ (q : Addr) (st₀ t T' : State) (L : List Loc) (E : String) (ce : Cell), st₀.heap = H ∧ Stand p l e R s m args below meth c T' (locs ++ L) (cells + mc) (slots + ms) ∧ (∀ z ∈ L, free z.base) ∧ T'.heap = t.heap ∧ T'.vm = t.vm ∧ XC E st₀ t ∧ t.heap[q]? = some ce ∧ ce.vm = .none ∧ s.vm.findClass E = some ce.cls ∧
      Steps p.tables e below (T.setTop g) ((T'.setTop { g with stack := rest }).pushFrame (.throwing q)))
def vx_X {S : Type} (px : S → Prop) (B : String → S → State → Prop) (A : Nat → Prop) : String → State → State → Prop := fun E st t => ∃ u : S, px u ∧ B E u t ∧ va_F A st t
section Runs
variable {p : Program} {l : Launch} {e : Env} {R : Room} {s : State} {m : MethodId} {args : Array Value} {below : List Frame} {meth : Method} {c : Code} {H : Heap} {locs : List Loc} {cells slots : Nat}
variable {y : MethodName} {bytes cc : ByteArray} {maxL nL mc ms n index : Nat} {ret : Option FieldType} {ws : List Cond} {rm : Room} {Pc : Array Value → State → Prop} {Qc : Array Value → State → Outcome → State → Prop} {XC : String → State → State → Prop} {free : Addr → Prop} {Ts : List Cond} {own C : String} {b : Addr} {As rest : List Value} {g : JFrame}
theorem vx_callBack (cb : CallB R s args own index y bytes maxL ret ws rm mc ms n) (hM : vx_Met l y ws rm Pc Qc XC mc ms free) (hbl : FrameBlind Pc) : vx_Back l R p e below s args y 3 8 (PreOf R mc ms Pc) (PostOf Qc mc ms free) (vx_Post XC mc ms free) := by
  obtain ⟨hrc, hrs, hfr, hlo, hws, hcw, -, hini, -⟩ := cb
  exact vx_back (bytes := bytes) (maxL := maxL) (ret := ret) hM hbl hrc hrs hfr hlo hws hcw (fun a' U hW => word_at hW (Or.inl (by first | rfl | simp [Cond.onTables, Cond.keeps, Cond.steady])) hini)
theorem vx_runV (S : CallFix p m c cc nL s args Ts own) (hM : vx_Met l y ws rm Pc Qc XC mc ms free) (cw : CallW R s args own C index y bytes maxL ret ws rm mc ms n) (hp : PreV s H C b Pc As)
    (hg : g.method = m) (hn : As.length = n) (hsize : g.locals.size = nL) (hstack : g.stack = As.reverse ++ .ref b :: rest) (hW : 2 * g.monitorRoom + (rest.map fun v => v.category).sum ≤ 8) (hdg : decode cc g.pc = .ok (.invokevirtual index, 3)) (hf : cells + mc ≤ R.cells ∧ slots + ms ≤ R.slots) :
    vx_Run p l e R s m args below meth c H locs cells slots mc ms g rest (Qc (Value.ref b :: As).toArray) XC free := by
  have hK : vx_Back l R p e below s args y 3 8 (PreOf R mc ms Pc) (PostOf Qc mc ms free) (vx_Post XC mc ms free) := vx_callBack cw.1 hM hp.1
  obtain ⟨⟨-, -, -, -, -, -, hcode, -, hy, hlen, hl⟩, hin, hse⟩ := cw
  obtain ⟨hx, hb, hml, ho, -⟩ := S
  obtain ⟨-, ⟨cellB, hcB, hoB, hclB⟩, hPc⟩ := hp
  intro T hT X
  rcases vx_callV X hx (C := C) (bytes := bytes) (maxL := maxL) (ret := ret) ho hl hin hse hcode hy hK (by rw [hT]; exact hcB) hoB hclB hg (hsize.trans hml.symm) (argsL := As) (rest := rest) (fun sig h => hn.trans (hlen sig h)) hstack hW (by rw [hb]; exact hdg)
    (fun vm₁ hW₁ => ⟨hf.1, hf.2, hPc (T.setVm vm₁) hT hW₁⟩) with ⟨v, vm₁, ⟨U', l2, c2, s2⟩, hW₁, X', ⟨g', mk, t, L, e1, e2, hq, h1, hL, h2, h3⟩, st⟩ | ⟨q, vm₁, ⟨U', l2, c2, s2⟩, hW₁, X', ⟨g', mk, t, L, E, ce, e1, e2, hq, hce, hcv, hcl, h1, hL, h2, h3⟩, st⟩
  · dsimp only [Pt.U, Pt.locs, Pt.cells, Pt.slots] at X' e1 e2 h1 h2 h3 st
    subst h1; subst h2; subst h3
    exact Or.inl ⟨v, (T.setVm vm₁).calling g' mk (Value.ref b :: As).toArray, t, U', L, hT, X', hL, e1, e2, hq, st⟩
  · dsimp only [Pt.U, Pt.locs, Pt.cells, Pt.slots] at X' e1 e2 h1 h2 h3 st hcl
    subst h1; subst h2; subst h3
    exact Or.inr ⟨q, (T.setVm vm₁).calling g' mk (Value.ref b :: As).toArray, t, U', L, E, ce, hT, X', hL, e1, e2, hq, hce, hcv, vx_cls hW₁ hcl, st⟩
theorem vx_runS (S : CallFix p m c cc nL s args Ts own) (hM : vx_Met l y ws rm Pc Qc XC mc ms free) (cw : CallB R s args own index y bytes maxL ret ws rm mc ms n ∧ (Cond.static y).before args s = true) (hp : PreS s H Pc As)
    (hg : g.method = m) (hn : As.length = n) (hsize : g.locals.size = nL) (hstack : g.stack = As.reverse ++ rest) (hW : 2 * g.monitorRoom + (rest.map fun v => v.category).sum ≤ 8) (hdg : decode cc g.pc = .ok (.invokestatic index, 3)) (hf : cells + mc ≤ R.cells ∧ slots + ms ≤ R.slots) :
    vx_Run p l e R s m args below meth c H locs cells slots mc ms g rest (Qc As.toArray) XC free := by
  have hK : vx_Back l R p e below s args y 3 8 (PreOf R mc ms Pc) (PostOf Qc mc ms free) (vx_Post XC mc ms free) := vx_callBack cw.1 hM hp.1
  obtain ⟨⟨-, -, -, -, -, -, hcode, hini, hy, hlen, hl⟩, hstt⟩ := cw
  obtain ⟨hx, hb, hml, ho, -⟩ := S
  intro T hT X
  rcases vx_callS X hx (bytes := bytes) (maxL := maxL) (ret := ret) ho hl hstt hini hcode hy hK hg (hsize.trans hml.symm) (argsL := As) (rest := rest) (fun sig h => hn.trans (hlen sig h)) hstack hW (by rw [hb]; exact hdg)
    (fun vm₁ hW₁ => ⟨hf.1, hf.2, hp.2 (T.setVm vm₁) hT hW₁⟩) with ⟨v, vm₁, ⟨U', l2, c2, s2⟩, hW₁, X', ⟨g', mk, t, L, e1, e2, hq, h1, hL, h2, h3⟩, st⟩ | ⟨q, vm₁, ⟨U', l2, c2, s2⟩, hW₁, X', ⟨g', mk, t, L, E, ce, e1, e2, hq, hce, hcv, hcl, h1, hL, h2, h3⟩, st⟩
  · dsimp only [Pt.U, Pt.locs, Pt.cells, Pt.slots] at X' e1 e2 h1 h2 h3 st
    subst h1; subst h2; subst h3
    exact Or.inl ⟨v, (T.setVm vm₁).calling g' mk As.toArray, t, U', L, hT, X', hL, e1, e2, hq, st⟩
  · dsimp only [Pt.U, Pt.locs, Pt.cells, Pt.slots] at X' e1 e2 h1 h2 h3 st hcl
    subst h1; subst h2; subst h3
    exact Or.inr ⟨q, (T.setVm vm₁).calling g' mk As.toArray, t, U', L, E, ce, hT, X', hL, e1, e2, hq, hce, hcv, vx_cls hW₁ hcl, st⟩
end Runs
section Rows
variable {p : Program} {l : Launch} {e : Env} {R : Room} {s : State} {m : MethodId} {args : Array Value} {below : List Frame} {meth : Method} {c : Code} {H : Heap} {locs : List Loc} {cells slots : Nat} {Q : State → Prop}
variable {mc ms : Nat} {free : Addr → Prop} {A0 A1 : Nat → Prop} {H0 : Heap} {a : Array Value} {pc : Nat} {ls : Array Slot} {st0 rest : List Value}
theorem vx_keep {st₀ t T' : State} {L : List Loc} (h0 : st₀.heap = H) (e1 : T'.heap = t.heap) (hS : va_S A0 H0 H locs) (hA : ∀ q, q < H.size → A1 q → A0 q) (hf : ∀ q, free q → A0 q) (hL : ∀ q ∈ L, free q.base) (hF : va_F A1 st₀ t) :
    H.size ≤ T'.heap.size ∧ (∀ q : Nat, q < H.size → ¬ A1 q → T'.heap[q]? = H[q]?) ∧ va_S A0 H0 T'.heap (locs ++ L) := by
  obtain ⟨hz, hk⟩ := hF
  rw [h0] at hz hk
  exact ⟨by rw [e1]; exact hz, fun q h1 h2 => by rw [e1]; exact hk q h1 h2,
    ⟨Nat.le_trans hS.1 (by rw [e1]; exact hz), fun q h1 h2 => by rw [e1, hk q (Nat.lt_of_lt_of_le h1 hS.1) (fun z => h2 (hA q (Nat.lt_of_lt_of_le h1 hS.1) z))]; exact hS.2.1 q h1 h2, fun q hq => by
      rcases List.mem_append.mp hq with h | h
      · exact hS.2.2 q h
      · exact hf _ (hL q h)⟩⟩
theorem vx_calli {S SX : Type} {post : Int32 → S → Prop} {px : SX → Prop} {B : S → State → Prop} {BX : String → SX → State → Prop} {AX : Nat → Prop} (hr : vx_Run p l e R s m args below meth c H locs cells slots mc ms (F0 m pc ls st0) rest (va_Qi post B A1 a) (vx_X px BX AX) free) (hS : va_S A0 H0 H locs) (hA : ∀ q, q < H.size → A1 q → A0 q) (hf : ∀ q, free q → A0 q) (hAX : ∀ q, q < H.size → AX q → A0 q)
    (kx : ∀ (E : String) (ce : Cell) (q9 : Addr) (u : SX) (t : State) (H1 : Heap) (locs1 : List Loc), t.heap = H1 → s.vm.Alike t.vm → px u → BX E u t → H.size ≤ H1.size → (∀ q : Nat, q < H.size → ¬ AX q → H1[q]? = H[q]?) → va_S A0 H0 H1 locs1 → H1[q9]? = some ce → ce.vm = .none → s.vm.findClass E = some ce.cls → vx_W p l e R s m args below meth c H1 locs1 (cells + mc) (slots + ms) Q (F0 m pc ls rest) q9)
    (kk : ∀ (r : Int32) (u : S) (t : State) (H1 : Heap) (locs1 : List Loc), t.heap = H1 → s.vm.Alike t.vm → post r u → B u t → H.size ≤ H1.size → (∀ q : Nat, q < H.size → ¬ A1 q → H1[q]? = H[q]?) → va_S A0 H0 H1 locs1 → W p l e R s m args below meth c H1 locs1 (cells + mc) (slots + ms) Q (F0 m (pc + 3) ls (.int r :: rest))) : W p l e R s m args below meth c H locs cells slots Q (F0 m pc ls st0) := by
  intro T hT X
  rcases hr T hT X with ⟨v, st₀, t, T', L, h0, X', hL, e1, e2, ⟨⟨r, u, hv, hp, hb⟩, hF⟩, st⟩ | ⟨q, st₀, t, T', L, E, ce, h0, X', hL, e1, e2, ⟨u, hp, hb, hF⟩, hce, hcv, hcl, st⟩
  · cases hv
    obtain ⟨k1, k2, k3⟩ := vx_keep h0 e1 hS hA hf hL hF
    obtain ⟨t2, a1, b1⟩ := kk r u t T'.heap (locs ++ L) e1.symm (by rw [← e2]; exact X'.warmed.alike) hp hb k1 k2 k3 T' rfl X'
    exact ⟨t2, st t2 a1, b1⟩
  · obtain ⟨k1, k2, k3⟩ := vx_keep h0 e1 hS hAX hf hL hF
    obtain ⟨t2, a1, b1⟩ := kx E ce q u t T'.heap (locs ++ L) e1.symm (by rw [← e2]; exact X'.warmed.alike) hp hb k1 k2 k3 (by rw [e1]; exact hce) hcv hcl T' rfl X'
    exact ⟨t2, st.trans a1, b1⟩
theorem vx_calll {S SX : Type} {post : Int64 → S → Prop} {px : SX → Prop} {B : S → State → Prop} {BX : String → SX → State → Prop} {AX : Nat → Prop} (hr : vx_Run p l e R s m args below meth c H locs cells slots mc ms (F0 m pc ls st0) rest (va_Ql post B A1 a) (vx_X px BX AX) free) (hS : va_S A0 H0 H locs) (hA : ∀ q, q < H.size → A1 q → A0 q) (hf : ∀ q, free q → A0 q) (hAX : ∀ q, q < H.size → AX q → A0 q)
    (kx : ∀ (E : String) (ce : Cell) (q9 : Addr) (u : SX) (t : State) (H1 : Heap) (locs1 : List Loc), t.heap = H1 → s.vm.Alike t.vm → px u → BX E u t → H.size ≤ H1.size → (∀ q : Nat, q < H.size → ¬ AX q → H1[q]? = H[q]?) → va_S A0 H0 H1 locs1 → H1[q9]? = some ce → ce.vm = .none → s.vm.findClass E = some ce.cls → vx_W p l e R s m args below meth c H1 locs1 (cells + mc) (slots + ms) Q (F0 m pc ls rest) q9)
    (kk : ∀ (r : Int64) (u : S) (t : State) (H1 : Heap) (locs1 : List Loc), t.heap = H1 → s.vm.Alike t.vm → post r u → B u t → H.size ≤ H1.size → (∀ q : Nat, q < H.size → ¬ A1 q → H1[q]? = H[q]?) → va_S A0 H0 H1 locs1 → W p l e R s m args below meth c H1 locs1 (cells + mc) (slots + ms) Q (F0 m (pc + 3) ls (.long r :: rest))) : W p l e R s m args below meth c H locs cells slots Q (F0 m pc ls st0) := by
  intro T hT X
  rcases hr T hT X with ⟨v, st₀, t, T', L, h0, X', hL, e1, e2, ⟨⟨r, u, hv, hp, hb⟩, hF⟩, st⟩ | ⟨q, st₀, t, T', L, E, ce, h0, X', hL, e1, e2, ⟨u, hp, hb, hF⟩, hce, hcv, hcl, st⟩
  · cases hv
    obtain ⟨k1, k2, k3⟩ := vx_keep h0 e1 hS hA hf hL hF
    obtain ⟨t2, a1, b1⟩ := kk r u t T'.heap (locs ++ L) e1.symm (by rw [← e2]; exact X'.warmed.alike) hp hb k1 k2 k3 T' rfl X'
    exact ⟨t2, st t2 a1, b1⟩
  · obtain ⟨k1, k2, k3⟩ := vx_keep h0 e1 hS hAX hf hL hF
    obtain ⟨t2, a1, b1⟩ := kx E ce q u t T'.heap (locs ++ L) e1.symm (by rw [← e2]; exact X'.warmed.alike) hp hb k1 k2 k3 (by rw [e1]; exact hce) hcv hcl T' rfl X'
    exact ⟨t2, st.trans a1, b1⟩
theorem vx_callf {S SX : Type} {post : UInt32 → S → Prop} {px : SX → Prop} {B : S → State → Prop} {BX : String → SX → State → Prop} {AX : Nat → Prop} (hr : vx_Run p l e R s m args below meth c H locs cells slots mc ms (F0 m pc ls st0) rest (va_Qf post B A1 a) (vx_X px BX AX) free) (hS : va_S A0 H0 H locs) (hA : ∀ q, q < H.size → A1 q → A0 q) (hf : ∀ q, free q → A0 q) (hAX : ∀ q, q < H.size → AX q → A0 q)
    (kx : ∀ (E : String) (ce : Cell) (q9 : Addr) (u : SX) (t : State) (H1 : Heap) (locs1 : List Loc), t.heap = H1 → s.vm.Alike t.vm → px u → BX E u t → H.size ≤ H1.size → (∀ q : Nat, q < H.size → ¬ AX q → H1[q]? = H[q]?) → va_S A0 H0 H1 locs1 → H1[q9]? = some ce → ce.vm = .none → s.vm.findClass E = some ce.cls → vx_W p l e R s m args below meth c H1 locs1 (cells + mc) (slots + ms) Q (F0 m pc ls rest) q9)
    (kk : ∀ (r : UInt32) (u : S) (t : State) (H1 : Heap) (locs1 : List Loc), t.heap = H1 → s.vm.Alike t.vm → post r u → B u t → H.size ≤ H1.size → (∀ q : Nat, q < H.size → ¬ A1 q → H1[q]? = H[q]?) → va_S A0 H0 H1 locs1 → W p l e R s m args below meth c H1 locs1 (cells + mc) (slots + ms) Q (F0 m (pc + 3) ls (.float r :: rest))) : W p l e R s m args below meth c H locs cells slots Q (F0 m pc ls st0) := by
  intro T hT X
  rcases hr T hT X with ⟨v, st₀, t, T', L, h0, X', hL, e1, e2, ⟨⟨r, u, hv, hp, hb⟩, hF⟩, st⟩ | ⟨q, st₀, t, T', L, E, ce, h0, X', hL, e1, e2, ⟨u, hp, hb, hF⟩, hce, hcv, hcl, st⟩
  · cases hv
    obtain ⟨k1, k2, k3⟩ := vx_keep h0 e1 hS hA hf hL hF
    obtain ⟨t2, a1, b1⟩ := kk r u t T'.heap (locs ++ L) e1.symm (by rw [← e2]; exact X'.warmed.alike) hp hb k1 k2 k3 T' rfl X'
    exact ⟨t2, st t2 a1, b1⟩
  · obtain ⟨k1, k2, k3⟩ := vx_keep h0 e1 hS hAX hf hL hF
    obtain ⟨t2, a1, b1⟩ := kx E ce q u t T'.heap (locs ++ L) e1.symm (by rw [← e2]; exact X'.warmed.alike) hp hb k1 k2 k3 (by rw [e1]; exact hce) hcv hcl T' rfl X'
    exact ⟨t2, st.trans a1, b1⟩
theorem vx_calld {S SX : Type} {post : UInt64 → S → Prop} {px : SX → Prop} {B : S → State → Prop} {BX : String → SX → State → Prop} {AX : Nat → Prop} (hr : vx_Run p l e R s m args below meth c H locs cells slots mc ms (F0 m pc ls st0) rest (va_Qd post B A1 a) (vx_X px BX AX) free) (hS : va_S A0 H0 H locs) (hA : ∀ q, q < H.size → A1 q → A0 q) (hf : ∀ q, free q → A0 q) (hAX : ∀ q, q < H.size → AX q → A0 q)
    (kx : ∀ (E : String) (ce : Cell) (q9 : Addr) (u : SX) (t : State) (H1 : Heap) (locs1 : List Loc), t.heap = H1 → s.vm.Alike t.vm → px u → BX E u t → H.size ≤ H1.size → (∀ q : Nat, q < H.size → ¬ AX q → H1[q]? = H[q]?) → va_S A0 H0 H1 locs1 → H1[q9]? = some ce → ce.vm = .none → s.vm.findClass E = some ce.cls → vx_W p l e R s m args below meth c H1 locs1 (cells + mc) (slots + ms) Q (F0 m pc ls rest) q9)
    (kk : ∀ (r : UInt64) (u : S) (t : State) (H1 : Heap) (locs1 : List Loc), t.heap = H1 → s.vm.Alike t.vm → post r u → B u t → H.size ≤ H1.size → (∀ q : Nat, q < H.size → ¬ A1 q → H1[q]? = H[q]?) → va_S A0 H0 H1 locs1 → W p l e R s m args below meth c H1 locs1 (cells + mc) (slots + ms) Q (F0 m (pc + 3) ls (.double r :: rest))) : W p l e R s m args below meth c H locs cells slots Q (F0 m pc ls st0) := by
  intro T hT X
  rcases hr T hT X with ⟨v, st₀, t, T', L, h0, X', hL, e1, e2, ⟨⟨r, u, hv, hp, hb⟩, hF⟩, st⟩ | ⟨q, st₀, t, T', L, E, ce, h0, X', hL, e1, e2, ⟨u, hp, hb, hF⟩, hce, hcv, hcl, st⟩
  · cases hv
    obtain ⟨k1, k2, k3⟩ := vx_keep h0 e1 hS hA hf hL hF
    obtain ⟨t2, a1, b1⟩ := kk r u t T'.heap (locs ++ L) e1.symm (by rw [← e2]; exact X'.warmed.alike) hp hb k1 k2 k3 T' rfl X'
    exact ⟨t2, st t2 a1, b1⟩
  · obtain ⟨k1, k2, k3⟩ := vx_keep h0 e1 hS hAX hf hL hF
    obtain ⟨t2, a1, b1⟩ := kx E ce q u t T'.heap (locs ++ L) e1.symm (by rw [← e2]; exact X'.warmed.alike) hp hb k1 k2 k3 (by rw [e1]; exact hce) hcv hcl T' rfl X'
    exact ⟨t2, st.trans a1, b1⟩
theorem vx_callv {S SX : Type} {post : S → Prop} {px : SX → Prop} {B : S → State → Prop} {BX : String → SX → State → Prop} {AX : Nat → Prop} (hr : vx_Run p l e R s m args below meth c H locs cells slots mc ms (F0 m pc ls st0) rest (va_Qv post B A1 a) (vx_X px BX AX) free) (hS : va_S A0 H0 H locs) (hA : ∀ q, q < H.size → A1 q → A0 q) (hf : ∀ q, free q → A0 q) (hAX : ∀ q, q < H.size → AX q → A0 q)
    (kx : ∀ (E : String) (ce : Cell) (q9 : Addr) (u : SX) (t : State) (H1 : Heap) (locs1 : List Loc), t.heap = H1 → s.vm.Alike t.vm → px u → BX E u t → H.size ≤ H1.size → (∀ q : Nat, q < H.size → ¬ AX q → H1[q]? = H[q]?) → va_S A0 H0 H1 locs1 → H1[q9]? = some ce → ce.vm = .none → s.vm.findClass E = some ce.cls → vx_W p l e R s m args below meth c H1 locs1 (cells + mc) (slots + ms) Q (F0 m pc ls rest) q9)
    (kk : ∀ (u : S) (t : State) (H1 : Heap) (locs1 : List Loc), t.heap = H1 → s.vm.Alike t.vm → post u → B u t → H.size ≤ H1.size → (∀ q : Nat, q < H.size → ¬ A1 q → H1[q]? = H[q]?) → va_S A0 H0 H1 locs1 → W p l e R s m args below meth c H1 locs1 (cells + mc) (slots + ms) Q (F0 m (pc + 3) ls (rest))) : W p l e R s m args below meth c H locs cells slots Q (F0 m pc ls st0) := by
  intro T hT X
  rcases hr T hT X with ⟨v, st₀, t, T', L, h0, X', hL, e1, e2, ⟨⟨u, hv, hp, hb⟩, hF⟩, st⟩ | ⟨q, st₀, t, T', L, E, ce, h0, X', hL, e1, e2, ⟨u, hp, hb, hF⟩, hce, hcv, hcl, st⟩
  · cases hv
    obtain ⟨k1, k2, k3⟩ := vx_keep h0 e1 hS hA hf hL hF
    obtain ⟨t2, a1, b1⟩ := kk u t T'.heap (locs ++ L) e1.symm (by rw [← e2]; exact X'.warmed.alike) hp hb k1 k2 k3 T' rfl X'
    exact ⟨t2, st t2 a1, b1⟩
  · obtain ⟨k1, k2, k3⟩ := vx_keep h0 e1 hS hAX hf hL hF
    obtain ⟨t2, a1, b1⟩ := kx E ce q u t T'.heap (locs ++ L) e1.symm (by rw [← e2]; exact X'.warmed.alike) hp hb k1 k2 k3 (by rw [e1]; exact hce) hcv hcl T' rfl X'
    exact ⟨t2, st.trans a1, b1⟩
/-- caught by the row x of this method's table; the rows ahead don't take it -/
theorem vx_catch {own name : String} {E : String} {ce : Cell} {q : Addr} (hown : s.vm.findClass own = some m.cls) (pre : List ExceptionTableEntry) (x : ExceptionTableEntry) (suf : List ExceptionTableEntry) (hsplit : c.exceptionTable.toList = pre ++ x :: suf)
    (hpass : ∀ z ∈ pre, covers z pc = false ∨ (z.catchType ≠ 0 ∧ ∃ nm : String, (Cond.classLink own z.catchType nm).before args s = true ∧ va_Nc E nm s)) (hx : covers x pc = true) (h0 : x.catchType ≠ 0)
    (hlink : (Cond.classLink own x.catchType name).before args s = true) (hcast : (Cond.castable E name).before args s = true) (hcell : H[q]? = some ce) (hv : ce.vm = .none) (hcl : s.vm.findClass E = some ce.cls)
    (kk : W p l e R s m args below meth c H locs cells slots Q (F0 m x.handlerPc ls [.ref q])) : vx_W p l e R s m args below meth c H locs cells slots Q (F0 m pc ls rest) q := by
  intro T hT X
  have hpl : e.platform.magicAccessors = ({} : Platform).magicAccessors := by rw [X.admits.platform]
  obtain ⟨c3, c4, hc3, hc4, hasg⟩ := Cond.castable_spec hcast
  cases Option.some.inj (hc3.symm.trans hcl)
  obtain ⟨c5, hc5, hcl5⟩ := Cond.classLink_spec hown hlink e.platform hpl
  cases Option.some.inj (hc4.symm.trans hc5)
  obtain ⟨vm', X', st⟩ := X.thenCaughtThrough q (g := F0 m pc ls rest) rfl (Steps.refl _) (by rw [hT]; exact hcell) (by rw [hv]; rfl) (by obtain ⟨k9, h9, -⟩ := Vm.findClass_spec hcl; exact ⟨k9, h9⟩) pre x suf hsplit
    (fun z hz => by
      rcases hpass z hz with h | ⟨hz0, nm, hl1, hn1⟩
      · exact Or.inl h
      · obtain ⟨c6, hc6, hcl6⟩ := Cond.classLink_spec hown hl1 e.platform hpl
        obtain ⟨a8, b8, h1, h2, h3⟩ := hn1
        cases Option.some.inj (h1.symm.trans hcl)
        cases Option.some.inj (h2.symm.trans hc6)
        exact Or.inr ⟨hz0, _, hcl6, h3⟩) hx (Or.inr ⟨h0, c4, hcl5, hasg⟩)
  obtain ⟨t, a1, b1⟩ := kk (T.setVm vm') hT X'
  exact ⟨t, st.trans a1, b1⟩
end Rows
section Ends
variable {p : Program} {l : Launch} {e : Env} {R : Room} {s : State} {m : MethodId} {args : Array Value} {below : List Frame} {meth : Method} {c : Code} {H : Heap} {locs : List Loc} {cells slots : Nat} {Q : State → Prop}
variable {mc ms : Nat} {free : Addr → Prop} {A0 A1 : Nat → Prop} {H0 : Heap} {a : Array Value} {ls : Array Slot} {st0 rest : List Value}
variable {Qc : Array Value → State → Outcome → State → Prop} {XC : String → State → State → Prop}
/-- what a body that may throw owes at its end -/
def vx_MQ (below : List Frame) (Qc : Array Value → State → Outcome → State → Prop) (XC : String → State → State → Prop) (a : Array Value) (s : State) (mc ms : Nat) (free : Addr → Prop) : State → Prop := fun t =>
  ∃ o, t.status = .running ∧ Ended t below o ∧ vx_Q Qc XC mc ms free a s o t
theorem vx_ret {g : JFrame} {mc ms : Nat} (k : W p l e R s m args below meth c H locs cells slots (MQ below Qc args s mc ms free) g) : W p l e R s m args below meth c H locs cells slots (vx_MQ below Qc XC args s mc ms free) g := by
  intro T hT X
  obtain ⟨t, a1, o, b1, b2, b3, b4⟩ := k T hT X
  exact ⟨t, a1, o, b1, b2, Or.inl ⟨b3, b4⟩⟩
/-- not caught here: it goes on to the caller -/
theorem vx_widen {g : JFrame} {q : Addr} {k n : Nat} (h1 : cells ≤ k) (h2 : slots ≤ n) (kk : vx_W p l e R s m args below meth c H locs k n Q g q) : vx_W p l e R s m args below meth c H locs cells slots Q g q := fun T hT X => kk T hT (stand_widen X h1 h2)
theorem vx_out {pc : Nat} {E : String} {ce : Cell} {q : Addr} {mc ms : Nat} (hout : ∀ x ∈ c.exceptionTable.toList, covers x pc = false) (hlocks : meth.locks = false) (hcell : H[q]? = some ce) (hv : ce.vm = .none) (hcl : s.vm.findClass E = some ce.cls)
    (hx : ∀ t : State, t.heap = H → s.vm.Alike t.vm → XC E s t) (hf : ∀ z ∈ locs, free z.base) (hc : cells ≤ mc) (hs : slots ≤ ms) :
    vx_W p l e R s m args below meth c H locs cells slots (vx_MQ below Qc XC args s mc ms free) (F0 m pc ls rest) q := by
  intro T hT X
  obtain ⟨st1, hrun, hend, hW, hsm⟩ := X.leaveThrown q (g := F0 m pc ls rest) rfl rfl rfl hout hlocks
  have hcell9 : (T.setFrames (.throwing q :: below)).heap[q]? = some ce := by
    show T.heap[q]? = some ce
    rw [hT]; exact hcell
  exact ⟨_, st1, .threw q, hrun, hend, Or.inr ⟨q, rfl, E, ce, locs, hx _ hT hW.alike, hcell9, hv, hcl, hW, hsm.mono hc hs, hf⟩⟩
theorem vx_frame {U : State} {k n : Nat} (h : s.sameButNew ({ U with vm := s.vm } : State) locs k n) : s.heap.size ≤ U.heap.size ∧ ∀ q : Nat, q < s.heap.size → (∀ z ∈ locs, z.base ≠ q) → U.heap[q]? = s.heap[q]? := by
  obtain ⟨-, h2, -, -, -, h6⟩ := h
  refine ⟨h2, fun q hq hz => ?_⟩
  obtain ⟨c9, e1, e2, e3, e4⟩ := h6 q _ (Array.getElem?_eq_getElem hq)
  have hs : c9.slots = (s.heap[q]).slots := Array.ext_getElem? fun i => e4 i fun hm => hz _ hm rfl
  have h9 : c9 = s.heap[q] := by
    rw [hs] at e2
    exact e2
  have e5 : U.heap[q]? = some c9 := e1
  rw [e5, h9, Array.getElem?_eq_getElem hq]
/-- the words of a throw but the four that speak of the heap -/
def vx_no (w : Cond) : Bool := decide (w ≠ .isRef (.static Bundle.tN "UNASSIGNED_STACK" Bundle.steD)) && decide (w ≠ .isRef (.static Bundle.tN "SUPPRESSED_SENTINEL" Bundle.listD)) && decide (w ≠ .laysStatic Bundle.tN "UNASSIGNED_STACK" Bundle.steD) && decide (w ≠ .laysStatic Bundle.tN "SUPPRESSED_SENTINEL" Bundle.listD)
def vx_at0 (own : String) (ic : Nat) (X : String) (names : List String) : List Cond := (Bundle.ownAtoms0 own ic X names).filter vx_no
def vx_atS (own : String) (ic : Nat) (X : String) (names : List String) : List Cond := (Bundle.ownAtoms own ic X names).filter vx_no
/-- a word that the tables alone decide, or a good one -/
def vx_ot (w : Cond) : Bool := w.onTables || goodWord w
theorem vx_ot_at {args a' : Array Value} {s U : State} {w : Cond} (hW : s.WarmedH U.vm) (hvm : s.vm = U.vm) (hg : vx_ot w = true) (h : w.before args s = true) : w.before a' U = true := by
  simp only [vx_ot, Bool.or_eq_true] at hg
  rcases hg with hg | hg
  · exact va_tabs hg hvm h
  · exact word_at hW (good_of_word hg) h
/-- a list's words: the good ones out of the method's own list, the others by premises of their own -/
theorem vx_hat {args : Array Value} {s : State} {L B : List Cond} (h1 : ∀ w ∈ L.filter goodWord, w.before args s = true) (h2 : ∀ w ∈ L.filter (fun w => !goodWord w), w ∈ B) (h3 : ∀ w ∈ B, w.before args s = true) : ∀ w ∈ L, w.before args s = true := by
  intro w hw
  by_cases g : goodWord w = true
  · exact h1 w (List.mem_filter.mpr ⟨hw, g⟩)
  · refine h3 w (h2 w (List.mem_filter.mpr ⟨hw, ?_⟩))
    show (!goodWord w) = true
    cases hgw : goodWord w
    · rfl
    · exact absurd hgw g
theorem vx_c {args : Array Value} {s : State} {w : Cond} {B : List Cond} (h : w.before args s = true) (t : ∀ w ∈ B, w.before args s = true) : ∀ w' ∈ w :: B, w'.before args s = true := fun w' h' => (List.mem_cons.mp h').elim (fun e => by rw [e]; exact h) (t w')
theorem vx_n {args : Array Value} {s : State} : ∀ w ∈ ([] : List Cond), w.before args s = true := fun _ h => nomatch h
theorem vx_own {args : Array Value} {s : State} {L : List Cond} (h1 : ∀ w ∈ L.filter vx_no, w.before args s = true)
    (hU : (Cond.isRef (.static Bundle.tN "UNASSIGNED_STACK" Bundle.steD)).before args s = true) (hN : (Cond.isRef (.static Bundle.tN "SUPPRESSED_SENTINEL" Bundle.listD)).before args s = true)
    (lU : (Cond.laysStatic Bundle.tN "UNASSIGNED_STACK" Bundle.steD).before args s = true) (lN : (Cond.laysStatic Bundle.tN "SUPPRESSED_SENTINEL" Bundle.listD).before args s = true) : ∀ w ∈ L, w.before args s = true := by
  intro w hw
  by_cases e1 : w = .isRef (.static Bundle.tN "UNASSIGNED_STACK" Bundle.steD)
  · rw [e1]; exact hU
  · by_cases e2 : w = .isRef (.static Bundle.tN "SUPPRESSED_SENTINEL" Bundle.listD)
    · rw [e2]; exact hN
    · by_cases e3 : w = .laysStatic Bundle.tN "UNASSIGNED_STACK" Bundle.steD
      · rw [e3]; exact lU
      · by_cases e4 : w = .laysStatic Bundle.tN "SUPPRESSED_SENTINEL" Bundle.listD
        · rw [e4]; exact lN
        · exact h1 w (List.mem_filter.mpr ⟨hw, by unfold vx_no; rw [decide_eq_true e1, decide_eq_true e2, decide_eq_true e3, decide_eq_true e4]; rfl⟩)
/-- where a static field lies, its class's statics cell in H -/
def vx_L (C n d : String) (A : Nat → Prop) (U : State) (H : Heap) : Prop := ∃ (c : ClassId) (k : Class) (i : Nat) (f : Field) (a : Nat) (cell : Cell), U.vm.findClass C = some c ∧ U.fieldFound? C n d = some (c, k, i, f) ∧ f.isStatic = true ∧ k.statics = some a ∧ H[a]? = some cell ∧ cell.vm.isStatics = true ∧ cell.cls = c ∧ f.slot < cell.slots.size ∧ k.staticTypes[f.slot]? = some f.type ∧ ¬ A a
theorem vx_L.moved {C n d : String} {A : Nat → Prop} {u U : State} {H : Heap} (hvm : u.vm.Alike U.vm) (h : vx_L C n d A u H) : vx_L C n d A U H := by
  obtain ⟨c, k, i, f, a, cell, h1, h2, h3, h4, h5, h6, h7, h8, h9, h10⟩ := h
  obtain ⟨k', hi', he⟩ := State.fieldFound?_setVm hvm h2
  exact ⟨c, k', i, f, a, cell, by rw [hvm.findClass]; exact h1, hi', h3, by rw [he]; exact h4, h5, h6, h7, h8, by rw [he]; exact h9, h10⟩
theorem vx_L.kept {C n d : String} {A : Nat → Prop} {U : State} {H H1 : Heap} (h : vx_L C n d A U H) (hq : ∀ a : Nat, a < H.size → ¬ A a → H1[a]? = H[a]?) : vx_L C n d A U H1 := by
  obtain ⟨c, k, i, f, a, cell, h1, h2, h3, h4, h5, h6, h7, h8, h9, h10⟩ := h
  exact ⟨c, k, i, f, a, cell, h1, h2, h3, h4, by rw [hq a (Array.getElem?_eq_some_iff.mp h5).1 h10]; exact h5, h6, h7, h8, h9, h10⟩
theorem vx_L.narrow {C n d : String} {A B : Nat → Prop} {U : State} {H : Heap} (h : vx_L C n d A U H) (hAB : ∀ q, B q → A q) : vx_L C n d B U H := by
  obtain ⟨c, k, i, f, a, cell, h1, h2, h3, h4, h5, h6, h7, h8, h9, h10⟩ := h
  exact ⟨c, k, i, f, a, cell, h1, h2, h3, h4, h5, h6, h7, h8, h9, fun z => h10 (hAB _ z)⟩
theorem vx_L.word {C n d : String} {A : Nat → Prop} {s : State} {args : Array Value} (h : vx_L C n d A s s.heap) : (Cond.laysStatic C n d).before args s = true := by
  obtain ⟨c, k, i, f, a, cell, h1, h2, h3, h4, h5, h6, h7, h8, h9, -⟩ := h
  show (Cond.laysStatic C n d).holds args s none s [] = true
  exact Cond.laysStatic_of h1 h2 h3 h4 h5 h6 h7 h8 h9
/-- .. and what it holds: null or some reference -/
def vx_Zq (C n d : String) (A : Nat → Prop) (U : State) (H : Heap) : Prop := va_Zq C n d A U H ∧ vx_L C n d A U H
theorem vx_Zq.moved {C n d : String} {A : Nat → Prop} {u U : State} {H : Heap} (hvm : u.vm.Alike U.vm) (h : vx_Zq C n d A u H) : vx_Zq C n d A U H := ⟨va_Zq.moved hvm h.1, vx_L.moved hvm h.2⟩
theorem vx_Zq.kept {C n d : String} {A : Nat → Prop} {U : State} {H H1 : Heap} (h : vx_Zq C n d A U H) (hq : ∀ a : Nat, a < H.size → ¬ A a → H1[a]? = H[a]?) : vx_Zq C n d A U H1 := ⟨va_Zq.kept h.1 hq, vx_L.kept h.2 hq⟩
theorem vx_Zq.narrow {C n d : String} {A B : Nat → Prop} {U : State} {H : Heap} (h : vx_Zq C n d A U H) (hAB : ∀ q, B q → A q) : vx_Zq C n d B U H := ⟨va_Zq.narrow h.1 hAB, vx_L.narrow h.2 hAB⟩
theorem vx_Zqof {args : Array Value} {s : State} {C n d : String} {A : Nat → Prop} (hl : (Cond.laysStatic C n d).before args s = true) (hini : (Cond.initialized C).before args s = true) (h : (Cond.isRef (.static C n d)).before args s = true) (hA : ∀ a : Nat, a < s.heap.size → ¬ A a) : vx_Zq C n d A s s.heap := by
  refine ⟨va_Zqof hl hini h hA, ?_⟩
  obtain ⟨c, k, i, f, a, cell, h1, h2, h3, h4, h5, h6, h7, h8, h9⟩ := Cond.laysStatic_spec hl
  exact ⟨c, k, i, f, a, cell, h1, h2, h3, h4, h5, h6, h7, h8, h9, hA a (Array.getElem?_eq_some_iff.mp h5).1⟩
theorem vx_isRef {C n d : String} {v : Value} {A : Nat → Prop} {s : State} {args : Array Value} (h : va_Z C n d v A s s.heap) (hv : v.isRef = true) : (Cond.isRef (.static C n d)).before args s = true := by
  obtain ⟨cf, kf, fi, f, a, cell, h1, h2, h3, h4, h5, h6, h7, -⟩ := h
  have he : (Term.static C n d).eval args s none [] s = some v := by
    simp [Term.eval, State.fieldNamed?, h1, h2, h4, h5, h6, h7]
  simp only [Cond.before, Cond.holds, Cond.value, he]
  cases v <;> simp_all [Value.isRef]
theorem vx_isRefq {C n d : String} {A : Nat → Prop} {s : State} {args : Array Value} (h : va_Zq C n d A s s.heap) : (Cond.isRef (.static C n d)).before args s = true := by
  rcases h with h | ⟨t, h⟩
  · exact vx_isRef h rfl
  · exact vx_isRef h rfl
/-- the same frame, seen from here: as if the method were called anew in this heap -/
theorem vx_rebase {T : State} (X : Stand p l e R s m args below meth c T locs cells slots) {R' : Room} (hf : R'.frames ≤ R.frames) (hl : R'.locals ≤ R.locals) (hc : cells + R'.cells ≤ R.cells) (hs : slots + R'.slots ≤ R.slots) :
    Stand p l e R' ((T.setVm s.vm).setFrames (.invoking m args :: below)) m args below meth c T [] 0 0 := by
  have htop : (T.setVm s.vm).topJava?.isSome := X.here.top
  have hF : ((T.setVm s.vm).setFrames (.invoking m args :: below)).frames = .invoking m args :: below := State.frames_setFrames _ (State.cur_lt_of_top htop)
  obtain ⟨g₀, hg0⟩ := Option.isSome_iff_exists.mp htop
  obtain ⟨r, hr⟩ := State.topJava?_eq_some.mp hg0
  have hl9 : e.platform.stackLimits (T.setVm s.vm).me = e.platform.stackLimits s.me := X.limits
  have hb9 : (T.setVm s.vm).me.stackBytes = s.me.stackBytes := X.bytes
  refine ⟨X.admits, X.cas, X.clock, hF, ?_, X.hears, X.method, X.code, X.here, X.tail, X.warmed, ?_, ?_, ?_⟩
  · have h := X.room
    have hU : ((T.setVm s.vm).setFrames (.invoking m args :: below)).localsInUse = s.localsInUse := by
      rw [State.localsInUse_invoking hF (meth := meth) (c := c) X.method X.code, State.localsInUse_invoking X.frames X.method X.code]
    simp only [State.hasRoom, Bool.and_eq_true, decide_eq_true_eq] at h ⊢
    obtain ⟨⟨⟨⟨h1, h2, h3, h4, h5, h6⟩, h7⟩, h8⟩, h9⟩ := h
    rw [X.frames, List.length_cons] at h2 h3
    have q1 := X.heapSize
    have q2 := X.used
    simp only [hF, hU, List.length_cons, State.stackLimits_setFrames, State.stackBytes_setFrames, hl9, hb9]
    refine ⟨⟨⟨⟨by omega, by omega, by omega, by omega, by omega, h6⟩, ?_⟩, ?_⟩, X.book⟩
    · show T.heap.size + R'.cells ≤ e.platform.maxCells
      omega
    · show T.slotsUsed + R'.slots ≤ e.platform.maxSlots
      omega
  · rw [State.stackLimits_setFrames]; rfl
  · rw [State.stackBytes_setFrames]; rfl
  · refine ⟨?_, Nat.le_refl _, Nat.le_refl _, ?_, ?_, fun a c9 h9 => ⟨c9, h9, rfl, rfl, fun _ _ => rfl⟩⟩
    · obtain ⟨t, ht, -⟩ := State.frames_cons hr
      show T.setVm s.vm = { ((T.setVm s.vm).setFrames (.invoking m args :: below)).setFrames (T.setVm s.vm).frames with heap := T.heap, slotsUsed := T.slotsUsed }
      rw [State.setFrames_setFrames, State.setFrames_self ht]
      rfl
    · show T.slotsUsed = T.slotsUsed + ((T.heap.toList.drop T.heap.size).map (·.slots.size)).sum
      rw [List.drop_eq_nil_of_le (Nat.le_of_eq Array.length_toList)]
      rfl
    · show ((T.heap.toList.drop T.heap.size).map (·.slots.size)).sum ≤ 0
      rw [List.drop_eq_nil_of_le (Nat.le_of_eq Array.length_toList)]
      exact Nat.le_refl _
/-- 'throw new E()': new; dup; invokespecial; athrow -/
theorem vx_throw0 {cc : ByteArray} {pc : Nat} (hexec : p.tables.exec = Jvm.exec) (hb : c.code = cc) (hl : l.stackTraces = false) {own cls : String} {names : List String} {ik ic mc ms : Nat} {A : Nat → Prop}
    (hown : s.vm.findClass own = some m.cls) (hcls : Bundle.fit cls = true) (hnames : ∀ n ∈ names, Bundle.fit n = true)
    (hk : (Cond.classLink own ik cls).before args s = true) (hini : (Cond.initialized cls).before args s = true) (hat : ∀ w ∈ vx_at0 own ic cls names, w.before args s = true)
    (hgood : ∀ w ∈ Cond.classLink own ik cls :: Cond.initialized cls :: vx_at0 own ic cls names, vx_ot w = true)
    (hU : vx_Zq Bundle.tN "UNASSIGNED_STACK" Bundle.steD A s s.heap) (hN : vx_Zq Bundle.tN "SUPPRESSED_SENTINEL" Bundle.listD A s s.heap) (hS : va_S A s.heap H locs) (hsize : ls.size = c.maxLocals)
    (d0 : decode cc pc = .ok (.new ik, 3)) (d3 : decode cc (pc + 3) = .ok (.dup, 1)) (d4 : decode cc (pc + 4) = .ok (.invokespecial ic, 3)) (d7 : decode cc (pc + 7) = .ok (.athrow, 1))
    (hout : ∀ x ∈ c.exceptionTable.toList, covers x (pc + 7) = false)
    (hRframes : names.length + 3 < R.frames) (hRlocals : (rest.map fun v => v.category).sum + (13 * (names.length + 1) + 42) ≤ R.locals) (hRcells : cells + 1 ≤ R.cells) (hRslots : slots + 6 ≤ R.slots) (hlocks : meth.locks = false)
    (hx : ∀ t : State, s.vm.Alike t.vm → H.size ≤ t.heap.size → (∀ q : Nat, q < H.size → t.heap[q]? = H[q]?) → XC cls s t)
    (hf : ∀ z ∈ locs, free z.base) (hc : cells + 1 ≤ mc) (hs : slots + 6 ≤ ms) :
    W p l e R s m args below meth c H locs cells slots (vx_MQ below Qc XC args s mc ms free) (F0 m pc ls rest) := by
  intro T hT X
  have htr : e.platform.stackTraces = false := (show e.platform.stackTraces = l.stackTraces by rw [X.admits.platform]).trans hl
  have Y := vx_rebase X (R' := { frames := R.frames, locals := R.locals, cells := 1, slots := 6 }) (Nat.le_refl _) (Nat.le_refl _) hRcells hRslots
  obtain ⟨s', hA⟩ : ∃ z, z = (T.setVm s.vm).setFrames (.invoking m args :: below) := ⟨_, rfl⟩
  rw [← hA] at Y
  have hvm : s'.vm = s.vm := by rw [hA]; rfl
  have hhp : s'.heap = H := by rw [hA]; exact hT
  have hW0 : s.WarmedH s'.vm := by rw [hvm]; exact State.WarmedH.refl s
  have hat' : ∀ w ∈ vx_at0 own ic cls names, w.before args s' = true := fun w hw => vx_ot_at hW0 hvm.symm (hgood w (List.mem_cons_of_mem _ (List.mem_cons_of_mem _ hw))) (hat w hw)
  have hk' : (Cond.classLink own ik cls).before args s' = true := vx_ot_at hW0 hvm.symm (hgood _ List.mem_cons_self) hk
  have hini' : (Cond.initialized cls).before args s' = true := vx_ot_at hW0 hvm.symm (hgood _ (List.mem_cons_of_mem _ List.mem_cons_self)) hini
  have hU' : vx_Zq Bundle.tN "UNASSIGNED_STACK" Bundle.steD A s' s'.heap := by rw [hhp]; exact vx_Zq.moved hW0.alike (hU.kept hS.2.1)
  have hN' : vx_Zq Bundle.tN "SUPPRESSED_SENTINEL" Bundle.listD A s' s'.heap := by rw [hhp]; exact vx_Zq.moved hW0.alike (hN.kept hS.2.1)
  have h : ∀ w ∈ Bundle.ownAtoms0 own ic cls names, w.before args s' = true := vx_own hat' (vx_isRefq hU'.1) (vx_isRefq hN'.1) hU'.2.word hN'.2.word
  have hown' : s'.vm.findClass own = some m.cls := by rw [hvm]; exact hown
  have hins : (Cond.instantiable cls 6).before args s' = true := h _ (by simp [Bundle.ownAtoms0])
  obtain ⟨vm₁, cX, kX, hfX, hkX, -, -, X₁, st1⟩ := Y.newCold hexec (own := own) (C := cls) (index := ik) (n := 6) hown' hk' hins hini'
    (g := F0 m pc ls rest) rfl (by rw [hb]; exact d0) (Nat.le_refl _) (Nat.le_refl _)
  generalize hT1 : (T.setVm vm₁).pushCell { cls := cX, slots := kX.instanceTypes.map defaultValue, vm := .none } = T1 at X₁ st1
  have hcat : (Value.ref T.heap.size).category = 1 := rfl
  have hcellA : T1.heap[T.heap.size]? = some (freshCell cX kX) := by rw [← hT1]; exact State.heap_pushCell_size _ _
  have d3' : decode c.code (pc + 3) = .ok (.dup, 1) := by rw [hb]; exact d3
  obtain ⟨U, hsteps, hrun, hend, hW, hsame, ce, hce, hO⟩ := X₁.ctorThrow0 hexec htr (own := own) (cls := cls) (names := names) (ic := ic) hown' hcls hnames h (fun x hx => nomatch hx) hfX hkX hcellA (by rw [hhp, hT]; exact Nat.le_refl _)
    (g := { method := m, pc := pc + 4, locals := ls, stack := .ref T.heap.size :: .ref T.heap.size :: rest, locked := none }) rfl hsize rfl rfl (rest := rest) rfl
    (by rw [hb]; exact d4) (by rw [hb]; exact d7) hout hRframes (by simp only [List.map_cons, List.sum_cons, hcat]; omega) hlocks
  obtain ⟨f1, f2⟩ := vx_frame hsame
  rw [hhp] at f1 f2
  have hWs : s.WarmedH U.vm := State.WarmedH.trans hW0 hW
  have hcl : s.vm.findClass cls = some ce.cls := by
    have h9 := hO.cls
    rw [hvm] at h9
    exact h9
  have hall : s.sameButNew ({ U with vm := s.vm } : State) locs mc ms := by
    subst hA
    obtain ⟨e1, e2⟩ := hsame
    rw [State.setFrames_setFrames] at e1
    have h2 : (T.setVm s.vm).sameButNew ({ U with vm := s.vm } : State) [] (0 + 1) (0 + 6) := ⟨e1, e2⟩
    have h3 := X.same.trans h2
    rw [List.append_nil] at h3
    exact h3.mono hc hs
  refine ⟨U, ?_, .threw T.heap.size, hrun, hend, Or.inr ⟨T.heap.size, rfl, cls, ce, locs, hx U hWs.alike f1 (fun q hq => f2 q hq (fun z hz => nomatch hz)), hce, hO.vm, hcl, hWs, hall, hf⟩⟩
  refine st1 _ ?_
  show Steps p.tables e below (T1.setTop { method := m, pc := pc + 3, locals := ls, stack := .ref T.heap.size :: rest, locked := none }) _
  jvm_step X₁.here [X₁.here.top, hexec, d3', Value.category]
  exact hsteps
/-- 'throw new E("text")': new; dup; ldc; invokespecial; athrow -/
theorem vx_throwS {cc : ByteArray} {pc : Nat} (hexec : p.tables.exec = Jvm.exec) (hb : c.code = cc) (hl : l.stackTraces = false) {own cls text : String} {names : List String} {ik is ic mc ms sa : Nat} {A : Nat → Prop}
    (hown : s.vm.findClass own = some m.cls) (hcls : Bundle.fit cls = true) (hnames : ∀ n ∈ names, Bundle.fit n = true)
    (hk : (Cond.classLink own ik cls).before args s = true) (hini : (Cond.initialized cls).before args s = true) (hstr : vk_R own is text sa s) (hat : ∀ w ∈ vx_atS own ic cls names, w.before args s = true)
    (hgood : ∀ w ∈ Cond.classLink own ik cls :: Cond.initialized cls :: vx_atS own ic cls names, vx_ot w = true)
    (hU : vx_Zq Bundle.tN "UNASSIGNED_STACK" Bundle.steD A s s.heap) (hN : vx_Zq Bundle.tN "SUPPRESSED_SENTINEL" Bundle.listD A s s.heap) (hS : va_S A s.heap H locs) (hsize : ls.size = c.maxLocals)
    (d0 : decode cc pc = .ok (.new ik, 3)) (d3 : decode cc (pc + 3) = .ok (.dup, 1)) (d4 : decode cc (pc + 4) = .ok (.ldc is, 2)) (d6 : decode cc (pc + 6) = .ok (.invokespecial ic, 3)) (d9 : decode cc (pc + 9) = .ok (.athrow, 1))
    (hout : ∀ x ∈ c.exceptionTable.toList, covers x (pc + 9) = false)
    (hRframes : names.length + 3 < R.frames) (hRlocals : (rest.map fun v => v.category).sum + (13 * (names.length + 1) + 43) ≤ R.locals) (hRcells : cells + 1 ≤ R.cells) (hRslots : slots + 6 ≤ R.slots) (hlocks : meth.locks = false)
    (hx : ∀ t : State, s.vm.Alike t.vm → H.size ≤ t.heap.size → (∀ q : Nat, q < H.size → t.heap[q]? = H[q]?) → XC cls s t)
    (hf : ∀ z ∈ locs, free z.base) (hc : cells + 1 ≤ mc) (hs : slots + 6 ≤ ms) :
    W p l e R s m args below meth c H locs cells slots (vx_MQ below Qc XC args s mc ms free) (F0 m pc ls rest) := by
  intro T hT X
  have htr : e.platform.stackTraces = false := (show e.platform.stackTraces = l.stackTraces by rw [X.admits.platform]).trans hl
  have Y := vx_rebase X (R' := { frames := R.frames, locals := R.locals, cells := 1, slots := 6 }) (Nat.le_refl _) (Nat.le_refl _) hRcells hRslots
  obtain ⟨s', hA⟩ : ∃ z, z = (T.setVm s.vm).setFrames (.invoking m args :: below) := ⟨_, rfl⟩
  rw [← hA] at Y
  have hvm : s'.vm = s.vm := by rw [hA]; rfl
  have hhp : s'.heap = H := by rw [hA]; exact hT
  have hW0 : s.WarmedH s'.vm := by rw [hvm]; exact State.WarmedH.refl s
  have hat' : ∀ w ∈ vx_atS own ic cls names, w.before args s' = true := fun w hw => vx_ot_at hW0 hvm.symm (hgood w (List.mem_cons_of_mem _ (List.mem_cons_of_mem _ hw))) (hat w hw)
  have hk' : (Cond.classLink own ik cls).before args s' = true := vx_ot_at hW0 hvm.symm (hgood _ List.mem_cons_self) hk
  have hini' : (Cond.initialized cls).before args s' = true := vx_ot_at hW0 hvm.symm (hgood _ (List.mem_cons_of_mem _ List.mem_cons_self)) hini
  have hU' : vx_Zq Bundle.tN "UNASSIGNED_STACK" Bundle.steD A s' s'.heap := by rw [hhp]; exact vx_Zq.moved hW0.alike (hU.kept hS.2.1)
  have hN' : vx_Zq Bundle.tN "SUPPRESSED_SENTINEL" Bundle.listD A s' s'.heap := by rw [hhp]; exact vx_Zq.moved hW0.alike (hN.kept hS.2.1)
  have h : ∀ w ∈ Bundle.ownAtoms own ic cls names, w.before args s' = true := vx_own hat' (vx_isRefq hU'.1) (vx_isRefq hN'.1) hU'.2.word hN'.2.word
  have hown' : s'.vm.findClass own = some m.cls := by rw [hvm]; exact hown
  have hins : (Cond.instantiable cls 6).before args s' = true := h _ (by simp [Bundle.ownAtoms])
  obtain ⟨vm₁, cX, kX, hfX, hkX, -, -, X₁, st1⟩ := Y.newCold hexec (own := own) (C := cls) (index := ik) (n := 6) hown' hk' hins hini'
    (g := F0 m pc ls rest) rfl (by rw [hb]; exact d0) (Nat.le_refl _) (Nat.le_refl _)
  generalize hT1 : (T.setVm vm₁).pushCell { cls := cX, slots := kX.instanceTypes.map defaultValue, vm := .none } = T1 at X₁ st1
  have hcat : (Value.ref T.heap.size).category = 1 := rfl
  have hcellA : T1.heap[T.heap.size]? = some (freshCell cX kX) := by rw [← hT1]; exact State.heap_pushCell_size _ _
  have d3' : decode c.code (pc + 3) = .ok (.dup, 1) := by rw [hb]; exact d3
  have d4' : decode c.code (pc + 4) = .ok (.ldc is, 2) := by rw [hb]; exact d4
  have hstr' : vk_R own is text sa s' := vk_R.warm hW0 hstr
  obtain ⟨U, hsteps, hrun, hend, hW, hsame, ce, hce, hO⟩ := X₁.ctorThrowS hexec htr (own := own) (cls := cls) (names := names) (ic := ic) hown' hcls hnames h (fun x hx => nomatch hx) hfX hkX hcellA (by rw [hhp, hT]; exact Nat.le_refl _) (msg := .ref sa) rfl
    (g := { method := m, pc := pc + 6, locals := ls, stack := .ref sa :: .ref T.heap.size :: .ref T.heap.size :: rest, locked := none }) rfl hsize rfl rfl (rest := rest) rfl
    (by rw [hb]; exact d6) (by rw [hb]; exact d9) hout hRframes (by simp only [List.map_cons, List.sum_cons, hcat]; omega) hlocks
  obtain ⟨f1, f2⟩ := vx_frame hsame
  rw [hhp] at f1 f2
  have hWs : s.WarmedH U.vm := State.WarmedH.trans hW0 hW
  have hcl : s.vm.findClass cls = some ce.cls := by
    have h9 := hO.cls
    rw [hvm] at h9
    exact h9
  have hall : s.sameButNew ({ U with vm := s.vm } : State) locs mc ms := by
    subst hA
    obtain ⟨e1, e2⟩ := hsame
    rw [State.setFrames_setFrames] at e1
    have h2 : (T.setVm s.vm).sameButNew ({ U with vm := s.vm } : State) [] (0 + 1) (0 + 6) := ⟨e1, e2⟩
    have h3 := X.same.trans h2
    rw [List.append_nil] at h3
    exact h3.mono hc hs
  refine ⟨U, ?_, .threw T.heap.size, hrun, hend, Or.inr ⟨T.heap.size, rfl, cls, ce, locs, hx U hWs.alike f1 (fun q hq => f2 q hq (fun z hz => nomatch hz)), hce, hO.vm, hcl, hWs, hall, hf⟩⟩
  refine st1 _ ?_
  show Steps p.tables e below (T1.setTop { method := m, pc := pc + 3, locals := ls, stack := .ref T.heap.size :: rest, locked := none }) _
  jvm_step X₁.here [X₁.here.top, hexec, d3', Value.category]
  exact X₁.ldcString hexec (own := own) (text := text) (index := is) (a := sa) hown' hstr'.1 hstr'.2
    (g := { method := m, pc := pc + 4, locals := ls, stack := .ref T.heap.size :: .ref T.heap.size :: rest, locked := none }) rfl d4' _ hsteps
/-- 'throw new E("text")', the text by a wide index -/
theorem vx_throwSW {cc : ByteArray} {pc : Nat} (hexec : p.tables.exec = Jvm.exec) (hb : c.code = cc) (hl : l.stackTraces = false) {own cls text : String} {names : List String} {ik is ic mc ms sa : Nat} {A : Nat → Prop}
    (hown : s.vm.findClass own = some m.cls) (hcls : Bundle.fit cls = true) (hnames : ∀ n ∈ names, Bundle.fit n = true)
    (hk : (Cond.classLink own ik cls).before args s = true) (hini : (Cond.initialized cls).before args s = true) (hstr : vk_R own is text sa s) (hat : ∀ w ∈ vx_atS own ic cls names, w.before args s = true)
    (hgood : ∀ w ∈ Cond.classLink own ik cls :: Cond.initialized cls :: vx_atS own ic cls names, vx_ot w = true)
    (hU : vx_Zq Bundle.tN "UNASSIGNED_STACK" Bundle.steD A s s.heap) (hN : vx_Zq Bundle.tN "SUPPRESSED_SENTINEL" Bundle.listD A s s.heap) (hS : va_S A s.heap H locs) (hsize : ls.size = c.maxLocals)
    (d0 : decode cc pc = .ok (.new ik, 3)) (d3 : decode cc (pc + 3) = .ok (.dup, 1)) (d4 : decode cc (pc + 4) = .ok (.ldc_w is, 3)) (d7 : decode cc (pc + 7) = .ok (.invokespecial ic, 3)) (d10 : decode cc (pc + 10) = .ok (.athrow, 1))
    (hout : ∀ x ∈ c.exceptionTable.toList, covers x (pc + 10) = false)
    (hRframes : names.length + 3 < R.frames) (hRlocals : (rest.map fun v => v.category).sum + (13 * (names.length + 1) + 43) ≤ R.locals) (hRcells : cells + 1 ≤ R.cells) (hRslots : slots + 6 ≤ R.slots) (hlocks : meth.locks = false)
    (hx : ∀ t : State, s.vm.Alike t.vm → H.size ≤ t.heap.size → (∀ q : Nat, q < H.size → t.heap[q]? = H[q]?) → XC cls s t)
    (hf : ∀ z ∈ locs, free z.base) (hc : cells + 1 ≤ mc) (hs : slots + 6 ≤ ms) :
    W p l e R s m args below meth c H locs cells slots (vx_MQ below Qc XC args s mc ms free) (F0 m pc ls rest) := by
  intro T hT X
  have htr : e.platform.stackTraces = false := (show e.platform.stackTraces = l.stackTraces by rw [X.admits.platform]).trans hl
  have Y := vx_rebase X (R' := { frames := R.frames, locals := R.locals, cells := 1, slots := 6 }) (Nat.le_refl _) (Nat.le_refl _) hRcells hRslots
  obtain ⟨s', hA⟩ : ∃ z, z = (T.setVm s.vm).setFrames (.invoking m args :: below) := ⟨_, rfl⟩
  rw [← hA] at Y
  have hvm : s'.vm = s.vm := by rw [hA]; rfl
  have hhp : s'.heap = H := by rw [hA]; exact hT
  have hW0 : s.WarmedH s'.vm := by rw [hvm]; exact State.WarmedH.refl s
  have hat' : ∀ w ∈ vx_atS own ic cls names, w.before args s' = true := fun w hw => vx_ot_at hW0 hvm.symm (hgood w (List.mem_cons_of_mem _ (List.mem_cons_of_mem _ hw))) (hat w hw)
  have hk' : (Cond.classLink own ik cls).before args s' = true := vx_ot_at hW0 hvm.symm (hgood _ List.mem_cons_self) hk
  have hini' : (Cond.initialized cls).before args s' = true := vx_ot_at hW0 hvm.symm (hgood _ (List.mem_cons_of_mem _ List.mem_cons_self)) hini
  have hU' : vx_Zq Bundle.tN "UNASSIGNED_STACK" Bundle.steD A s' s'.heap := by rw [hhp]; exact vx_Zq.moved hW0.alike (hU.kept hS.2.1)
  have hN' : vx_Zq Bundle.tN "SUPPRESSED_SENTINEL" Bundle.listD A s' s'.heap := by rw [hhp]; exact vx_Zq.moved hW0.alike (hN.kept hS.2.1)
  have h : ∀ w ∈ Bundle.ownAtoms own ic cls names, w.before args s' = true := vx_own hat' (vx_isRefq hU'.1) (vx_isRefq hN'.1) hU'.2.word hN'.2.word
  have hown' : s'.vm.findClass own = some m.cls := by rw [hvm]; exact hown
  have hins : (Cond.instantiable cls 6).before args s' = true := h _ (by simp [Bundle.ownAtoms])
  obtain ⟨vm₁, cX, kX, hfX, hkX, -, -, X₁, st1⟩ := Y.newCold hexec (own := own) (C := cls) (index := ik) (n := 6) hown' hk' hins hini'
    (g := F0 m pc ls rest) rfl (by rw [hb]; exact d0) (Nat.le_refl _) (Nat.le_refl _)
  generalize hT1 : (T.setVm vm₁).pushCell { cls := cX, slots := kX.instanceTypes.map defaultValue, vm := .none } = T1 at X₁ st1
  have hcat : (Value.ref T.heap.size).category = 1 := rfl
  have hcellA : T1.heap[T.heap.size]? = some (freshCell cX kX) := by rw [← hT1]; exact State.heap_pushCell_size _ _
  have d3' : decode c.code (pc + 3) = .ok (.dup, 1) := by rw [hb]; exact d3
  have d4' : decode c.code (pc + 4) = .ok (.ldc_w is, 3) := by rw [hb]; exact d4
  have hstr' : vk_R own is text sa s' := vk_R.warm hW0 hstr
  obtain ⟨U, hsteps, hrun, hend, hW, hsame, ce, hce, hO⟩ := X₁.ctorThrowS hexec htr (own := own) (cls := cls) (names := names) (ic := ic) hown' hcls hnames h (fun x hx => nomatch hx) hfX hkX hcellA (by rw [hhp, hT]; exact Nat.le_refl _) (msg := .ref sa) rfl
    (g := { method := m, pc := pc + 7, locals := ls, stack := .ref sa :: .ref T.heap.size :: .ref T.heap.size :: rest, locked := none }) rfl hsize rfl rfl (rest := rest) rfl
    (by rw [hb]; exact d7) (by rw [hb]; exact d10) hout hRframes (by simp only [List.map_cons, List.sum_cons, hcat]; omega) hlocks
  obtain ⟨f1, f2⟩ := vx_frame hsame
  rw [hhp] at f1 f2
  have hWs : s.WarmedH U.vm := State.WarmedH.trans hW0 hW
  have hcl : s.vm.findClass cls = some ce.cls := by
    have h9 := hO.cls
    rw [hvm] at h9
    exact h9
  have hall : s.sameButNew ({ U with vm := s.vm } : State) locs mc ms := by
    subst hA
    obtain ⟨e1, e2⟩ := hsame
    rw [State.setFrames_setFrames] at e1
    have h2 : (T.setVm s.vm).sameButNew ({ U with vm := s.vm } : State) [] (0 + 1) (0 + 6) := ⟨e1, e2⟩
    have h3 := X.same.trans h2
    rw [List.append_nil] at h3
    exact h3.mono hc hs
  refine ⟨U, ?_, .threw T.heap.size, hrun, hend, Or.inr ⟨T.heap.size, rfl, cls, ce, locs, hx U hWs.alike f1 (fun q hq => f2 q hq (fun z hz => nomatch hz)), hce, hO.vm, hcl, hWs, hall, hf⟩⟩
  refine st1 _ ?_
  show Steps p.tables e below (T1.setTop { method := m, pc := pc + 3, locals := ls, stack := .ref T.heap.size :: rest, locked := none }) _
  jvm_step X₁.here [X₁.here.top, hexec, d3', Value.category]
  exact X₁.ldcStringW hexec (own := own) (text := text) (index := is) (a := sa) hown' hstr'.1 hstr'.2
    (g := { method := m, pc := pc + 4, locals := ls, stack := .ref T.heap.size :: .ref T.heap.size :: rest, locked := none }) rfl d4' _ hsteps
end Ends
section Bodies
variable {l : Launch}
theorem vx_ofW {y : MethodName} {ws ws' : List Cond} {rm : Room} {Pc : Array Value → State → Prop} {Qc : Array Value → State → Outcome → State → Prop} {XC : String → State → State → Prop} {mc ms : Nat} {free : Addr → Prop} {cc : ByteArray} {maxL : Nat} {ret : Option FieldType}
    (hy : plainName y.cls = true) (hw : ws = Cond.code y cc maxL ret :: ws')
    (body : ∀ p e s m args below meth c s₁, BodyLoose p l y (headSpec ws rm) cc maxL ret e s m args below meth c s₁ → c.maxLocals = maxL → (∀ x ∈ c.exceptionTable.toList, False) → Pc args s →
      W p l e (headSpec ws rm).room s m args below meth c s.heap [] 0 0 (vx_MQ below Qc XC args s mc ms free) (entryFrame m args maxL)) : vx_Met l y ws rm Pc Qc XC mc ms free := by
  refine MetFree.of_bodyS (code := cc) (maxLocals := maxL) (ret := ret) hy ?_ ?_
  · intro args s m h hn
    obtain ⟨meth, c, h1, h2, h3, h4, h5, h6, -, -⟩ := Cond.code_spec hn (atoms_spec (ws := ws) h _ (by rw [hw]; exact List.mem_cons_self))
    exact ⟨meth, c, h1, h2, h3, h4, h5, h6⟩
  · intro p e s m args below meth c s₁ B hml hP _
    have hh0 : s₁.heap = s.heap := by rw [B.state]; rfl
    have ht : ∀ x ∈ c.exceptionTable.toList, False := by
      obtain ⟨meth9, c9, h1, h2, -, -, -, -, h7, -⟩ := Cond.code_spec B.named (atoms_spec (ws := ws) B.pre _ (by rw [hw]; exact List.mem_cons_self))
      cases Option.some.inj (h1.symm.trans B.method)
      cases Option.some.inj (h2.symm.trans (Stand.of_body B).code)
      intro x hx
      rw [Array.isEmpty_iff.mp h7] at hx
      cases hx
    obtain ⟨t, a1, o, b1, b2, b3⟩ := body p e s m args below meth c s₁ B hml ht hP s₁ hh0 (Stand.of_body B)
    exact ⟨t, o, a1, b1, b2, b3⟩
/-- the table of a body with handlers -/
theorem vx_table {p : Program} {x y : MethodName} {S : Spec} {cc bytes : ByteArray} {maxL maxL' : Nat} {ret ret' : Option FieldType} {e : Env} {s s₁ : State} {m : MethodId} {args : Array Value} {below : List Frame} {meth : Method} {c : Code} {hh : List (Nat × Nat × Nat × Nat)}
    (B : BodyLoose p l y S cc maxL ret e s m args below meth c s₁) (h : (Cond.codeWith y bytes maxL' ret' hh).before args s = true) : c.exceptionTable.toList = tableOf hh := by
  obtain ⟨m9, meth9, c9, hn9, h1, h2, -, -, h6, -⟩ := Cond.codeWith_spec h
  cases Option.some.inj (hn9.symm.trans B.named)
  cases Option.some.inj (h1.symm.trans B.method)
  cases Option.some.inj (h2.symm.trans (Stand.of_body B).code)
  rw [← h6, table_eq]
end Bodies
end VXA
/-! ===== END ===== -/
/-! ===== BEGIN a static call of a method with an exception table ===== -/
section VXS
variable {p : Program} {l : Launch} {e : Env} {R : Room} {s : State} {m : MethodId} {args : Array Value} {below : List Frame} {meth : Method} {c : Code} {T : State} {H : Heap} {locs : List Loc} {cells slots : Nat}
abbrev vx_CSW (R : Room) (s : State) (args : Array Value) (own : String) (index : Nat) (y : MethodName) (bytes : ByteArray) (maxL : Nat) (ret : Option FieldType) (hh : List (Nat × Nat × Nat × Nat)) (ws : List Cond) (rm : Room) (mc ms n : Nat) : Prop :=
  (rm.cells = mc ∧ rm.slots = ms ∧ rm.frames + 1 ≤ R.frames ∧ 8 + (maxL + 11) + rm.locals ≤ R.locals ∧ (∀ w ∈ ws, ∀ (a' : Array Value) (U : State), s.WarmedH U.vm → w.before a' U = true) ∧ Cond.codeWith y bytes maxL ret hh ∈ ws) ∧
  (Cond.codeWith y bytes maxL ret hh).before args s = true ∧ (Cond.initialized y.cls).before args s = true ∧ (y.cls ≠ "java/lang/invoke/MethodHandle" ∧ y.cls ≠ "java/lang/invoke/VarHandle") ∧
  (∀ sig, parseMethodDescriptor y.desc = some sig → n = sig.parameters.length) ∧ (Cond.methodLink own index y).before args s = true ∧ (Cond.static y).before args s = true
theorem vx_cwSW {own : String} {index maxL mc ms : Nat} {y : MethodName} {bytes : ByteArray} {ret : Option FieldType} {hh : List (Nat × Nat × Nat × Nat)} {Ts ws ws' : List Cond} {rm : Room} (n : Nat) (ht : ∀ w ∈ Ts, w.before args s = true) (hT : GoodIn Ts (va_wsS own index y ws)) (hw : ws = Cond.codeWith y bytes maxL ret hh :: ws') (hrc : rm.cells = mc) (hrs : rm.slots = ms)
    (hd : y.cls ≠ "java/lang/invoke/MethodHandle" ∧ y.cls ≠ "java/lang/invoke/VarHandle" ∧ (parseMethodDescriptor y.desc).map (fun d => d.parameters.length) = some n) (hR : rm.frames + 1 ≤ R.frames ∧ 8 + (maxL + 11) + rm.locals ≤ R.locals) :
    vx_CSW R s args own index y bytes maxL ret hh ws rm mc ms n := by
  have ok : ∀ w ∈ va_wsS own index y ws, w.before args s = true := fun w h => ht w (hT w h).1
  have hG : GoodIn Ts ws := fun w h => hT w (by unfold va_wsS; exact List.mem_append_right _ h)
  have hc : Cond.codeWith y bytes maxL ret hh ∈ ws := by rw [hw]; exact List.mem_cons_self
  refine ⟨⟨hrc, hrs, hR.1, hR.2, pay_in ht hG, hc⟩, ht _ (hG _ hc).1, ok _ (by simp [va_wsS]), ⟨hd.1, hd.2.1⟩, fun sig h => ?_, ok _ (by simp [va_wsS]), ok _ (by simp [va_wsS])⟩
  have h2 := hd.2.2
  rw [h] at h2
  exact (Option.some.inj h2).symm
theorem vx_callSW (X : Stand p l e R s m args below meth c T locs cells slots) (hexec : p.tables.exec = Jvm.exec) {own : String} {index : Nat} {y : MethodName} {bytes : ByteArray} {maxL : Nat} {ret : Option FieldType} {hh : List (Nat × Nat × Nat × Nat)}
    (hown : s.vm.findClass own = some m.cls) (hlink : (Cond.methodLink own index y).before args s = true) (hstat : (Cond.static y).before args s = true) (hinit : (Cond.initialized y.cls).before args s = true)
    (hcode : (Cond.codeWith y bytes maxL ret hh).before args s = true) (hy : y.cls ≠ "java/lang/invoke/MethodHandle" ∧ y.cls ≠ "java/lang/invoke/VarHandle")
    {W9 : Nat} {Pre : Pt → Array Value → Prop} {Post : Pt → Array Value → Option Value → Pt → Prop} (hK : Back l R p e below s args y 3 W9 Pre Post)
    {g : JFrame} (hg : g.method = m) (hsize : g.locals.size = c.maxLocals) {argsL rest : List Value} (hlen : ∀ sig, parseMethodDescriptor y.desc = some sig → argsL.length = sig.parameters.length)
    (hstack : g.stack = argsL.reverse ++ rest) (hW : 2 * g.monitorRoom + (rest.map fun v => v.category).sum ≤ W9) (hdg : decode c.code g.pc = .ok (.invokestatic index, 3))
    (hpre : ∀ vm₁, s.WarmedH vm₁ → Pre ⟨T.setVm vm₁, locs, cells, slots⟩ argsL.toArray) :
    ∃ (v : Option Value) (vm₁ : Vm) (B : Pt), s.WarmedH vm₁ ∧ Stand p l e R s m args below meth c B.U B.locs B.cells B.slots ∧ Post ⟨T.setVm vm₁, locs, cells, slots⟩ argsL.toArray v B ∧
      ∀ target, Steps p.tables e below (B.U.setTop { g with pc := g.pc + 3, stack := v.toList ++ rest }) target → Steps p.tables e below (T.setTop g) target := by
  obtain ⟨mk, methM, cM, hnamed, hmethM, -, -, -, -, -, -, hsigM⟩ := Cond.codeWith_spec hcode
  have hstatic : methM.isStatic = true := Cond.static_spec hnamed hmethM hstat
  obtain ⟨kP, hkP, -⟩ := className_of_methodNamed hnamed
  have hinitP : kP.init = .initialized := Cond.initialized_spec (findClass_of_methodNamed hnamed) hkP hinit
  obtain ⟨vm₁, X₁, hstep₁⟩ := X.invokestatic hexec hown hlink hnamed hmethM hstatic hkP hinitP hy (g := g) hg (argsL := argsL) (rest := rest) (hlen _ hsigM) hstack hdg
  obtain ⟨v, B, X', hpost, hsteps⟩ := hK m meth c ⟨T.setVm vm₁, locs, cells, slots⟩ { g with stack := rest } (.invokestatic index) mk argsL.toArray X₁ hg hsize hdg hW (X₁.named hnamed) (hpre vm₁ X₁.warmed)
  exact ⟨v, vm₁, B, X₁.warmed, X', hpost, fun target h => hstep₁ _ fun acts => by rw [doInvoke_state]; exact hsteps.trans h⟩
theorem vx_runSW {y : MethodName} {bytes cc : ByteArray} {maxL nL mc ms n index : Nat} {ret : Option FieldType} {hh : List (Nat × Nat × Nat × Nat)} {ws : List Cond} {rm : Room} {Pc : Array Value → State → Prop} {Qc : Array Value → State → Outcome → State → Prop} {free : Addr → Prop} {Ts : List Cond} {own : String} {As rest : List Value} {g : JFrame}
    (S : CallFix p m c cc nL s args Ts own) (hM : Met l y ws rm Pc Qc mc ms free) (cw : vx_CSW R s args own index y bytes maxL ret hh ws rm mc ms n) (hp : PreS s H Pc As)
    (hg : g.method = m) (hn : As.length = n) (hsize : g.locals.size = nL) (hstack : g.stack = As.reverse ++ rest) (hW : 2 * g.monitorRoom + (rest.map fun v => v.category).sum ≤ 8) (hdg : decode cc g.pc = .ok (.invokestatic index, 3)) (hf : cells + mc ≤ R.cells ∧ slots + ms ≤ R.slots) :
    va_Run p l e R s m args below meth c H locs cells slots mc ms g rest (Qc As.toArray) (free) := by
  obtain ⟨⟨hrc, hrs, hfr, hlo, hws, hcw⟩, hcode, hini, hy, hlen, hl, hstt⟩ := cw
  have hK : Back l R p e below s args y 3 8 (PreOf R mc ms Pc) (PostOf Qc mc ms free) := va_backW (hh := hh) (bytes := bytes) (maxL := maxL) (ret := ret) hM hp.1 hrc hrs hfr hlo hws hcw (fun a' U hW => word_at hW (Or.inl (by first | rfl | simp [Cond.onTables, Cond.keeps, Cond.steady])) hini)
  obtain ⟨hx, hb, hml, ho, -⟩ := S
  intro T hT X
  obtain ⟨v, vm₁, ⟨U', l2, c2, s2⟩, hW₁, X', ⟨g', mk, t, L, e1, e2, hq, h1, hL, h2, h3⟩, st⟩ := vx_callSW X hx (hh := hh) (bytes := bytes) (maxL := maxL) (ret := ret) ho hl hstt hini hcode hy hK hg (hsize.trans hml.symm) (argsL := As) (rest := rest) (fun sig h => hn.trans (hlen sig h)) hstack hW (by rw [hb]; exact hdg)
    (fun vm₁ hW₁ => ⟨hf.1, hf.2, hp.2 (T.setVm vm₁) hT hW₁⟩)
  dsimp only [Pt.U, Pt.locs, Pt.cells, Pt.slots] at X' e1 e2 h1 h2 h3 st
  subst h1; subst h2; subst h3
  exact ⟨v, (T.setVm vm₁).calling g' mk As.toArray, t, U', L, hT, X', hL, e1, e2, hq, st⟩
/-- not caught here, past rows that name other classes: it goes on to the caller -/
theorem vx_outP {p : Program} {l : Launch} {e : Env} {R : Room} {s : State} {m : MethodId} {args : Array Value} {below : List Frame} {meth : Method} {c : Code} {H : Heap} {locs : List Loc} {cells slots : Nat} {free : Addr → Prop} {ls : Array Slot} {rest : List Value} {Qc : Array Value → State → Outcome → State → Prop} {XC : String → State → State → Prop}
    {pc : Nat} {own E : String} {ce : Cell} {q : Addr} {mc ms : Nat} (hown : s.vm.findClass own = some m.cls) (hlocks : meth.locks = false)
    (hpass : ∀ z ∈ c.exceptionTable.toList, covers z pc = false ∨ (z.catchType ≠ 0 ∧ ∃ nm : String, (Cond.classLink own z.catchType nm).before args s = true ∧ va_Nc E nm s)) (hcell : H[q]? = some ce) (hv : ce.vm = .none) (hcl : s.vm.findClass E = some ce.cls)
    (hx : ∀ t : State, t.heap = H → s.vm.Alike t.vm → XC E s t) (hf : ∀ z ∈ locs, free z.base) (hc : cells ≤ mc) (hs : slots ≤ ms) :
    vx_W p l e R s m args below meth c H locs cells slots (vx_MQ below Qc XC args s mc ms free) (F0 m pc ls rest) q := by
  intro T hT X
  have hpl : e.platform.magicAccessors = ({} : Platform).magicAccessors := by rw [X.admits.platform]
  obtain ⟨vm', hW', X', st⟩ := X.outThrough hlocks q (g := F0 m pc ls rest) rfl rfl rfl (cell := ce) (by rw [hT]; exact hcell) (by rw [hv]; rfl)
    (by obtain ⟨k9, h9, -⟩ := Vm.findClass_spec hcl; exact ⟨k9, h9⟩) (fun z hz => by
      rcases hpass z hz with h | ⟨hz0, nm, hl1, hn1⟩
      · exact Or.inl h
      · obtain ⟨c6, hc6, hcl6⟩ := Cond.classLink_spec hown hl1 e.platform hpl
        obtain ⟨a8, b8, h1, h2, h3⟩ := hn1
        cases Option.some.inj (h1.symm.trans hcl)
        cases Option.some.inj (h2.symm.trans hc6)
        exact Or.inr ⟨hz0, _, hcl6, h3⟩)
  obtain ⟨g₀, hfr⟩ := X'.frames_eq
  have hcell9 : ((T.setVm vm').setFrames (.throwing q :: below)).heap[q]? = some ce := by
    show T.heap[q]? = some ce
    rw [hT]; exact hcell
  have hend : Ended ((T.setVm vm').setFrames (.throwing q :: below)) below (.threw q) := State.frames_setFrames _ (State.cur_lt_of_frames hfr)
  refine ⟨(T.setVm vm').setFrames (.throwing q :: below), ?_, .threw q, X'.here.running, hend, Or.inr ⟨q, rfl, E, ce, locs, hx _ hT (X'.ends _).1.alike, hcell9, hv, hcl, (X'.ends _).1, (X'.ends _).2.mono hc hs, hf⟩⟩
  rw [X.pushThrowing_eq]
  exact st
/-- a thing of a world lies in the heap -/
theorem vx_lt {D : va_G} {cl : List vw_C} {ws : va_W} {H1 : Heap} (h : va_P D cl ws H1) {k : Nat} {q : Nat × va_E} (hk : ws[k]? = some q) : q.1 < H1.size := (h k q hk).lt
end VXS
/-! ===== END ===== -/
/-! ===== BEGIN methods with a table of their own: called by a name, returning or throwing ===== -/
section VXH
/-! vx_backW, vx_callVX, vx_callSX, vx_callVW, vx_runVW, vx_runVX, vx_runSX, vx_ofWH follow the same proofs as their sisters above (Free/Laws.lean, Shelf42/LK1.lean); vx_outP calls Shelf42/NT130.lean (outThrough). -/
section
variable {l : Launch} {R : Room} {p : Program} {e : Env} {below : List Frame} {s : State} {sargs : Array Value} {y : MethodName} {len W9 : Nat}
theorem vx_backW {ws : List Cond} {rm : Room} {Pc : Array Value → State → Prop} {Qc : Array Value → State → Outcome → State → Prop} {XC : String → State → State → Prop} {mc ms : Nat} {free : Addr → Prop} {bytes : ByteArray} {maxL : Nat} {ret : Option FieldType} {hh : List (Nat × Nat × Nat × Nat)}
    (hM : vx_Met l y ws rm Pc Qc XC mc ms free) (hblind : FrameBlind Pc) (hrc : rm.cells = mc) (hrs : rm.slots = ms)
    (hframes : rm.frames + 1 ≤ R.frames) (hlocals : W9 + (maxL + 11) + rm.locals ≤ R.locals)
    (hws : ∀ w ∈ ws, ∀ a' U, s.WarmedH U.vm → w.before a' U = true) (hcode : Cond.codeWith y bytes maxL ret hh ∈ ws) (hinit : ∀ a' U, s.WarmedH U.vm → (Cond.initialized y.cls).before a' U = true) :
    vx_Back l R p e below s sargs y len W9 (PreOf R mc ms Pc) (PostOf Qc mc ms free) (vx_Post XC mc ms free) := by
  intro m meth c A g ig mk a X hg hsize hdg hW hn hp
  have h1 : (headSpec ws rm).pre.before a A.U = true := atoms_intro fun w hw => hws w hw _ _ X.warmed
  have h2 : (Cond.codeWith y bytes maxL ret hh).before a A.U = true := hws _ hcode _ _ X.warmed
  have h3 : (Cond.initialized y.cls).before a A.U = true := hinit _ _ X.warmed
  have h4 : A.cells + (headSpec ws rm).room.cells ≤ R.cells := by rw [show (headSpec ws rm).room.cells = mc from hrc]; exact hp.1
  have h5 : A.slots + (headSpec ws rm).room.slots ≤ R.slots := by rw [show (headSpec ws rm).room.slots = ms from hrs]; exact hp.2.1
  have hPc : Pc a (A.U.calling g mk a) := hblind _ _ _ _ hp.2.2
  obtain ⟨U, Ls, c0, s0⟩ := A
  dsimp only [Pt.U, Pt.locs, Pt.cells, Pt.slots] at h1 h2 h3 h4 h5 X hn hPc ⊢
  obtain ⟨m9, methY, cY, hn9, hmY, hcY, -, hlY, -⟩ := Cond.codeWith_spec h2
  cases Option.some.inj (hn9.symm.trans hn)
  obtain ⟨kY, hkY, -⟩ := className_of_methodNamed hn
  have hinitY : kY.init = .initialized := Cond.initialized_spec (findClass_of_methodNamed hn) hkY h3
  have h : At U g.method c below := by rw [hg]; exact X.here
  have hlocals9 : W9 + (maxL + 11) + (headSpec ws rm).room.locals ≤ R.locals := hlocals
  have happ : (headSpec ws rm).appliesLoose y e.platform (U.calling g mk a) = true :=
    Spec.appliesLoose_calling (g := g) h hdg hn hkY hinitY
      (X.room_calling (g := g) (R' := (headSpec ws rm).room) hsize hmY hcY hframes (by rw [hlY]; omega) h4 h5) h1
  obtain ⟨mid, hmid⟩ := h.above
  have hfr : (U.setTop g).frames = (.java g :: mid) ++ below := by rw [State.frames_setTop' g h.top, hmid]; rfl
  obtain ⟨o, s₂, hsteps, -, hend, hq⟩ := Steps.callFree hM p X.admits X.cas X.clock (acts := []) hfr happ hPc trivial
  have hq' : vx_Q Qc XC mc ms free a (U.calling g mk a) o s₂ := hq
  rw [State.frames_setTop' g h.top] at hend
  obtain ⟨g₀, hg0⟩ := Option.isSome_iff_exists.mp h.top
  obtain ⟨r, hr⟩ := State.topJava?_eq_some.mp hg0
  have hr' : (({ U with heap := s₂.heap, slotsUsed := s₂.slotsUsed } : State).setVm s₂.vm).frames = .java g₀ :: r := hr
  rcases hq' with ⟨hqc, L, hfe, hL⟩ | ⟨q, rfl, E, ce, L, hx, hce, hcv, hcl, hW₂, hsm, hL⟩
  · obtain ⟨⟨v, rfl⟩, hW₂, e2, q2, q3, q4, q5, q6⟩ := id hfe
    have e3 : s₂ = ({ (U.calling g mk a).setFrames s₂.frames with heap := s₂.heap, slotsUsed := s₂.slotsUsed } : State).setVm s₂.vm := by
      have : s₂ = ({ s₂ with vm := (U.calling g mk a).vm } : State).setVm s₂.vm := rfl
      rw [e2] at this
      exact this
    obtain ⟨c₂, i₂, len₂, hc₂, hd₂, hf₂⟩ := hend
    have hW' : U.WarmedH s₂.vm := hW₂
    have hcc : c₂ = c := by
      have h1 : s₂.code? g.method = U.code? g.method := by
        rw [State.code?_eq, State.code?_eq, hW'.alike.method?]
      exact Option.some.inj (hc₂.symm.trans (h1.trans h.code))
    subst hcc
    have hlen : len₂ = len := by rw [hdg] at hd₂; cases hd₂; rfl
    subst hlen
    have hs₂ : s₂ = (({ U with heap := s₂.heap, slotsUsed := s₂.slotsUsed } : State).setVm s₂.vm).setTop { g with pc := g.pc + len₂, stack := v.toList ++ g.stack } := by
      refine e3.trans ?_
      rw [hf₂, State.calling_eq h.top, State.setFrames_setFrames, State.setTop_of_frames _ hr', hr]
      rfl
    have hsame : U.sameButNew ({ U with heap := s₂.heap, slotsUsed := s₂.slotsUsed } : State) L mc ms := by
      refine ⟨?_, q2, q3, q4, q5, q6⟩
      obtain ⟨t, ht, -⟩ := State.frames_cons hr
      show ({ U with heap := s₂.heap, slotsUsed := s₂.slotsUsed } : State) = { U.setFrames U.frames with heap := s₂.heap, slotsUsed := s₂.slotsUsed }
      rw [State.setFrames_self ht]
    subst hg
    refine Or.inl ⟨v, ⟨(({ U with heap := s₂.heap, slotsUsed := s₂.slotsUsed } : State).setVm s₂.vm), Ls ++ L, c0 + mc, s0 + ms⟩,
      ⟨X.admits, X.cas, X.clock, X.frames, X.room, X.hears, X.method, X.code, (X.here.setHeapUsed s₂.heap s₂.slotsUsed).setVm hW'.alike, X.tail, State.WarmedH.trans X.warmed hW', X.limits, X.bytes, X.same.trans (hsame.setVm s.vm)⟩,
      ⟨g, mk, s₂, L, rfl, rfl, hqc, rfl, hL, rfl, rfl⟩, ?_⟩
    show Steps p.tables e below _ ((({ U with heap := s₂.heap, slotsUsed := s₂.slotsUsed } : State).setVm s₂.vm).setTop { g with pc := g.pc + len₂, stack := v.toList ++ g.stack })
    rw [← hs₂]
    exact hsteps
  · obtain ⟨e2, q2, q3, q4, q5, q6⟩ := id hsm
    have e3 : s₂ = ({ (U.calling g mk a).setFrames s₂.frames with heap := s₂.heap, slotsUsed := s₂.slotsUsed } : State).setVm s₂.vm := by
      have : s₂ = ({ s₂ with vm := (U.calling g mk a).vm } : State).setVm s₂.vm := rfl
      rw [e2] at this
      exact this
    have hf₂ : s₂.frames = .throwing q :: .java g :: U.frames.tail := hend
    have hW' : U.WarmedH s₂.vm := hW₂
    have hs₂ : s₂ = ((({ U with heap := s₂.heap, slotsUsed := s₂.slotsUsed } : State).setVm s₂.vm).setTop g).pushFrame (.throwing q) := by
      refine e3.trans ?_
      rw [hf₂, State.calling_eq h.top, State.setFrames_setFrames, State.pushFrame, State.frames_setTop _ hr', State.setTop_of_frames _ hr', State.setFrames_setFrames, hr]
      rfl
    have hsame : U.sameButNew ({ U with heap := s₂.heap, slotsUsed := s₂.slotsUsed } : State) L mc ms := by
      refine ⟨?_, q2, q3, q4, q5, q6⟩
      obtain ⟨t, ht, -⟩ := State.frames_cons hr
      show ({ U with heap := s₂.heap, slotsUsed := s₂.slotsUsed } : State) = { U.setFrames U.frames with heap := s₂.heap, slotsUsed := s₂.slotsUsed }
      rw [State.setFrames_self ht]
    subst hg
    refine Or.inr ⟨q, ⟨(({ U with heap := s₂.heap, slotsUsed := s₂.slotsUsed } : State).setVm s₂.vm), Ls ++ L, c0 + mc, s0 + ms⟩,
      ⟨X.admits, X.cas, X.clock, X.frames, X.room, X.hears, X.method, X.code, (X.here.setHeapUsed s₂.heap s₂.slotsUsed).setVm hW'.alike, X.tail, State.WarmedH.trans X.warmed hW', X.limits, X.bytes, X.same.trans (hsame.setVm s.vm)⟩,
      ⟨g, mk, s₂, L, E, ce, rfl, rfl, hx, hce, hcv, hcl, rfl, hL, rfl, rfl⟩, ?_⟩
    show Steps p.tables e below _ (((({ U with heap := s₂.heap, slotsUsed := s₂.slotsUsed } : State).setVm s₂.vm).setTop g).pushFrame (.throwing q))
    rw [← hs₂]
    exact hsteps
end
variable {p : Program} {l : Launch} {e : Env} {R : Room} {s : State} {m : MethodId} {args : Array Value} {below : List Frame} {meth : Method} {c : Code} {T : State} {H : Heap} {locs : List Loc} {cells slots : Nat}
theorem vx_callVX (X : Stand p l e R s m args below meth c T locs cells slots) (hexec : p.tables.exec = Jvm.exec) {own C : String} {index : Nat} {y : MethodName} {bytes : ByteArray} {maxL : Nat} {ret : Option FieldType} {hh : List (Nat × Nat × Nat × Nat)}
    (hown : s.vm.findClass own = some m.cls) (hlink : (Cond.methodLink own index y).before args s = true) (hinst : (Cond.instanceMethod y).before args s = true) (hsel : (Cond.selects C y y).before args s = true)
    (hcode : (Cond.codeWith y bytes maxL ret hh).before args s = true) (hy : y.cls ≠ "java/lang/invoke/MethodHandle" ∧ y.cls ≠ "java/lang/invoke/VarHandle")
    {W9 : Nat} {Pre : Pt → Array Value → Prop} {Post : Pt → Array Value → Option Value → Pt → Prop} {PostX : Pt → Array Value → Addr → Pt → Prop} (hK : vx_Back l R p e below s args y 3 W9 Pre Post PostX)
    {b : Addr} {cellB : Cell} (hcell : T.heap[b]? = some cellB) (hobj : cellB.vm.isStatics = false) (hcls : s.vm.findClass C = some cellB.cls)
    {g : JFrame} (hg : g.method = m) (hsize : g.locals.size = c.maxLocals) {argsL rest : List Value} (hlen : ∀ sig, parseMethodDescriptor y.desc = some sig → argsL.length = sig.parameters.length)
    (hstack : g.stack = argsL.reverse ++ .ref b :: rest) (hW : 2 * g.monitorRoom + (rest.map fun v => v.category).sum ≤ W9) (hdg : decode c.code g.pc = .ok (.invokevirtual index, 3))
    (hpre : ∀ vm₁, s.WarmedH vm₁ → Pre ⟨T.setVm vm₁, locs, cells, slots⟩ (Value.ref b :: argsL).toArray) :
    (∃ (v : Option Value) (vm₁ : Vm) (B : Pt), s.WarmedH vm₁ ∧ Stand p l e R s m args below meth c B.U B.locs B.cells B.slots ∧ Post ⟨T.setVm vm₁, locs, cells, slots⟩ (Value.ref b :: argsL).toArray v B ∧
      ∀ target, Steps p.tables e below (B.U.setTop { g with pc := g.pc + 3, stack := v.toList ++ rest }) target → Steps p.tables e below (T.setTop g) target) ∨
    (∃ (q : Addr) (vm₁ : Vm) (B : Pt), s.WarmedH vm₁ ∧ Stand p l e R s m args below meth c B.U B.locs B.cells B.slots ∧ PostX ⟨T.setVm vm₁, locs, cells, slots⟩ (Value.ref b :: argsL).toArray q B ∧
      Steps p.tables e below (T.setTop g) ((B.U.setTop { g with stack := rest }).pushFrame (.throwing q))) := by
  obtain ⟨mk, methM, hnamed, hmethM, hstM, habM⟩ := Cond.instanceMethod_spec hinst
  obtain ⟨m8, methM', cM, hn8, hmethM', -, -, -, -, -, -, hsigM⟩ := Cond.codeWith_spec hcode
  cases Option.some.inj (hn8.symm.trans hnamed)
  cases hmethM.symm.trans hmethM'
  obtain ⟨c2, r2, m2, q1, q2, q3, q4, kP, hkP, hkPi⟩ := Cond.selects_spec hsel
  cases hcls.symm.trans q1
  cases (State.methodFound?_of_named hnamed hy).symm.trans q2
  cases hnamed.symm.trans q3
  have hselP : selectMethod e.platform s.vm cellB.cls mk = .method mk := by rw [Launch.admits_selectMethod X.admits]; exact q4
  obtain ⟨vm₁, X₁, hstep₁⟩ := X.invokevirtual hexec hown hlink hnamed hmethM hstM hkP hkPi hy (a := b) (cell := cellB) hcell
    (fun z h => by rw [h] at hobj; cases hobj) hselP hmethM habM hkP hkPi (g := g) hg (argsL := argsL) (rest := rest) (hlen _ hsigM) hstack hdg
  rcases hK m meth c ⟨T.setVm vm₁, locs, cells, slots⟩ { g with stack := rest } (.invokevirtual index) mk (Value.ref b :: argsL).toArray X₁ hg hsize hdg hW (X₁.named hnamed) (hpre vm₁ X₁.warmed) with ⟨v, B, X', hpost, hsteps⟩ | ⟨q, B, X', hpost, hsteps⟩
  · exact Or.inl ⟨v, vm₁, B, X₁.warmed, X', hpost, fun target h => hstep₁ _ fun acts => by rw [doInvoke_state]; exact hsteps.trans h⟩
  · exact Or.inr ⟨q, vm₁, B, X₁.warmed, X', hpost, hstep₁ _ fun acts => by rw [doInvoke_state]; exact hsteps⟩
theorem vx_callSX (X : Stand p l e R s m args below meth c T locs cells slots) (hexec : p.tables.exec = Jvm.exec) {own : String} {index : Nat} {y : MethodName} {bytes : ByteArray} {maxL : Nat} {ret : Option FieldType} {hh : List (Nat × Nat × Nat × Nat)}
    (hown : s.vm.findClass own = some m.cls) (hlink : (Cond.methodLink own index y).before args s = true) (hstat : (Cond.static y).before args s = true) (hinit : (Cond.initialized y.cls).before args s = true)
    (hcode : (Cond.codeWith y bytes maxL ret hh).before args s = true) (hy : y.cls ≠ "java/lang/invoke/MethodHandle" ∧ y.cls ≠ "java/lang/invoke/VarHandle")
    {W9 : Nat} {Pre : Pt → Array Value → Prop} {Post : Pt → Array Value → Option Value → Pt → Prop} {PostX : Pt → Array Value → Addr → Pt → Prop} (hK : vx_Back l R p e below s args y 3 W9 Pre Post PostX)
    {g : JFrame} (hg : g.method = m) (hsize : g.locals.size = c.maxLocals) {argsL rest : List Value} (hlen : ∀ sig, parseMethodDescriptor y.desc = some sig → argsL.length = sig.parameters.length)
    (hstack : g.stack = argsL.reverse ++ rest) (hW : 2 * g.monitorRoom + (rest.map fun v => v.category).sum ≤ W9) (hdg : decode c.code g.pc = .ok (.invokestatic index, 3))
    (hpre : ∀ vm₁, s.WarmedH vm₁ → Pre ⟨T.setVm vm₁, locs, cells, slots⟩ argsL.toArray) :
    (∃ (v : Option Value) (vm₁ : Vm) (B : Pt), s.WarmedH vm₁ ∧ Stand p l e R s m args below meth c B.U B.locs B.cells B.slots ∧ Post ⟨T.setVm vm₁, locs, cells, slots⟩ argsL.toArray v B ∧
      ∀ target, Steps p.tables e below (B.U.setTop { g with pc := g.pc + 3, stack := v.toList ++ rest }) target → Steps p.tables e below (T.setTop g) target) ∨
    (∃ (q : Addr) (vm₁ : Vm) (B : Pt), s.WarmedH vm₁ ∧ Stand p l e R s m args below meth c B.U B.locs B.cells B.slots ∧ PostX ⟨T.setVm vm₁, locs, cells, slots⟩ argsL.toArray q B ∧
      Steps p.tables e below (T.setTop g) ((B.U.setTop { g with stack := rest }).pushFrame (.throwing q))) := by
  obtain ⟨mk, methM, cM, hnamed, hmethM, -, -, -, -, -, -, hsigM⟩ := Cond.codeWith_spec hcode
  have hstatic : methM.isStatic = true := Cond.static_spec hnamed hmethM hstat
  obtain ⟨kP, hkP, -⟩ := className_of_methodNamed hnamed
  have hinitP : kP.init = .initialized := Cond.initialized_spec (findClass_of_methodNamed hnamed) hkP hinit
  obtain ⟨vm₁, X₁, hstep₁⟩ := X.invokestatic hexec hown hlink hnamed hmethM hstatic hkP hinitP hy (g := g) hg (argsL := argsL) (rest := rest) (hlen _ hsigM) hstack hdg
  rcases hK m meth c ⟨T.setVm vm₁, locs, cells, slots⟩ { g with stack := rest } (.invokestatic index) mk argsL.toArray X₁ hg hsize hdg hW (X₁.named hnamed) (hpre vm₁ X₁.warmed) with ⟨v, B, X', hpost, hsteps⟩ | ⟨q, B, X', hpost, hsteps⟩
  · exact Or.inl ⟨v, vm₁, B, X₁.warmed, X', hpost, fun target h => hstep₁ _ fun acts => by rw [doInvoke_state]; exact hsteps.trans h⟩
  · exact Or.inr ⟨q, vm₁, B, X₁.warmed, X', hpost, hstep₁ _ fun acts => by rw [doInvoke_state]; exact hsteps⟩
theorem vx_callVW (X : Stand p l e R s m args below meth c T locs cells slots) (hexec : p.tables.exec = Jvm.exec) {own C : String} {index : Nat} {y : MethodName} {bytes : ByteArray} {maxL : Nat} {ret : Option FieldType} {hh : List (Nat × Nat × Nat × Nat)}
    (hown : s.vm.findClass own = some m.cls) (hlink : (Cond.methodLink own index y).before args s = true) (hinst : (Cond.instanceMethod y).before args s = true) (hsel : (Cond.selects C y y).before args s = true)
    (hcode : (Cond.codeWith y bytes maxL ret hh).before args s = true) (hy : y.cls ≠ "java/lang/invoke/MethodHandle" ∧ y.cls ≠ "java/lang/invoke/VarHandle")
    {W9 : Nat} {Pre : Pt → Array Value → Prop} {Post : Pt → Array Value → Option Value → Pt → Prop} (hK : Back l R p e below s args y 3 W9 Pre Post)
    {b : Addr} {cellB : Cell} (hcell : T.heap[b]? = some cellB) (hobj : cellB.vm.isStatics = false) (hcls : s.vm.findClass C = some cellB.cls)
    {g : JFrame} (hg : g.method = m) (hsize : g.locals.size = c.maxLocals) {argsL rest : List Value} (hlen : ∀ sig, parseMethodDescriptor y.desc = some sig → argsL.length = sig.parameters.length)
    (hstack : g.stack = argsL.reverse ++ .ref b :: rest) (hW : 2 * g.monitorRoom + (rest.map fun v => v.category).sum ≤ W9) (hdg : decode c.code g.pc = .ok (.invokevirtual index, 3))
    (hpre : ∀ vm₁, s.WarmedH vm₁ → Pre ⟨T.setVm vm₁, locs, cells, slots⟩ (Value.ref b :: argsL).toArray) :
    ∃ (v : Option Value) (vm₁ : Vm) (B : Pt), s.WarmedH vm₁ ∧ Stand p l e R s m args below meth c B.U B.locs B.cells B.slots ∧ Post ⟨T.setVm vm₁, locs, cells, slots⟩ (Value.ref b :: argsL).toArray v B ∧
      ∀ target, Steps p.tables e below (B.U.setTop { g with pc := g.pc + 3, stack := v.toList ++ rest }) target → Steps p.tables e below (T.setTop g) target := by
  obtain ⟨mk, methM, hnamed, hmethM, hstM, habM⟩ := Cond.instanceMethod_spec hinst
  obtain ⟨m8, methM', cM, hn8, hmethM', -, -, -, -, -, -, hsigM⟩ := Cond.codeWith_spec hcode
  cases Option.some.inj (hn8.symm.trans hnamed)
  cases hmethM.symm.trans hmethM'
  obtain ⟨c2, r2, m2, q1, q2, q3, q4, kP, hkP, hkPi⟩ := Cond.selects_spec hsel
  cases hcls.symm.trans q1
  cases (State.methodFound?_of_named hnamed hy).symm.trans q2
  cases hnamed.symm.trans q3
  have hselP : selectMethod e.platform s.vm cellB.cls mk = .method mk := by rw [Launch.admits_selectMethod X.admits]; exact q4
  obtain ⟨vm₁, X₁, hstep₁⟩ := X.invokevirtual hexec hown hlink hnamed hmethM hstM hkP hkPi hy (a := b) (cell := cellB) hcell
    (fun z h => by rw [h] at hobj; cases hobj) hselP hmethM habM hkP hkPi (g := g) hg (argsL := argsL) (rest := rest) (hlen _ hsigM) hstack hdg
  obtain ⟨v, B, X', hpost, hsteps⟩ := hK m meth c ⟨T.setVm vm₁, locs, cells, slots⟩ { g with stack := rest } (.invokevirtual index) mk (Value.ref b :: argsL).toArray X₁ hg hsize hdg hW (X₁.named hnamed) (hpre vm₁ X₁.warmed)
  exact ⟨v, vm₁, B, X₁.warmed, X', hpost, fun target h => hstep₁ _ fun acts => by rw [doInvoke_state]; exact hsteps.trans h⟩
abbrev vx_CVW (R : Room) (s : State) (args : Array Value) (own C : String) (index : Nat) (y : MethodName) (bytes : ByteArray) (maxL : Nat) (ret : Option FieldType) (hh : List (Nat × Nat × Nat × Nat)) (ws : List Cond) (rm : Room) (mc ms n : Nat) : Prop :=
  (rm.cells = mc ∧ rm.slots = ms ∧ rm.frames + 1 ≤ R.frames ∧ 8 + (maxL + 11) + rm.locals ≤ R.locals ∧ (∀ w ∈ ws, ∀ (a' : Array Value) (U : State), s.WarmedH U.vm → w.before a' U = true) ∧ Cond.codeWith y bytes maxL ret hh ∈ ws) ∧
  (Cond.codeWith y bytes maxL ret hh).before args s = true ∧ (Cond.initialized y.cls).before args s = true ∧ (y.cls ≠ "java/lang/invoke/MethodHandle" ∧ y.cls ≠ "java/lang/invoke/VarHandle") ∧
  (∀ sig, parseMethodDescriptor y.desc = some sig → n = sig.parameters.length) ∧ (Cond.methodLink own index y).before args s = true ∧ (Cond.instanceMethod y).before args s = true ∧ (Cond.selects C y y).before args s = true
theorem vx_cwVW {own C : String} {index maxL mc ms : Nat} {y : MethodName} {bytes : ByteArray} {ret : Option FieldType} {hh : List (Nat × Nat × Nat × Nat)} {Ts ws ws' : List Cond} {rm : Room} (n : Nat) (ht : ∀ w ∈ Ts, w.before args s = true) (hT : GoodIn Ts (wsV own index C y ws)) (hw : ws = Cond.codeWith y bytes maxL ret hh :: ws') (hrc : rm.cells = mc) (hrs : rm.slots = ms)
    (hd : y.cls = C ∧ y.cls ≠ "java/lang/invoke/MethodHandle" ∧ y.cls ≠ "java/lang/invoke/VarHandle" ∧ (parseMethodDescriptor y.desc).map (fun d => d.parameters.length) = some n) (hR : rm.frames + 1 ≤ R.frames ∧ 8 + (maxL + 11) + rm.locals ≤ R.locals) :
    vx_CVW R s args own C index y bytes maxL ret hh ws rm mc ms n := by
  obtain ⟨hC, hd⟩ := hd
  subst hC
  have ok : ∀ w ∈ wsV own index y.cls y ws, w.before args s = true := fun w h => ht w (hT w h).1
  have hG : GoodIn Ts ws := fun w h => hT w (by unfold wsV; exact List.mem_append_right _ h)
  have hc : Cond.codeWith y bytes maxL ret hh ∈ ws := by rw [hw]; exact List.mem_cons_self
  refine ⟨⟨hrc, hrs, hR.1, hR.2, pay_in ht hG, hc⟩, ht _ (hG _ hc).1, ok _ (by simp [wsV]), ⟨hd.1, hd.2.1⟩, fun sig h => ?_, ok _ (by simp [wsV]), ok _ (by simp [wsV]), ok _ (by simp [wsV])⟩
  have h2 := hd.2.2
  rw [h] at h2
  exact (Option.some.inj h2).symm
theorem vx_runVW {y : MethodName} {bytes cc : ByteArray} {maxL nL mc ms n index : Nat} {ret : Option FieldType} {hh : List (Nat × Nat × Nat × Nat)} {ws : List Cond} {rm : Room} {Pc : Array Value → State → Prop} {Qc : Array Value → State → Outcome → State → Prop} {free : Addr → Prop} {Ts : List Cond} {own C : String} {b : Addr} {As rest : List Value} {g : JFrame}
    (S : CallFix p m c cc nL s args Ts own) (hM : Met l y ws rm Pc Qc mc ms free) (cw : vx_CVW R s args own C index y bytes maxL ret hh ws rm mc ms n) (hp : PreV s H C b Pc As)
    (hg : g.method = m) (hn : As.length = n) (hsize : g.locals.size = nL) (hstack : g.stack = As.reverse ++ .ref b :: rest) (hW : 2 * g.monitorRoom + (rest.map fun v => v.category).sum ≤ 8) (hdg : decode cc g.pc = .ok (.invokevirtual index, 3)) (hf : cells + mc ≤ R.cells ∧ slots + ms ≤ R.slots) :
    va_Run p l e R s m args below meth c H locs cells slots mc ms g rest (Qc (Value.ref b :: As).toArray) free := by
  obtain ⟨⟨hrc, hrs, hfr, hlo, hws, hcw⟩, hcode, hini, hy, hlen, hl, hin, hse⟩ := cw
  have hK : Back l R p e below s args y 3 8 (PreOf R mc ms Pc) (PostOf Qc mc ms free) := va_backW (hh := hh) (bytes := bytes) (maxL := maxL) (ret := ret) hM hp.1 hrc hrs hfr hlo hws hcw (fun a' U hW => word_at hW (Or.inl (by first | rfl | simp [Cond.onTables, Cond.keeps, Cond.steady])) hini)
  obtain ⟨hx, hb, hml, ho, -⟩ := S
  obtain ⟨-, ⟨cellB, hcB, hoB, hclB⟩, hPc⟩ := hp
  intro T hT X
  obtain ⟨v, vm₁, ⟨U', l2, c2, s2⟩, hW₁, X', ⟨g', mk, t, L, e1, e2, hq, h1, hL, h2, h3⟩, st⟩ := vx_callVW X hx (C := C) (hh := hh) (bytes := bytes) (maxL := maxL) (ret := ret) ho hl hin hse hcode hy hK (by rw [hT]; exact hcB) hoB hclB hg (hsize.trans hml.symm) (argsL := As) (rest := rest) (fun sig h => hn.trans (hlen sig h)) hstack hW (by rw [hb]; exact hdg)
    (fun vm₁ hW₁ => ⟨hf.1, hf.2, hPc (T.setVm vm₁) hT hW₁⟩)
  dsimp only [Pt.U, Pt.locs, Pt.cells, Pt.slots] at X' e1 e2 h1 h2 h3 st
  subst h1; subst h2; subst h3
  exact ⟨v, (T.setVm vm₁).calling g' mk (Value.ref b :: As).toArray, t, U', L, hT, X', hL, e1, e2, hq, st⟩
section
variable {y : MethodName} {bytes cc : ByteArray} {maxL nL mc ms n index : Nat} {ret : Option FieldType} {ws : List Cond} {rm : Room} {Pc : Array Value → State → Prop} {Qc : Array Value → State → Outcome → State → Prop} {XC : String → State → State → Prop} {free : Addr → Prop} {Ts : List Cond} {own C : String} {b : Addr} {As rest : List Value} {g : JFrame}
theorem vx_runVX {hh : List (Nat × Nat × Nat × Nat)} (S : CallFix p m c cc nL s args Ts own) (hM : vx_Met l y ws rm Pc Qc XC mc ms free) (cw : vx_CVW R s args own C index y bytes maxL ret hh ws rm mc ms n) (hp : PreV s H C b Pc As)
    (hg : g.method = m) (hn : As.length = n) (hsize : g.locals.size = nL) (hstack : g.stack = As.reverse ++ .ref b :: rest) (hW : 2 * g.monitorRoom + (rest.map fun v => v.category).sum ≤ 8) (hdg : decode cc g.pc = .ok (.invokevirtual index, 3)) (hf : cells + mc ≤ R.cells ∧ slots + ms ≤ R.slots) :
    vx_Run p l e R s m args below meth c H locs cells slots mc ms g rest (Qc (Value.ref b :: As).toArray) XC free := by
  obtain ⟨⟨hrc, hrs, hfr, hlo, hws, hcw⟩, hcode, hini, hy, hlen, hl, hin, hse⟩ := cw
  have hK : vx_Back l R p e below s args y 3 8 (PreOf R mc ms Pc) (PostOf Qc mc ms free) (vx_Post XC mc ms free) := vx_backW (hh := hh) (bytes := bytes) (maxL := maxL) (ret := ret) hM hp.1 hrc hrs hfr hlo hws hcw (fun a' U hW => word_at hW (Or.inl (by first | rfl | simp [Cond.onTables, Cond.keeps, Cond.steady])) hini)
  obtain ⟨hx, hb, hml, ho, -⟩ := S
  obtain ⟨-, ⟨cellB, hcB, hoB, hclB⟩, hPc⟩ := hp
  intro T hT X
  rcases vx_callVX X hx (C := C) (hh := hh) (bytes := bytes) (maxL := maxL) (ret := ret) ho hl hin hse hcode hy hK (by rw [hT]; exact hcB) hoB hclB hg (hsize.trans hml.symm) (argsL := As) (rest := rest) (fun sig h => hn.trans (hlen sig h)) hstack hW (by rw [hb]; exact hdg)
    (fun vm₁ hW₁ => ⟨hf.1, hf.2, hPc (T.setVm vm₁) hT hW₁⟩) with ⟨v, vm₁, ⟨U', l2, c2, s2⟩, hW₁, X', ⟨g', mk, t, L, e1, e2, hq, h1, hL, h2, h3⟩, st⟩ | ⟨q, vm₁, ⟨U', l2, c2, s2⟩, hW₁, X', ⟨g', mk, t, L, E, ce, e1, e2, hq, hce, hcv, hcl, h1, hL, h2, h3⟩, st⟩
  · dsimp only [Pt.U, Pt.locs, Pt.cells, Pt.slots] at X' e1 e2 h1 h2 h3 st
    subst h1; subst h2; subst h3
    exact Or.inl ⟨v, (T.setVm vm₁).calling g' mk (Value.ref b :: As).toArray, t, U', L, hT, X', hL, e1, e2, hq, st⟩
  · dsimp only [Pt.U, Pt.locs, Pt.cells, Pt.slots] at X' e1 e2 h1 h2 h3 st hcl
    subst h1; subst h2; subst h3
    exact Or.inr ⟨q, (T.setVm vm₁).calling g' mk (Value.ref b :: As).toArray, t, U', L, E, ce, hT, X', hL, e1, e2, hq, hce, hcv, vx_cls hW₁ hcl, st⟩
theorem vx_runSX {hh : List (Nat × Nat × Nat × Nat)} (S : CallFix p m c cc nL s args Ts own) (hM : vx_Met l y ws rm Pc Qc XC mc ms free) (cw : vx_CSW R s args own index y bytes maxL ret hh ws rm mc ms n) (hp : PreS s H Pc As)
    (hg : g.method = m) (hn : As.length = n) (hsize : g.locals.size = nL) (hstack : g.stack = As.reverse ++ rest) (hW : 2 * g.monitorRoom + (rest.map fun v => v.category).sum ≤ 8) (hdg : decode cc g.pc = .ok (.invokestatic index, 3)) (hf : cells + mc ≤ R.cells ∧ slots + ms ≤ R.slots) :
    vx_Run p l e R s m args below meth c H locs cells slots mc ms g rest (Qc As.toArray) XC free := by
  obtain ⟨⟨hrc, hrs, hfr, hlo, hws, hcw⟩, hcode, hini, hy, hlen, hl, hstt⟩ := cw
  have hK : vx_Back l R p e below s args y 3 8 (PreOf R mc ms Pc) (PostOf Qc mc ms free) (vx_Post XC mc ms free) := vx_backW (hh := hh) (bytes := bytes) (maxL := maxL) (ret := ret) hM hp.1 hrc hrs hfr hlo hws hcw (fun a' U hW => word_at hW (Or.inl (by first | rfl | simp [Cond.onTables, Cond.keeps, Cond.steady])) hini)
  obtain ⟨hx, hb, hml, ho, -⟩ := S
  intro T hT X
  rcases vx_callSX X hx (hh := hh) (bytes := bytes) (maxL := maxL) (ret := ret) ho hl hstt hini hcode hy hK hg (hsize.trans hml.symm) (argsL := As) (rest := rest) (fun sig h => hn.trans (hlen sig h)) hstack hW (by rw [hb]; exact hdg)
    (fun vm₁ hW₁ => ⟨hf.1, hf.2, hp.2 (T.setVm vm₁) hT hW₁⟩) with ⟨v, vm₁, ⟨U', l2, c2, s2⟩, hW₁, X', ⟨g', mk, t, L, e1, e2, hq, h1, hL, h2, h3⟩, st⟩ | ⟨q, vm₁, ⟨U', l2, c2, s2⟩, hW₁, X', ⟨g', mk, t, L, E, ce, e1, e2, hq, hce, hcv, hcl, h1, hL, h2, h3⟩, st⟩
  · dsimp only [Pt.U, Pt.locs, Pt.cells, Pt.slots] at X' e1 e2 h1 h2 h3 st
    subst h1; subst h2; subst h3
    exact Or.inl ⟨v, (T.setVm vm₁).calling g' mk As.toArray, t, U', L, hT, X', hL, e1, e2, hq, st⟩
  · dsimp only [Pt.U, Pt.locs, Pt.cells, Pt.slots] at X' e1 e2 h1 h2 h3 st hcl
    subst h1; subst h2; subst h3
    exact Or.inr ⟨q, (T.setVm vm₁).calling g' mk As.toArray, t, U', L, E, ce, hT, X', hL, e1, e2, hq, hce, hcv, vx_cls hW₁ hcl, st⟩
end
end VXH
theorem vx_ofWH {l : Launch} {y : MethodName} {ws ws' : List Cond} {rm : Room} {Pc : Array Value → State → Prop} {Qc : Array Value → State → Outcome → State → Prop} {XC : String → State → State → Prop} {mc ms : Nat} {free : Addr → Prop} {cc : ByteArray} {maxL : Nat} {ret : Option FieldType} {hh : List (Nat × Nat × Nat × Nat)}
    (hy : plainName y.cls = true) (hw : ws = Cond.codeWith y cc maxL ret hh :: ws')
    (body : ∀ p e s m args below meth c s₁, BodyLoose p l y (headSpec ws rm) cc maxL ret e s m args below meth c s₁ → c.maxLocals = maxL → Pc args s →
      W p l e (headSpec ws rm).room s m args below meth c s.heap [] 0 0 (vx_MQ below Qc XC args s mc ms free) (entryFrame m args maxL)) : vx_Met l y ws rm Pc Qc XC mc ms free := by
  refine MetFree.of_bodyS (code := cc) (maxLocals := maxL) (ret := ret) hy ?_ ?_
  · intro args s m h hn
    obtain ⟨m9, meth, c, hn9, h1, h2, h3, h4, -, h5, h6, -⟩ := Cond.codeWith_spec (atoms_spec (ws := ws) h _ (by rw [hw]; exact List.mem_cons_self))
    cases hn.symm.trans hn9
    exact ⟨meth, c, h1, h2, h3, h4, h5, h6⟩
  · intro p e s m args below meth c s₁ B hml hP _
    have hh0 : s₁.heap = s.heap := by rw [B.state]; rfl
    obtain ⟨t, a1, o, b1, b2, b3⟩ := body p e s m args below meth c s₁ B hml hP s₁ hh0 (Stand.of_body B)
    exact ⟨t, o, a1, b1, b2, b3⟩
/-! ===== END ===== -/
end
section
/-! ===== BEGIN printed: names, fields, word lists, decode rows ===== -/
def RX0 : String := "MoorWatch"
def TX0 : u_T := fun k => match k with
  | 0 => ("MoorWatch", "tides", "[I", true)
  | 1 => ("MoorWatch", "loads", "[I", true)
  | 2 => ("MoorWatch", "passing", "[I", true)
  | 3 => ("MoorWatch", "wind", "I", false)
  | 4 => ("MoorWatch", "bollardCount", "I", false)
  | 5 => ("MoorWatch", "bollardPlaces", "[I", true)
  | 6 => ("MoorWatch", "bollardLimits", "[I", true)
  | 7 => ("MoorWatch", "lineCount", "I", false)
  | 8 => ("MoorWatch", "lineBollards", "[I", true)
  | 9 => ("MoorWatch", "lineReaches", "[I", true)
  | 10 => ("MoorWatch", "lineStiffnesses", "[I", true)
  | 11 => ("MoorWatch", "lineStrengths", "[I", true)
  | 12 => ("MoorWatch", "lineSets", "[I", true)
  | 13 => ("MoorWatch", "lineFast", "[Z", true)
  | _ => ("MoorWatch", "setsBeforePlan", "[I", true)
def tyX0 : Nat → FieldType := fun k => match k with
  | 0 => .array .int
  | 1 => .array .int
  | 2 => .array .int
  | 3 => .int
  | 4 => .int
  | 5 => .array .int
  | 6 => .array .int
  | 7 => .int
  | 8 => .array .int
  | 9 => .array .int
  | 10 => .array .int
  | 11 => .array .int
  | 12 => .array .int
  | 13 => .array .boolean
  | _ => .array .int
abbrev wsX00 : List Cond := u_ws RX0 TX0 15
theorem nmX0 : ∀ a, a < 15 → ∀ b, b < 15 → a ≠ b → (TX0 a).2.1 ≠ (TX0 b).2.1 := by decide +kernel
theorem tyX0_ok : ∀ k, k < 15 → parseFieldDescriptor (TX0 k).2.2.1 = some (tyX0 k) := by decide +kernel
abbrev cX0_init : ByteArray := prog_1_method_1_code
def yX0_init : MethodName := ⟨RX0, "<init>", "()V"⟩
abbrev cX0_addBollard : ByteArray := prog_1_method_2_code
def yX0_addBollard : MethodName := ⟨RX0, "addBollard", "(II)I"⟩
abbrev cX0_addLine : ByteArray := prog_1_method_3_code
def yX0_addLine : MethodName := ⟨RX0, "addLine", "(IIII)I"⟩
abbrev cX0_toggle : ByteArray := prog_1_method_4_code
def yX0_toggle : MethodName := ⟨RX0, "toggle", "(I)Z"⟩
abbrev cX0_setTide : ByteArray := prog_1_method_5_code
def yX0_setTide : MethodName := ⟨RX0, "setTide", "(II)I"⟩
abbrev cX0_setLoad : ByteArray := prog_1_method_6_code
def yX0_setLoad : MethodName := ⟨RX0, "setLoad", "(II)I"⟩
abbrev cX0_setWind : ByteArray := prog_1_method_7_code
def yX0_setWind : MethodName := ⟨RX0, "setWind", "(I)I"⟩
abbrev cX0_setPassing : ByteArray := prog_1_method_8_code
def yX0_setPassing : MethodName := ⟨RX0, "setPassing", "(II)I"⟩
abbrev cX0_force : ByteArray := prog_1_method_9_code
def yX0_force : MethodName := ⟨RX0, "force", "(II)I"⟩
abbrev cX0_shift : ByteArray := prog_1_method_10_code
def yX0_shift : MethodName := ⟨RX0, "shift", "(I)I"⟩
abbrev cX0_isAdrift : ByteArray := prog_1_method_11_code
def yX0_isAdrift : MethodName := ⟨RX0, "isAdrift", "(I)Z"⟩
abbrev cX0_length : ByteArray := prog_1_method_12_code
def yX0_length : MethodName := ⟨RX0, "length", "(II)I"⟩
abbrev cX0_tension : ByteArray := prog_1_method_13_code
def yX0_tension : MethodName := ⟨RX0, "tension", "(II)I"⟩
abbrev cX0_onBollard : ByteArray := prog_1_method_14_code
def yX0_onBollard : MethodName := ⟨RX0, "onBollard", "(II)I"⟩
abbrev cX0_isSafe : ByteArray := prog_1_method_15_code
def yX0_isSafe : MethodName := ⟨RX0, "isSafe", "(I)Z"⟩
abbrev cX0_firstUnsafe : ByteArray := prog_1_method_16_code
def yX0_firstUnsafe : MethodName := ⟨RX0, "firstUnsafe", "(I)I"⟩
abbrev cX0_tend : ByteArray := prog_1_method_17_code
def yX0_tend : MethodName := ⟨RX0, "tend", "(III)I"⟩
abbrev cX0_tendAll : ByteArray := prog_1_method_18_code
def yX0_tendAll : MethodName := ⟨RX0, "tendAll", "(I)I"⟩
abbrev cX0_plan : ByteArray := prog_1_method_19_code
def yX0_plan : MethodName := ⟨RX0, "plan", "(II)I"⟩
abbrev cX0_checkHour : ByteArray := prog_1_method_20_code
def yX0_checkHour : MethodName := ⟨RX0, "checkHour", "(I)V"⟩
abbrev cX0_checkBollard : ByteArray := prog_1_method_21_code
def yX0_checkBollard : MethodName := ⟨RX0, "checkBollard", "(I)V"⟩
abbrev cX0_checkLine : ByteArray := prog_1_method_22_code
def yX0_checkLine : MethodName := ⟨RX0, "checkLine", "(I)V"⟩
abbrev cX0_checkRange : ByteArray := prog_1_method_23_code
def yX0_checkRange : MethodName := ⟨RX0, "checkRange", "(III)V"⟩
abbrev cX0_heightIn : ByteArray := prog_1_method_24_code
def yX0_heightIn : MethodName := ⟨RX0, "heightIn", "(I)I"⟩
abbrev cX0_lengthOver : ByteArray := prog_1_method_25_code
def yX0_lengthOver : MethodName := ⟨RX0, "lengthOver", "(II)I"⟩
abbrev cX0_lengthWith : ByteArray := prog_1_method_26_code
def yX0_lengthWith : MethodName := ⟨RX0, "lengthWith", "(III)I"⟩
abbrev cX0_tensionAtLength : ByteArray := prog_1_method_27_code
def yX0_tensionAtLength : MethodName := ⟨RX0, "tensionAtLength", "(II)I"⟩
abbrev cX0_pullWith : ByteArray := prog_1_method_28_code
def yX0_pullWith : MethodName := ⟨RX0, "pullWith", "(III)I"⟩
abbrev cX0_bollardTension : ByteArray := prog_1_method_29_code
def yX0_bollardTension : MethodName := ⟨RX0, "bollardTension", "(III)I"⟩
abbrev cX0_forceWith : ByteArray := prog_1_method_30_code
def yX0_forceWith : MethodName := ⟨RX0, "forceWith", "(II)I"⟩
abbrev cX0_balanceOf : ByteArray := prog_1_method_31_code
def yX0_balanceOf : MethodName := ⟨RX0, "balanceOf", "(I)I"⟩
abbrev cX0_driftsWith : ByteArray := prog_1_method_32_code
def yX0_driftsWith : MethodName := ⟨RX0, "driftsWith", "(II)Z"⟩
abbrev cX0_holdsIn : ByteArray := prog_1_method_33_code
def yX0_holdsIn : MethodName := ⟨RX0, "holdsIn", "(I)Z"⟩
abbrev cX0_linesHold : ByteArray := prog_1_method_34_code
def yX0_linesHold : MethodName := ⟨RX0, "linesHold", "(II)Z"⟩
abbrev cX0_bollardsHold : ByteArray := prog_1_method_35_code
def yX0_bollardsHold : MethodName := ⟨RX0, "bollardsHold", "(II)Z"⟩
abbrev cX0_tendFastLines : ByteArray := prog_1_method_36_code
def yX0_tendFastLines : MethodName := ⟨RX0, "tendFastLines", "(I)I"⟩
abbrev cX0_tendThrough : ByteArray := prog_1_method_37_code
def yX0_tendThrough : MethodName := ⟨RX0, "tendThrough", "(II)I"⟩
def RX1 : String := "MoorWatchModel"
def TX1 : u_T := fun k => match k with
  | 0 => ("MoorWatchModel", "places", "[I", true)
  | 1 => ("MoorWatchModel", "limits", "[I", true)
  | 2 => ("MoorWatchModel", "bollards", "I", false)
  | 3 => ("MoorWatchModel", "points", "[I", true)
  | 4 => ("MoorWatchModel", "fastTo", "[I", true)
  | 5 => ("MoorWatchModel", "stiffness", "[I", true)
  | 6 => ("MoorWatchModel", "strengths", "[I", true)
  | 7 => ("MoorWatchModel", "sets", "[I", true)
  | 8 => ("MoorWatchModel", "gone", "[Z", true)
  | 9 => ("MoorWatchModel", "lines", "I", false)
  | 10 => ("MoorWatchModel", "tides", "[I", true)
  | 11 => ("MoorWatchModel", "loads", "[I", true)
  | 12 => ("MoorWatchModel", "passings", "[I", true)
  | 13 => ("MoorWatchModel", "wind", "I", false)
  | 14 => ("MoorWatchModel", "kept", "[I", true)
  | _ => ("MoorWatchModel", "last", "I", false)
def tyX1 : Nat → FieldType := fun k => match k with
  | 0 => .array .int
  | 1 => .array .int
  | 2 => .int
  | 3 => .array .int
  | 4 => .array .int
  | 5 => .array .int
  | 6 => .array .int
  | 7 => .array .int
  | 8 => .array .boolean
  | 9 => .int
  | 10 => .array .int
  | 11 => .array .int
  | 12 => .array .int
  | 13 => .int
  | 14 => .array .int
  | _ => .int
abbrev wsX10 : List Cond := u_ws RX1 TX1 16
theorem nmX1 : ∀ a, a < 16 → ∀ b, b < 16 → a ≠ b → (TX1 a).2.1 ≠ (TX1 b).2.1 := by decide +kernel
theorem tyX1_ok : ∀ k, k < 16 → parseFieldDescriptor (TX1 k).2.2.1 = some (tyX1 k) := by decide +kernel
abbrev cX1_init : ByteArray := prog_3_method_1_code
def yX1_init : MethodName := ⟨RX1, "<init>", "()V"⟩
abbrev cX1_thrown : ByteArray := prog_3_method_2_code
def yX1_thrown : MethodName := ⟨RX1, "thrown", "()I"⟩
abbrev cX1_in : ByteArray := prog_3_method_3_code
def yX1_in : MethodName := ⟨RX1, "in", "(III)Z"⟩
abbrev cX1_goes : ByteArray := prog_3_method_4_code
def yX1_goes : MethodName := ⟨RX1, "goes", "(ZZZ)Z"⟩
abbrev cX1_isHour : ByteArray := prog_3_method_5_code
def yX1_isHour : MethodName := ⟨RX1, "isHour", "(I)Z"⟩
abbrev cX1_isLine : ByteArray := prog_3_method_6_code
def yX1_isLine : MethodName := ⟨RX1, "isLine", "(I)Z"⟩
abbrev cX1_addBollard : ByteArray := prog_3_method_7_code
def yX1_addBollard : MethodName := ⟨RX1, "addBollard", "(II)I"⟩
abbrev cX1_root : ByteArray := prog_3_method_8_code
def yX1_root : MethodName := ⟨RX1, "root", "(II)I"⟩
abbrev cX1_addLine : ByteArray := prog_3_method_9_code
def yX1_addLine : MethodName := ⟨RX1, "addLine", "(IIII)I"⟩
abbrev cX1_toggle : ByteArray := prog_3_method_10_code
def yX1_toggle : MethodName := ⟨RX1, "toggle", "(I)Z"⟩
abbrev cX1_setTide : ByteArray := prog_3_method_11_code
def yX1_setTide : MethodName := ⟨RX1, "setTide", "(II)I"⟩
abbrev cX1_setLoad : ByteArray := prog_3_method_12_code
def yX1_setLoad : MethodName := ⟨RX1, "setLoad", "(II)I"⟩
abbrev cX1_setWind : ByteArray := prog_3_method_13_code
def yX1_setWind : MethodName := ⟨RX1, "setWind", "(I)I"⟩
abbrev cX1_setPassing : ByteArray := prog_3_method_14_code
def yX1_setPassing : MethodName := ⟨RX1, "setPassing", "(II)I"⟩
abbrev cX1_away : ByteArray := prog_3_method_15_code
def yX1_away : MethodName := ⟨RX1, "away", "(II)I"⟩
abbrev cX1_lengthAt : ByteArray := prog_3_method_16_code
def yX1_lengthAt : MethodName := ⟨RX1, "lengthAt", "(III)I"⟩
abbrev cX1_tensionAt : ByteArray := prog_3_method_17_code
def yX1_tensionAt : MethodName := ⟨RX1, "tensionAt", "(III)I"⟩
abbrev cX1_forceAt : ByteArray := prog_3_method_18_code
def yX1_forceAt : MethodName := ⟨RX1, "forceAt", "(II)I"⟩
abbrev cX1_shiftAt : ByteArray := prog_3_method_19_code
def yX1_shiftAt : MethodName := ⟨RX1, "shiftAt", "(I)I"⟩
abbrev cX1_drifts : ByteArray := prog_3_method_20_code
def yX1_drifts : MethodName := ⟨RX1, "drifts", "(I)Z"⟩
abbrev cX1_force : ByteArray := prog_3_method_21_code
def yX1_force : MethodName := ⟨RX1, "force", "(II)I"⟩
abbrev cX1_shift : ByteArray := prog_3_method_22_code
def yX1_shift : MethodName := ⟨RX1, "shift", "(I)I"⟩
abbrev cX1_isAdrift : ByteArray := prog_3_method_23_code
def yX1_isAdrift : MethodName := ⟨RX1, "isAdrift", "(I)Z"⟩
abbrev cX1_length : ByteArray := prog_3_method_24_code
def yX1_length : MethodName := ⟨RX1, "length", "(II)I"⟩
abbrev cX1_tension : ByteArray := prog_3_method_25_code
def yX1_tension : MethodName := ⟨RX1, "tension", "(II)I"⟩
abbrev cX1_sumOn : ByteArray := prog_3_method_26_code
def yX1_sumOn : MethodName := ⟨RX1, "sumOn", "(III)I"⟩
abbrev cX1_onBollard : ByteArray := prog_3_method_27_code
def yX1_onBollard : MethodName := ⟨RX1, "onBollard", "(II)I"⟩
abbrev cX1_holds : ByteArray := prog_3_method_28_code
def yX1_holds : MethodName := ⟨RX1, "holds", "(I)Z"⟩
abbrev cX1_isSafe : ByteArray := prog_3_method_29_code
def yX1_isSafe : MethodName := ⟨RX1, "isSafe", "(I)Z"⟩
abbrev cX1_firstUnsafe : ByteArray := prog_3_method_30_code
def yX1_firstUnsafe : MethodName := ⟨RX1, "firstUnsafe", "(I)I"⟩
abbrev cX1_tend : ByteArray := prog_3_method_31_code
def yX1_tend : MethodName := ⟨RX1, "tend", "(III)I"⟩
abbrev cX1_tends : ByteArray := prog_3_method_32_code
def yX1_tends : MethodName := ⟨RX1, "tends", "(I)I"⟩
abbrev cX1_tendAll : ByteArray := prog_3_method_33_code
def yX1_tendAll : MethodName := ⟨RX1, "tendAll", "(I)I"⟩
abbrev cX1_plan : ByteArray := prog_3_method_34_code
def yX1_plan : MethodName := ⟨RX1, "plan", "(II)I"⟩
def RJ9 : String := "java/lang/Math"
def TJ9 : u_T := fun k => match k with
  | _ => ("", "", "", false)
def tyJ9 : Nat → FieldType := fun k => match k with
  | _ => .int
abbrev wsJ90 : List Cond := u_ws RJ9 TJ9 0
theorem nmJ9 : ∀ a, a < 0 → ∀ b, b < 0 → a ≠ b → (TJ9 a).2.1 ≠ (TJ9 b).2.1 := by decide +kernel
theorem tyJ9_ok : ∀ k, k < 0 → parseFieldDescriptor (TJ9 k).2.2.1 = some (tyJ9 k) := by decide +kernel
abbrev cJ9_floorDiv_7cf53 : ByteArray := prog_8_method_47_code
def yJ9_floorDiv_7cf53 : MethodName := ⟨RJ9, "floorDiv", "(II)I"⟩
abbrev cJ9_max_7cf53 : ByteArray := prog_8_method_65_code
def yJ9_max_7cf53 : MethodName := ⟨RJ9, "max", "(II)I"⟩
def RJ0 : String := "java/lang/String"
def TJ0 : u_T := fun k => match k with
  | _ => ("", "", "", false)
def tyJ0 : Nat → FieldType := fun k => match k with
  | _ => .int
abbrev wsJ00 : List Cond := u_ws RJ0 TJ0 0
theorem nmJ0 : ∀ a, a < 0 → ∀ b, b < 0 → a ≠ b → (TJ0 a).2.1 ≠ (TJ0 b).2.1 := by decide +kernel
theorem tyJ0_ok : ∀ k, k < 0 → parseFieldDescriptor (TJ0 k).2.2.1 = some (tyJ0 k) := by decide +kernel
def RJ10 : String := "java/lang/System"
def TJ10 : u_T := fun k => match k with
  | _ => ("", "", "", false)
def tyJ10 : Nat → FieldType := fun k => match k with
  | _ => .int
abbrev wsJ100 : List Cond := u_ws RJ10 TJ10 0
theorem nmJ10 : ∀ a, a < 0 → ∀ b, b < 0 → a ≠ b → (TJ10 a).2.1 ≠ (TJ10 b).2.1 := by decide +kernel
theorem tyJ10_ok : ∀ k, k < 0 → parseFieldDescriptor (TJ10 k).2.2.1 = some (tyJ10 k) := by decide +kernel
def RL : String := "MoorWatchLaw"
abbrev cL_addBollard : ByteArray := method_3_code
def yL_addBollard : MethodName := ⟨RL, "addBollard", "(LMoorWatch;II[J)I"⟩
abbrev cL_addLine : ByteArray := method_4_code
def yL_addLine : MethodName := ⟨RL, "addLine", "(LMoorWatch;IIII[J)I"⟩
abbrev cL_toggle : ByteArray := method_5_code
def yL_toggle : MethodName := ⟨RL, "toggle", "(LMoorWatch;I[J)I"⟩
abbrev cL_setTide : ByteArray := method_6_code
def yL_setTide : MethodName := ⟨RL, "setTide", "(LMoorWatch;II[J)I"⟩
abbrev cL_setLoad : ByteArray := method_7_code
def yL_setLoad : MethodName := ⟨RL, "setLoad", "(LMoorWatch;II[J)I"⟩
abbrev cL_setWind : ByteArray := method_8_code
def yL_setWind : MethodName := ⟨RL, "setWind", "(LMoorWatch;I[J)I"⟩
abbrev cL_setPassing : ByteArray := method_9_code
def yL_setPassing : MethodName := ⟨RL, "setPassing", "(LMoorWatch;II[J)I"⟩
abbrev cL_force : ByteArray := method_10_code
def yL_force : MethodName := ⟨RL, "force", "(LMoorWatch;II[J)I"⟩
abbrev cL_shift : ByteArray := method_11_code
def yL_shift : MethodName := ⟨RL, "shift", "(LMoorWatch;I[J)I"⟩
abbrev cL_isAdrift : ByteArray := method_12_code
def yL_isAdrift : MethodName := ⟨RL, "isAdrift", "(LMoorWatch;I[J)I"⟩
abbrev cL_length : ByteArray := method_13_code
def yL_length : MethodName := ⟨RL, "length", "(LMoorWatch;II[J)I"⟩
abbrev cL_tension : ByteArray := method_14_code
def yL_tension : MethodName := ⟨RL, "tension", "(LMoorWatch;II[J)I"⟩
abbrev cL_onBollard : ByteArray := method_15_code
def yL_onBollard : MethodName := ⟨RL, "onBollard", "(LMoorWatch;II[J)I"⟩
abbrev cL_isSafe : ByteArray := method_16_code
def yL_isSafe : MethodName := ⟨RL, "isSafe", "(LMoorWatch;I[J)I"⟩
abbrev cL_firstUnsafe : ByteArray := method_17_code
def yL_firstUnsafe : MethodName := ⟨RL, "firstUnsafe", "(LMoorWatch;I[J)I"⟩
abbrev cL_tend : ByteArray := method_18_code
def yL_tend : MethodName := ⟨RL, "tend", "(LMoorWatch;III[J)I"⟩
abbrev cL_tendAll : ByteArray := method_19_code
def yL_tendAll : MethodName := ⟨RL, "tendAll", "(LMoorWatch;I[J)I"⟩
abbrev cL_plan : ByteArray := method_20_code
def yL_plan : MethodName := ⟨RL, "plan", "(LMoorWatch;II[J)I"⟩
abbrev cL_law : ByteArray := code
def yL_law : MethodName := ⟨RL, "law", "([I)Z"⟩
end
section
def wsX0_init : List Cond := .code yX0_init cX0_init 1 none :: ([.methodLink RX0 1 objectInit, .instanceMethod objectInit, .code objectInit ⟨#[0xb1]⟩ 1 none, .arrayClass .int, .fieldLink RX0 9 "MoorWatch" "tides" "[I", .fieldLink RX0 13 "MoorWatch" "loads" "[I", .fieldLink RX0 16 "MoorWatch" "passing" "[I", .fieldLink RX0 19 "MoorWatch" "wind" "I", .fieldLink RX0 23 "MoorWatch" "bollardCount" "I", .fieldLink RX0 26 "MoorWatch" "bollardPlaces" "[I", .fieldLink RX0 29 "MoorWatch" "bollardLimits" "[I", .fieldLink RX0 32 "MoorWatch" "lineCount" "I", .fieldLink RX0 35 "MoorWatch" "lineBollards" "[I", .fieldLink RX0 38 "MoorWatch" "lineReaches" "[I", .fieldLink RX0 41 "MoorWatch" "lineStiffnesses" "[I", .fieldLink RX0 44 "MoorWatch" "lineStrengths" "[I", .fieldLink RX0 47 "MoorWatch" "lineSets" "[I", .arrayClass .boolean, .fieldLink RX0 50 "MoorWatch" "lineFast" "[Z", .fieldLink RX0 54 "MoorWatch" "setsBeforePlan" "[I"] ++ wsX00)
def wsX0_checkRange : List Cond := .code yX0_checkRange cX0_checkRange 3 none :: ([.classLink RX0 121 "java/lang/IllegalArgumentException", .initialized "java/lang/IllegalArgumentException"] ++ (vx_atS RX0 125 "java/lang/IllegalArgumentException" ["java/lang/RuntimeException", "java/lang/Exception"]).filter goodWord)
def wsX0_addBollard : List Cond := .code yX0_addBollard cX0_addBollard 4 (some .int) :: ([.classLink RX0 62 "java/lang/IllegalStateException", .initialized "java/lang/IllegalStateException", .constant RX0 61 (1000000), .fieldLink RX0 23 "MoorWatch" "bollardCount" "I", .fieldLink RX0 26 "MoorWatch" "bollardPlaces" "[I", .fieldLink RX0 29 "MoorWatch" "bollardLimits" "[I", .methodLink RX0 57 yX0_checkRange, .static yX0_checkRange, .initialized RX0, .code yX0_checkRange cX0_checkRange 3 none, .classLink RX0 121 "java/lang/IllegalArgumentException", .initialized "java/lang/IllegalArgumentException"] ++ wsX00 ++ (vx_atS RX0 66 "java/lang/IllegalStateException" ["java/lang/RuntimeException", "java/lang/Exception"]).filter goodWord ++ (vx_atS RX0 125 "java/lang/IllegalArgumentException" ["java/lang/RuntimeException", "java/lang/Exception"]).filter goodWord)
def wsX0_checkBollard : List Cond := .code yX0_checkBollard cX0_checkBollard 2 none :: ([.classLink RX0 135 "java/lang/IndexOutOfBoundsException", .initialized "java/lang/IndexOutOfBoundsException", .fieldLink RX0 23 "MoorWatch" "bollardCount" "I"] ++ wsX00 ++ (vx_atS RX0 139 "java/lang/IndexOutOfBoundsException" ["java/lang/RuntimeException", "java/lang/Exception"]).filter goodWord)
def wsX0_lengthOver : List Cond := .code yX0_lengthOver cX0_lengthOver 6 (some .int) :: ([])
def wsX0_addLine_r1 : List Cond := [Cond.classLink RX0 62 "java/lang/IllegalStateException", Cond.initialized "java/lang/IllegalStateException", Cond.constant RX0 61 (1000000), Cond.fieldLink RX0 32 "MoorWatch" "lineCount" "I", Cond.fieldLink RX0 26 "MoorWatch" "bollardPlaces" "[I", Cond.fieldLink RX0 35 "MoorWatch" "lineBollards" "[I", Cond.fieldLink RX0 38 "MoorWatch" "lineReaches" "[I", Cond.fieldLink RX0 41 "MoorWatch" "lineStiffnesses" "[I", Cond.fieldLink RX0 44 "MoorWatch" "lineStrengths" "[I", Cond.fieldLink RX0 47 "MoorWatch" "lineSets" "[I", Cond.fieldLink RX0 50 "MoorWatch" "lineFast" "[Z", Cond.methodLink RX0 69 yX0_checkBollard, Cond.instanceMethod yX0_checkBollard, Cond.selects RX0 yX0_checkBollard yX0_checkBollard, Cond.initialized RX0, Cond.code yX0_checkBollard cX0_checkBollard 2 none, Cond.classLink RX0 135 "java/lang/IndexOutOfBoundsException", Cond.initialized "java/lang/IndexOutOfBoundsException", Cond.fieldLink RX0 23 "MoorWatch" "bollardCount" "I", Cond.methodLink RX0 57 yX0_checkRange, Cond.static yX0_checkRange, Cond.code yX0_checkRange cX0_checkRange 3 none, Cond.classLink RX0 121 "java/lang/IllegalArgumentException", Cond.initialized "java/lang/IllegalArgumentException"]
def wsX0_addLine_r2 : List Cond := [Cond.methodLink RX0 75 yX0_lengthOver, Cond.static yX0_lengthOver, Cond.code yX0_lengthOver cX0_lengthOver 6 (some .int)]
def wsX0_addLine : List Cond := .code yX0_addLine cX0_addLine 7 (some .int) :: ((wsX0_addLine_r1 ++ wsX0_addLine_r2) ++ wsX00 ++ (vx_atS RX0 66 "java/lang/IllegalStateException" ["java/lang/RuntimeException", "java/lang/Exception"]).filter goodWord ++ (vx_atS RX0 139 "java/lang/IndexOutOfBoundsException" ["java/lang/RuntimeException", "java/lang/Exception"]).filter goodWord ++ (vx_atS RX0 125 "java/lang/IllegalArgumentException" ["java/lang/RuntimeException", "java/lang/Exception"]).filter goodWord)
def wsX0_checkLine : List Cond := .code yX0_checkLine cX0_checkLine 2 none :: ([.classLink RX0 135 "java/lang/IndexOutOfBoundsException", .initialized "java/lang/IndexOutOfBoundsException", .fieldLink RX0 32 "MoorWatch" "lineCount" "I"] ++ wsX00 ++ (vx_atS RX0 139 "java/lang/IndexOutOfBoundsException" ["java/lang/RuntimeException", "java/lang/Exception"]).filter goodWord)
def wsX0_toggle : List Cond := .code yX0_toggle cX0_toggle 2 (some .boolean) :: ([.fieldLink RX0 50 "MoorWatch" "lineFast" "[Z", .methodLink RX0 79 yX0_checkLine, .instanceMethod yX0_checkLine, .selects RX0 yX0_checkLine yX0_checkLine, .initialized RX0, .code yX0_checkLine cX0_checkLine 2 none, .classLink RX0 135 "java/lang/IndexOutOfBoundsException", .initialized "java/lang/IndexOutOfBoundsException", .fieldLink RX0 32 "MoorWatch" "lineCount" "I"] ++ wsX00 ++ (vx_atS RX0 139 "java/lang/IndexOutOfBoundsException" ["java/lang/RuntimeException", "java/lang/Exception"]).filter goodWord)
def wsX0_checkHour : List Cond := .code yX0_checkHour cX0_checkHour 1 none :: ([.classLink RX0 135 "java/lang/IndexOutOfBoundsException", .initialized "java/lang/IndexOutOfBoundsException"] ++ (vx_atS RX0 139 "java/lang/IndexOutOfBoundsException" ["java/lang/RuntimeException", "java/lang/Exception"]).filter goodWord)
def wsX0_setTide : List Cond := .code yX0_setTide cX0_setTide 4 (some .int) :: ([.fieldLink RX0 9 "MoorWatch" "tides" "[I", .methodLink RX0 82 yX0_checkHour, .static yX0_checkHour, .initialized RX0, .code yX0_checkHour cX0_checkHour 1 none, .classLink RX0 135 "java/lang/IndexOutOfBoundsException", .initialized "java/lang/IndexOutOfBoundsException", .methodLink RX0 57 yX0_checkRange, .static yX0_checkRange, .code yX0_checkRange cX0_checkRange 3 none, .classLink RX0 121 "java/lang/IllegalArgumentException", .initialized "java/lang/IllegalArgumentException"] ++ wsX00 ++ (vx_atS RX0 139 "java/lang/IndexOutOfBoundsException" ["java/lang/RuntimeException", "java/lang/Exception"]).filter goodWord ++ (vx_atS RX0 125 "java/lang/IllegalArgumentException" ["java/lang/RuntimeException", "java/lang/Exception"]).filter goodWord)
def wsX0_setLoad : List Cond := .code yX0_setLoad cX0_setLoad 5 (some .int) :: ([.fieldLink RX0 13 "MoorWatch" "loads" "[I", .methodLink RX0 82 yX0_checkHour, .static yX0_checkHour, .initialized RX0, .code yX0_checkHour cX0_checkHour 1 none, .classLink RX0 135 "java/lang/IndexOutOfBoundsException", .initialized "java/lang/IndexOutOfBoundsException", .methodLink RX0 57 yX0_checkRange, .static yX0_checkRange, .code yX0_checkRange cX0_checkRange 3 none, .classLink RX0 121 "java/lang/IllegalArgumentException", .initialized "java/lang/IllegalArgumentException"] ++ wsX00 ++ (vx_atS RX0 139 "java/lang/IndexOutOfBoundsException" ["java/lang/RuntimeException", "java/lang/Exception"]).filter goodWord ++ (vx_atS RX0 125 "java/lang/IllegalArgumentException" ["java/lang/RuntimeException", "java/lang/Exception"]).filter goodWord)
def wsX0_setWind : List Cond := .code yX0_setWind cX0_setWind 3 (some .int) :: ([.constant RX0 85 (-1000000), .constant RX0 61 (1000000), .fieldLink RX0 19 "MoorWatch" "wind" "I", .methodLink RX0 57 yX0_checkRange, .static yX0_checkRange, .initialized RX0, .code yX0_checkRange cX0_checkRange 3 none, .classLink RX0 121 "java/lang/IllegalArgumentException", .initialized "java/lang/IllegalArgumentException"] ++ wsX00 ++ (vx_atS RX0 125 "java/lang/IllegalArgumentException" ["java/lang/RuntimeException", "java/lang/Exception"]).filter goodWord)
def wsX0_setPassing : List Cond := .code yX0_setPassing cX0_setPassing 4 (some .int) :: ([.constant RX0 85 (-1000000), .constant RX0 61 (1000000), .fieldLink RX0 16 "MoorWatch" "passing" "[I", .methodLink RX0 82 yX0_checkHour, .static yX0_checkHour, .initialized RX0, .code yX0_checkHour cX0_checkHour 1 none, .classLink RX0 135 "java/lang/IndexOutOfBoundsException", .initialized "java/lang/IndexOutOfBoundsException", .methodLink RX0 57 yX0_checkRange, .static yX0_checkRange, .code yX0_checkRange cX0_checkRange 3 none, .classLink RX0 121 "java/lang/IllegalArgumentException", .initialized "java/lang/IllegalArgumentException"] ++ wsX00 ++ (vx_atS RX0 139 "java/lang/IndexOutOfBoundsException" ["java/lang/RuntimeException", "java/lang/Exception"]).filter goodWord ++ (vx_atS RX0 125 "java/lang/IllegalArgumentException" ["java/lang/RuntimeException", "java/lang/Exception"]).filter goodWord)
def wsX0_heightIn : List Cond := .code yX0_heightIn cX0_heightIn 2 (some .int) :: ([.fieldLink RX0 9 "MoorWatch" "tides" "[I", .fieldLink RX0 13 "MoorWatch" "loads" "[I"] ++ wsX00)
def wsX0_tensionAtLength : List Cond := .code yX0_tensionAtLength cX0_tensionAtLength 3 (some .int) :: ([.fieldLink RX0 50 "MoorWatch" "lineFast" "[Z", .fieldLink RX0 41 "MoorWatch" "lineStiffnesses" "[I", .fieldLink RX0 47 "MoorWatch" "lineSets" "[I", .methodLink RX0 113 Lib.Math.max.name, .static Lib.Math.max.name, .initialized "java/lang/Math", .code Lib.Math.max.name Lib.Math.max.code 2 (some .int)] ++ wsX00)
def wsX0_pullWith : List Cond := .code yX0_pullWith cX0_pullWith 8 (some .int) :: ([.fieldLink RX0 38 "MoorWatch" "lineReaches" "[I", .methodLink RX0 146 yX0_heightIn, .instanceMethod yX0_heightIn, .selects RX0 yX0_heightIn yX0_heightIn, .initialized RX0, .code yX0_heightIn cX0_heightIn 2 (some .int), .fieldLink RX0 9 "MoorWatch" "tides" "[I", .fieldLink RX0 13 "MoorWatch" "loads" "[I", .methodLink RX0 75 yX0_lengthOver, .static yX0_lengthOver, .code yX0_lengthOver cX0_lengthOver 6 (some .int), .methodLink RX0 101 yX0_tensionAtLength, .instanceMethod yX0_tensionAtLength, .selects RX0 yX0_tensionAtLength yX0_tensionAtLength, .code yX0_tensionAtLength cX0_tensionAtLength 3 (some .int), .fieldLink RX0 50 "MoorWatch" "lineFast" "[Z", .fieldLink RX0 41 "MoorWatch" "lineStiffnesses" "[I", .fieldLink RX0 47 "MoorWatch" "lineSets" "[I", .methodLink RX0 113 Lib.Math.max.name, .static Lib.Math.max.name, .initialized "java/lang/Math", .code Lib.Math.max.name Lib.Math.max.code 2 (some .int)] ++ wsX00)
def wsX0_forceWith_r1 : List Cond := [Cond.fieldLink RX0 19 "MoorWatch" "wind" "I", Cond.fieldLink RX0 16 "MoorWatch" "passing" "[I", Cond.fieldLink RX0 32 "MoorWatch" "lineCount" "I", Cond.methodLink RX0 149 yX0_pullWith, Cond.instanceMethod yX0_pullWith, Cond.selects RX0 yX0_pullWith yX0_pullWith, Cond.initialized RX0, Cond.code yX0_pullWith cX0_pullWith 8 (some .int), Cond.fieldLink RX0 38 "MoorWatch" "lineReaches" "[I", Cond.methodLink RX0 146 yX0_heightIn, Cond.instanceMethod yX0_heightIn, Cond.selects RX0 yX0_heightIn yX0_heightIn, Cond.code yX0_heightIn cX0_heightIn 2 (some .int), Cond.fieldLink RX0 9 "MoorWatch" "tides" "[I", Cond.fieldLink RX0 13 "MoorWatch" "loads" "[I", Cond.methodLink RX0 75 yX0_lengthOver, Cond.static yX0_lengthOver, Cond.code yX0_lengthOver cX0_lengthOver 6 (some .int), Cond.methodLink RX0 101 yX0_tensionAtLength, Cond.instanceMethod yX0_tensionAtLength, Cond.selects RX0 yX0_tensionAtLength yX0_tensionAtLength, Cond.code yX0_tensionAtLength cX0_tensionAtLength 3 (some .int), Cond.fieldLink RX0 50 "MoorWatch" "lineFast" "[Z", Cond.fieldLink RX0 41 "MoorWatch" "lineStiffnesses" "[I"]
def wsX0_forceWith_r2 : List Cond := [Cond.fieldLink RX0 47 "MoorWatch" "lineSets" "[I", Cond.methodLink RX0 113 Lib.Math.max.name, Cond.static Lib.Math.max.name, Cond.initialized "java/lang/Math", Cond.code Lib.Math.max.name Lib.Math.max.code 2 (some .int)]
def wsX0_forceWith : List Cond := .code yX0_forceWith cX0_forceWith 5 (some .int) :: ((wsX0_forceWith_r1 ++ wsX0_forceWith_r2) ++ wsX00)
def wsX0_force_r1 : List Cond := [Cond.methodLink RX0 82 yX0_checkHour, Cond.static yX0_checkHour, Cond.initialized RX0, Cond.code yX0_checkHour cX0_checkHour 1 none, Cond.classLink RX0 135 "java/lang/IndexOutOfBoundsException", Cond.initialized "java/lang/IndexOutOfBoundsException", Cond.methodLink RX0 57 yX0_checkRange, Cond.static yX0_checkRange, Cond.code yX0_checkRange cX0_checkRange 3 none, Cond.classLink RX0 121 "java/lang/IllegalArgumentException", Cond.initialized "java/lang/IllegalArgumentException", Cond.methodLink RX0 86 yX0_forceWith, Cond.instanceMethod yX0_forceWith, Cond.selects RX0 yX0_forceWith yX0_forceWith, Cond.code yX0_forceWith cX0_forceWith 5 (some .int), Cond.fieldLink RX0 19 "MoorWatch" "wind" "I", Cond.fieldLink RX0 16 "MoorWatch" "passing" "[I", Cond.fieldLink RX0 32 "MoorWatch" "lineCount" "I", Cond.methodLink RX0 149 yX0_pullWith, Cond.instanceMethod yX0_pullWith, Cond.selects RX0 yX0_pullWith yX0_pullWith, Cond.code yX0_pullWith cX0_pullWith 8 (some .int), Cond.fieldLink RX0 38 "MoorWatch" "lineReaches" "[I", Cond.methodLink RX0 146 yX0_heightIn]
def wsX0_force_r2 : List Cond := [Cond.instanceMethod yX0_heightIn, Cond.selects RX0 yX0_heightIn yX0_heightIn, Cond.code yX0_heightIn cX0_heightIn 2 (some .int), Cond.fieldLink RX0 9 "MoorWatch" "tides" "[I", Cond.fieldLink RX0 13 "MoorWatch" "loads" "[I", Cond.methodLink RX0 75 yX0_lengthOver, Cond.static yX0_lengthOver, Cond.code yX0_lengthOver cX0_lengthOver 6 (some .int), Cond.methodLink RX0 101 yX0_tensionAtLength, Cond.instanceMethod yX0_tensionAtLength, Cond.selects RX0 yX0_tensionAtLength yX0_tensionAtLength, Cond.code yX0_tensionAtLength cX0_tensionAtLength 3 (some .int), Cond.fieldLink RX0 50 "MoorWatch" "lineFast" "[Z", Cond.fieldLink RX0 41 "MoorWatch" "lineStiffnesses" "[I", Cond.fieldLink RX0 47 "MoorWatch" "lineSets" "[I", Cond.methodLink RX0 113 Lib.Math.max.name, Cond.static Lib.Math.max.name, Cond.initialized "java/lang/Math", Cond.code Lib.Math.max.name Lib.Math.max.code 2 (some .int)]
def wsX0_force : List Cond := .code yX0_force cX0_force 3 (some .int) :: ((wsX0_force_r1 ++ wsX0_force_r2) ++ wsX00 ++ (vx_atS RX0 139 "java/lang/IndexOutOfBoundsException" ["java/lang/RuntimeException", "java/lang/Exception"]).filter goodWord ++ (vx_atS RX0 125 "java/lang/IllegalArgumentException" ["java/lang/RuntimeException", "java/lang/Exception"]).filter goodWord)
def wsJ9_floorDiv_7cf53 : List Cond := .code yJ9_floorDiv_7cf53 cJ9_floorDiv_7cf53 3 (some .int) :: ([])
def wsX0_balanceOf_r1 : List Cond := [Cond.methodLink RX0 152 yJ9_floorDiv_7cf53, Cond.static yJ9_floorDiv_7cf53, Cond.initialized RJ9, Cond.code yJ9_floorDiv_7cf53 cJ9_floorDiv_7cf53 3 (some .int), Cond.methodLink RX0 86 yX0_forceWith, Cond.instanceMethod yX0_forceWith, Cond.selects RX0 yX0_forceWith yX0_forceWith, Cond.initialized RX0, Cond.code yX0_forceWith cX0_forceWith 5 (some .int), Cond.fieldLink RX0 19 "MoorWatch" "wind" "I", Cond.fieldLink RX0 16 "MoorWatch" "passing" "[I", Cond.fieldLink RX0 32 "MoorWatch" "lineCount" "I", Cond.methodLink RX0 149 yX0_pullWith, Cond.instanceMethod yX0_pullWith, Cond.selects RX0 yX0_pullWith yX0_pullWith, Cond.code yX0_pullWith cX0_pullWith 8 (some .int), Cond.fieldLink RX0 38 "MoorWatch" "lineReaches" "[I", Cond.methodLink RX0 146 yX0_heightIn, Cond.instanceMethod yX0_heightIn, Cond.selects RX0 yX0_heightIn yX0_heightIn, Cond.code yX0_heightIn cX0_heightIn 2 (some .int), Cond.fieldLink RX0 9 "MoorWatch" "tides" "[I", Cond.fieldLink RX0 13 "MoorWatch" "loads" "[I", Cond.methodLink RX0 75 yX0_lengthOver]
def wsX0_balanceOf_r2 : List Cond := [Cond.static yX0_lengthOver, Cond.code yX0_lengthOver cX0_lengthOver 6 (some .int), Cond.methodLink RX0 101 yX0_tensionAtLength, Cond.instanceMethod yX0_tensionAtLength, Cond.selects RX0 yX0_tensionAtLength yX0_tensionAtLength, Cond.code yX0_tensionAtLength cX0_tensionAtLength 3 (some .int), Cond.fieldLink RX0 50 "MoorWatch" "lineFast" "[Z", Cond.fieldLink RX0 41 "MoorWatch" "lineStiffnesses" "[I", Cond.fieldLink RX0 47 "MoorWatch" "lineSets" "[I", Cond.methodLink RX0 113 Lib.Math.max.name, Cond.static Lib.Math.max.name, Cond.initialized "java/lang/Math", Cond.code Lib.Math.max.name Lib.Math.max.code 2 (some .int)]
def wsX0_balanceOf : List Cond := .code yX0_balanceOf cX0_balanceOf 6 (some .int) :: ((wsX0_balanceOf_r1 ++ wsX0_balanceOf_r2) ++ wsX00)
def wsX0_shift_r1 : List Cond := [Cond.methodLink RX0 82 yX0_checkHour, Cond.static yX0_checkHour, Cond.initialized RX0, Cond.code yX0_checkHour cX0_checkHour 1 none, Cond.classLink RX0 135 "java/lang/IndexOutOfBoundsException", Cond.initialized "java/lang/IndexOutOfBoundsException", Cond.methodLink RX0 89 yX0_balanceOf, Cond.instanceMethod yX0_balanceOf, Cond.selects RX0 yX0_balanceOf yX0_balanceOf, Cond.code yX0_balanceOf cX0_balanceOf 6 (some .int), Cond.methodLink RX0 152 yJ9_floorDiv_7cf53, Cond.static yJ9_floorDiv_7cf53, Cond.initialized RJ9, Cond.code yJ9_floorDiv_7cf53 cJ9_floorDiv_7cf53 3 (some .int), Cond.methodLink RX0 86 yX0_forceWith, Cond.instanceMethod yX0_forceWith, Cond.selects RX0 yX0_forceWith yX0_forceWith, Cond.code yX0_forceWith cX0_forceWith 5 (some .int), Cond.fieldLink RX0 19 "MoorWatch" "wind" "I", Cond.fieldLink RX0 16 "MoorWatch" "passing" "[I", Cond.fieldLink RX0 32 "MoorWatch" "lineCount" "I", Cond.methodLink RX0 149 yX0_pullWith, Cond.instanceMethod yX0_pullWith, Cond.selects RX0 yX0_pullWith yX0_pullWith]
def wsX0_shift_r2 : List Cond := [Cond.code yX0_pullWith cX0_pullWith 8 (some .int), Cond.fieldLink RX0 38 "MoorWatch" "lineReaches" "[I", Cond.methodLink RX0 146 yX0_heightIn, Cond.instanceMethod yX0_heightIn, Cond.selects RX0 yX0_heightIn yX0_heightIn, Cond.code yX0_heightIn cX0_heightIn 2 (some .int), Cond.fieldLink RX0 9 "MoorWatch" "tides" "[I", Cond.fieldLink RX0 13 "MoorWatch" "loads" "[I", Cond.methodLink RX0 75 yX0_lengthOver, Cond.static yX0_lengthOver, Cond.code yX0_lengthOver cX0_lengthOver 6 (some .int), Cond.methodLink RX0 101 yX0_tensionAtLength, Cond.instanceMethod yX0_tensionAtLength, Cond.selects RX0 yX0_tensionAtLength yX0_tensionAtLength, Cond.code yX0_tensionAtLength cX0_tensionAtLength 3 (some .int), Cond.fieldLink RX0 50 "MoorWatch" "lineFast" "[Z", Cond.fieldLink RX0 41 "MoorWatch" "lineStiffnesses" "[I", Cond.fieldLink RX0 47 "MoorWatch" "lineSets" "[I", Cond.methodLink RX0 113 Lib.Math.max.name, Cond.static Lib.Math.max.name, Cond.initialized "java/lang/Math", Cond.code Lib.Math.max.name Lib.Math.max.code 2 (some .int)]
def wsX0_shift : List Cond := .code yX0_shift cX0_shift 2 (some .int) :: ((wsX0_shift_r1 ++ wsX0_shift_r2) ++ wsX00 ++ (vx_atS RX0 139 "java/lang/IndexOutOfBoundsException" ["java/lang/RuntimeException", "java/lang/Exception"]).filter goodWord)
def wsX0_driftsWith_r1 : List Cond := [Cond.methodLink RX0 86 yX0_forceWith, Cond.instanceMethod yX0_forceWith, Cond.selects RX0 yX0_forceWith yX0_forceWith, Cond.initialized RX0, Cond.code yX0_forceWith cX0_forceWith 5 (some .int), Cond.fieldLink RX0 19 "MoorWatch" "wind" "I", Cond.fieldLink RX0 16 "MoorWatch" "passing" "[I", Cond.fieldLink RX0 32 "MoorWatch" "lineCount" "I", Cond.methodLink RX0 149 yX0_pullWith, Cond.instanceMethod yX0_pullWith, Cond.selects RX0 yX0_pullWith yX0_pullWith, Cond.code yX0_pullWith cX0_pullWith 8 (some .int), Cond.fieldLink RX0 38 "MoorWatch" "lineReaches" "[I", Cond.methodLink RX0 146 yX0_heightIn, Cond.instanceMethod yX0_heightIn, Cond.selects RX0 yX0_heightIn yX0_heightIn, Cond.code yX0_heightIn cX0_heightIn 2 (some .int), Cond.fieldLink RX0 9 "MoorWatch" "tides" "[I", Cond.fieldLink RX0 13 "MoorWatch" "loads" "[I", Cond.methodLink RX0 75 yX0_lengthOver, Cond.static yX0_lengthOver, Cond.code yX0_lengthOver cX0_lengthOver 6 (some .int), Cond.methodLink RX0 101 yX0_tensionAtLength, Cond.instanceMethod yX0_tensionAtLength]
def wsX0_driftsWith_r2 : List Cond := [Cond.selects RX0 yX0_tensionAtLength yX0_tensionAtLength, Cond.code yX0_tensionAtLength cX0_tensionAtLength 3 (some .int), Cond.fieldLink RX0 50 "MoorWatch" "lineFast" "[Z", Cond.fieldLink RX0 41 "MoorWatch" "lineStiffnesses" "[I", Cond.fieldLink RX0 47 "MoorWatch" "lineSets" "[I", Cond.methodLink RX0 113 Lib.Math.max.name, Cond.static Lib.Math.max.name, Cond.initialized "java/lang/Math", Cond.code Lib.Math.max.name Lib.Math.max.code 2 (some .int)]
def wsX0_driftsWith : List Cond := .code yX0_driftsWith cX0_driftsWith 3 (some .boolean) :: ((wsX0_driftsWith_r1 ++ wsX0_driftsWith_r2) ++ wsX00)
def wsX0_isAdrift_r1 : List Cond := [Cond.methodLink RX0 82 yX0_checkHour, Cond.static yX0_checkHour, Cond.initialized RX0, Cond.code yX0_checkHour cX0_checkHour 1 none, Cond.classLink RX0 135 "java/lang/IndexOutOfBoundsException", Cond.initialized "java/lang/IndexOutOfBoundsException", Cond.methodLink RX0 89 yX0_balanceOf, Cond.instanceMethod yX0_balanceOf, Cond.selects RX0 yX0_balanceOf yX0_balanceOf, Cond.code yX0_balanceOf cX0_balanceOf 6 (some .int), Cond.methodLink RX0 152 yJ9_floorDiv_7cf53, Cond.static yJ9_floorDiv_7cf53, Cond.initialized RJ9, Cond.code yJ9_floorDiv_7cf53 cJ9_floorDiv_7cf53 3 (some .int), Cond.methodLink RX0 86 yX0_forceWith, Cond.instanceMethod yX0_forceWith, Cond.selects RX0 yX0_forceWith yX0_forceWith, Cond.code yX0_forceWith cX0_forceWith 5 (some .int), Cond.fieldLink RX0 19 "MoorWatch" "wind" "I", Cond.fieldLink RX0 16 "MoorWatch" "passing" "[I", Cond.fieldLink RX0 32 "MoorWatch" "lineCount" "I", Cond.methodLink RX0 149 yX0_pullWith, Cond.instanceMethod yX0_pullWith, Cond.selects RX0 yX0_pullWith yX0_pullWith]
def wsX0_isAdrift_r2 : List Cond := [Cond.code yX0_pullWith cX0_pullWith 8 (some .int), Cond.fieldLink RX0 38 "MoorWatch" "lineReaches" "[I", Cond.methodLink RX0 146 yX0_heightIn, Cond.instanceMethod yX0_heightIn, Cond.selects RX0 yX0_heightIn yX0_heightIn, Cond.code yX0_heightIn cX0_heightIn 2 (some .int), Cond.fieldLink RX0 9 "MoorWatch" "tides" "[I", Cond.fieldLink RX0 13 "MoorWatch" "loads" "[I", Cond.methodLink RX0 75 yX0_lengthOver, Cond.static yX0_lengthOver, Cond.code yX0_lengthOver cX0_lengthOver 6 (some .int), Cond.methodLink RX0 101 yX0_tensionAtLength, Cond.instanceMethod yX0_tensionAtLength, Cond.selects RX0 yX0_tensionAtLength yX0_tensionAtLength, Cond.code yX0_tensionAtLength cX0_tensionAtLength 3 (some .int), Cond.fieldLink RX0 50 "MoorWatch" "lineFast" "[Z", Cond.fieldLink RX0 41 "MoorWatch" "lineStiffnesses" "[I", Cond.fieldLink RX0 47 "MoorWatch" "lineSets" "[I", Cond.methodLink RX0 113 Lib.Math.max.name, Cond.static Lib.Math.max.name, Cond.initialized "java/lang/Math", Cond.code Lib.Math.max.name Lib.Math.max.code 2 (some .int), Cond.methodLink RX0 93 yX0_driftsWith, Cond.instanceMethod yX0_driftsWith]
def wsX0_isAdrift_r3 : List Cond := [Cond.selects RX0 yX0_driftsWith yX0_driftsWith, Cond.code yX0_driftsWith cX0_driftsWith 3 (some .boolean)]
def wsX0_isAdrift : List Cond := .code yX0_isAdrift cX0_isAdrift 2 (some .boolean) :: ((wsX0_isAdrift_r1 ++ (wsX0_isAdrift_r2 ++ wsX0_isAdrift_r3)) ++ wsX00 ++ (vx_atS RX0 139 "java/lang/IndexOutOfBoundsException" ["java/lang/RuntimeException", "java/lang/Exception"]).filter goodWord)
def wsX0_lengthWith : List Cond := .code yX0_lengthWith cX0_lengthWith 4 (some .int) :: ([.fieldLink RX0 38 "MoorWatch" "lineReaches" "[I", .methodLink RX0 146 yX0_heightIn, .instanceMethod yX0_heightIn, .selects RX0 yX0_heightIn yX0_heightIn, .initialized RX0, .code yX0_heightIn cX0_heightIn 2 (some .int), .fieldLink RX0 9 "MoorWatch" "tides" "[I", .fieldLink RX0 13 "MoorWatch" "loads" "[I", .methodLink RX0 75 yX0_lengthOver, .static yX0_lengthOver, .code yX0_lengthOver cX0_lengthOver 6 (some .int)] ++ wsX00)
def wsX0_length_r1 : List Cond := [Cond.methodLink RX0 79 yX0_checkLine, Cond.instanceMethod yX0_checkLine, Cond.selects RX0 yX0_checkLine yX0_checkLine, Cond.initialized RX0, Cond.code yX0_checkLine cX0_checkLine 2 none, Cond.classLink RX0 135 "java/lang/IndexOutOfBoundsException", Cond.initialized "java/lang/IndexOutOfBoundsException", Cond.fieldLink RX0 32 "MoorWatch" "lineCount" "I", Cond.methodLink RX0 82 yX0_checkHour, Cond.static yX0_checkHour, Cond.code yX0_checkHour cX0_checkHour 1 none, Cond.methodLink RX0 89 yX0_balanceOf, Cond.instanceMethod yX0_balanceOf, Cond.selects RX0 yX0_balanceOf yX0_balanceOf, Cond.code yX0_balanceOf cX0_balanceOf 6 (some .int), Cond.methodLink RX0 152 yJ9_floorDiv_7cf53, Cond.static yJ9_floorDiv_7cf53, Cond.initialized RJ9, Cond.code yJ9_floorDiv_7cf53 cJ9_floorDiv_7cf53 3 (some .int), Cond.methodLink RX0 86 yX0_forceWith, Cond.instanceMethod yX0_forceWith, Cond.selects RX0 yX0_forceWith yX0_forceWith, Cond.code yX0_forceWith cX0_forceWith 5 (some .int), Cond.fieldLink RX0 19 "MoorWatch" "wind" "I"]
def wsX0_length_r2 : List Cond := [Cond.fieldLink RX0 16 "MoorWatch" "passing" "[I", Cond.methodLink RX0 149 yX0_pullWith, Cond.instanceMethod yX0_pullWith, Cond.selects RX0 yX0_pullWith yX0_pullWith, Cond.code yX0_pullWith cX0_pullWith 8 (some .int), Cond.fieldLink RX0 38 "MoorWatch" "lineReaches" "[I", Cond.methodLink RX0 146 yX0_heightIn, Cond.instanceMethod yX0_heightIn, Cond.selects RX0 yX0_heightIn yX0_heightIn, Cond.code yX0_heightIn cX0_heightIn 2 (some .int), Cond.fieldLink RX0 9 "MoorWatch" "tides" "[I", Cond.fieldLink RX0 13 "MoorWatch" "loads" "[I", Cond.methodLink RX0 75 yX0_lengthOver, Cond.static yX0_lengthOver, Cond.code yX0_lengthOver cX0_lengthOver 6 (some .int), Cond.methodLink RX0 101 yX0_tensionAtLength, Cond.instanceMethod yX0_tensionAtLength, Cond.selects RX0 yX0_tensionAtLength yX0_tensionAtLength, Cond.code yX0_tensionAtLength cX0_tensionAtLength 3 (some .int), Cond.fieldLink RX0 50 "MoorWatch" "lineFast" "[Z", Cond.fieldLink RX0 41 "MoorWatch" "lineStiffnesses" "[I", Cond.fieldLink RX0 47 "MoorWatch" "lineSets" "[I", Cond.methodLink RX0 113 Lib.Math.max.name, Cond.static Lib.Math.max.name]
def wsX0_length_r3 : List Cond := [Cond.initialized "java/lang/Math", Cond.code Lib.Math.max.name Lib.Math.max.code 2 (some .int), Cond.methodLink RX0 97 yX0_lengthWith, Cond.instanceMethod yX0_lengthWith, Cond.selects RX0 yX0_lengthWith yX0_lengthWith, Cond.code yX0_lengthWith cX0_lengthWith 4 (some .int)]
def wsX0_length : List Cond := .code yX0_length cX0_length 3 (some .int) :: ((wsX0_length_r1 ++ (wsX0_length_r2 ++ wsX0_length_r3)) ++ wsX00 ++ (vx_atS RX0 139 "java/lang/IndexOutOfBoundsException" ["java/lang/RuntimeException", "java/lang/Exception"]).filter goodWord)
def wsX0_tension_r1 : List Cond := [Cond.methodLink RX0 79 yX0_checkLine, Cond.instanceMethod yX0_checkLine, Cond.selects RX0 yX0_checkLine yX0_checkLine, Cond.initialized RX0, Cond.code yX0_checkLine cX0_checkLine 2 none, Cond.classLink RX0 135 "java/lang/IndexOutOfBoundsException", Cond.initialized "java/lang/IndexOutOfBoundsException", Cond.fieldLink RX0 32 "MoorWatch" "lineCount" "I", Cond.methodLink RX0 82 yX0_checkHour, Cond.static yX0_checkHour, Cond.code yX0_checkHour cX0_checkHour 1 none, Cond.methodLink RX0 89 yX0_balanceOf, Cond.instanceMethod yX0_balanceOf, Cond.selects RX0 yX0_balanceOf yX0_balanceOf, Cond.code yX0_balanceOf cX0_balanceOf 6 (some .int), Cond.methodLink RX0 152 yJ9_floorDiv_7cf53, Cond.static yJ9_floorDiv_7cf53, Cond.initialized RJ9, Cond.code yJ9_floorDiv_7cf53 cJ9_floorDiv_7cf53 3 (some .int), Cond.methodLink RX0 86 yX0_forceWith, Cond.instanceMethod yX0_forceWith, Cond.selects RX0 yX0_forceWith yX0_forceWith, Cond.code yX0_forceWith cX0_forceWith 5 (some .int), Cond.fieldLink RX0 19 "MoorWatch" "wind" "I"]
def wsX0_tension_r2 : List Cond := [Cond.fieldLink RX0 16 "MoorWatch" "passing" "[I", Cond.methodLink RX0 149 yX0_pullWith, Cond.instanceMethod yX0_pullWith, Cond.selects RX0 yX0_pullWith yX0_pullWith, Cond.code yX0_pullWith cX0_pullWith 8 (some .int), Cond.fieldLink RX0 38 "MoorWatch" "lineReaches" "[I", Cond.methodLink RX0 146 yX0_heightIn, Cond.instanceMethod yX0_heightIn, Cond.selects RX0 yX0_heightIn yX0_heightIn, Cond.code yX0_heightIn cX0_heightIn 2 (some .int), Cond.fieldLink RX0 9 "MoorWatch" "tides" "[I", Cond.fieldLink RX0 13 "MoorWatch" "loads" "[I", Cond.methodLink RX0 75 yX0_lengthOver, Cond.static yX0_lengthOver, Cond.code yX0_lengthOver cX0_lengthOver 6 (some .int), Cond.methodLink RX0 101 yX0_tensionAtLength, Cond.instanceMethod yX0_tensionAtLength, Cond.selects RX0 yX0_tensionAtLength yX0_tensionAtLength, Cond.code yX0_tensionAtLength cX0_tensionAtLength 3 (some .int), Cond.fieldLink RX0 50 "MoorWatch" "lineFast" "[Z", Cond.fieldLink RX0 41 "MoorWatch" "lineStiffnesses" "[I", Cond.fieldLink RX0 47 "MoorWatch" "lineSets" "[I", Cond.methodLink RX0 113 Lib.Math.max.name, Cond.static Lib.Math.max.name]
def wsX0_tension_r3 : List Cond := [Cond.initialized "java/lang/Math", Cond.code Lib.Math.max.name Lib.Math.max.code 2 (some .int), Cond.methodLink RX0 97 yX0_lengthWith, Cond.instanceMethod yX0_lengthWith, Cond.selects RX0 yX0_lengthWith yX0_lengthWith, Cond.code yX0_lengthWith cX0_lengthWith 4 (some .int)]
def wsX0_tension : List Cond := .code yX0_tension cX0_tension 3 (some .int) :: ((wsX0_tension_r1 ++ (wsX0_tension_r2 ++ wsX0_tension_r3)) ++ wsX00 ++ (vx_atS RX0 139 "java/lang/IndexOutOfBoundsException" ["java/lang/RuntimeException", "java/lang/Exception"]).filter goodWord)
def wsX0_bollardTension_r1 : List Cond := [Cond.fieldLink RX0 32 "MoorWatch" "lineCount" "I", Cond.fieldLink RX0 35 "MoorWatch" "lineBollards" "[I", Cond.methodLink RX0 97 yX0_lengthWith, Cond.instanceMethod yX0_lengthWith, Cond.selects RX0 yX0_lengthWith yX0_lengthWith, Cond.initialized RX0, Cond.code yX0_lengthWith cX0_lengthWith 4 (some .int), Cond.fieldLink RX0 38 "MoorWatch" "lineReaches" "[I", Cond.methodLink RX0 146 yX0_heightIn, Cond.instanceMethod yX0_heightIn, Cond.selects RX0 yX0_heightIn yX0_heightIn, Cond.code yX0_heightIn cX0_heightIn 2 (some .int), Cond.fieldLink RX0 9 "MoorWatch" "tides" "[I", Cond.fieldLink RX0 13 "MoorWatch" "loads" "[I", Cond.methodLink RX0 75 yX0_lengthOver, Cond.static yX0_lengthOver, Cond.code yX0_lengthOver cX0_lengthOver 6 (some .int), Cond.methodLink RX0 101 yX0_tensionAtLength, Cond.instanceMethod yX0_tensionAtLength, Cond.selects RX0 yX0_tensionAtLength yX0_tensionAtLength, Cond.code yX0_tensionAtLength cX0_tensionAtLength 3 (some .int), Cond.fieldLink RX0 50 "MoorWatch" "lineFast" "[Z", Cond.fieldLink RX0 41 "MoorWatch" "lineStiffnesses" "[I", Cond.fieldLink RX0 47 "MoorWatch" "lineSets" "[I"]
def wsX0_bollardTension_r2 : List Cond := [Cond.methodLink RX0 113 Lib.Math.max.name, Cond.static Lib.Math.max.name, Cond.initialized "java/lang/Math", Cond.code Lib.Math.max.name Lib.Math.max.code 2 (some .int)]
def wsX0_bollardTension : List Cond := .code yX0_bollardTension cX0_bollardTension 6 (some .int) :: ((wsX0_bollardTension_r1 ++ wsX0_bollardTension_r2) ++ wsX00)
def wsX0_onBollard_r1 : List Cond := [Cond.methodLink RX0 69 yX0_checkBollard, Cond.instanceMethod yX0_checkBollard, Cond.selects RX0 yX0_checkBollard yX0_checkBollard, Cond.initialized RX0, Cond.code yX0_checkBollard cX0_checkBollard 2 none, Cond.classLink RX0 135 "java/lang/IndexOutOfBoundsException", Cond.initialized "java/lang/IndexOutOfBoundsException", Cond.fieldLink RX0 23 "MoorWatch" "bollardCount" "I", Cond.methodLink RX0 82 yX0_checkHour, Cond.static yX0_checkHour, Cond.code yX0_checkHour cX0_checkHour 1 none, Cond.methodLink RX0 89 yX0_balanceOf, Cond.instanceMethod yX0_balanceOf, Cond.selects RX0 yX0_balanceOf yX0_balanceOf, Cond.code yX0_balanceOf cX0_balanceOf 6 (some .int), Cond.methodLink RX0 152 yJ9_floorDiv_7cf53, Cond.static yJ9_floorDiv_7cf53, Cond.initialized RJ9, Cond.code yJ9_floorDiv_7cf53 cJ9_floorDiv_7cf53 3 (some .int), Cond.methodLink RX0 86 yX0_forceWith, Cond.instanceMethod yX0_forceWith, Cond.selects RX0 yX0_forceWith yX0_forceWith, Cond.code yX0_forceWith cX0_forceWith 5 (some .int), Cond.fieldLink RX0 19 "MoorWatch" "wind" "I"]
def wsX0_onBollard_r2 : List Cond := [Cond.fieldLink RX0 16 "MoorWatch" "passing" "[I", Cond.fieldLink RX0 32 "MoorWatch" "lineCount" "I", Cond.methodLink RX0 149 yX0_pullWith, Cond.instanceMethod yX0_pullWith, Cond.selects RX0 yX0_pullWith yX0_pullWith, Cond.code yX0_pullWith cX0_pullWith 8 (some .int), Cond.fieldLink RX0 38 "MoorWatch" "lineReaches" "[I", Cond.methodLink RX0 146 yX0_heightIn, Cond.instanceMethod yX0_heightIn, Cond.selects RX0 yX0_heightIn yX0_heightIn, Cond.code yX0_heightIn cX0_heightIn 2 (some .int), Cond.fieldLink RX0 9 "MoorWatch" "tides" "[I", Cond.fieldLink RX0 13 "MoorWatch" "loads" "[I", Cond.methodLink RX0 75 yX0_lengthOver, Cond.static yX0_lengthOver, Cond.code yX0_lengthOver cX0_lengthOver 6 (some .int), Cond.methodLink RX0 101 yX0_tensionAtLength, Cond.instanceMethod yX0_tensionAtLength, Cond.selects RX0 yX0_tensionAtLength yX0_tensionAtLength, Cond.code yX0_tensionAtLength cX0_tensionAtLength 3 (some .int), Cond.fieldLink RX0 50 "MoorWatch" "lineFast" "[Z", Cond.fieldLink RX0 41 "MoorWatch" "lineStiffnesses" "[I", Cond.fieldLink RX0 47 "MoorWatch" "lineSets" "[I", Cond.methodLink RX0 113 Lib.Math.max.name]
def wsX0_onBollard_r3 : List Cond := [Cond.static Lib.Math.max.name, Cond.initialized "java/lang/Math", Cond.code Lib.Math.max.name Lib.Math.max.code 2 (some .int), Cond.methodLink RX0 104 yX0_bollardTension, Cond.instanceMethod yX0_bollardTension, Cond.selects RX0 yX0_bollardTension yX0_bollardTension, Cond.code yX0_bollardTension cX0_bollardTension 6 (some .int), Cond.fieldLink RX0 35 "MoorWatch" "lineBollards" "[I", Cond.methodLink RX0 97 yX0_lengthWith, Cond.instanceMethod yX0_lengthWith, Cond.selects RX0 yX0_lengthWith yX0_lengthWith, Cond.code yX0_lengthWith cX0_lengthWith 4 (some .int)]
def wsX0_onBollard : List Cond := .code yX0_onBollard cX0_onBollard 3 (some .int) :: ((wsX0_onBollard_r1 ++ (wsX0_onBollard_r2 ++ wsX0_onBollard_r3)) ++ wsX00 ++ (vx_atS RX0 139 "java/lang/IndexOutOfBoundsException" ["java/lang/RuntimeException", "java/lang/Exception"]).filter goodWord)
def wsX0_linesHold_r1 : List Cond := [Cond.fieldLink RX0 32 "MoorWatch" "lineCount" "I", Cond.fieldLink RX0 44 "MoorWatch" "lineStrengths" "[I", Cond.methodLink RX0 97 yX0_lengthWith, Cond.instanceMethod yX0_lengthWith, Cond.selects RX0 yX0_lengthWith yX0_lengthWith, Cond.initialized RX0, Cond.code yX0_lengthWith cX0_lengthWith 4 (some .int), Cond.fieldLink RX0 38 "MoorWatch" "lineReaches" "[I", Cond.methodLink RX0 146 yX0_heightIn, Cond.instanceMethod yX0_heightIn, Cond.selects RX0 yX0_heightIn yX0_heightIn, Cond.code yX0_heightIn cX0_heightIn 2 (some .int), Cond.fieldLink RX0 9 "MoorWatch" "tides" "[I", Cond.fieldLink RX0 13 "MoorWatch" "loads" "[I", Cond.methodLink RX0 75 yX0_lengthOver, Cond.static yX0_lengthOver, Cond.code yX0_lengthOver cX0_lengthOver 6 (some .int), Cond.methodLink RX0 101 yX0_tensionAtLength, Cond.instanceMethod yX0_tensionAtLength, Cond.selects RX0 yX0_tensionAtLength yX0_tensionAtLength, Cond.code yX0_tensionAtLength cX0_tensionAtLength 3 (some .int), Cond.fieldLink RX0 50 "MoorWatch" "lineFast" "[Z", Cond.fieldLink RX0 41 "MoorWatch" "lineStiffnesses" "[I", Cond.fieldLink RX0 47 "MoorWatch" "lineSets" "[I"]
def wsX0_linesHold_r2 : List Cond := [Cond.methodLink RX0 113 Lib.Math.max.name, Cond.static Lib.Math.max.name, Cond.initialized "java/lang/Math", Cond.code Lib.Math.max.name Lib.Math.max.code 2 (some .int)]
def wsX0_linesHold : List Cond := .code yX0_linesHold cX0_linesHold 5 (some .boolean) :: ((wsX0_linesHold_r1 ++ wsX0_linesHold_r2) ++ wsX00)
def wsX0_bollardsHold_r1 : List Cond := [Cond.fieldLink RX0 23 "MoorWatch" "bollardCount" "I", Cond.fieldLink RX0 29 "MoorWatch" "bollardLimits" "[I", Cond.methodLink RX0 104 yX0_bollardTension, Cond.instanceMethod yX0_bollardTension, Cond.selects RX0 yX0_bollardTension yX0_bollardTension, Cond.initialized RX0, Cond.code yX0_bollardTension cX0_bollardTension 6 (some .int), Cond.fieldLink RX0 32 "MoorWatch" "lineCount" "I", Cond.fieldLink RX0 35 "MoorWatch" "lineBollards" "[I", Cond.methodLink RX0 97 yX0_lengthWith, Cond.instanceMethod yX0_lengthWith, Cond.selects RX0 yX0_lengthWith yX0_lengthWith, Cond.code yX0_lengthWith cX0_lengthWith 4 (some .int), Cond.fieldLink RX0 38 "MoorWatch" "lineReaches" "[I", Cond.methodLink RX0 146 yX0_heightIn, Cond.instanceMethod yX0_heightIn, Cond.selects RX0 yX0_heightIn yX0_heightIn, Cond.code yX0_heightIn cX0_heightIn 2 (some .int), Cond.fieldLink RX0 9 "MoorWatch" "tides" "[I", Cond.fieldLink RX0 13 "MoorWatch" "loads" "[I", Cond.methodLink RX0 75 yX0_lengthOver, Cond.static yX0_lengthOver, Cond.code yX0_lengthOver cX0_lengthOver 6 (some .int), Cond.methodLink RX0 101 yX0_tensionAtLength]
def wsX0_bollardsHold_r2 : List Cond := [Cond.instanceMethod yX0_tensionAtLength, Cond.selects RX0 yX0_tensionAtLength yX0_tensionAtLength, Cond.code yX0_tensionAtLength cX0_tensionAtLength 3 (some .int), Cond.fieldLink RX0 50 "MoorWatch" "lineFast" "[Z", Cond.fieldLink RX0 41 "MoorWatch" "lineStiffnesses" "[I", Cond.fieldLink RX0 47 "MoorWatch" "lineSets" "[I", Cond.methodLink RX0 113 Lib.Math.max.name, Cond.static Lib.Math.max.name, Cond.initialized "java/lang/Math", Cond.code Lib.Math.max.name Lib.Math.max.code 2 (some .int)]
def wsX0_bollardsHold : List Cond := .code yX0_bollardsHold cX0_bollardsHold 4 (some .boolean) :: ((wsX0_bollardsHold_r1 ++ wsX0_bollardsHold_r2) ++ wsX00)
def wsX0_holdsIn_r1 : List Cond := [Cond.methodLink RX0 89 yX0_balanceOf, Cond.instanceMethod yX0_balanceOf, Cond.selects RX0 yX0_balanceOf yX0_balanceOf, Cond.initialized RX0, Cond.code yX0_balanceOf cX0_balanceOf 6 (some .int), Cond.methodLink RX0 152 yJ9_floorDiv_7cf53, Cond.static yJ9_floorDiv_7cf53, Cond.initialized RJ9, Cond.code yJ9_floorDiv_7cf53 cJ9_floorDiv_7cf53 3 (some .int), Cond.methodLink RX0 86 yX0_forceWith, Cond.instanceMethod yX0_forceWith, Cond.selects RX0 yX0_forceWith yX0_forceWith, Cond.code yX0_forceWith cX0_forceWith 5 (some .int), Cond.fieldLink RX0 19 "MoorWatch" "wind" "I", Cond.fieldLink RX0 16 "MoorWatch" "passing" "[I", Cond.fieldLink RX0 32 "MoorWatch" "lineCount" "I", Cond.methodLink RX0 149 yX0_pullWith, Cond.instanceMethod yX0_pullWith, Cond.selects RX0 yX0_pullWith yX0_pullWith, Cond.code yX0_pullWith cX0_pullWith 8 (some .int), Cond.fieldLink RX0 38 "MoorWatch" "lineReaches" "[I", Cond.methodLink RX0 146 yX0_heightIn, Cond.instanceMethod yX0_heightIn, Cond.selects RX0 yX0_heightIn yX0_heightIn]
def wsX0_holdsIn_r2 : List Cond := [Cond.code yX0_heightIn cX0_heightIn 2 (some .int), Cond.fieldLink RX0 9 "MoorWatch" "tides" "[I", Cond.fieldLink RX0 13 "MoorWatch" "loads" "[I", Cond.methodLink RX0 75 yX0_lengthOver, Cond.static yX0_lengthOver, Cond.code yX0_lengthOver cX0_lengthOver 6 (some .int), Cond.methodLink RX0 101 yX0_tensionAtLength, Cond.instanceMethod yX0_tensionAtLength, Cond.selects RX0 yX0_tensionAtLength yX0_tensionAtLength, Cond.code yX0_tensionAtLength cX0_tensionAtLength 3 (some .int), Cond.fieldLink RX0 50 "MoorWatch" "lineFast" "[Z", Cond.fieldLink RX0 41 "MoorWatch" "lineStiffnesses" "[I", Cond.fieldLink RX0 47 "MoorWatch" "lineSets" "[I", Cond.methodLink RX0 113 Lib.Math.max.name, Cond.static Lib.Math.max.name, Cond.initialized "java/lang/Math", Cond.code Lib.Math.max.name Lib.Math.max.code 2 (some .int), Cond.methodLink RX0 93 yX0_driftsWith, Cond.instanceMethod yX0_driftsWith, Cond.selects RX0 yX0_driftsWith yX0_driftsWith, Cond.code yX0_driftsWith cX0_driftsWith 3 (some .boolean), Cond.methodLink RX0 155 yX0_linesHold, Cond.instanceMethod yX0_linesHold, Cond.selects RX0 yX0_linesHold yX0_linesHold]
def wsX0_holdsIn_r3 : List Cond := [Cond.code yX0_linesHold cX0_linesHold 5 (some .boolean), Cond.fieldLink RX0 44 "MoorWatch" "lineStrengths" "[I", Cond.methodLink RX0 97 yX0_lengthWith, Cond.instanceMethod yX0_lengthWith, Cond.selects RX0 yX0_lengthWith yX0_lengthWith, Cond.code yX0_lengthWith cX0_lengthWith 4 (some .int), Cond.methodLink RX0 158 yX0_bollardsHold, Cond.instanceMethod yX0_bollardsHold, Cond.selects RX0 yX0_bollardsHold yX0_bollardsHold, Cond.code yX0_bollardsHold cX0_bollardsHold 4 (some .boolean), Cond.fieldLink RX0 23 "MoorWatch" "bollardCount" "I", Cond.fieldLink RX0 29 "MoorWatch" "bollardLimits" "[I", Cond.methodLink RX0 104 yX0_bollardTension, Cond.instanceMethod yX0_bollardTension, Cond.selects RX0 yX0_bollardTension yX0_bollardTension, Cond.code yX0_bollardTension cX0_bollardTension 6 (some .int), Cond.fieldLink RX0 35 "MoorWatch" "lineBollards" "[I"]
def wsX0_holdsIn : List Cond := .code yX0_holdsIn cX0_holdsIn 3 (some .boolean) :: ((wsX0_holdsIn_r1 ++ (wsX0_holdsIn_r2 ++ wsX0_holdsIn_r3)) ++ wsX00)
def wsX0_isSafe_r1 : List Cond := [Cond.methodLink RX0 82 yX0_checkHour, Cond.static yX0_checkHour, Cond.initialized RX0, Cond.code yX0_checkHour cX0_checkHour 1 none, Cond.classLink RX0 135 "java/lang/IndexOutOfBoundsException", Cond.initialized "java/lang/IndexOutOfBoundsException", Cond.methodLink RX0 107 yX0_holdsIn, Cond.instanceMethod yX0_holdsIn, Cond.selects RX0 yX0_holdsIn yX0_holdsIn, Cond.code yX0_holdsIn cX0_holdsIn 3 (some .boolean), Cond.methodLink RX0 89 yX0_balanceOf, Cond.instanceMethod yX0_balanceOf, Cond.selects RX0 yX0_balanceOf yX0_balanceOf, Cond.code yX0_balanceOf cX0_balanceOf 6 (some .int), Cond.methodLink RX0 152 yJ9_floorDiv_7cf53, Cond.static yJ9_floorDiv_7cf53, Cond.initialized RJ9, Cond.code yJ9_floorDiv_7cf53 cJ9_floorDiv_7cf53 3 (some .int), Cond.methodLink RX0 86 yX0_forceWith, Cond.instanceMethod yX0_forceWith, Cond.selects RX0 yX0_forceWith yX0_forceWith, Cond.code yX0_forceWith cX0_forceWith 5 (some .int), Cond.fieldLink RX0 19 "MoorWatch" "wind" "I", Cond.fieldLink RX0 16 "MoorWatch" "passing" "[I"]
def wsX0_isSafe_r2 : List Cond := [Cond.fieldLink RX0 32 "MoorWatch" "lineCount" "I", Cond.methodLink RX0 149 yX0_pullWith, Cond.instanceMethod yX0_pullWith, Cond.selects RX0 yX0_pullWith yX0_pullWith, Cond.code yX0_pullWith cX0_pullWith 8 (some .int), Cond.fieldLink RX0 38 "MoorWatch" "lineReaches" "[I", Cond.methodLink RX0 146 yX0_heightIn, Cond.instanceMethod yX0_heightIn, Cond.selects RX0 yX0_heightIn yX0_heightIn, Cond.code yX0_heightIn cX0_heightIn 2 (some .int), Cond.fieldLink RX0 9 "MoorWatch" "tides" "[I", Cond.fieldLink RX0 13 "MoorWatch" "loads" "[I", Cond.methodLink RX0 75 yX0_lengthOver, Cond.static yX0_lengthOver, Cond.code yX0_lengthOver cX0_lengthOver 6 (some .int), Cond.methodLink RX0 101 yX0_tensionAtLength, Cond.instanceMethod yX0_tensionAtLength, Cond.selects RX0 yX0_tensionAtLength yX0_tensionAtLength, Cond.code yX0_tensionAtLength cX0_tensionAtLength 3 (some .int), Cond.fieldLink RX0 50 "MoorWatch" "lineFast" "[Z", Cond.fieldLink RX0 41 "MoorWatch" "lineStiffnesses" "[I", Cond.fieldLink RX0 47 "MoorWatch" "lineSets" "[I", Cond.methodLink RX0 113 Lib.Math.max.name, Cond.static Lib.Math.max.name]
def wsX0_isSafe_r3 : List Cond := [Cond.initialized "java/lang/Math", Cond.code Lib.Math.max.name Lib.Math.max.code 2 (some .int), Cond.methodLink RX0 93 yX0_driftsWith, Cond.instanceMethod yX0_driftsWith, Cond.selects RX0 yX0_driftsWith yX0_driftsWith, Cond.code yX0_driftsWith cX0_driftsWith 3 (some .boolean), Cond.methodLink RX0 155 yX0_linesHold, Cond.instanceMethod yX0_linesHold, Cond.selects RX0 yX0_linesHold yX0_linesHold, Cond.code yX0_linesHold cX0_linesHold 5 (some .boolean), Cond.fieldLink RX0 44 "MoorWatch" "lineStrengths" "[I", Cond.methodLink RX0 97 yX0_lengthWith, Cond.instanceMethod yX0_lengthWith, Cond.selects RX0 yX0_lengthWith yX0_lengthWith, Cond.code yX0_lengthWith cX0_lengthWith 4 (some .int), Cond.methodLink RX0 158 yX0_bollardsHold, Cond.instanceMethod yX0_bollardsHold, Cond.selects RX0 yX0_bollardsHold yX0_bollardsHold, Cond.code yX0_bollardsHold cX0_bollardsHold 4 (some .boolean), Cond.fieldLink RX0 23 "MoorWatch" "bollardCount" "I", Cond.fieldLink RX0 29 "MoorWatch" "bollardLimits" "[I", Cond.methodLink RX0 104 yX0_bollardTension, Cond.instanceMethod yX0_bollardTension, Cond.selects RX0 yX0_bollardTension yX0_bollardTension]
def wsX0_isSafe_r4 : List Cond := [Cond.code yX0_bollardTension cX0_bollardTension 6 (some .int), Cond.fieldLink RX0 35 "MoorWatch" "lineBollards" "[I"]
def wsX0_isSafe : List Cond := .code yX0_isSafe cX0_isSafe 2 (some .boolean) :: ((wsX0_isSafe_r1 ++ (wsX0_isSafe_r2 ++ (wsX0_isSafe_r3 ++ wsX0_isSafe_r4))) ++ wsX00 ++ (vx_atS RX0 139 "java/lang/IndexOutOfBoundsException" ["java/lang/RuntimeException", "java/lang/Exception"]).filter goodWord)
def wsX0_firstUnsafe_r1 : List Cond := [Cond.methodLink RX0 82 yX0_checkHour, Cond.static yX0_checkHour, Cond.initialized RX0, Cond.code yX0_checkHour cX0_checkHour 1 none, Cond.classLink RX0 135 "java/lang/IndexOutOfBoundsException", Cond.initialized "java/lang/IndexOutOfBoundsException", Cond.methodLink RX0 107 yX0_holdsIn, Cond.instanceMethod yX0_holdsIn, Cond.selects RX0 yX0_holdsIn yX0_holdsIn, Cond.code yX0_holdsIn cX0_holdsIn 3 (some .boolean), Cond.methodLink RX0 89 yX0_balanceOf, Cond.instanceMethod yX0_balanceOf, Cond.selects RX0 yX0_balanceOf yX0_balanceOf, Cond.code yX0_balanceOf cX0_balanceOf 6 (some .int), Cond.methodLink RX0 152 yJ9_floorDiv_7cf53, Cond.static yJ9_floorDiv_7cf53, Cond.initialized RJ9, Cond.code yJ9_floorDiv_7cf53 cJ9_floorDiv_7cf53 3 (some .int), Cond.methodLink RX0 86 yX0_forceWith, Cond.instanceMethod yX0_forceWith, Cond.selects RX0 yX0_forceWith yX0_forceWith, Cond.code yX0_forceWith cX0_forceWith 5 (some .int), Cond.fieldLink RX0 19 "MoorWatch" "wind" "I", Cond.fieldLink RX0 16 "MoorWatch" "passing" "[I"]
def wsX0_firstUnsafe_r2 : List Cond := [Cond.fieldLink RX0 32 "MoorWatch" "lineCount" "I", Cond.methodLink RX0 149 yX0_pullWith, Cond.instanceMethod yX0_pullWith, Cond.selects RX0 yX0_pullWith yX0_pullWith, Cond.code yX0_pullWith cX0_pullWith 8 (some .int), Cond.fieldLink RX0 38 "MoorWatch" "lineReaches" "[I", Cond.methodLink RX0 146 yX0_heightIn, Cond.instanceMethod yX0_heightIn, Cond.selects RX0 yX0_heightIn yX0_heightIn, Cond.code yX0_heightIn cX0_heightIn 2 (some .int), Cond.fieldLink RX0 9 "MoorWatch" "tides" "[I", Cond.fieldLink RX0 13 "MoorWatch" "loads" "[I", Cond.methodLink RX0 75 yX0_lengthOver, Cond.static yX0_lengthOver, Cond.code yX0_lengthOver cX0_lengthOver 6 (some .int), Cond.methodLink RX0 101 yX0_tensionAtLength, Cond.instanceMethod yX0_tensionAtLength, Cond.selects RX0 yX0_tensionAtLength yX0_tensionAtLength, Cond.code yX0_tensionAtLength cX0_tensionAtLength 3 (some .int), Cond.fieldLink RX0 50 "MoorWatch" "lineFast" "[Z", Cond.fieldLink RX0 41 "MoorWatch" "lineStiffnesses" "[I", Cond.fieldLink RX0 47 "MoorWatch" "lineSets" "[I", Cond.methodLink RX0 113 Lib.Math.max.name, Cond.static Lib.Math.max.name]
def wsX0_firstUnsafe_r3 : List Cond := [Cond.initialized "java/lang/Math", Cond.code Lib.Math.max.name Lib.Math.max.code 2 (some .int), Cond.methodLink RX0 93 yX0_driftsWith, Cond.instanceMethod yX0_driftsWith, Cond.selects RX0 yX0_driftsWith yX0_driftsWith, Cond.code yX0_driftsWith cX0_driftsWith 3 (some .boolean), Cond.methodLink RX0 155 yX0_linesHold, Cond.instanceMethod yX0_linesHold, Cond.selects RX0 yX0_linesHold yX0_linesHold, Cond.code yX0_linesHold cX0_linesHold 5 (some .boolean), Cond.fieldLink RX0 44 "MoorWatch" "lineStrengths" "[I", Cond.methodLink RX0 97 yX0_lengthWith, Cond.instanceMethod yX0_lengthWith, Cond.selects RX0 yX0_lengthWith yX0_lengthWith, Cond.code yX0_lengthWith cX0_lengthWith 4 (some .int), Cond.methodLink RX0 158 yX0_bollardsHold, Cond.instanceMethod yX0_bollardsHold, Cond.selects RX0 yX0_bollardsHold yX0_bollardsHold, Cond.code yX0_bollardsHold cX0_bollardsHold 4 (some .boolean), Cond.fieldLink RX0 23 "MoorWatch" "bollardCount" "I", Cond.fieldLink RX0 29 "MoorWatch" "bollardLimits" "[I", Cond.methodLink RX0 104 yX0_bollardTension, Cond.instanceMethod yX0_bollardTension, Cond.selects RX0 yX0_bollardTension yX0_bollardTension]
def wsX0_firstUnsafe_r4 : List Cond := [Cond.code yX0_bollardTension cX0_bollardTension 6 (some .int), Cond.fieldLink RX0 35 "MoorWatch" "lineBollards" "[I"]
def wsX0_firstUnsafe : List Cond := .code yX0_firstUnsafe cX0_firstUnsafe 3 (some .int) :: ((wsX0_firstUnsafe_r1 ++ (wsX0_firstUnsafe_r2 ++ (wsX0_firstUnsafe_r3 ++ wsX0_firstUnsafe_r4))) ++ wsX00 ++ (vx_atS RX0 139 "java/lang/IndexOutOfBoundsException" ["java/lang/RuntimeException", "java/lang/Exception"]).filter goodWord)
def wsX0_tend_r1 : List Cond := [Cond.classLink RX0 62 "java/lang/IllegalStateException", Cond.initialized "java/lang/IllegalStateException", Cond.fieldLink RX0 50 "MoorWatch" "lineFast" "[Z", Cond.fieldLink RX0 47 "MoorWatch" "lineSets" "[I", Cond.methodLink RX0 113 Lib.Math.max.name, Cond.static Lib.Math.max.name, Cond.initialized "java/lang/Math", Cond.code Lib.Math.max.name Lib.Math.max.code 2 (some .int), Cond.methodLink RX0 79 yX0_checkLine, Cond.instanceMethod yX0_checkLine, Cond.selects RX0 yX0_checkLine yX0_checkLine, Cond.initialized RX0, Cond.code yX0_checkLine cX0_checkLine 2 none, Cond.classLink RX0 135 "java/lang/IndexOutOfBoundsException", Cond.initialized "java/lang/IndexOutOfBoundsException", Cond.fieldLink RX0 32 "MoorWatch" "lineCount" "I", Cond.methodLink RX0 82 yX0_checkHour, Cond.static yX0_checkHour, Cond.code yX0_checkHour cX0_checkHour 1 none, Cond.methodLink RX0 57 yX0_checkRange, Cond.static yX0_checkRange, Cond.code yX0_checkRange cX0_checkRange 3 none, Cond.classLink RX0 121 "java/lang/IllegalArgumentException", Cond.initialized "java/lang/IllegalArgumentException"]
def wsX0_tend_r2 : List Cond := [Cond.methodLink RX0 89 yX0_balanceOf, Cond.instanceMethod yX0_balanceOf, Cond.selects RX0 yX0_balanceOf yX0_balanceOf, Cond.code yX0_balanceOf cX0_balanceOf 6 (some .int), Cond.methodLink RX0 152 yJ9_floorDiv_7cf53, Cond.static yJ9_floorDiv_7cf53, Cond.initialized RJ9, Cond.code yJ9_floorDiv_7cf53 cJ9_floorDiv_7cf53 3 (some .int), Cond.methodLink RX0 86 yX0_forceWith, Cond.instanceMethod yX0_forceWith, Cond.selects RX0 yX0_forceWith yX0_forceWith, Cond.code yX0_forceWith cX0_forceWith 5 (some .int), Cond.fieldLink RX0 19 "MoorWatch" "wind" "I", Cond.fieldLink RX0 16 "MoorWatch" "passing" "[I", Cond.methodLink RX0 149 yX0_pullWith, Cond.instanceMethod yX0_pullWith, Cond.selects RX0 yX0_pullWith yX0_pullWith, Cond.code yX0_pullWith cX0_pullWith 8 (some .int), Cond.fieldLink RX0 38 "MoorWatch" "lineReaches" "[I", Cond.methodLink RX0 146 yX0_heightIn, Cond.instanceMethod yX0_heightIn, Cond.selects RX0 yX0_heightIn yX0_heightIn, Cond.code yX0_heightIn cX0_heightIn 2 (some .int), Cond.fieldLink RX0 9 "MoorWatch" "tides" "[I"]
def wsX0_tend_r3 : List Cond := [Cond.fieldLink RX0 13 "MoorWatch" "loads" "[I", Cond.methodLink RX0 75 yX0_lengthOver, Cond.static yX0_lengthOver, Cond.code yX0_lengthOver cX0_lengthOver 6 (some .int), Cond.methodLink RX0 101 yX0_tensionAtLength, Cond.instanceMethod yX0_tensionAtLength, Cond.selects RX0 yX0_tensionAtLength yX0_tensionAtLength, Cond.code yX0_tensionAtLength cX0_tensionAtLength 3 (some .int), Cond.fieldLink RX0 41 "MoorWatch" "lineStiffnesses" "[I", Cond.methodLink RX0 97 yX0_lengthWith, Cond.instanceMethod yX0_lengthWith, Cond.selects RX0 yX0_lengthWith yX0_lengthWith, Cond.code yX0_lengthWith cX0_lengthWith 4 (some .int)]
def wsX0_tend : List Cond := .code yX0_tend cX0_tend 4 (some .int) :: ((wsX0_tend_r1 ++ (wsX0_tend_r2 ++ wsX0_tend_r3)) ++ wsX00 ++ (vx_atS RX0 66 "java/lang/IllegalStateException" ["java/lang/RuntimeException", "java/lang/Exception"]).filter goodWord ++ (vx_atS RX0 139 "java/lang/IndexOutOfBoundsException" ["java/lang/RuntimeException", "java/lang/Exception"]).filter goodWord ++ (vx_atS RX0 125 "java/lang/IllegalArgumentException" ["java/lang/RuntimeException", "java/lang/Exception"]).filter goodWord)
def wsX0_tendFastLines_r1 : List Cond := [Cond.fieldLink RX0 32 "MoorWatch" "lineCount" "I", Cond.fieldLink RX0 50 "MoorWatch" "lineFast" "[Z", Cond.fieldLink RX0 47 "MoorWatch" "lineSets" "[I", Cond.methodLink RX0 89 yX0_balanceOf, Cond.instanceMethod yX0_balanceOf, Cond.selects RX0 yX0_balanceOf yX0_balanceOf, Cond.initialized RX0, Cond.code yX0_balanceOf cX0_balanceOf 6 (some .int), Cond.methodLink RX0 152 yJ9_floorDiv_7cf53, Cond.static yJ9_floorDiv_7cf53, Cond.initialized RJ9, Cond.code yJ9_floorDiv_7cf53 cJ9_floorDiv_7cf53 3 (some .int), Cond.methodLink RX0 86 yX0_forceWith, Cond.instanceMethod yX0_forceWith, Cond.selects RX0 yX0_forceWith yX0_forceWith, Cond.code yX0_forceWith cX0_forceWith 5 (some .int), Cond.fieldLink RX0 19 "MoorWatch" "wind" "I", Cond.fieldLink RX0 16 "MoorWatch" "passing" "[I", Cond.methodLink RX0 149 yX0_pullWith, Cond.instanceMethod yX0_pullWith, Cond.selects RX0 yX0_pullWith yX0_pullWith, Cond.code yX0_pullWith cX0_pullWith 8 (some .int), Cond.fieldLink RX0 38 "MoorWatch" "lineReaches" "[I", Cond.methodLink RX0 146 yX0_heightIn]
def wsX0_tendFastLines_r2 : List Cond := [Cond.instanceMethod yX0_heightIn, Cond.selects RX0 yX0_heightIn yX0_heightIn, Cond.code yX0_heightIn cX0_heightIn 2 (some .int), Cond.fieldLink RX0 9 "MoorWatch" "tides" "[I", Cond.fieldLink RX0 13 "MoorWatch" "loads" "[I", Cond.methodLink RX0 75 yX0_lengthOver, Cond.static yX0_lengthOver, Cond.code yX0_lengthOver cX0_lengthOver 6 (some .int), Cond.methodLink RX0 101 yX0_tensionAtLength, Cond.instanceMethod yX0_tensionAtLength, Cond.selects RX0 yX0_tensionAtLength yX0_tensionAtLength, Cond.code yX0_tensionAtLength cX0_tensionAtLength 3 (some .int), Cond.fieldLink RX0 41 "MoorWatch" "lineStiffnesses" "[I", Cond.methodLink RX0 113 Lib.Math.max.name, Cond.static Lib.Math.max.name, Cond.initialized "java/lang/Math", Cond.code Lib.Math.max.name Lib.Math.max.code 2 (some .int), Cond.methodLink RX0 97 yX0_lengthWith, Cond.instanceMethod yX0_lengthWith, Cond.selects RX0 yX0_lengthWith yX0_lengthWith, Cond.code yX0_lengthWith cX0_lengthWith 4 (some .int)]
def wsX0_tendFastLines : List Cond := .code yX0_tendFastLines cX0_tendFastLines 6 (some .int) :: ((wsX0_tendFastLines_r1 ++ wsX0_tendFastLines_r2) ++ wsX00)
def wsX0_tendAll_r1 : List Cond := [Cond.methodLink RX0 82 yX0_checkHour, Cond.static yX0_checkHour, Cond.initialized RX0, Cond.code yX0_checkHour cX0_checkHour 1 none, Cond.classLink RX0 135 "java/lang/IndexOutOfBoundsException", Cond.initialized "java/lang/IndexOutOfBoundsException", Cond.methodLink RX0 118 yX0_tendFastLines, Cond.instanceMethod yX0_tendFastLines, Cond.selects RX0 yX0_tendFastLines yX0_tendFastLines, Cond.code yX0_tendFastLines cX0_tendFastLines 6 (some .int), Cond.fieldLink RX0 32 "MoorWatch" "lineCount" "I", Cond.fieldLink RX0 50 "MoorWatch" "lineFast" "[Z", Cond.fieldLink RX0 47 "MoorWatch" "lineSets" "[I", Cond.methodLink RX0 89 yX0_balanceOf, Cond.instanceMethod yX0_balanceOf, Cond.selects RX0 yX0_balanceOf yX0_balanceOf, Cond.code yX0_balanceOf cX0_balanceOf 6 (some .int), Cond.methodLink RX0 152 yJ9_floorDiv_7cf53, Cond.static yJ9_floorDiv_7cf53, Cond.initialized RJ9, Cond.code yJ9_floorDiv_7cf53 cJ9_floorDiv_7cf53 3 (some .int), Cond.methodLink RX0 86 yX0_forceWith, Cond.instanceMethod yX0_forceWith, Cond.selects RX0 yX0_forceWith yX0_forceWith]
def wsX0_tendAll_r2 : List Cond := [Cond.code yX0_forceWith cX0_forceWith 5 (some .int), Cond.fieldLink RX0 19 "MoorWatch" "wind" "I", Cond.fieldLink RX0 16 "MoorWatch" "passing" "[I", Cond.methodLink RX0 149 yX0_pullWith, Cond.instanceMethod yX0_pullWith, Cond.selects RX0 yX0_pullWith yX0_pullWith, Cond.code yX0_pullWith cX0_pullWith 8 (some .int), Cond.fieldLink RX0 38 "MoorWatch" "lineReaches" "[I", Cond.methodLink RX0 146 yX0_heightIn, Cond.instanceMethod yX0_heightIn, Cond.selects RX0 yX0_heightIn yX0_heightIn, Cond.code yX0_heightIn cX0_heightIn 2 (some .int), Cond.fieldLink RX0 9 "MoorWatch" "tides" "[I", Cond.fieldLink RX0 13 "MoorWatch" "loads" "[I", Cond.methodLink RX0 75 yX0_lengthOver, Cond.static yX0_lengthOver, Cond.code yX0_lengthOver cX0_lengthOver 6 (some .int), Cond.methodLink RX0 101 yX0_tensionAtLength, Cond.instanceMethod yX0_tensionAtLength, Cond.selects RX0 yX0_tensionAtLength yX0_tensionAtLength, Cond.code yX0_tensionAtLength cX0_tensionAtLength 3 (some .int), Cond.fieldLink RX0 41 "MoorWatch" "lineStiffnesses" "[I", Cond.methodLink RX0 113 Lib.Math.max.name, Cond.static Lib.Math.max.name]
def wsX0_tendAll_r3 : List Cond := [Cond.initialized "java/lang/Math", Cond.code Lib.Math.max.name Lib.Math.max.code 2 (some .int), Cond.methodLink RX0 97 yX0_lengthWith, Cond.instanceMethod yX0_lengthWith, Cond.selects RX0 yX0_lengthWith yX0_lengthWith, Cond.code yX0_lengthWith cX0_lengthWith 4 (some .int)]
def wsX0_tendAll : List Cond := .code yX0_tendAll cX0_tendAll 2 (some .int) :: ((wsX0_tendAll_r1 ++ (wsX0_tendAll_r2 ++ wsX0_tendAll_r3)) ++ wsX00 ++ (vx_atS RX0 139 "java/lang/IndexOutOfBoundsException" ["java/lang/RuntimeException", "java/lang/Exception"]).filter goodWord)
def wsX0_tendThrough_r1 : List Cond := [Cond.methodLink RX0 107 yX0_holdsIn, Cond.instanceMethod yX0_holdsIn, Cond.selects RX0 yX0_holdsIn yX0_holdsIn, Cond.initialized RX0, Cond.code yX0_holdsIn cX0_holdsIn 3 (some .boolean), Cond.methodLink RX0 89 yX0_balanceOf, Cond.instanceMethod yX0_balanceOf, Cond.selects RX0 yX0_balanceOf yX0_balanceOf, Cond.code yX0_balanceOf cX0_balanceOf 6 (some .int), Cond.methodLink RX0 152 yJ9_floorDiv_7cf53, Cond.static yJ9_floorDiv_7cf53, Cond.initialized RJ9, Cond.code yJ9_floorDiv_7cf53 cJ9_floorDiv_7cf53 3 (some .int), Cond.methodLink RX0 86 yX0_forceWith, Cond.instanceMethod yX0_forceWith, Cond.selects RX0 yX0_forceWith yX0_forceWith, Cond.code yX0_forceWith cX0_forceWith 5 (some .int), Cond.fieldLink RX0 19 "MoorWatch" "wind" "I", Cond.fieldLink RX0 16 "MoorWatch" "passing" "[I", Cond.fieldLink RX0 32 "MoorWatch" "lineCount" "I", Cond.methodLink RX0 149 yX0_pullWith, Cond.instanceMethod yX0_pullWith, Cond.selects RX0 yX0_pullWith yX0_pullWith, Cond.code yX0_pullWith cX0_pullWith 8 (some .int)]
def wsX0_tendThrough_r2 : List Cond := [Cond.fieldLink RX0 38 "MoorWatch" "lineReaches" "[I", Cond.methodLink RX0 146 yX0_heightIn, Cond.instanceMethod yX0_heightIn, Cond.selects RX0 yX0_heightIn yX0_heightIn, Cond.code yX0_heightIn cX0_heightIn 2 (some .int), Cond.fieldLink RX0 9 "MoorWatch" "tides" "[I", Cond.fieldLink RX0 13 "MoorWatch" "loads" "[I", Cond.methodLink RX0 75 yX0_lengthOver, Cond.static yX0_lengthOver, Cond.code yX0_lengthOver cX0_lengthOver 6 (some .int), Cond.methodLink RX0 101 yX0_tensionAtLength, Cond.instanceMethod yX0_tensionAtLength, Cond.selects RX0 yX0_tensionAtLength yX0_tensionAtLength, Cond.code yX0_tensionAtLength cX0_tensionAtLength 3 (some .int), Cond.fieldLink RX0 50 "MoorWatch" "lineFast" "[Z", Cond.fieldLink RX0 41 "MoorWatch" "lineStiffnesses" "[I", Cond.fieldLink RX0 47 "MoorWatch" "lineSets" "[I", Cond.methodLink RX0 113 Lib.Math.max.name, Cond.static Lib.Math.max.name, Cond.initialized "java/lang/Math", Cond.code Lib.Math.max.name Lib.Math.max.code 2 (some .int), Cond.methodLink RX0 93 yX0_driftsWith, Cond.instanceMethod yX0_driftsWith, Cond.selects RX0 yX0_driftsWith yX0_driftsWith]
def wsX0_tendThrough_r3 : List Cond := [Cond.code yX0_driftsWith cX0_driftsWith 3 (some .boolean), Cond.methodLink RX0 155 yX0_linesHold, Cond.instanceMethod yX0_linesHold, Cond.selects RX0 yX0_linesHold yX0_linesHold, Cond.code yX0_linesHold cX0_linesHold 5 (some .boolean), Cond.fieldLink RX0 44 "MoorWatch" "lineStrengths" "[I", Cond.methodLink RX0 97 yX0_lengthWith, Cond.instanceMethod yX0_lengthWith, Cond.selects RX0 yX0_lengthWith yX0_lengthWith, Cond.code yX0_lengthWith cX0_lengthWith 4 (some .int), Cond.methodLink RX0 158 yX0_bollardsHold, Cond.instanceMethod yX0_bollardsHold, Cond.selects RX0 yX0_bollardsHold yX0_bollardsHold, Cond.code yX0_bollardsHold cX0_bollardsHold 4 (some .boolean), Cond.fieldLink RX0 23 "MoorWatch" "bollardCount" "I", Cond.fieldLink RX0 29 "MoorWatch" "bollardLimits" "[I", Cond.methodLink RX0 104 yX0_bollardTension, Cond.instanceMethod yX0_bollardTension, Cond.selects RX0 yX0_bollardTension yX0_bollardTension, Cond.code yX0_bollardTension cX0_bollardTension 6 (some .int), Cond.fieldLink RX0 35 "MoorWatch" "lineBollards" "[I", Cond.methodLink RX0 118 yX0_tendFastLines, Cond.instanceMethod yX0_tendFastLines, Cond.selects RX0 yX0_tendFastLines yX0_tendFastLines]
def wsX0_tendThrough_r4 : List Cond := [Cond.code yX0_tendFastLines cX0_tendFastLines 6 (some .int)]
def wsX0_tendThrough : List Cond := .code yX0_tendThrough cX0_tendThrough 5 (some .int) :: ((wsX0_tendThrough_r1 ++ (wsX0_tendThrough_r2 ++ (wsX0_tendThrough_r3 ++ wsX0_tendThrough_r4))) ++ wsX00)
def wsX0_plan_r1 : List Cond := [Cond.classLink RX0 121 "java/lang/IllegalArgumentException", Cond.initialized "java/lang/IllegalArgumentException", Cond.fieldLink RX0 47 "MoorWatch" "lineSets" "[I", Cond.fieldLink RX0 54 "MoorWatch" "setsBeforePlan" "[I", Cond.methodLink RX0 126 arraycopyName, Cond.native arraycopyName, Cond.static arraycopyName, Cond.initialized "java/lang/System", Cond.methodLink RX0 82 yX0_checkHour, Cond.static yX0_checkHour, Cond.initialized RX0, Cond.code yX0_checkHour cX0_checkHour 1 none, Cond.classLink RX0 135 "java/lang/IndexOutOfBoundsException", Cond.initialized "java/lang/IndexOutOfBoundsException", Cond.methodLink RX0 132 yX0_tendThrough, Cond.instanceMethod yX0_tendThrough, Cond.selects RX0 yX0_tendThrough yX0_tendThrough, Cond.code yX0_tendThrough cX0_tendThrough 5 (some .int), Cond.methodLink RX0 107 yX0_holdsIn, Cond.instanceMethod yX0_holdsIn, Cond.selects RX0 yX0_holdsIn yX0_holdsIn, Cond.code yX0_holdsIn cX0_holdsIn 3 (some .boolean), Cond.methodLink RX0 89 yX0_balanceOf, Cond.instanceMethod yX0_balanceOf]
def wsX0_plan_r2 : List Cond := [Cond.selects RX0 yX0_balanceOf yX0_balanceOf, Cond.code yX0_balanceOf cX0_balanceOf 6 (some .int), Cond.methodLink RX0 152 yJ9_floorDiv_7cf53, Cond.static yJ9_floorDiv_7cf53, Cond.initialized RJ9, Cond.code yJ9_floorDiv_7cf53 cJ9_floorDiv_7cf53 3 (some .int), Cond.methodLink RX0 86 yX0_forceWith, Cond.instanceMethod yX0_forceWith, Cond.selects RX0 yX0_forceWith yX0_forceWith, Cond.code yX0_forceWith cX0_forceWith 5 (some .int), Cond.fieldLink RX0 19 "MoorWatch" "wind" "I", Cond.fieldLink RX0 16 "MoorWatch" "passing" "[I", Cond.fieldLink RX0 32 "MoorWatch" "lineCount" "I", Cond.methodLink RX0 149 yX0_pullWith, Cond.instanceMethod yX0_pullWith, Cond.selects RX0 yX0_pullWith yX0_pullWith, Cond.code yX0_pullWith cX0_pullWith 8 (some .int), Cond.fieldLink RX0 38 "MoorWatch" "lineReaches" "[I", Cond.methodLink RX0 146 yX0_heightIn, Cond.instanceMethod yX0_heightIn, Cond.selects RX0 yX0_heightIn yX0_heightIn, Cond.code yX0_heightIn cX0_heightIn 2 (some .int), Cond.fieldLink RX0 9 "MoorWatch" "tides" "[I", Cond.fieldLink RX0 13 "MoorWatch" "loads" "[I"]
def wsX0_plan_r3 : List Cond := [Cond.methodLink RX0 75 yX0_lengthOver, Cond.static yX0_lengthOver, Cond.code yX0_lengthOver cX0_lengthOver 6 (some .int), Cond.methodLink RX0 101 yX0_tensionAtLength, Cond.instanceMethod yX0_tensionAtLength, Cond.selects RX0 yX0_tensionAtLength yX0_tensionAtLength, Cond.code yX0_tensionAtLength cX0_tensionAtLength 3 (some .int), Cond.fieldLink RX0 50 "MoorWatch" "lineFast" "[Z", Cond.fieldLink RX0 41 "MoorWatch" "lineStiffnesses" "[I", Cond.methodLink RX0 113 Lib.Math.max.name, Cond.static Lib.Math.max.name, Cond.initialized "java/lang/Math", Cond.code Lib.Math.max.name Lib.Math.max.code 2 (some .int), Cond.methodLink RX0 93 yX0_driftsWith, Cond.instanceMethod yX0_driftsWith, Cond.selects RX0 yX0_driftsWith yX0_driftsWith, Cond.code yX0_driftsWith cX0_driftsWith 3 (some .boolean), Cond.methodLink RX0 155 yX0_linesHold, Cond.instanceMethod yX0_linesHold, Cond.selects RX0 yX0_linesHold yX0_linesHold, Cond.code yX0_linesHold cX0_linesHold 5 (some .boolean), Cond.fieldLink RX0 44 "MoorWatch" "lineStrengths" "[I", Cond.methodLink RX0 97 yX0_lengthWith, Cond.instanceMethod yX0_lengthWith]
def wsX0_plan_r4 : List Cond := [Cond.selects RX0 yX0_lengthWith yX0_lengthWith, Cond.code yX0_lengthWith cX0_lengthWith 4 (some .int), Cond.methodLink RX0 158 yX0_bollardsHold, Cond.instanceMethod yX0_bollardsHold, Cond.selects RX0 yX0_bollardsHold yX0_bollardsHold, Cond.code yX0_bollardsHold cX0_bollardsHold 4 (some .boolean), Cond.fieldLink RX0 23 "MoorWatch" "bollardCount" "I", Cond.fieldLink RX0 29 "MoorWatch" "bollardLimits" "[I", Cond.methodLink RX0 104 yX0_bollardTension, Cond.instanceMethod yX0_bollardTension, Cond.selects RX0 yX0_bollardTension yX0_bollardTension, Cond.code yX0_bollardTension cX0_bollardTension 6 (some .int), Cond.fieldLink RX0 35 "MoorWatch" "lineBollards" "[I", Cond.methodLink RX0 118 yX0_tendFastLines, Cond.instanceMethod yX0_tendFastLines, Cond.selects RX0 yX0_tendFastLines yX0_tendFastLines, Cond.code yX0_tendFastLines cX0_tendFastLines 6 (some .int)]
def wsX0_plan : List Cond := .code yX0_plan cX0_plan 4 (some .int) :: ((wsX0_plan_r1 ++ (wsX0_plan_r2 ++ (wsX0_plan_r3 ++ wsX0_plan_r4))) ++ wsX00 ++ (vx_atS RX0 125 "java/lang/IllegalArgumentException" ["java/lang/RuntimeException", "java/lang/Exception"]).filter goodWord ++ (vx_atS RX0 139 "java/lang/IndexOutOfBoundsException" ["java/lang/RuntimeException", "java/lang/Exception"]).filter goodWord)
def wsX1_init : List Cond := .code yX1_init cX1_init 1 none :: ([.methodLink RX1 1 objectInit, .instanceMethod objectInit, .code objectInit ⟨#[0xb1]⟩ 1 none, .arrayClass .int, .fieldLink RX1 7 "MoorWatchModel" "places" "[I", .fieldLink RX1 13 "MoorWatchModel" "limits" "[I", .fieldLink RX1 16 "MoorWatchModel" "points" "[I", .fieldLink RX1 19 "MoorWatchModel" "fastTo" "[I", .fieldLink RX1 22 "MoorWatchModel" "stiffness" "[I", .fieldLink RX1 25 "MoorWatchModel" "strengths" "[I", .fieldLink RX1 28 "MoorWatchModel" "sets" "[I", .arrayClass .boolean, .fieldLink RX1 31 "MoorWatchModel" "gone" "[Z", .fieldLink RX1 35 "MoorWatchModel" "tides" "[I", .fieldLink RX1 38 "MoorWatchModel" "loads" "[I", .fieldLink RX1 41 "MoorWatchModel" "passings" "[I", .fieldLink RX1 44 "MoorWatchModel" "kept" "[I"] ++ wsX10)
def wsX1_thrown : List Cond := .code yX1_thrown cX1_thrown 1 (some .int) :: ([.fieldLink RX1 47 "MoorWatchModel" "last" "I"] ++ wsX10)
def wsX1_in : List Cond := .code yX1_in cX1_in 3 (some .boolean) :: ([])
def wsX1_goes : List Cond := .code yX1_goes cX1_goes 4 (some .boolean) :: ([.fieldLink RX1 47 "MoorWatchModel" "last" "I"] ++ wsX10)
def wsX1_isHour : List Cond := .code yX1_isHour cX1_isHour 1 (some .boolean) :: ([.methodLink RX1 51 yX1_in, .static yX1_in, .initialized RX1, .code yX1_in cX1_in 3 (some .boolean)])
def wsX1_isLine : List Cond := .code yX1_isLine cX1_isLine 2 (some .boolean) :: ([.fieldLink RX1 55 "MoorWatchModel" "lines" "I", .methodLink RX1 51 yX1_in, .static yX1_in, .initialized RX1, .code yX1_in cX1_in 3 (some .boolean)] ++ wsX10)
def wsX1_addBollard : List Cond := .code yX1_addBollard cX1_addBollard 3 (some .int) :: ([.constant RX1 58 (1000000), .fieldLink RX1 59 "MoorWatchModel" "bollards" "I", .fieldLink RX1 7 "MoorWatchModel" "places" "[I", .fieldLink RX1 13 "MoorWatchModel" "limits" "[I", .methodLink RX1 51 yX1_in, .static yX1_in, .initialized RX1, .code yX1_in cX1_in 3 (some .boolean), .methodLink RX1 62 yX1_goes, .instanceMethod yX1_goes, .selects RX1 yX1_goes yX1_goes, .code yX1_goes cX1_goes 4 (some .boolean), .fieldLink RX1 47 "MoorWatchModel" "last" "I"] ++ wsX10)
def wsX1_root : List Cond := .code yX1_root cX1_root 6 (some .int) :: ([])
def wsX1_addLine : List Cond := .code yX1_addLine cX1_addLine 7 (some .int) :: ([.fieldLink RX1 59 "MoorWatchModel" "bollards" "I", .constant RX1 58 (1000000), .fieldLink RX1 55 "MoorWatchModel" "lines" "I", .fieldLink RX1 16 "MoorWatchModel" "points" "[I", .fieldLink RX1 19 "MoorWatchModel" "fastTo" "[I", .fieldLink RX1 22 "MoorWatchModel" "stiffness" "[I", .fieldLink RX1 25 "MoorWatchModel" "strengths" "[I", .fieldLink RX1 28 "MoorWatchModel" "sets" "[I", .fieldLink RX1 7 "MoorWatchModel" "places" "[I", .methodLink RX1 51 yX1_in, .static yX1_in, .initialized RX1, .code yX1_in cX1_in 3 (some .boolean), .methodLink RX1 62 yX1_goes, .instanceMethod yX1_goes, .selects RX1 yX1_goes yX1_goes, .code yX1_goes cX1_goes 4 (some .boolean), .fieldLink RX1 47 "MoorWatchModel" "last" "I", .methodLink RX1 66 yX1_root, .static yX1_root, .code yX1_root cX1_root 6 (some .int)] ++ wsX10)
def wsX1_toggle : List Cond := .code yX1_toggle cX1_toggle 2 (some .boolean) :: ([.fieldLink RX1 31 "MoorWatchModel" "gone" "[Z", .methodLink RX1 70 yX1_isLine, .instanceMethod yX1_isLine, .selects RX1 yX1_isLine yX1_isLine, .initialized RX1, .code yX1_isLine cX1_isLine 2 (some .boolean), .fieldLink RX1 55 "MoorWatchModel" "lines" "I", .methodLink RX1 51 yX1_in, .static yX1_in, .code yX1_in cX1_in 3 (some .boolean), .methodLink RX1 62 yX1_goes, .instanceMethod yX1_goes, .selects RX1 yX1_goes yX1_goes, .code yX1_goes cX1_goes 4 (some .boolean), .fieldLink RX1 47 "MoorWatchModel" "last" "I"] ++ wsX10)
def wsX1_setTide : List Cond := .code yX1_setTide cX1_setTide 4 (some .int) :: ([.fieldLink RX1 35 "MoorWatchModel" "tides" "[I", .methodLink RX1 74 yX1_isHour, .static yX1_isHour, .initialized RX1, .code yX1_isHour cX1_isHour 1 (some .boolean), .methodLink RX1 51 yX1_in, .static yX1_in, .code yX1_in cX1_in 3 (some .boolean), .methodLink RX1 62 yX1_goes, .instanceMethod yX1_goes, .selects RX1 yX1_goes yX1_goes, .code yX1_goes cX1_goes 4 (some .boolean), .fieldLink RX1 47 "MoorWatchModel" "last" "I"] ++ wsX10)
def wsX1_setLoad : List Cond := .code yX1_setLoad cX1_setLoad 5 (some .int) :: ([.fieldLink RX1 38 "MoorWatchModel" "loads" "[I", .methodLink RX1 74 yX1_isHour, .static yX1_isHour, .initialized RX1, .code yX1_isHour cX1_isHour 1 (some .boolean), .methodLink RX1 51 yX1_in, .static yX1_in, .code yX1_in cX1_in 3 (some .boolean), .methodLink RX1 62 yX1_goes, .instanceMethod yX1_goes, .selects RX1 yX1_goes yX1_goes, .code yX1_goes cX1_goes 4 (some .boolean), .fieldLink RX1 47 "MoorWatchModel" "last" "I"] ++ wsX10)
def wsX1_setWind : List Cond := .code yX1_setWind cX1_setWind 3 (some .int) :: ([.constant RX1 77 (-1000000), .constant RX1 58 (1000000), .fieldLink RX1 78 "MoorWatchModel" "wind" "I", .methodLink RX1 51 yX1_in, .static yX1_in, .initialized RX1, .code yX1_in cX1_in 3 (some .boolean), .methodLink RX1 62 yX1_goes, .instanceMethod yX1_goes, .selects RX1 yX1_goes yX1_goes, .code yX1_goes cX1_goes 4 (some .boolean), .fieldLink RX1 47 "MoorWatchModel" "last" "I"] ++ wsX10)
def wsX1_setPassing : List Cond := .code yX1_setPassing cX1_setPassing 4 (some .int) :: ([.constant RX1 77 (-1000000), .constant RX1 58 (1000000), .fieldLink RX1 41 "MoorWatchModel" "passings" "[I", .methodLink RX1 74 yX1_isHour, .static yX1_isHour, .initialized RX1, .code yX1_isHour cX1_isHour 1 (some .boolean), .methodLink RX1 51 yX1_in, .static yX1_in, .code yX1_in cX1_in 3 (some .boolean), .methodLink RX1 62 yX1_goes, .instanceMethod yX1_goes, .selects RX1 yX1_goes yX1_goes, .code yX1_goes cX1_goes 4 (some .boolean), .fieldLink RX1 47 "MoorWatchModel" "last" "I"] ++ wsX10)
def wsX1_away : List Cond := .code yX1_away cX1_away 3 (some .int) :: ([.fieldLink RX1 7 "MoorWatchModel" "places" "[I", .fieldLink RX1 19 "MoorWatchModel" "fastTo" "[I", .fieldLink RX1 16 "MoorWatchModel" "points" "[I"] ++ wsX10)
def wsX1_lengthAt : List Cond := .code yX1_lengthAt cX1_lengthAt 4 (some .int) :: ([.fieldLink RX1 35 "MoorWatchModel" "tides" "[I", .fieldLink RX1 38 "MoorWatchModel" "loads" "[I", .methodLink RX1 81 yX1_away, .instanceMethod yX1_away, .selects RX1 yX1_away yX1_away, .initialized RX1, .code yX1_away cX1_away 3 (some .int), .fieldLink RX1 7 "MoorWatchModel" "places" "[I", .fieldLink RX1 19 "MoorWatchModel" "fastTo" "[I", .fieldLink RX1 16 "MoorWatchModel" "points" "[I", .methodLink RX1 66 yX1_root, .static yX1_root, .code yX1_root cX1_root 6 (some .int)] ++ wsX10)
def wsX1_tensionAt : List Cond := .code yX1_tensionAt cX1_tensionAt 5 (some .int) :: ([.fieldLink RX1 28 "MoorWatchModel" "sets" "[I", .fieldLink RX1 31 "MoorWatchModel" "gone" "[Z", .fieldLink RX1 22 "MoorWatchModel" "stiffness" "[I", .methodLink RX1 84 yX1_lengthAt, .instanceMethod yX1_lengthAt, .selects RX1 yX1_lengthAt yX1_lengthAt, .initialized RX1, .code yX1_lengthAt cX1_lengthAt 4 (some .int), .fieldLink RX1 35 "MoorWatchModel" "tides" "[I", .fieldLink RX1 38 "MoorWatchModel" "loads" "[I", .methodLink RX1 81 yX1_away, .instanceMethod yX1_away, .selects RX1 yX1_away yX1_away, .code yX1_away cX1_away 3 (some .int), .fieldLink RX1 7 "MoorWatchModel" "places" "[I", .fieldLink RX1 19 "MoorWatchModel" "fastTo" "[I", .fieldLink RX1 16 "MoorWatchModel" "points" "[I", .methodLink RX1 66 yX1_root, .static yX1_root, .code yX1_root cX1_root 6 (some .int)] ++ wsX10)
def wsX1_forceAt_r1 : List Cond := [Cond.fieldLink RX1 78 "MoorWatchModel" "wind" "I", Cond.fieldLink RX1 41 "MoorWatchModel" "passings" "[I", Cond.fieldLink RX1 55 "MoorWatchModel" "lines" "I", Cond.methodLink RX1 84 yX1_lengthAt, Cond.instanceMethod yX1_lengthAt, Cond.selects RX1 yX1_lengthAt yX1_lengthAt, Cond.initialized RX1, Cond.code yX1_lengthAt cX1_lengthAt 4 (some .int), Cond.fieldLink RX1 35 "MoorWatchModel" "tides" "[I", Cond.fieldLink RX1 38 "MoorWatchModel" "loads" "[I", Cond.methodLink RX1 81 yX1_away, Cond.instanceMethod yX1_away, Cond.selects RX1 yX1_away yX1_away, Cond.code yX1_away cX1_away 3 (some .int), Cond.fieldLink RX1 7 "MoorWatchModel" "places" "[I", Cond.fieldLink RX1 19 "MoorWatchModel" "fastTo" "[I", Cond.fieldLink RX1 16 "MoorWatchModel" "points" "[I", Cond.methodLink RX1 66 yX1_root, Cond.static yX1_root, Cond.code yX1_root cX1_root 6 (some .int), Cond.methodLink RX1 88 yX1_tensionAt, Cond.instanceMethod yX1_tensionAt, Cond.selects RX1 yX1_tensionAt yX1_tensionAt, Cond.code yX1_tensionAt cX1_tensionAt 5 (some .int)]
def wsX1_forceAt_r2 : List Cond := [Cond.fieldLink RX1 28 "MoorWatchModel" "sets" "[I", Cond.fieldLink RX1 31 "MoorWatchModel" "gone" "[Z", Cond.fieldLink RX1 22 "MoorWatchModel" "stiffness" "[I"]
def wsX1_forceAt : List Cond := .code yX1_forceAt cX1_forceAt 8 (some .int) :: ((wsX1_forceAt_r1 ++ wsX1_forceAt_r2) ++ wsX10)
def wsX1_shiftAt_r1 : List Cond := [Cond.methodLink RX1 91 yX1_forceAt, Cond.instanceMethod yX1_forceAt, Cond.selects RX1 yX1_forceAt yX1_forceAt, Cond.initialized RX1, Cond.code yX1_forceAt cX1_forceAt 8 (some .int), Cond.fieldLink RX1 78 "MoorWatchModel" "wind" "I", Cond.fieldLink RX1 41 "MoorWatchModel" "passings" "[I", Cond.fieldLink RX1 55 "MoorWatchModel" "lines" "I", Cond.methodLink RX1 84 yX1_lengthAt, Cond.instanceMethod yX1_lengthAt, Cond.selects RX1 yX1_lengthAt yX1_lengthAt, Cond.code yX1_lengthAt cX1_lengthAt 4 (some .int), Cond.fieldLink RX1 35 "MoorWatchModel" "tides" "[I", Cond.fieldLink RX1 38 "MoorWatchModel" "loads" "[I", Cond.methodLink RX1 81 yX1_away, Cond.instanceMethod yX1_away, Cond.selects RX1 yX1_away yX1_away, Cond.code yX1_away cX1_away 3 (some .int), Cond.fieldLink RX1 7 "MoorWatchModel" "places" "[I", Cond.fieldLink RX1 19 "MoorWatchModel" "fastTo" "[I", Cond.fieldLink RX1 16 "MoorWatchModel" "points" "[I", Cond.methodLink RX1 66 yX1_root, Cond.static yX1_root, Cond.code yX1_root cX1_root 6 (some .int)]
def wsX1_shiftAt_r2 : List Cond := [Cond.methodLink RX1 88 yX1_tensionAt, Cond.instanceMethod yX1_tensionAt, Cond.selects RX1 yX1_tensionAt yX1_tensionAt, Cond.code yX1_tensionAt cX1_tensionAt 5 (some .int), Cond.fieldLink RX1 28 "MoorWatchModel" "sets" "[I", Cond.fieldLink RX1 31 "MoorWatchModel" "gone" "[Z", Cond.fieldLink RX1 22 "MoorWatchModel" "stiffness" "[I"]
def wsX1_shiftAt : List Cond := .code yX1_shiftAt cX1_shiftAt 5 (some .int) :: ((wsX1_shiftAt_r1 ++ wsX1_shiftAt_r2) ++ wsX10)
def wsX1_drifts_r1 : List Cond := [Cond.methodLink RX1 94 yX1_shiftAt, Cond.instanceMethod yX1_shiftAt, Cond.selects RX1 yX1_shiftAt yX1_shiftAt, Cond.initialized RX1, Cond.code yX1_shiftAt cX1_shiftAt 5 (some .int), Cond.methodLink RX1 91 yX1_forceAt, Cond.instanceMethod yX1_forceAt, Cond.selects RX1 yX1_forceAt yX1_forceAt, Cond.code yX1_forceAt cX1_forceAt 8 (some .int), Cond.fieldLink RX1 78 "MoorWatchModel" "wind" "I", Cond.fieldLink RX1 41 "MoorWatchModel" "passings" "[I", Cond.fieldLink RX1 55 "MoorWatchModel" "lines" "I", Cond.methodLink RX1 84 yX1_lengthAt, Cond.instanceMethod yX1_lengthAt, Cond.selects RX1 yX1_lengthAt yX1_lengthAt, Cond.code yX1_lengthAt cX1_lengthAt 4 (some .int), Cond.fieldLink RX1 35 "MoorWatchModel" "tides" "[I", Cond.fieldLink RX1 38 "MoorWatchModel" "loads" "[I", Cond.methodLink RX1 81 yX1_away, Cond.instanceMethod yX1_away, Cond.selects RX1 yX1_away yX1_away, Cond.code yX1_away cX1_away 3 (some .int), Cond.fieldLink RX1 7 "MoorWatchModel" "places" "[I", Cond.fieldLink RX1 19 "MoorWatchModel" "fastTo" "[I"]
def wsX1_drifts_r2 : List Cond := [Cond.fieldLink RX1 16 "MoorWatchModel" "points" "[I", Cond.methodLink RX1 66 yX1_root, Cond.static yX1_root, Cond.code yX1_root cX1_root 6 (some .int), Cond.methodLink RX1 88 yX1_tensionAt, Cond.instanceMethod yX1_tensionAt, Cond.selects RX1 yX1_tensionAt yX1_tensionAt, Cond.code yX1_tensionAt cX1_tensionAt 5 (some .int), Cond.fieldLink RX1 28 "MoorWatchModel" "sets" "[I", Cond.fieldLink RX1 31 "MoorWatchModel" "gone" "[Z", Cond.fieldLink RX1 22 "MoorWatchModel" "stiffness" "[I"]
def wsX1_drifts : List Cond := .code yX1_drifts cX1_drifts 4 (some .boolean) :: ((wsX1_drifts_r1 ++ wsX1_drifts_r2) ++ wsX10)
def wsX1_force_r1 : List Cond := [Cond.methodLink RX1 74 yX1_isHour, Cond.static yX1_isHour, Cond.initialized RX1, Cond.code yX1_isHour cX1_isHour 1 (some .boolean), Cond.methodLink RX1 51 yX1_in, Cond.static yX1_in, Cond.code yX1_in cX1_in 3 (some .boolean), Cond.methodLink RX1 62 yX1_goes, Cond.instanceMethod yX1_goes, Cond.selects RX1 yX1_goes yX1_goes, Cond.code yX1_goes cX1_goes 4 (some .boolean), Cond.fieldLink RX1 47 "MoorWatchModel" "last" "I", Cond.methodLink RX1 91 yX1_forceAt, Cond.instanceMethod yX1_forceAt, Cond.selects RX1 yX1_forceAt yX1_forceAt, Cond.code yX1_forceAt cX1_forceAt 8 (some .int), Cond.fieldLink RX1 78 "MoorWatchModel" "wind" "I", Cond.fieldLink RX1 41 "MoorWatchModel" "passings" "[I", Cond.fieldLink RX1 55 "MoorWatchModel" "lines" "I", Cond.methodLink RX1 84 yX1_lengthAt, Cond.instanceMethod yX1_lengthAt, Cond.selects RX1 yX1_lengthAt yX1_lengthAt, Cond.code yX1_lengthAt cX1_lengthAt 4 (some .int), Cond.fieldLink RX1 35 "MoorWatchModel" "tides" "[I"]
def wsX1_force_r2 : List Cond := [Cond.fieldLink RX1 38 "MoorWatchModel" "loads" "[I", Cond.methodLink RX1 81 yX1_away, Cond.instanceMethod yX1_away, Cond.selects RX1 yX1_away yX1_away, Cond.code yX1_away cX1_away 3 (some .int), Cond.fieldLink RX1 7 "MoorWatchModel" "places" "[I", Cond.fieldLink RX1 19 "MoorWatchModel" "fastTo" "[I", Cond.fieldLink RX1 16 "MoorWatchModel" "points" "[I", Cond.methodLink RX1 66 yX1_root, Cond.static yX1_root, Cond.code yX1_root cX1_root 6 (some .int), Cond.methodLink RX1 88 yX1_tensionAt, Cond.instanceMethod yX1_tensionAt, Cond.selects RX1 yX1_tensionAt yX1_tensionAt, Cond.code yX1_tensionAt cX1_tensionAt 5 (some .int), Cond.fieldLink RX1 28 "MoorWatchModel" "sets" "[I", Cond.fieldLink RX1 31 "MoorWatchModel" "gone" "[Z", Cond.fieldLink RX1 22 "MoorWatchModel" "stiffness" "[I"]
def wsX1_force : List Cond := .code yX1_force cX1_force 3 (some .int) :: ((wsX1_force_r1 ++ wsX1_force_r2) ++ wsX10)
def wsX1_shift_r1 : List Cond := [Cond.methodLink RX1 74 yX1_isHour, Cond.static yX1_isHour, Cond.initialized RX1, Cond.code yX1_isHour cX1_isHour 1 (some .boolean), Cond.methodLink RX1 51 yX1_in, Cond.static yX1_in, Cond.code yX1_in cX1_in 3 (some .boolean), Cond.methodLink RX1 62 yX1_goes, Cond.instanceMethod yX1_goes, Cond.selects RX1 yX1_goes yX1_goes, Cond.code yX1_goes cX1_goes 4 (some .boolean), Cond.fieldLink RX1 47 "MoorWatchModel" "last" "I", Cond.methodLink RX1 94 yX1_shiftAt, Cond.instanceMethod yX1_shiftAt, Cond.selects RX1 yX1_shiftAt yX1_shiftAt, Cond.code yX1_shiftAt cX1_shiftAt 5 (some .int), Cond.methodLink RX1 91 yX1_forceAt, Cond.instanceMethod yX1_forceAt, Cond.selects RX1 yX1_forceAt yX1_forceAt, Cond.code yX1_forceAt cX1_forceAt 8 (some .int), Cond.fieldLink RX1 78 "MoorWatchModel" "wind" "I", Cond.fieldLink RX1 41 "MoorWatchModel" "passings" "[I", Cond.fieldLink RX1 55 "MoorWatchModel" "lines" "I", Cond.methodLink RX1 84 yX1_lengthAt]
def wsX1_shift_r2 : List Cond := [Cond.instanceMethod yX1_lengthAt, Cond.selects RX1 yX1_lengthAt yX1_lengthAt, Cond.code yX1_lengthAt cX1_lengthAt 4 (some .int), Cond.fieldLink RX1 35 "MoorWatchModel" "tides" "[I", Cond.fieldLink RX1 38 "MoorWatchModel" "loads" "[I", Cond.methodLink RX1 81 yX1_away, Cond.instanceMethod yX1_away, Cond.selects RX1 yX1_away yX1_away, Cond.code yX1_away cX1_away 3 (some .int), Cond.fieldLink RX1 7 "MoorWatchModel" "places" "[I", Cond.fieldLink RX1 19 "MoorWatchModel" "fastTo" "[I", Cond.fieldLink RX1 16 "MoorWatchModel" "points" "[I", Cond.methodLink RX1 66 yX1_root, Cond.static yX1_root, Cond.code yX1_root cX1_root 6 (some .int), Cond.methodLink RX1 88 yX1_tensionAt, Cond.instanceMethod yX1_tensionAt, Cond.selects RX1 yX1_tensionAt yX1_tensionAt, Cond.code yX1_tensionAt cX1_tensionAt 5 (some .int), Cond.fieldLink RX1 28 "MoorWatchModel" "sets" "[I", Cond.fieldLink RX1 31 "MoorWatchModel" "gone" "[Z", Cond.fieldLink RX1 22 "MoorWatchModel" "stiffness" "[I"]
def wsX1_shift : List Cond := .code yX1_shift cX1_shift 2 (some .int) :: ((wsX1_shift_r1 ++ wsX1_shift_r2) ++ wsX10)
def wsX1_isAdrift_r1 : List Cond := [Cond.methodLink RX1 74 yX1_isHour, Cond.static yX1_isHour, Cond.initialized RX1, Cond.code yX1_isHour cX1_isHour 1 (some .boolean), Cond.methodLink RX1 51 yX1_in, Cond.static yX1_in, Cond.code yX1_in cX1_in 3 (some .boolean), Cond.methodLink RX1 62 yX1_goes, Cond.instanceMethod yX1_goes, Cond.selects RX1 yX1_goes yX1_goes, Cond.code yX1_goes cX1_goes 4 (some .boolean), Cond.fieldLink RX1 47 "MoorWatchModel" "last" "I", Cond.methodLink RX1 98 yX1_drifts, Cond.instanceMethod yX1_drifts, Cond.selects RX1 yX1_drifts yX1_drifts, Cond.code yX1_drifts cX1_drifts 4 (some .boolean), Cond.methodLink RX1 94 yX1_shiftAt, Cond.instanceMethod yX1_shiftAt, Cond.selects RX1 yX1_shiftAt yX1_shiftAt, Cond.code yX1_shiftAt cX1_shiftAt 5 (some .int), Cond.methodLink RX1 91 yX1_forceAt, Cond.instanceMethod yX1_forceAt, Cond.selects RX1 yX1_forceAt yX1_forceAt, Cond.code yX1_forceAt cX1_forceAt 8 (some .int)]
def wsX1_isAdrift_r2 : List Cond := [Cond.fieldLink RX1 78 "MoorWatchModel" "wind" "I", Cond.fieldLink RX1 41 "MoorWatchModel" "passings" "[I", Cond.fieldLink RX1 55 "MoorWatchModel" "lines" "I", Cond.methodLink RX1 84 yX1_lengthAt, Cond.instanceMethod yX1_lengthAt, Cond.selects RX1 yX1_lengthAt yX1_lengthAt, Cond.code yX1_lengthAt cX1_lengthAt 4 (some .int), Cond.fieldLink RX1 35 "MoorWatchModel" "tides" "[I", Cond.fieldLink RX1 38 "MoorWatchModel" "loads" "[I", Cond.methodLink RX1 81 yX1_away, Cond.instanceMethod yX1_away, Cond.selects RX1 yX1_away yX1_away, Cond.code yX1_away cX1_away 3 (some .int), Cond.fieldLink RX1 7 "MoorWatchModel" "places" "[I", Cond.fieldLink RX1 19 "MoorWatchModel" "fastTo" "[I", Cond.fieldLink RX1 16 "MoorWatchModel" "points" "[I", Cond.methodLink RX1 66 yX1_root, Cond.static yX1_root, Cond.code yX1_root cX1_root 6 (some .int), Cond.methodLink RX1 88 yX1_tensionAt, Cond.instanceMethod yX1_tensionAt, Cond.selects RX1 yX1_tensionAt yX1_tensionAt, Cond.code yX1_tensionAt cX1_tensionAt 5 (some .int), Cond.fieldLink RX1 28 "MoorWatchModel" "sets" "[I"]
def wsX1_isAdrift_r3 : List Cond := [Cond.fieldLink RX1 31 "MoorWatchModel" "gone" "[Z", Cond.fieldLink RX1 22 "MoorWatchModel" "stiffness" "[I"]
def wsX1_isAdrift : List Cond := .code yX1_isAdrift cX1_isAdrift 2 (some .boolean) :: ((wsX1_isAdrift_r1 ++ (wsX1_isAdrift_r2 ++ wsX1_isAdrift_r3)) ++ wsX10)
def wsX1_length_r1 : List Cond := [Cond.methodLink RX1 70 yX1_isLine, Cond.instanceMethod yX1_isLine, Cond.selects RX1 yX1_isLine yX1_isLine, Cond.initialized RX1, Cond.code yX1_isLine cX1_isLine 2 (some .boolean), Cond.fieldLink RX1 55 "MoorWatchModel" "lines" "I", Cond.methodLink RX1 51 yX1_in, Cond.static yX1_in, Cond.code yX1_in cX1_in 3 (some .boolean), Cond.methodLink RX1 74 yX1_isHour, Cond.static yX1_isHour, Cond.code yX1_isHour cX1_isHour 1 (some .boolean), Cond.methodLink RX1 62 yX1_goes, Cond.instanceMethod yX1_goes, Cond.selects RX1 yX1_goes yX1_goes, Cond.code yX1_goes cX1_goes 4 (some .boolean), Cond.fieldLink RX1 47 "MoorWatchModel" "last" "I", Cond.methodLink RX1 94 yX1_shiftAt, Cond.instanceMethod yX1_shiftAt, Cond.selects RX1 yX1_shiftAt yX1_shiftAt, Cond.code yX1_shiftAt cX1_shiftAt 5 (some .int), Cond.methodLink RX1 91 yX1_forceAt, Cond.instanceMethod yX1_forceAt, Cond.selects RX1 yX1_forceAt yX1_forceAt]
def wsX1_length_r2 : List Cond := [Cond.code yX1_forceAt cX1_forceAt 8 (some .int), Cond.fieldLink RX1 78 "MoorWatchModel" "wind" "I", Cond.fieldLink RX1 41 "MoorWatchModel" "passings" "[I", Cond.methodLink RX1 84 yX1_lengthAt, Cond.instanceMethod yX1_lengthAt, Cond.selects RX1 yX1_lengthAt yX1_lengthAt, Cond.code yX1_lengthAt cX1_lengthAt 4 (some .int), Cond.fieldLink RX1 35 "MoorWatchModel" "tides" "[I", Cond.fieldLink RX1 38 "MoorWatchModel" "loads" "[I", Cond.methodLink RX1 81 yX1_away, Cond.instanceMethod yX1_away, Cond.selects RX1 yX1_away yX1_away, Cond.code yX1_away cX1_away 3 (some .int), Cond.fieldLink RX1 7 "MoorWatchModel" "places" "[I", Cond.fieldLink RX1 19 "MoorWatchModel" "fastTo" "[I", Cond.fieldLink RX1 16 "MoorWatchModel" "points" "[I", Cond.methodLink RX1 66 yX1_root, Cond.static yX1_root, Cond.code yX1_root cX1_root 6 (some .int), Cond.methodLink RX1 88 yX1_tensionAt, Cond.instanceMethod yX1_tensionAt, Cond.selects RX1 yX1_tensionAt yX1_tensionAt, Cond.code yX1_tensionAt cX1_tensionAt 5 (some .int), Cond.fieldLink RX1 28 "MoorWatchModel" "sets" "[I"]
def wsX1_length_r3 : List Cond := [Cond.fieldLink RX1 31 "MoorWatchModel" "gone" "[Z", Cond.fieldLink RX1 22 "MoorWatchModel" "stiffness" "[I"]
def wsX1_length : List Cond := .code yX1_length cX1_length 3 (some .int) :: ((wsX1_length_r1 ++ (wsX1_length_r2 ++ wsX1_length_r3)) ++ wsX10)
def wsX1_tension_r1 : List Cond := [Cond.methodLink RX1 70 yX1_isLine, Cond.instanceMethod yX1_isLine, Cond.selects RX1 yX1_isLine yX1_isLine, Cond.initialized RX1, Cond.code yX1_isLine cX1_isLine 2 (some .boolean), Cond.fieldLink RX1 55 "MoorWatchModel" "lines" "I", Cond.methodLink RX1 51 yX1_in, Cond.static yX1_in, Cond.code yX1_in cX1_in 3 (some .boolean), Cond.methodLink RX1 74 yX1_isHour, Cond.static yX1_isHour, Cond.code yX1_isHour cX1_isHour 1 (some .boolean), Cond.methodLink RX1 62 yX1_goes, Cond.instanceMethod yX1_goes, Cond.selects RX1 yX1_goes yX1_goes, Cond.code yX1_goes cX1_goes 4 (some .boolean), Cond.fieldLink RX1 47 "MoorWatchModel" "last" "I", Cond.methodLink RX1 94 yX1_shiftAt, Cond.instanceMethod yX1_shiftAt, Cond.selects RX1 yX1_shiftAt yX1_shiftAt, Cond.code yX1_shiftAt cX1_shiftAt 5 (some .int), Cond.methodLink RX1 91 yX1_forceAt, Cond.instanceMethod yX1_forceAt, Cond.selects RX1 yX1_forceAt yX1_forceAt]
def wsX1_tension_r2 : List Cond := [Cond.code yX1_forceAt cX1_forceAt 8 (some .int), Cond.fieldLink RX1 78 "MoorWatchModel" "wind" "I", Cond.fieldLink RX1 41 "MoorWatchModel" "passings" "[I", Cond.methodLink RX1 84 yX1_lengthAt, Cond.instanceMethod yX1_lengthAt, Cond.selects RX1 yX1_lengthAt yX1_lengthAt, Cond.code yX1_lengthAt cX1_lengthAt 4 (some .int), Cond.fieldLink RX1 35 "MoorWatchModel" "tides" "[I", Cond.fieldLink RX1 38 "MoorWatchModel" "loads" "[I", Cond.methodLink RX1 81 yX1_away, Cond.instanceMethod yX1_away, Cond.selects RX1 yX1_away yX1_away, Cond.code yX1_away cX1_away 3 (some .int), Cond.fieldLink RX1 7 "MoorWatchModel" "places" "[I", Cond.fieldLink RX1 19 "MoorWatchModel" "fastTo" "[I", Cond.fieldLink RX1 16 "MoorWatchModel" "points" "[I", Cond.methodLink RX1 66 yX1_root, Cond.static yX1_root, Cond.code yX1_root cX1_root 6 (some .int), Cond.methodLink RX1 88 yX1_tensionAt, Cond.instanceMethod yX1_tensionAt, Cond.selects RX1 yX1_tensionAt yX1_tensionAt, Cond.code yX1_tensionAt cX1_tensionAt 5 (some .int), Cond.fieldLink RX1 28 "MoorWatchModel" "sets" "[I"]
def wsX1_tension_r3 : List Cond := [Cond.fieldLink RX1 31 "MoorWatchModel" "gone" "[Z", Cond.fieldLink RX1 22 "MoorWatchModel" "stiffness" "[I"]
def wsX1_tension : List Cond := .code yX1_tension cX1_tension 3 (some .int) :: ((wsX1_tension_r1 ++ (wsX1_tension_r2 ++ wsX1_tension_r3)) ++ wsX10)
def wsX1_sumOn_r1 : List Cond := [Cond.fieldLink RX1 55 "MoorWatchModel" "lines" "I", Cond.fieldLink RX1 19 "MoorWatchModel" "fastTo" "[I", Cond.methodLink RX1 88 yX1_tensionAt, Cond.instanceMethod yX1_tensionAt, Cond.selects RX1 yX1_tensionAt yX1_tensionAt, Cond.initialized RX1, Cond.code yX1_tensionAt cX1_tensionAt 5 (some .int), Cond.fieldLink RX1 28 "MoorWatchModel" "sets" "[I", Cond.fieldLink RX1 31 "MoorWatchModel" "gone" "[Z", Cond.fieldLink RX1 22 "MoorWatchModel" "stiffness" "[I", Cond.methodLink RX1 84 yX1_lengthAt, Cond.instanceMethod yX1_lengthAt, Cond.selects RX1 yX1_lengthAt yX1_lengthAt, Cond.code yX1_lengthAt cX1_lengthAt 4 (some .int), Cond.fieldLink RX1 35 "MoorWatchModel" "tides" "[I", Cond.fieldLink RX1 38 "MoorWatchModel" "loads" "[I", Cond.methodLink RX1 81 yX1_away, Cond.instanceMethod yX1_away, Cond.selects RX1 yX1_away yX1_away, Cond.code yX1_away cX1_away 3 (some .int), Cond.fieldLink RX1 7 "MoorWatchModel" "places" "[I", Cond.fieldLink RX1 16 "MoorWatchModel" "points" "[I", Cond.methodLink RX1 66 yX1_root, Cond.static yX1_root]
def wsX1_sumOn_r2 : List Cond := [Cond.code yX1_root cX1_root 6 (some .int)]
def wsX1_sumOn : List Cond := .code yX1_sumOn cX1_sumOn 6 (some .int) :: ((wsX1_sumOn_r1 ++ wsX1_sumOn_r2) ++ wsX10)
def wsX1_onBollard_r1 : List Cond := [Cond.fieldLink RX1 59 "MoorWatchModel" "bollards" "I", Cond.methodLink RX1 51 yX1_in, Cond.static yX1_in, Cond.initialized RX1, Cond.code yX1_in cX1_in 3 (some .boolean), Cond.methodLink RX1 74 yX1_isHour, Cond.static yX1_isHour, Cond.code yX1_isHour cX1_isHour 1 (some .boolean), Cond.methodLink RX1 62 yX1_goes, Cond.instanceMethod yX1_goes, Cond.selects RX1 yX1_goes yX1_goes, Cond.code yX1_goes cX1_goes 4 (some .boolean), Cond.fieldLink RX1 47 "MoorWatchModel" "last" "I", Cond.methodLink RX1 94 yX1_shiftAt, Cond.instanceMethod yX1_shiftAt, Cond.selects RX1 yX1_shiftAt yX1_shiftAt, Cond.code yX1_shiftAt cX1_shiftAt 5 (some .int), Cond.methodLink RX1 91 yX1_forceAt, Cond.instanceMethod yX1_forceAt, Cond.selects RX1 yX1_forceAt yX1_forceAt, Cond.code yX1_forceAt cX1_forceAt 8 (some .int), Cond.fieldLink RX1 78 "MoorWatchModel" "wind" "I", Cond.fieldLink RX1 41 "MoorWatchModel" "passings" "[I", Cond.fieldLink RX1 55 "MoorWatchModel" "lines" "I"]
def wsX1_onBollard_r2 : List Cond := [Cond.methodLink RX1 84 yX1_lengthAt, Cond.instanceMethod yX1_lengthAt, Cond.selects RX1 yX1_lengthAt yX1_lengthAt, Cond.code yX1_lengthAt cX1_lengthAt 4 (some .int), Cond.fieldLink RX1 35 "MoorWatchModel" "tides" "[I", Cond.fieldLink RX1 38 "MoorWatchModel" "loads" "[I", Cond.methodLink RX1 81 yX1_away, Cond.instanceMethod yX1_away, Cond.selects RX1 yX1_away yX1_away, Cond.code yX1_away cX1_away 3 (some .int), Cond.fieldLink RX1 7 "MoorWatchModel" "places" "[I", Cond.fieldLink RX1 19 "MoorWatchModel" "fastTo" "[I", Cond.fieldLink RX1 16 "MoorWatchModel" "points" "[I", Cond.methodLink RX1 66 yX1_root, Cond.static yX1_root, Cond.code yX1_root cX1_root 6 (some .int), Cond.methodLink RX1 88 yX1_tensionAt, Cond.instanceMethod yX1_tensionAt, Cond.selects RX1 yX1_tensionAt yX1_tensionAt, Cond.code yX1_tensionAt cX1_tensionAt 5 (some .int), Cond.fieldLink RX1 28 "MoorWatchModel" "sets" "[I", Cond.fieldLink RX1 31 "MoorWatchModel" "gone" "[Z", Cond.fieldLink RX1 22 "MoorWatchModel" "stiffness" "[I", Cond.methodLink RX1 101 yX1_sumOn]
def wsX1_onBollard_r3 : List Cond := [Cond.instanceMethod yX1_sumOn, Cond.selects RX1 yX1_sumOn yX1_sumOn, Cond.code yX1_sumOn cX1_sumOn 6 (some .int)]
def wsX1_onBollard : List Cond := .code yX1_onBollard cX1_onBollard 3 (some .int) :: ((wsX1_onBollard_r1 ++ (wsX1_onBollard_r2 ++ wsX1_onBollard_r3)) ++ wsX10)
def wsX1_holds_r1 : List Cond := [Cond.fieldLink RX1 55 "MoorWatchModel" "lines" "I", Cond.constantLong RX1 104 (100), Cond.constantLong RX1 106 (55), Cond.fieldLink RX1 25 "MoorWatchModel" "strengths" "[I", Cond.fieldLink RX1 59 "MoorWatchModel" "bollards" "I", Cond.fieldLink RX1 13 "MoorWatchModel" "limits" "[I", Cond.methodLink RX1 94 yX1_shiftAt, Cond.instanceMethod yX1_shiftAt, Cond.selects RX1 yX1_shiftAt yX1_shiftAt, Cond.initialized RX1, Cond.code yX1_shiftAt cX1_shiftAt 5 (some .int), Cond.methodLink RX1 91 yX1_forceAt, Cond.instanceMethod yX1_forceAt, Cond.selects RX1 yX1_forceAt yX1_forceAt, Cond.code yX1_forceAt cX1_forceAt 8 (some .int), Cond.fieldLink RX1 78 "MoorWatchModel" "wind" "I", Cond.fieldLink RX1 41 "MoorWatchModel" "passings" "[I", Cond.methodLink RX1 84 yX1_lengthAt, Cond.instanceMethod yX1_lengthAt, Cond.selects RX1 yX1_lengthAt yX1_lengthAt, Cond.code yX1_lengthAt cX1_lengthAt 4 (some .int), Cond.fieldLink RX1 35 "MoorWatchModel" "tides" "[I", Cond.fieldLink RX1 38 "MoorWatchModel" "loads" "[I", Cond.methodLink RX1 81 yX1_away]
def wsX1_holds_r2 : List Cond := [Cond.instanceMethod yX1_away, Cond.selects RX1 yX1_away yX1_away, Cond.code yX1_away cX1_away 3 (some .int), Cond.fieldLink RX1 7 "MoorWatchModel" "places" "[I", Cond.fieldLink RX1 19 "MoorWatchModel" "fastTo" "[I", Cond.fieldLink RX1 16 "MoorWatchModel" "points" "[I", Cond.methodLink RX1 66 yX1_root, Cond.static yX1_root, Cond.code yX1_root cX1_root 6 (some .int), Cond.methodLink RX1 88 yX1_tensionAt, Cond.instanceMethod yX1_tensionAt, Cond.selects RX1 yX1_tensionAt yX1_tensionAt, Cond.code yX1_tensionAt cX1_tensionAt 5 (some .int), Cond.fieldLink RX1 28 "MoorWatchModel" "sets" "[I", Cond.fieldLink RX1 31 "MoorWatchModel" "gone" "[Z", Cond.fieldLink RX1 22 "MoorWatchModel" "stiffness" "[I", Cond.methodLink RX1 98 yX1_drifts, Cond.instanceMethod yX1_drifts, Cond.selects RX1 yX1_drifts yX1_drifts, Cond.code yX1_drifts cX1_drifts 4 (some .boolean), Cond.methodLink RX1 101 yX1_sumOn, Cond.instanceMethod yX1_sumOn, Cond.selects RX1 yX1_sumOn yX1_sumOn, Cond.code yX1_sumOn cX1_sumOn 6 (some .int)]
def wsX1_holds : List Cond := .code yX1_holds cX1_holds 5 (some .boolean) :: ((wsX1_holds_r1 ++ wsX1_holds_r2) ++ wsX10)
def wsX1_isSafe_r1 : List Cond := [Cond.methodLink RX1 74 yX1_isHour, Cond.static yX1_isHour, Cond.initialized RX1, Cond.code yX1_isHour cX1_isHour 1 (some .boolean), Cond.methodLink RX1 51 yX1_in, Cond.static yX1_in, Cond.code yX1_in cX1_in 3 (some .boolean), Cond.methodLink RX1 62 yX1_goes, Cond.instanceMethod yX1_goes, Cond.selects RX1 yX1_goes yX1_goes, Cond.code yX1_goes cX1_goes 4 (some .boolean), Cond.fieldLink RX1 47 "MoorWatchModel" "last" "I", Cond.methodLink RX1 108 yX1_holds, Cond.instanceMethod yX1_holds, Cond.selects RX1 yX1_holds yX1_holds, Cond.code yX1_holds cX1_holds 5 (some .boolean), Cond.fieldLink RX1 55 "MoorWatchModel" "lines" "I", Cond.constantLong RX1 104 (100), Cond.constantLong RX1 106 (55), Cond.fieldLink RX1 25 "MoorWatchModel" "strengths" "[I", Cond.fieldLink RX1 59 "MoorWatchModel" "bollards" "I", Cond.fieldLink RX1 13 "MoorWatchModel" "limits" "[I", Cond.methodLink RX1 94 yX1_shiftAt, Cond.instanceMethod yX1_shiftAt]
def wsX1_isSafe_r2 : List Cond := [Cond.selects RX1 yX1_shiftAt yX1_shiftAt, Cond.code yX1_shiftAt cX1_shiftAt 5 (some .int), Cond.methodLink RX1 91 yX1_forceAt, Cond.instanceMethod yX1_forceAt, Cond.selects RX1 yX1_forceAt yX1_forceAt, Cond.code yX1_forceAt cX1_forceAt 8 (some .int), Cond.fieldLink RX1 78 "MoorWatchModel" "wind" "I", Cond.fieldLink RX1 41 "MoorWatchModel" "passings" "[I", Cond.methodLink RX1 84 yX1_lengthAt, Cond.instanceMethod yX1_lengthAt, Cond.selects RX1 yX1_lengthAt yX1_lengthAt, Cond.code yX1_lengthAt cX1_lengthAt 4 (some .int), Cond.fieldLink RX1 35 "MoorWatchModel" "tides" "[I", Cond.fieldLink RX1 38 "MoorWatchModel" "loads" "[I", Cond.methodLink RX1 81 yX1_away, Cond.instanceMethod yX1_away, Cond.selects RX1 yX1_away yX1_away, Cond.code yX1_away cX1_away 3 (some .int), Cond.fieldLink RX1 7 "MoorWatchModel" "places" "[I", Cond.fieldLink RX1 19 "MoorWatchModel" "fastTo" "[I", Cond.fieldLink RX1 16 "MoorWatchModel" "points" "[I", Cond.methodLink RX1 66 yX1_root, Cond.static yX1_root, Cond.code yX1_root cX1_root 6 (some .int)]
def wsX1_isSafe_r3 : List Cond := [Cond.methodLink RX1 88 yX1_tensionAt, Cond.instanceMethod yX1_tensionAt, Cond.selects RX1 yX1_tensionAt yX1_tensionAt, Cond.code yX1_tensionAt cX1_tensionAt 5 (some .int), Cond.fieldLink RX1 28 "MoorWatchModel" "sets" "[I", Cond.fieldLink RX1 31 "MoorWatchModel" "gone" "[Z", Cond.fieldLink RX1 22 "MoorWatchModel" "stiffness" "[I", Cond.methodLink RX1 98 yX1_drifts, Cond.instanceMethod yX1_drifts, Cond.selects RX1 yX1_drifts yX1_drifts, Cond.code yX1_drifts cX1_drifts 4 (some .boolean), Cond.methodLink RX1 101 yX1_sumOn, Cond.instanceMethod yX1_sumOn, Cond.selects RX1 yX1_sumOn yX1_sumOn, Cond.code yX1_sumOn cX1_sumOn 6 (some .int)]
def wsX1_isSafe : List Cond := .code yX1_isSafe cX1_isSafe 2 (some .boolean) :: ((wsX1_isSafe_r1 ++ (wsX1_isSafe_r2 ++ wsX1_isSafe_r3)) ++ wsX10)
def wsX1_firstUnsafe_r1 : List Cond := [Cond.methodLink RX1 74 yX1_isHour, Cond.static yX1_isHour, Cond.initialized RX1, Cond.code yX1_isHour cX1_isHour 1 (some .boolean), Cond.methodLink RX1 51 yX1_in, Cond.static yX1_in, Cond.code yX1_in cX1_in 3 (some .boolean), Cond.methodLink RX1 62 yX1_goes, Cond.instanceMethod yX1_goes, Cond.selects RX1 yX1_goes yX1_goes, Cond.code yX1_goes cX1_goes 4 (some .boolean), Cond.fieldLink RX1 47 "MoorWatchModel" "last" "I", Cond.methodLink RX1 108 yX1_holds, Cond.instanceMethod yX1_holds, Cond.selects RX1 yX1_holds yX1_holds, Cond.code yX1_holds cX1_holds 5 (some .boolean), Cond.fieldLink RX1 55 "MoorWatchModel" "lines" "I", Cond.constantLong RX1 104 (100), Cond.constantLong RX1 106 (55), Cond.fieldLink RX1 25 "MoorWatchModel" "strengths" "[I", Cond.fieldLink RX1 59 "MoorWatchModel" "bollards" "I", Cond.fieldLink RX1 13 "MoorWatchModel" "limits" "[I", Cond.methodLink RX1 94 yX1_shiftAt, Cond.instanceMethod yX1_shiftAt]
def wsX1_firstUnsafe_r2 : List Cond := [Cond.selects RX1 yX1_shiftAt yX1_shiftAt, Cond.code yX1_shiftAt cX1_shiftAt 5 (some .int), Cond.methodLink RX1 91 yX1_forceAt, Cond.instanceMethod yX1_forceAt, Cond.selects RX1 yX1_forceAt yX1_forceAt, Cond.code yX1_forceAt cX1_forceAt 8 (some .int), Cond.fieldLink RX1 78 "MoorWatchModel" "wind" "I", Cond.fieldLink RX1 41 "MoorWatchModel" "passings" "[I", Cond.methodLink RX1 84 yX1_lengthAt, Cond.instanceMethod yX1_lengthAt, Cond.selects RX1 yX1_lengthAt yX1_lengthAt, Cond.code yX1_lengthAt cX1_lengthAt 4 (some .int), Cond.fieldLink RX1 35 "MoorWatchModel" "tides" "[I", Cond.fieldLink RX1 38 "MoorWatchModel" "loads" "[I", Cond.methodLink RX1 81 yX1_away, Cond.instanceMethod yX1_away, Cond.selects RX1 yX1_away yX1_away, Cond.code yX1_away cX1_away 3 (some .int), Cond.fieldLink RX1 7 "MoorWatchModel" "places" "[I", Cond.fieldLink RX1 19 "MoorWatchModel" "fastTo" "[I", Cond.fieldLink RX1 16 "MoorWatchModel" "points" "[I", Cond.methodLink RX1 66 yX1_root, Cond.static yX1_root, Cond.code yX1_root cX1_root 6 (some .int)]
def wsX1_firstUnsafe_r3 : List Cond := [Cond.methodLink RX1 88 yX1_tensionAt, Cond.instanceMethod yX1_tensionAt, Cond.selects RX1 yX1_tensionAt yX1_tensionAt, Cond.code yX1_tensionAt cX1_tensionAt 5 (some .int), Cond.fieldLink RX1 28 "MoorWatchModel" "sets" "[I", Cond.fieldLink RX1 31 "MoorWatchModel" "gone" "[Z", Cond.fieldLink RX1 22 "MoorWatchModel" "stiffness" "[I", Cond.methodLink RX1 98 yX1_drifts, Cond.instanceMethod yX1_drifts, Cond.selects RX1 yX1_drifts yX1_drifts, Cond.code yX1_drifts cX1_drifts 4 (some .boolean), Cond.methodLink RX1 101 yX1_sumOn, Cond.instanceMethod yX1_sumOn, Cond.selects RX1 yX1_sumOn yX1_sumOn, Cond.code yX1_sumOn cX1_sumOn 6 (some .int)]
def wsX1_firstUnsafe : List Cond := .code yX1_firstUnsafe cX1_firstUnsafe 3 (some .int) :: ((wsX1_firstUnsafe_r1 ++ (wsX1_firstUnsafe_r2 ++ wsX1_firstUnsafe_r3)) ++ wsX10)
def wsX1_tend_r1 : List Cond := [Cond.fieldLink RX1 31 "MoorWatchModel" "gone" "[Z", Cond.fieldLink RX1 28 "MoorWatchModel" "sets" "[I", Cond.methodLink RX1 70 yX1_isLine, Cond.instanceMethod yX1_isLine, Cond.selects RX1 yX1_isLine yX1_isLine, Cond.initialized RX1, Cond.code yX1_isLine cX1_isLine 2 (some .boolean), Cond.fieldLink RX1 55 "MoorWatchModel" "lines" "I", Cond.methodLink RX1 51 yX1_in, Cond.static yX1_in, Cond.code yX1_in cX1_in 3 (some .boolean), Cond.methodLink RX1 74 yX1_isHour, Cond.static yX1_isHour, Cond.code yX1_isHour cX1_isHour 1 (some .boolean), Cond.methodLink RX1 62 yX1_goes, Cond.instanceMethod yX1_goes, Cond.selects RX1 yX1_goes yX1_goes, Cond.code yX1_goes cX1_goes 4 (some .boolean), Cond.fieldLink RX1 47 "MoorWatchModel" "last" "I", Cond.methodLink RX1 94 yX1_shiftAt, Cond.instanceMethod yX1_shiftAt, Cond.selects RX1 yX1_shiftAt yX1_shiftAt, Cond.code yX1_shiftAt cX1_shiftAt 5 (some .int), Cond.methodLink RX1 91 yX1_forceAt]
def wsX1_tend_r2 : List Cond := [Cond.instanceMethod yX1_forceAt, Cond.selects RX1 yX1_forceAt yX1_forceAt, Cond.code yX1_forceAt cX1_forceAt 8 (some .int), Cond.fieldLink RX1 78 "MoorWatchModel" "wind" "I", Cond.fieldLink RX1 41 "MoorWatchModel" "passings" "[I", Cond.methodLink RX1 84 yX1_lengthAt, Cond.instanceMethod yX1_lengthAt, Cond.selects RX1 yX1_lengthAt yX1_lengthAt, Cond.code yX1_lengthAt cX1_lengthAt 4 (some .int), Cond.fieldLink RX1 35 "MoorWatchModel" "tides" "[I", Cond.fieldLink RX1 38 "MoorWatchModel" "loads" "[I", Cond.methodLink RX1 81 yX1_away, Cond.instanceMethod yX1_away, Cond.selects RX1 yX1_away yX1_away, Cond.code yX1_away cX1_away 3 (some .int), Cond.fieldLink RX1 7 "MoorWatchModel" "places" "[I", Cond.fieldLink RX1 19 "MoorWatchModel" "fastTo" "[I", Cond.fieldLink RX1 16 "MoorWatchModel" "points" "[I", Cond.methodLink RX1 66 yX1_root, Cond.static yX1_root, Cond.code yX1_root cX1_root 6 (some .int), Cond.methodLink RX1 88 yX1_tensionAt, Cond.instanceMethod yX1_tensionAt, Cond.selects RX1 yX1_tensionAt yX1_tensionAt]
def wsX1_tend_r3 : List Cond := [Cond.code yX1_tensionAt cX1_tensionAt 5 (some .int), Cond.fieldLink RX1 22 "MoorWatchModel" "stiffness" "[I"]
def wsX1_tend : List Cond := .code yX1_tend cX1_tend 6 (some .int) :: ((wsX1_tend_r1 ++ (wsX1_tend_r2 ++ wsX1_tend_r3)) ++ wsX10)
def wsX1_tends_r1 : List Cond := [Cond.fieldLink RX1 55 "MoorWatchModel" "lines" "I", Cond.fieldLink RX1 31 "MoorWatchModel" "gone" "[Z", Cond.fieldLink RX1 28 "MoorWatchModel" "sets" "[I", Cond.methodLink RX1 94 yX1_shiftAt, Cond.instanceMethod yX1_shiftAt, Cond.selects RX1 yX1_shiftAt yX1_shiftAt, Cond.initialized RX1, Cond.code yX1_shiftAt cX1_shiftAt 5 (some .int), Cond.methodLink RX1 91 yX1_forceAt, Cond.instanceMethod yX1_forceAt, Cond.selects RX1 yX1_forceAt yX1_forceAt, Cond.code yX1_forceAt cX1_forceAt 8 (some .int), Cond.fieldLink RX1 78 "MoorWatchModel" "wind" "I", Cond.fieldLink RX1 41 "MoorWatchModel" "passings" "[I", Cond.methodLink RX1 84 yX1_lengthAt, Cond.instanceMethod yX1_lengthAt, Cond.selects RX1 yX1_lengthAt yX1_lengthAt, Cond.code yX1_lengthAt cX1_lengthAt 4 (some .int), Cond.fieldLink RX1 35 "MoorWatchModel" "tides" "[I", Cond.fieldLink RX1 38 "MoorWatchModel" "loads" "[I", Cond.methodLink RX1 81 yX1_away, Cond.instanceMethod yX1_away, Cond.selects RX1 yX1_away yX1_away, Cond.code yX1_away cX1_away 3 (some .int)]
def wsX1_tends_r2 : List Cond := [Cond.fieldLink RX1 7 "MoorWatchModel" "places" "[I", Cond.fieldLink RX1 19 "MoorWatchModel" "fastTo" "[I", Cond.fieldLink RX1 16 "MoorWatchModel" "points" "[I", Cond.methodLink RX1 66 yX1_root, Cond.static yX1_root, Cond.code yX1_root cX1_root 6 (some .int), Cond.methodLink RX1 88 yX1_tensionAt, Cond.instanceMethod yX1_tensionAt, Cond.selects RX1 yX1_tensionAt yX1_tensionAt, Cond.code yX1_tensionAt cX1_tensionAt 5 (some .int), Cond.fieldLink RX1 22 "MoorWatchModel" "stiffness" "[I"]
def wsX1_tends : List Cond := .code yX1_tends cX1_tends 6 (some .int) :: ((wsX1_tends_r1 ++ wsX1_tends_r2) ++ wsX10)
def wsX1_tendAll_r1 : List Cond := [Cond.methodLink RX1 74 yX1_isHour, Cond.static yX1_isHour, Cond.initialized RX1, Cond.code yX1_isHour cX1_isHour 1 (some .boolean), Cond.methodLink RX1 51 yX1_in, Cond.static yX1_in, Cond.code yX1_in cX1_in 3 (some .boolean), Cond.methodLink RX1 62 yX1_goes, Cond.instanceMethod yX1_goes, Cond.selects RX1 yX1_goes yX1_goes, Cond.code yX1_goes cX1_goes 4 (some .boolean), Cond.fieldLink RX1 47 "MoorWatchModel" "last" "I", Cond.methodLink RX1 111 yX1_tends, Cond.instanceMethod yX1_tends, Cond.selects RX1 yX1_tends yX1_tends, Cond.code yX1_tends cX1_tends 6 (some .int), Cond.fieldLink RX1 55 "MoorWatchModel" "lines" "I", Cond.fieldLink RX1 31 "MoorWatchModel" "gone" "[Z", Cond.fieldLink RX1 28 "MoorWatchModel" "sets" "[I", Cond.methodLink RX1 94 yX1_shiftAt, Cond.instanceMethod yX1_shiftAt, Cond.selects RX1 yX1_shiftAt yX1_shiftAt, Cond.code yX1_shiftAt cX1_shiftAt 5 (some .int), Cond.methodLink RX1 91 yX1_forceAt]
def wsX1_tendAll_r2 : List Cond := [Cond.instanceMethod yX1_forceAt, Cond.selects RX1 yX1_forceAt yX1_forceAt, Cond.code yX1_forceAt cX1_forceAt 8 (some .int), Cond.fieldLink RX1 78 "MoorWatchModel" "wind" "I", Cond.fieldLink RX1 41 "MoorWatchModel" "passings" "[I", Cond.methodLink RX1 84 yX1_lengthAt, Cond.instanceMethod yX1_lengthAt, Cond.selects RX1 yX1_lengthAt yX1_lengthAt, Cond.code yX1_lengthAt cX1_lengthAt 4 (some .int), Cond.fieldLink RX1 35 "MoorWatchModel" "tides" "[I", Cond.fieldLink RX1 38 "MoorWatchModel" "loads" "[I", Cond.methodLink RX1 81 yX1_away, Cond.instanceMethod yX1_away, Cond.selects RX1 yX1_away yX1_away, Cond.code yX1_away cX1_away 3 (some .int), Cond.fieldLink RX1 7 "MoorWatchModel" "places" "[I", Cond.fieldLink RX1 19 "MoorWatchModel" "fastTo" "[I", Cond.fieldLink RX1 16 "MoorWatchModel" "points" "[I", Cond.methodLink RX1 66 yX1_root, Cond.static yX1_root, Cond.code yX1_root cX1_root 6 (some .int), Cond.methodLink RX1 88 yX1_tensionAt, Cond.instanceMethod yX1_tensionAt, Cond.selects RX1 yX1_tensionAt yX1_tensionAt]
def wsX1_tendAll_r3 : List Cond := [Cond.code yX1_tensionAt cX1_tensionAt 5 (some .int), Cond.fieldLink RX1 22 "MoorWatchModel" "stiffness" "[I"]
def wsX1_tendAll : List Cond := .code yX1_tendAll cX1_tendAll 2 (some .int) :: ((wsX1_tendAll_r1 ++ (wsX1_tendAll_r2 ++ wsX1_tendAll_r3)) ++ wsX10)
def wsX1_plan_r1 : List Cond := [Cond.fieldLink RX1 55 "MoorWatchModel" "lines" "I", Cond.fieldLink RX1 44 "MoorWatchModel" "kept" "[I", Cond.fieldLink RX1 28 "MoorWatchModel" "sets" "[I", Cond.methodLink RX1 74 yX1_isHour, Cond.static yX1_isHour, Cond.initialized RX1, Cond.code yX1_isHour cX1_isHour 1 (some .boolean), Cond.methodLink RX1 51 yX1_in, Cond.static yX1_in, Cond.code yX1_in cX1_in 3 (some .boolean), Cond.methodLink RX1 62 yX1_goes, Cond.instanceMethod yX1_goes, Cond.selects RX1 yX1_goes yX1_goes, Cond.code yX1_goes cX1_goes 4 (some .boolean), Cond.fieldLink RX1 47 "MoorWatchModel" "last" "I", Cond.methodLink RX1 108 yX1_holds, Cond.instanceMethod yX1_holds, Cond.selects RX1 yX1_holds yX1_holds, Cond.code yX1_holds cX1_holds 5 (some .boolean), Cond.constantLong RX1 104 (100), Cond.constantLong RX1 106 (55), Cond.fieldLink RX1 25 "MoorWatchModel" "strengths" "[I", Cond.fieldLink RX1 59 "MoorWatchModel" "bollards" "I", Cond.fieldLink RX1 13 "MoorWatchModel" "limits" "[I"]
def wsX1_plan_r2 : List Cond := [Cond.methodLink RX1 94 yX1_shiftAt, Cond.instanceMethod yX1_shiftAt, Cond.selects RX1 yX1_shiftAt yX1_shiftAt, Cond.code yX1_shiftAt cX1_shiftAt 5 (some .int), Cond.methodLink RX1 91 yX1_forceAt, Cond.instanceMethod yX1_forceAt, Cond.selects RX1 yX1_forceAt yX1_forceAt, Cond.code yX1_forceAt cX1_forceAt 8 (some .int), Cond.fieldLink RX1 78 "MoorWatchModel" "wind" "I", Cond.fieldLink RX1 41 "MoorWatchModel" "passings" "[I", Cond.methodLink RX1 84 yX1_lengthAt, Cond.instanceMethod yX1_lengthAt, Cond.selects RX1 yX1_lengthAt yX1_lengthAt, Cond.code yX1_lengthAt cX1_lengthAt 4 (some .int), Cond.fieldLink RX1 35 "MoorWatchModel" "tides" "[I", Cond.fieldLink RX1 38 "MoorWatchModel" "loads" "[I", Cond.methodLink RX1 81 yX1_away, Cond.instanceMethod yX1_away, Cond.selects RX1 yX1_away yX1_away, Cond.code yX1_away cX1_away 3 (some .int), Cond.fieldLink RX1 7 "MoorWatchModel" "places" "[I", Cond.fieldLink RX1 19 "MoorWatchModel" "fastTo" "[I", Cond.fieldLink RX1 16 "MoorWatchModel" "points" "[I", Cond.methodLink RX1 66 yX1_root]
def wsX1_plan_r3 : List Cond := [Cond.static yX1_root, Cond.code yX1_root cX1_root 6 (some .int), Cond.methodLink RX1 88 yX1_tensionAt, Cond.instanceMethod yX1_tensionAt, Cond.selects RX1 yX1_tensionAt yX1_tensionAt, Cond.code yX1_tensionAt cX1_tensionAt 5 (some .int), Cond.fieldLink RX1 31 "MoorWatchModel" "gone" "[Z", Cond.fieldLink RX1 22 "MoorWatchModel" "stiffness" "[I", Cond.methodLink RX1 98 yX1_drifts, Cond.instanceMethod yX1_drifts, Cond.selects RX1 yX1_drifts yX1_drifts, Cond.code yX1_drifts cX1_drifts 4 (some .boolean), Cond.methodLink RX1 101 yX1_sumOn, Cond.instanceMethod yX1_sumOn, Cond.selects RX1 yX1_sumOn yX1_sumOn, Cond.code yX1_sumOn cX1_sumOn 6 (some .int), Cond.methodLink RX1 111 yX1_tends, Cond.instanceMethod yX1_tends, Cond.selects RX1 yX1_tends yX1_tends, Cond.code yX1_tends cX1_tends 6 (some .int)]
def wsX1_plan : List Cond := .code yX1_plan cX1_plan 5 (some .int) :: ((wsX1_plan_r1 ++ (wsX1_plan_r2 ++ wsX1_plan_r3)) ++ wsX10)
def wsJ9_max_7cf53 : List Cond := .code yJ9_max_7cf53 cJ9_max_7cf53 2 (some .int) :: ([])
def wsL_addBollard : List Cond := .codeWith yL_addBollard cL_addBollard 5 (some .int) [(0, 10, 13, 13), (0, 10, 17, 15)] :: ([.classLink RL 13 "java/lang/IllegalArgumentException", .classLink RL 15 "java/lang/IllegalStateException", .methodLink RL 7 yX0_addBollard, .instanceMethod yX0_addBollard, .selects RX0 yX0_addBollard yX0_addBollard, .initialized RX0, .code yX0_addBollard cX0_addBollard 4 (some .int), .classLink RX0 62 "java/lang/IllegalStateException", .initialized "java/lang/IllegalStateException", .constant RX0 61 (1000000), .fieldLink RX0 23 "MoorWatch" "bollardCount" "I", .fieldLink RX0 26 "MoorWatch" "bollardPlaces" "[I", .fieldLink RX0 29 "MoorWatch" "bollardLimits" "[I", .methodLink RX0 57 yX0_checkRange, .static yX0_checkRange, .code yX0_checkRange cX0_checkRange 3 none, .classLink RX0 121 "java/lang/IllegalArgumentException", .initialized "java/lang/IllegalArgumentException"] ++ wsX00 ++ (vx_atS RX0 66 "java/lang/IllegalStateException" ["java/lang/RuntimeException", "java/lang/Exception"]).filter goodWord ++ (vx_atS RX0 125 "java/lang/IllegalArgumentException" ["java/lang/RuntimeException", "java/lang/Exception"]).filter goodWord)
def wsL_addLine_r1 : List Cond := [Cond.classLink RL 21 "java/lang/IndexOutOfBoundsException", Cond.classLink RL 13 "java/lang/IllegalArgumentException", Cond.classLink RL 15 "java/lang/IllegalStateException", Cond.methodLink RL 17 yX0_addLine, Cond.instanceMethod yX0_addLine, Cond.selects RX0 yX0_addLine yX0_addLine, Cond.initialized RX0, Cond.code yX0_addLine cX0_addLine 7 (some .int), Cond.classLink RX0 62 "java/lang/IllegalStateException", Cond.initialized "java/lang/IllegalStateException", Cond.constant RX0 61 (1000000), Cond.fieldLink RX0 32 "MoorWatch" "lineCount" "I", Cond.fieldLink RX0 26 "MoorWatch" "bollardPlaces" "[I", Cond.fieldLink RX0 35 "MoorWatch" "lineBollards" "[I", Cond.fieldLink RX0 38 "MoorWatch" "lineReaches" "[I", Cond.fieldLink RX0 41 "MoorWatch" "lineStiffnesses" "[I", Cond.fieldLink RX0 44 "MoorWatch" "lineStrengths" "[I", Cond.fieldLink RX0 47 "MoorWatch" "lineSets" "[I", Cond.fieldLink RX0 50 "MoorWatch" "lineFast" "[Z", Cond.methodLink RX0 69 yX0_checkBollard, Cond.instanceMethod yX0_checkBollard, Cond.selects RX0 yX0_checkBollard yX0_checkBollard, Cond.code yX0_checkBollard cX0_checkBollard 2 none, Cond.classLink RX0 135 "java/lang/IndexOutOfBoundsException"]
def wsL_addLine_r2 : List Cond := [Cond.initialized "java/lang/IndexOutOfBoundsException", Cond.fieldLink RX0 23 "MoorWatch" "bollardCount" "I", Cond.methodLink RX0 57 yX0_checkRange, Cond.static yX0_checkRange, Cond.code yX0_checkRange cX0_checkRange 3 none, Cond.classLink RX0 121 "java/lang/IllegalArgumentException", Cond.initialized "java/lang/IllegalArgumentException", Cond.methodLink RX0 75 yX0_lengthOver, Cond.static yX0_lengthOver, Cond.code yX0_lengthOver cX0_lengthOver 6 (some .int)]
def wsL_addLine : List Cond := .codeWith yL_addLine cL_addLine 7 (some .int) [(0, 14, 17, 21), (0, 14, 21, 13), (0, 14, 25, 15)] :: ((wsL_addLine_r1 ++ wsL_addLine_r2) ++ wsX00 ++ (vx_atS RX0 66 "java/lang/IllegalStateException" ["java/lang/RuntimeException", "java/lang/Exception"]).filter goodWord ++ (vx_atS RX0 139 "java/lang/IndexOutOfBoundsException" ["java/lang/RuntimeException", "java/lang/Exception"]).filter goodWord ++ (vx_atS RX0 125 "java/lang/IllegalArgumentException" ["java/lang/RuntimeException", "java/lang/Exception"]).filter goodWord)
def wsL_toggle : List Cond := .codeWith yL_toggle cL_toggle 4 (some .int) [(0, 16, 19, 21)] :: ([.classLink RL 21 "java/lang/IndexOutOfBoundsException", .methodLink RL 23 yX0_toggle, .instanceMethod yX0_toggle, .selects RX0 yX0_toggle yX0_toggle, .initialized RX0, .code yX0_toggle cX0_toggle 2 (some .boolean), .fieldLink RX0 50 "MoorWatch" "lineFast" "[Z", .methodLink RX0 79 yX0_checkLine, .instanceMethod yX0_checkLine, .selects RX0 yX0_checkLine yX0_checkLine, .code yX0_checkLine cX0_checkLine 2 none, .classLink RX0 135 "java/lang/IndexOutOfBoundsException", .initialized "java/lang/IndexOutOfBoundsException", .fieldLink RX0 32 "MoorWatch" "lineCount" "I"] ++ wsX00 ++ (vx_atS RX0 139 "java/lang/IndexOutOfBoundsException" ["java/lang/RuntimeException", "java/lang/Exception"]).filter goodWord)
def wsL_setTide : List Cond := .codeWith yL_setTide cL_setTide 5 (some .int) [(0, 10, 13, 21), (0, 10, 17, 13)] :: ([.classLink RL 21 "java/lang/IndexOutOfBoundsException", .classLink RL 13 "java/lang/IllegalArgumentException", .methodLink RL 27 yX0_setTide, .instanceMethod yX0_setTide, .selects RX0 yX0_setTide yX0_setTide, .initialized RX0, .code yX0_setTide cX0_setTide 4 (some .int), .fieldLink RX0 9 "MoorWatch" "tides" "[I", .methodLink RX0 82 yX0_checkHour, .static yX0_checkHour, .code yX0_checkHour cX0_checkHour 1 none, .classLink RX0 135 "java/lang/IndexOutOfBoundsException", .initialized "java/lang/IndexOutOfBoundsException", .methodLink RX0 57 yX0_checkRange, .static yX0_checkRange, .code yX0_checkRange cX0_checkRange 3 none, .classLink RX0 121 "java/lang/IllegalArgumentException", .initialized "java/lang/IllegalArgumentException"] ++ wsX00 ++ (vx_atS RX0 139 "java/lang/IndexOutOfBoundsException" ["java/lang/RuntimeException", "java/lang/Exception"]).filter goodWord ++ (vx_atS RX0 125 "java/lang/IllegalArgumentException" ["java/lang/RuntimeException", "java/lang/Exception"]).filter goodWord)
def wsL_setLoad : List Cond := .codeWith yL_setLoad cL_setLoad 5 (some .int) [(0, 10, 13, 21), (0, 10, 17, 13)] :: ([.classLink RL 21 "java/lang/IndexOutOfBoundsException", .classLink RL 13 "java/lang/IllegalArgumentException", .methodLink RL 30 yX0_setLoad, .instanceMethod yX0_setLoad, .selects RX0 yX0_setLoad yX0_setLoad, .initialized RX0, .code yX0_setLoad cX0_setLoad 5 (some .int), .fieldLink RX0 13 "MoorWatch" "loads" "[I", .methodLink RX0 82 yX0_checkHour, .static yX0_checkHour, .code yX0_checkHour cX0_checkHour 1 none, .classLink RX0 135 "java/lang/IndexOutOfBoundsException", .initialized "java/lang/IndexOutOfBoundsException", .methodLink RX0 57 yX0_checkRange, .static yX0_checkRange, .code yX0_checkRange cX0_checkRange 3 none, .classLink RX0 121 "java/lang/IllegalArgumentException", .initialized "java/lang/IllegalArgumentException"] ++ wsX00 ++ (vx_atS RX0 139 "java/lang/IndexOutOfBoundsException" ["java/lang/RuntimeException", "java/lang/Exception"]).filter goodWord ++ (vx_atS RX0 125 "java/lang/IllegalArgumentException" ["java/lang/RuntimeException", "java/lang/Exception"]).filter goodWord)
def wsL_setWind : List Cond := .codeWith yL_setWind cL_setWind 4 (some .int) [(0, 9, 12, 13)] :: ([.classLink RL 13 "java/lang/IllegalArgumentException", .methodLink RL 33 yX0_setWind, .instanceMethod yX0_setWind, .selects RX0 yX0_setWind yX0_setWind, .initialized RX0, .code yX0_setWind cX0_setWind 3 (some .int), .constant RX0 85 (-1000000), .constant RX0 61 (1000000), .fieldLink RX0 19 "MoorWatch" "wind" "I", .methodLink RX0 57 yX0_checkRange, .static yX0_checkRange, .code yX0_checkRange cX0_checkRange 3 none, .classLink RX0 121 "java/lang/IllegalArgumentException", .initialized "java/lang/IllegalArgumentException"] ++ wsX00 ++ (vx_atS RX0 125 "java/lang/IllegalArgumentException" ["java/lang/RuntimeException", "java/lang/Exception"]).filter goodWord)
def wsL_setPassing : List Cond := .codeWith yL_setPassing cL_setPassing 5 (some .int) [(0, 10, 13, 21), (0, 10, 17, 13)] :: ([.classLink RL 21 "java/lang/IndexOutOfBoundsException", .classLink RL 13 "java/lang/IllegalArgumentException", .methodLink RL 37 yX0_setPassing, .instanceMethod yX0_setPassing, .selects RX0 yX0_setPassing yX0_setPassing, .initialized RX0, .code yX0_setPassing cX0_setPassing 4 (some .int), .constant RX0 85 (-1000000), .constant RX0 61 (1000000), .fieldLink RX0 16 "MoorWatch" "passing" "[I", .methodLink RX0 82 yX0_checkHour, .static yX0_checkHour, .code yX0_checkHour cX0_checkHour 1 none, .classLink RX0 135 "java/lang/IndexOutOfBoundsException", .initialized "java/lang/IndexOutOfBoundsException", .methodLink RX0 57 yX0_checkRange, .static yX0_checkRange, .code yX0_checkRange cX0_checkRange 3 none, .classLink RX0 121 "java/lang/IllegalArgumentException", .initialized "java/lang/IllegalArgumentException"] ++ wsX00 ++ (vx_atS RX0 139 "java/lang/IndexOutOfBoundsException" ["java/lang/RuntimeException", "java/lang/Exception"]).filter goodWord ++ (vx_atS RX0 125 "java/lang/IllegalArgumentException" ["java/lang/RuntimeException", "java/lang/Exception"]).filter goodWord)
def wsL_force_r1 : List Cond := [Cond.classLink RL 21 "java/lang/IndexOutOfBoundsException", Cond.classLink RL 13 "java/lang/IllegalArgumentException", Cond.methodLink RL 40 yX0_force, Cond.instanceMethod yX0_force, Cond.selects RX0 yX0_force yX0_force, Cond.initialized RX0, Cond.code yX0_force cX0_force 3 (some .int), Cond.methodLink RX0 82 yX0_checkHour, Cond.static yX0_checkHour, Cond.code yX0_checkHour cX0_checkHour 1 none, Cond.classLink RX0 135 "java/lang/IndexOutOfBoundsException", Cond.initialized "java/lang/IndexOutOfBoundsException", Cond.methodLink RX0 57 yX0_checkRange, Cond.static yX0_checkRange, Cond.code yX0_checkRange cX0_checkRange 3 none, Cond.classLink RX0 121 "java/lang/IllegalArgumentException", Cond.initialized "java/lang/IllegalArgumentException", Cond.methodLink RX0 86 yX0_forceWith, Cond.instanceMethod yX0_forceWith, Cond.selects RX0 yX0_forceWith yX0_forceWith, Cond.code yX0_forceWith cX0_forceWith 5 (some .int), Cond.fieldLink RX0 19 "MoorWatch" "wind" "I", Cond.fieldLink RX0 16 "MoorWatch" "passing" "[I", Cond.fieldLink RX0 32 "MoorWatch" "lineCount" "I"]
def wsL_force_r2 : List Cond := [Cond.methodLink RX0 149 yX0_pullWith, Cond.instanceMethod yX0_pullWith, Cond.selects RX0 yX0_pullWith yX0_pullWith, Cond.code yX0_pullWith cX0_pullWith 8 (some .int), Cond.fieldLink RX0 38 "MoorWatch" "lineReaches" "[I", Cond.methodLink RX0 146 yX0_heightIn, Cond.instanceMethod yX0_heightIn, Cond.selects RX0 yX0_heightIn yX0_heightIn, Cond.code yX0_heightIn cX0_heightIn 2 (some .int), Cond.fieldLink RX0 9 "MoorWatch" "tides" "[I", Cond.fieldLink RX0 13 "MoorWatch" "loads" "[I", Cond.methodLink RX0 75 yX0_lengthOver, Cond.static yX0_lengthOver, Cond.code yX0_lengthOver cX0_lengthOver 6 (some .int), Cond.methodLink RX0 101 yX0_tensionAtLength, Cond.instanceMethod yX0_tensionAtLength, Cond.selects RX0 yX0_tensionAtLength yX0_tensionAtLength, Cond.code yX0_tensionAtLength cX0_tensionAtLength 3 (some .int), Cond.fieldLink RX0 50 "MoorWatch" "lineFast" "[Z", Cond.fieldLink RX0 41 "MoorWatch" "lineStiffnesses" "[I", Cond.fieldLink RX0 47 "MoorWatch" "lineSets" "[I", Cond.methodLink RX0 113 Lib.Math.max.name, Cond.static Lib.Math.max.name, Cond.initialized "java/lang/Math"]
def wsL_force_r3 : List Cond := [Cond.code Lib.Math.max.name Lib.Math.max.code 2 (some .int)]
def wsL_force : List Cond := .codeWith yL_force cL_force 5 (some .int) [(0, 10, 13, 21), (0, 10, 17, 13)] :: ((wsL_force_r1 ++ (wsL_force_r2 ++ wsL_force_r3)) ++ wsX00 ++ (vx_atS RX0 139 "java/lang/IndexOutOfBoundsException" ["java/lang/RuntimeException", "java/lang/Exception"]).filter goodWord ++ (vx_atS RX0 125 "java/lang/IllegalArgumentException" ["java/lang/RuntimeException", "java/lang/Exception"]).filter goodWord)
def wsL_shift_r1 : List Cond := [Cond.classLink RL 21 "java/lang/IndexOutOfBoundsException", Cond.methodLink RL 43 yX0_shift, Cond.instanceMethod yX0_shift, Cond.selects RX0 yX0_shift yX0_shift, Cond.initialized RX0, Cond.code yX0_shift cX0_shift 2 (some .int), Cond.methodLink RX0 82 yX0_checkHour, Cond.static yX0_checkHour, Cond.code yX0_checkHour cX0_checkHour 1 none, Cond.classLink RX0 135 "java/lang/IndexOutOfBoundsException", Cond.initialized "java/lang/IndexOutOfBoundsException", Cond.methodLink RX0 89 yX0_balanceOf, Cond.instanceMethod yX0_balanceOf, Cond.selects RX0 yX0_balanceOf yX0_balanceOf, Cond.code yX0_balanceOf cX0_balanceOf 6 (some .int), Cond.methodLink RX0 152 yJ9_floorDiv_7cf53, Cond.static yJ9_floorDiv_7cf53, Cond.initialized RJ9, Cond.code yJ9_floorDiv_7cf53 cJ9_floorDiv_7cf53 3 (some .int), Cond.methodLink RX0 86 yX0_forceWith, Cond.instanceMethod yX0_forceWith, Cond.selects RX0 yX0_forceWith yX0_forceWith, Cond.code yX0_forceWith cX0_forceWith 5 (some .int), Cond.fieldLink RX0 19 "MoorWatch" "wind" "I"]
def wsL_shift_r2 : List Cond := [Cond.fieldLink RX0 16 "MoorWatch" "passing" "[I", Cond.fieldLink RX0 32 "MoorWatch" "lineCount" "I", Cond.methodLink RX0 149 yX0_pullWith, Cond.instanceMethod yX0_pullWith, Cond.selects RX0 yX0_pullWith yX0_pullWith, Cond.code yX0_pullWith cX0_pullWith 8 (some .int), Cond.fieldLink RX0 38 "MoorWatch" "lineReaches" "[I", Cond.methodLink RX0 146 yX0_heightIn, Cond.instanceMethod yX0_heightIn, Cond.selects RX0 yX0_heightIn yX0_heightIn, Cond.code yX0_heightIn cX0_heightIn 2 (some .int), Cond.fieldLink RX0 9 "MoorWatch" "tides" "[I", Cond.fieldLink RX0 13 "MoorWatch" "loads" "[I", Cond.methodLink RX0 75 yX0_lengthOver, Cond.static yX0_lengthOver, Cond.code yX0_lengthOver cX0_lengthOver 6 (some .int), Cond.methodLink RX0 101 yX0_tensionAtLength, Cond.instanceMethod yX0_tensionAtLength, Cond.selects RX0 yX0_tensionAtLength yX0_tensionAtLength, Cond.code yX0_tensionAtLength cX0_tensionAtLength 3 (some .int), Cond.fieldLink RX0 50 "MoorWatch" "lineFast" "[Z", Cond.fieldLink RX0 41 "MoorWatch" "lineStiffnesses" "[I", Cond.fieldLink RX0 47 "MoorWatch" "lineSets" "[I", Cond.methodLink RX0 113 Lib.Math.max.name]
def wsL_shift_r3 : List Cond := [Cond.static Lib.Math.max.name, Cond.initialized "java/lang/Math", Cond.code Lib.Math.max.name Lib.Math.max.code 2 (some .int)]
def wsL_shift : List Cond := .codeWith yL_shift cL_shift 4 (some .int) [(0, 9, 12, 21)] :: ((wsL_shift_r1 ++ (wsL_shift_r2 ++ wsL_shift_r3)) ++ wsX00 ++ (vx_atS RX0 139 "java/lang/IndexOutOfBoundsException" ["java/lang/RuntimeException", "java/lang/Exception"]).filter goodWord)
def wsL_isAdrift_r1 : List Cond := [Cond.classLink RL 21 "java/lang/IndexOutOfBoundsException", Cond.methodLink RL 46 yX0_isAdrift, Cond.instanceMethod yX0_isAdrift, Cond.selects RX0 yX0_isAdrift yX0_isAdrift, Cond.initialized RX0, Cond.code yX0_isAdrift cX0_isAdrift 2 (some .boolean), Cond.methodLink RX0 82 yX0_checkHour, Cond.static yX0_checkHour, Cond.code yX0_checkHour cX0_checkHour 1 none, Cond.classLink RX0 135 "java/lang/IndexOutOfBoundsException", Cond.initialized "java/lang/IndexOutOfBoundsException", Cond.methodLink RX0 89 yX0_balanceOf, Cond.instanceMethod yX0_balanceOf, Cond.selects RX0 yX0_balanceOf yX0_balanceOf, Cond.code yX0_balanceOf cX0_balanceOf 6 (some .int), Cond.methodLink RX0 152 yJ9_floorDiv_7cf53, Cond.static yJ9_floorDiv_7cf53, Cond.initialized RJ9, Cond.code yJ9_floorDiv_7cf53 cJ9_floorDiv_7cf53 3 (some .int), Cond.methodLink RX0 86 yX0_forceWith, Cond.instanceMethod yX0_forceWith, Cond.selects RX0 yX0_forceWith yX0_forceWith, Cond.code yX0_forceWith cX0_forceWith 5 (some .int), Cond.fieldLink RX0 19 "MoorWatch" "wind" "I"]
def wsL_isAdrift_r2 : List Cond := [Cond.fieldLink RX0 16 "MoorWatch" "passing" "[I", Cond.fieldLink RX0 32 "MoorWatch" "lineCount" "I", Cond.methodLink RX0 149 yX0_pullWith, Cond.instanceMethod yX0_pullWith, Cond.selects RX0 yX0_pullWith yX0_pullWith, Cond.code yX0_pullWith cX0_pullWith 8 (some .int), Cond.fieldLink RX0 38 "MoorWatch" "lineReaches" "[I", Cond.methodLink RX0 146 yX0_heightIn, Cond.instanceMethod yX0_heightIn, Cond.selects RX0 yX0_heightIn yX0_heightIn, Cond.code yX0_heightIn cX0_heightIn 2 (some .int), Cond.fieldLink RX0 9 "MoorWatch" "tides" "[I", Cond.fieldLink RX0 13 "MoorWatch" "loads" "[I", Cond.methodLink RX0 75 yX0_lengthOver, Cond.static yX0_lengthOver, Cond.code yX0_lengthOver cX0_lengthOver 6 (some .int), Cond.methodLink RX0 101 yX0_tensionAtLength, Cond.instanceMethod yX0_tensionAtLength, Cond.selects RX0 yX0_tensionAtLength yX0_tensionAtLength, Cond.code yX0_tensionAtLength cX0_tensionAtLength 3 (some .int), Cond.fieldLink RX0 50 "MoorWatch" "lineFast" "[Z", Cond.fieldLink RX0 41 "MoorWatch" "lineStiffnesses" "[I", Cond.fieldLink RX0 47 "MoorWatch" "lineSets" "[I", Cond.methodLink RX0 113 Lib.Math.max.name]
def wsL_isAdrift_r3 : List Cond := [Cond.static Lib.Math.max.name, Cond.initialized "java/lang/Math", Cond.code Lib.Math.max.name Lib.Math.max.code 2 (some .int), Cond.methodLink RX0 93 yX0_driftsWith, Cond.instanceMethod yX0_driftsWith, Cond.selects RX0 yX0_driftsWith yX0_driftsWith, Cond.code yX0_driftsWith cX0_driftsWith 3 (some .boolean)]
def wsL_isAdrift : List Cond := .codeWith yL_isAdrift cL_isAdrift 4 (some .int) [(0, 16, 19, 21)] :: ((wsL_isAdrift_r1 ++ (wsL_isAdrift_r2 ++ wsL_isAdrift_r3)) ++ wsX00 ++ (vx_atS RX0 139 "java/lang/IndexOutOfBoundsException" ["java/lang/RuntimeException", "java/lang/Exception"]).filter goodWord)
def wsL_length_r1 : List Cond := [Cond.classLink RL 21 "java/lang/IndexOutOfBoundsException", Cond.methodLink RL 49 yX0_length, Cond.instanceMethod yX0_length, Cond.selects RX0 yX0_length yX0_length, Cond.initialized RX0, Cond.code yX0_length cX0_length 3 (some .int), Cond.methodLink RX0 79 yX0_checkLine, Cond.instanceMethod yX0_checkLine, Cond.selects RX0 yX0_checkLine yX0_checkLine, Cond.code yX0_checkLine cX0_checkLine 2 none, Cond.classLink RX0 135 "java/lang/IndexOutOfBoundsException", Cond.initialized "java/lang/IndexOutOfBoundsException", Cond.fieldLink RX0 32 "MoorWatch" "lineCount" "I", Cond.methodLink RX0 82 yX0_checkHour, Cond.static yX0_checkHour, Cond.code yX0_checkHour cX0_checkHour 1 none, Cond.methodLink RX0 89 yX0_balanceOf, Cond.instanceMethod yX0_balanceOf, Cond.selects RX0 yX0_balanceOf yX0_balanceOf, Cond.code yX0_balanceOf cX0_balanceOf 6 (some .int), Cond.methodLink RX0 152 yJ9_floorDiv_7cf53, Cond.static yJ9_floorDiv_7cf53, Cond.initialized RJ9, Cond.code yJ9_floorDiv_7cf53 cJ9_floorDiv_7cf53 3 (some .int)]
def wsL_length_r2 : List Cond := [Cond.methodLink RX0 86 yX0_forceWith, Cond.instanceMethod yX0_forceWith, Cond.selects RX0 yX0_forceWith yX0_forceWith, Cond.code yX0_forceWith cX0_forceWith 5 (some .int), Cond.fieldLink RX0 19 "MoorWatch" "wind" "I", Cond.fieldLink RX0 16 "MoorWatch" "passing" "[I", Cond.methodLink RX0 149 yX0_pullWith, Cond.instanceMethod yX0_pullWith, Cond.selects RX0 yX0_pullWith yX0_pullWith, Cond.code yX0_pullWith cX0_pullWith 8 (some .int), Cond.fieldLink RX0 38 "MoorWatch" "lineReaches" "[I", Cond.methodLink RX0 146 yX0_heightIn, Cond.instanceMethod yX0_heightIn, Cond.selects RX0 yX0_heightIn yX0_heightIn, Cond.code yX0_heightIn cX0_heightIn 2 (some .int), Cond.fieldLink RX0 9 "MoorWatch" "tides" "[I", Cond.fieldLink RX0 13 "MoorWatch" "loads" "[I", Cond.methodLink RX0 75 yX0_lengthOver, Cond.static yX0_lengthOver, Cond.code yX0_lengthOver cX0_lengthOver 6 (some .int), Cond.methodLink RX0 101 yX0_tensionAtLength, Cond.instanceMethod yX0_tensionAtLength, Cond.selects RX0 yX0_tensionAtLength yX0_tensionAtLength, Cond.code yX0_tensionAtLength cX0_tensionAtLength 3 (some .int)]
def wsL_length_r3 : List Cond := [Cond.fieldLink RX0 50 "MoorWatch" "lineFast" "[Z", Cond.fieldLink RX0 41 "MoorWatch" "lineStiffnesses" "[I", Cond.fieldLink RX0 47 "MoorWatch" "lineSets" "[I", Cond.methodLink RX0 113 Lib.Math.max.name, Cond.static Lib.Math.max.name, Cond.initialized "java/lang/Math", Cond.code Lib.Math.max.name Lib.Math.max.code 2 (some .int), Cond.methodLink RX0 97 yX0_lengthWith, Cond.instanceMethod yX0_lengthWith, Cond.selects RX0 yX0_lengthWith yX0_lengthWith, Cond.code yX0_lengthWith cX0_lengthWith 4 (some .int)]
def wsL_length : List Cond := .codeWith yL_length cL_length 5 (some .int) [(0, 10, 13, 21)] :: ((wsL_length_r1 ++ (wsL_length_r2 ++ wsL_length_r3)) ++ wsX00 ++ (vx_atS RX0 139 "java/lang/IndexOutOfBoundsException" ["java/lang/RuntimeException", "java/lang/Exception"]).filter goodWord)
def wsL_tension_r1 : List Cond := [Cond.classLink RL 21 "java/lang/IndexOutOfBoundsException", Cond.methodLink RL 52 yX0_tension, Cond.instanceMethod yX0_tension, Cond.selects RX0 yX0_tension yX0_tension, Cond.initialized RX0, Cond.code yX0_tension cX0_tension 3 (some .int), Cond.methodLink RX0 79 yX0_checkLine, Cond.instanceMethod yX0_checkLine, Cond.selects RX0 yX0_checkLine yX0_checkLine, Cond.code yX0_checkLine cX0_checkLine 2 none, Cond.classLink RX0 135 "java/lang/IndexOutOfBoundsException", Cond.initialized "java/lang/IndexOutOfBoundsException", Cond.fieldLink RX0 32 "MoorWatch" "lineCount" "I", Cond.methodLink RX0 82 yX0_checkHour, Cond.static yX0_checkHour, Cond.code yX0_checkHour cX0_checkHour 1 none, Cond.methodLink RX0 89 yX0_balanceOf, Cond.instanceMethod yX0_balanceOf, Cond.selects RX0 yX0_balanceOf yX0_balanceOf, Cond.code yX0_balanceOf cX0_balanceOf 6 (some .int), Cond.methodLink RX0 152 yJ9_floorDiv_7cf53, Cond.static yJ9_floorDiv_7cf53, Cond.initialized RJ9, Cond.code yJ9_floorDiv_7cf53 cJ9_floorDiv_7cf53 3 (some .int)]
def wsL_tension_r2 : List Cond := [Cond.methodLink RX0 86 yX0_forceWith, Cond.instanceMethod yX0_forceWith, Cond.selects RX0 yX0_forceWith yX0_forceWith, Cond.code yX0_forceWith cX0_forceWith 5 (some .int), Cond.fieldLink RX0 19 "MoorWatch" "wind" "I", Cond.fieldLink RX0 16 "MoorWatch" "passing" "[I", Cond.methodLink RX0 149 yX0_pullWith, Cond.instanceMethod yX0_pullWith, Cond.selects RX0 yX0_pullWith yX0_pullWith, Cond.code yX0_pullWith cX0_pullWith 8 (some .int), Cond.fieldLink RX0 38 "MoorWatch" "lineReaches" "[I", Cond.methodLink RX0 146 yX0_heightIn, Cond.instanceMethod yX0_heightIn, Cond.selects RX0 yX0_heightIn yX0_heightIn, Cond.code yX0_heightIn cX0_heightIn 2 (some .int), Cond.fieldLink RX0 9 "MoorWatch" "tides" "[I", Cond.fieldLink RX0 13 "MoorWatch" "loads" "[I", Cond.methodLink RX0 75 yX0_lengthOver, Cond.static yX0_lengthOver, Cond.code yX0_lengthOver cX0_lengthOver 6 (some .int), Cond.methodLink RX0 101 yX0_tensionAtLength, Cond.instanceMethod yX0_tensionAtLength, Cond.selects RX0 yX0_tensionAtLength yX0_tensionAtLength, Cond.code yX0_tensionAtLength cX0_tensionAtLength 3 (some .int)]
def wsL_tension_r3 : List Cond := [Cond.fieldLink RX0 50 "MoorWatch" "lineFast" "[Z", Cond.fieldLink RX0 41 "MoorWatch" "lineStiffnesses" "[I", Cond.fieldLink RX0 47 "MoorWatch" "lineSets" "[I", Cond.methodLink RX0 113 Lib.Math.max.name, Cond.static Lib.Math.max.name, Cond.initialized "java/lang/Math", Cond.code Lib.Math.max.name Lib.Math.max.code 2 (some .int), Cond.methodLink RX0 97 yX0_lengthWith, Cond.instanceMethod yX0_lengthWith, Cond.selects RX0 yX0_lengthWith yX0_lengthWith, Cond.code yX0_lengthWith cX0_lengthWith 4 (some .int)]
def wsL_tension : List Cond := .codeWith yL_tension cL_tension 5 (some .int) [(0, 10, 13, 21)] :: ((wsL_tension_r1 ++ (wsL_tension_r2 ++ wsL_tension_r3)) ++ wsX00 ++ (vx_atS RX0 139 "java/lang/IndexOutOfBoundsException" ["java/lang/RuntimeException", "java/lang/Exception"]).filter goodWord)
def wsL_onBollard_r1 : List Cond := [Cond.classLink RL 21 "java/lang/IndexOutOfBoundsException", Cond.methodLink RL 55 yX0_onBollard, Cond.instanceMethod yX0_onBollard, Cond.selects RX0 yX0_onBollard yX0_onBollard, Cond.initialized RX0, Cond.code yX0_onBollard cX0_onBollard 3 (some .int), Cond.methodLink RX0 69 yX0_checkBollard, Cond.instanceMethod yX0_checkBollard, Cond.selects RX0 yX0_checkBollard yX0_checkBollard, Cond.code yX0_checkBollard cX0_checkBollard 2 none, Cond.classLink RX0 135 "java/lang/IndexOutOfBoundsException", Cond.initialized "java/lang/IndexOutOfBoundsException", Cond.fieldLink RX0 23 "MoorWatch" "bollardCount" "I", Cond.methodLink RX0 82 yX0_checkHour, Cond.static yX0_checkHour, Cond.code yX0_checkHour cX0_checkHour 1 none, Cond.methodLink RX0 89 yX0_balanceOf, Cond.instanceMethod yX0_balanceOf, Cond.selects RX0 yX0_balanceOf yX0_balanceOf, Cond.code yX0_balanceOf cX0_balanceOf 6 (some .int), Cond.methodLink RX0 152 yJ9_floorDiv_7cf53, Cond.static yJ9_floorDiv_7cf53, Cond.initialized RJ9, Cond.code yJ9_floorDiv_7cf53 cJ9_floorDiv_7cf53 3 (some .int)]
def wsL_onBollard_r2 : List Cond := [Cond.methodLink RX0 86 yX0_forceWith, Cond.instanceMethod yX0_forceWith, Cond.selects RX0 yX0_forceWith yX0_forceWith, Cond.code yX0_forceWith cX0_forceWith 5 (some .int), Cond.fieldLink RX0 19 "MoorWatch" "wind" "I", Cond.fieldLink RX0 16 "MoorWatch" "passing" "[I", Cond.fieldLink RX0 32 "MoorWatch" "lineCount" "I", Cond.methodLink RX0 149 yX0_pullWith, Cond.instanceMethod yX0_pullWith, Cond.selects RX0 yX0_pullWith yX0_pullWith, Cond.code yX0_pullWith cX0_pullWith 8 (some .int), Cond.fieldLink RX0 38 "MoorWatch" "lineReaches" "[I", Cond.methodLink RX0 146 yX0_heightIn, Cond.instanceMethod yX0_heightIn, Cond.selects RX0 yX0_heightIn yX0_heightIn, Cond.code yX0_heightIn cX0_heightIn 2 (some .int), Cond.fieldLink RX0 9 "MoorWatch" "tides" "[I", Cond.fieldLink RX0 13 "MoorWatch" "loads" "[I", Cond.methodLink RX0 75 yX0_lengthOver, Cond.static yX0_lengthOver, Cond.code yX0_lengthOver cX0_lengthOver 6 (some .int), Cond.methodLink RX0 101 yX0_tensionAtLength, Cond.instanceMethod yX0_tensionAtLength, Cond.selects RX0 yX0_tensionAtLength yX0_tensionAtLength]
def wsL_onBollard_r3 : List Cond := [Cond.code yX0_tensionAtLength cX0_tensionAtLength 3 (some .int), Cond.fieldLink RX0 50 "MoorWatch" "lineFast" "[Z", Cond.fieldLink RX0 41 "MoorWatch" "lineStiffnesses" "[I", Cond.fieldLink RX0 47 "MoorWatch" "lineSets" "[I", Cond.methodLink RX0 113 Lib.Math.max.name, Cond.static Lib.Math.max.name, Cond.initialized "java/lang/Math", Cond.code Lib.Math.max.name Lib.Math.max.code 2 (some .int), Cond.methodLink RX0 104 yX0_bollardTension, Cond.instanceMethod yX0_bollardTension, Cond.selects RX0 yX0_bollardTension yX0_bollardTension, Cond.code yX0_bollardTension cX0_bollardTension 6 (some .int), Cond.fieldLink RX0 35 "MoorWatch" "lineBollards" "[I", Cond.methodLink RX0 97 yX0_lengthWith, Cond.instanceMethod yX0_lengthWith, Cond.selects RX0 yX0_lengthWith yX0_lengthWith, Cond.code yX0_lengthWith cX0_lengthWith 4 (some .int)]
def wsL_onBollard : List Cond := .codeWith yL_onBollard cL_onBollard 5 (some .int) [(0, 10, 13, 21)] :: ((wsL_onBollard_r1 ++ (wsL_onBollard_r2 ++ wsL_onBollard_r3)) ++ wsX00 ++ (vx_atS RX0 139 "java/lang/IndexOutOfBoundsException" ["java/lang/RuntimeException", "java/lang/Exception"]).filter goodWord)
def wsL_isSafe_r1 : List Cond := [Cond.classLink RL 21 "java/lang/IndexOutOfBoundsException", Cond.methodLink RL 58 yX0_isSafe, Cond.instanceMethod yX0_isSafe, Cond.selects RX0 yX0_isSafe yX0_isSafe, Cond.initialized RX0, Cond.code yX0_isSafe cX0_isSafe 2 (some .boolean), Cond.methodLink RX0 82 yX0_checkHour, Cond.static yX0_checkHour, Cond.code yX0_checkHour cX0_checkHour 1 none, Cond.classLink RX0 135 "java/lang/IndexOutOfBoundsException", Cond.initialized "java/lang/IndexOutOfBoundsException", Cond.methodLink RX0 107 yX0_holdsIn, Cond.instanceMethod yX0_holdsIn, Cond.selects RX0 yX0_holdsIn yX0_holdsIn, Cond.code yX0_holdsIn cX0_holdsIn 3 (some .boolean), Cond.methodLink RX0 89 yX0_balanceOf, Cond.instanceMethod yX0_balanceOf, Cond.selects RX0 yX0_balanceOf yX0_balanceOf, Cond.code yX0_balanceOf cX0_balanceOf 6 (some .int), Cond.methodLink RX0 152 yJ9_floorDiv_7cf53, Cond.static yJ9_floorDiv_7cf53, Cond.initialized RJ9, Cond.code yJ9_floorDiv_7cf53 cJ9_floorDiv_7cf53 3 (some .int), Cond.methodLink RX0 86 yX0_forceWith]
def wsL_isSafe_r2 : List Cond := [Cond.instanceMethod yX0_forceWith, Cond.selects RX0 yX0_forceWith yX0_forceWith, Cond.code yX0_forceWith cX0_forceWith 5 (some .int), Cond.fieldLink RX0 19 "MoorWatch" "wind" "I", Cond.fieldLink RX0 16 "MoorWatch" "passing" "[I", Cond.fieldLink RX0 32 "MoorWatch" "lineCount" "I", Cond.methodLink RX0 149 yX0_pullWith, Cond.instanceMethod yX0_pullWith, Cond.selects RX0 yX0_pullWith yX0_pullWith, Cond.code yX0_pullWith cX0_pullWith 8 (some .int), Cond.fieldLink RX0 38 "MoorWatch" "lineReaches" "[I", Cond.methodLink RX0 146 yX0_heightIn, Cond.instanceMethod yX0_heightIn, Cond.selects RX0 yX0_heightIn yX0_heightIn, Cond.code yX0_heightIn cX0_heightIn 2 (some .int), Cond.fieldLink RX0 9 "MoorWatch" "tides" "[I", Cond.fieldLink RX0 13 "MoorWatch" "loads" "[I", Cond.methodLink RX0 75 yX0_lengthOver, Cond.static yX0_lengthOver, Cond.code yX0_lengthOver cX0_lengthOver 6 (some .int), Cond.methodLink RX0 101 yX0_tensionAtLength, Cond.instanceMethod yX0_tensionAtLength, Cond.selects RX0 yX0_tensionAtLength yX0_tensionAtLength, Cond.code yX0_tensionAtLength cX0_tensionAtLength 3 (some .int)]
def wsL_isSafe_r3 : List Cond := [Cond.fieldLink RX0 50 "MoorWatch" "lineFast" "[Z", Cond.fieldLink RX0 41 "MoorWatch" "lineStiffnesses" "[I", Cond.fieldLink RX0 47 "MoorWatch" "lineSets" "[I", Cond.methodLink RX0 113 Lib.Math.max.name, Cond.static Lib.Math.max.name, Cond.initialized "java/lang/Math", Cond.code Lib.Math.max.name Lib.Math.max.code 2 (some .int), Cond.methodLink RX0 93 yX0_driftsWith, Cond.instanceMethod yX0_driftsWith, Cond.selects RX0 yX0_driftsWith yX0_driftsWith, Cond.code yX0_driftsWith cX0_driftsWith 3 (some .boolean), Cond.methodLink RX0 155 yX0_linesHold, Cond.instanceMethod yX0_linesHold, Cond.selects RX0 yX0_linesHold yX0_linesHold, Cond.code yX0_linesHold cX0_linesHold 5 (some .boolean), Cond.fieldLink RX0 44 "MoorWatch" "lineStrengths" "[I", Cond.methodLink RX0 97 yX0_lengthWith, Cond.instanceMethod yX0_lengthWith, Cond.selects RX0 yX0_lengthWith yX0_lengthWith, Cond.code yX0_lengthWith cX0_lengthWith 4 (some .int), Cond.methodLink RX0 158 yX0_bollardsHold, Cond.instanceMethod yX0_bollardsHold, Cond.selects RX0 yX0_bollardsHold yX0_bollardsHold, Cond.code yX0_bollardsHold cX0_bollardsHold 4 (some .boolean)]
def wsL_isSafe_r4 : List Cond := [Cond.fieldLink RX0 23 "MoorWatch" "bollardCount" "I", Cond.fieldLink RX0 29 "MoorWatch" "bollardLimits" "[I", Cond.methodLink RX0 104 yX0_bollardTension, Cond.instanceMethod yX0_bollardTension, Cond.selects RX0 yX0_bollardTension yX0_bollardTension, Cond.code yX0_bollardTension cX0_bollardTension 6 (some .int), Cond.fieldLink RX0 35 "MoorWatch" "lineBollards" "[I"]
def wsL_isSafe : List Cond := .codeWith yL_isSafe cL_isSafe 4 (some .int) [(0, 16, 19, 21)] :: ((wsL_isSafe_r1 ++ (wsL_isSafe_r2 ++ (wsL_isSafe_r3 ++ wsL_isSafe_r4))) ++ wsX00 ++ (vx_atS RX0 139 "java/lang/IndexOutOfBoundsException" ["java/lang/RuntimeException", "java/lang/Exception"]).filter goodWord)
def wsL_firstUnsafe_r1 : List Cond := [Cond.classLink RL 21 "java/lang/IndexOutOfBoundsException", Cond.methodLink RL 61 yX0_firstUnsafe, Cond.instanceMethod yX0_firstUnsafe, Cond.selects RX0 yX0_firstUnsafe yX0_firstUnsafe, Cond.initialized RX0, Cond.code yX0_firstUnsafe cX0_firstUnsafe 3 (some .int), Cond.methodLink RX0 82 yX0_checkHour, Cond.static yX0_checkHour, Cond.code yX0_checkHour cX0_checkHour 1 none, Cond.classLink RX0 135 "java/lang/IndexOutOfBoundsException", Cond.initialized "java/lang/IndexOutOfBoundsException", Cond.methodLink RX0 107 yX0_holdsIn, Cond.instanceMethod yX0_holdsIn, Cond.selects RX0 yX0_holdsIn yX0_holdsIn, Cond.code yX0_holdsIn cX0_holdsIn 3 (some .boolean), Cond.methodLink RX0 89 yX0_balanceOf, Cond.instanceMethod yX0_balanceOf, Cond.selects RX0 yX0_balanceOf yX0_balanceOf, Cond.code yX0_balanceOf cX0_balanceOf 6 (some .int), Cond.methodLink RX0 152 yJ9_floorDiv_7cf53, Cond.static yJ9_floorDiv_7cf53, Cond.initialized RJ9, Cond.code yJ9_floorDiv_7cf53 cJ9_floorDiv_7cf53 3 (some .int), Cond.methodLink RX0 86 yX0_forceWith]
def wsL_firstUnsafe_r2 : List Cond := [Cond.instanceMethod yX0_forceWith, Cond.selects RX0 yX0_forceWith yX0_forceWith, Cond.code yX0_forceWith cX0_forceWith 5 (some .int), Cond.fieldLink RX0 19 "MoorWatch" "wind" "I", Cond.fieldLink RX0 16 "MoorWatch" "passing" "[I", Cond.fieldLink RX0 32 "MoorWatch" "lineCount" "I", Cond.methodLink RX0 149 yX0_pullWith, Cond.instanceMethod yX0_pullWith, Cond.selects RX0 yX0_pullWith yX0_pullWith, Cond.code yX0_pullWith cX0_pullWith 8 (some .int), Cond.fieldLink RX0 38 "MoorWatch" "lineReaches" "[I", Cond.methodLink RX0 146 yX0_heightIn, Cond.instanceMethod yX0_heightIn, Cond.selects RX0 yX0_heightIn yX0_heightIn, Cond.code yX0_heightIn cX0_heightIn 2 (some .int), Cond.fieldLink RX0 9 "MoorWatch" "tides" "[I", Cond.fieldLink RX0 13 "MoorWatch" "loads" "[I", Cond.methodLink RX0 75 yX0_lengthOver, Cond.static yX0_lengthOver, Cond.code yX0_lengthOver cX0_lengthOver 6 (some .int), Cond.methodLink RX0 101 yX0_tensionAtLength, Cond.instanceMethod yX0_tensionAtLength, Cond.selects RX0 yX0_tensionAtLength yX0_tensionAtLength, Cond.code yX0_tensionAtLength cX0_tensionAtLength 3 (some .int)]
def wsL_firstUnsafe_r3 : List Cond := [Cond.fieldLink RX0 50 "MoorWatch" "lineFast" "[Z", Cond.fieldLink RX0 41 "MoorWatch" "lineStiffnesses" "[I", Cond.fieldLink RX0 47 "MoorWatch" "lineSets" "[I", Cond.methodLink RX0 113 Lib.Math.max.name, Cond.static Lib.Math.max.name, Cond.initialized "java/lang/Math", Cond.code Lib.Math.max.name Lib.Math.max.code 2 (some .int), Cond.methodLink RX0 93 yX0_driftsWith, Cond.instanceMethod yX0_driftsWith, Cond.selects RX0 yX0_driftsWith yX0_driftsWith, Cond.code yX0_driftsWith cX0_driftsWith 3 (some .boolean), Cond.methodLink RX0 155 yX0_linesHold, Cond.instanceMethod yX0_linesHold, Cond.selects RX0 yX0_linesHold yX0_linesHold, Cond.code yX0_linesHold cX0_linesHold 5 (some .boolean), Cond.fieldLink RX0 44 "MoorWatch" "lineStrengths" "[I", Cond.methodLink RX0 97 yX0_lengthWith, Cond.instanceMethod yX0_lengthWith, Cond.selects RX0 yX0_lengthWith yX0_lengthWith, Cond.code yX0_lengthWith cX0_lengthWith 4 (some .int), Cond.methodLink RX0 158 yX0_bollardsHold, Cond.instanceMethod yX0_bollardsHold, Cond.selects RX0 yX0_bollardsHold yX0_bollardsHold, Cond.code yX0_bollardsHold cX0_bollardsHold 4 (some .boolean)]
def wsL_firstUnsafe_r4 : List Cond := [Cond.fieldLink RX0 23 "MoorWatch" "bollardCount" "I", Cond.fieldLink RX0 29 "MoorWatch" "bollardLimits" "[I", Cond.methodLink RX0 104 yX0_bollardTension, Cond.instanceMethod yX0_bollardTension, Cond.selects RX0 yX0_bollardTension yX0_bollardTension, Cond.code yX0_bollardTension cX0_bollardTension 6 (some .int), Cond.fieldLink RX0 35 "MoorWatch" "lineBollards" "[I"]
def wsL_firstUnsafe : List Cond := .codeWith yL_firstUnsafe cL_firstUnsafe 4 (some .int) [(0, 9, 12, 21)] :: ((wsL_firstUnsafe_r1 ++ (wsL_firstUnsafe_r2 ++ (wsL_firstUnsafe_r3 ++ wsL_firstUnsafe_r4))) ++ wsX00 ++ (vx_atS RX0 139 "java/lang/IndexOutOfBoundsException" ["java/lang/RuntimeException", "java/lang/Exception"]).filter goodWord)
def wsL_tend_r1 : List Cond := [Cond.classLink RL 21 "java/lang/IndexOutOfBoundsException", Cond.classLink RL 13 "java/lang/IllegalArgumentException", Cond.classLink RL 15 "java/lang/IllegalStateException", Cond.methodLink RL 64 yX0_tend, Cond.instanceMethod yX0_tend, Cond.selects RX0 yX0_tend yX0_tend, Cond.initialized RX0, Cond.code yX0_tend cX0_tend 4 (some .int), Cond.classLink RX0 62 "java/lang/IllegalStateException", Cond.initialized "java/lang/IllegalStateException", Cond.fieldLink RX0 50 "MoorWatch" "lineFast" "[Z", Cond.fieldLink RX0 47 "MoorWatch" "lineSets" "[I", Cond.methodLink RX0 113 Lib.Math.max.name, Cond.static Lib.Math.max.name, Cond.initialized "java/lang/Math", Cond.code Lib.Math.max.name Lib.Math.max.code 2 (some .int), Cond.methodLink RX0 79 yX0_checkLine, Cond.instanceMethod yX0_checkLine, Cond.selects RX0 yX0_checkLine yX0_checkLine, Cond.code yX0_checkLine cX0_checkLine 2 none, Cond.classLink RX0 135 "java/lang/IndexOutOfBoundsException", Cond.initialized "java/lang/IndexOutOfBoundsException", Cond.fieldLink RX0 32 "MoorWatch" "lineCount" "I", Cond.methodLink RX0 82 yX0_checkHour]
def wsL_tend_r2 : List Cond := [Cond.static yX0_checkHour, Cond.code yX0_checkHour cX0_checkHour 1 none, Cond.methodLink RX0 57 yX0_checkRange, Cond.static yX0_checkRange, Cond.code yX0_checkRange cX0_checkRange 3 none, Cond.classLink RX0 121 "java/lang/IllegalArgumentException", Cond.initialized "java/lang/IllegalArgumentException", Cond.methodLink RX0 89 yX0_balanceOf, Cond.instanceMethod yX0_balanceOf, Cond.selects RX0 yX0_balanceOf yX0_balanceOf, Cond.code yX0_balanceOf cX0_balanceOf 6 (some .int), Cond.methodLink RX0 152 yJ9_floorDiv_7cf53, Cond.static yJ9_floorDiv_7cf53, Cond.initialized RJ9, Cond.code yJ9_floorDiv_7cf53 cJ9_floorDiv_7cf53 3 (some .int), Cond.methodLink RX0 86 yX0_forceWith, Cond.instanceMethod yX0_forceWith, Cond.selects RX0 yX0_forceWith yX0_forceWith, Cond.code yX0_forceWith cX0_forceWith 5 (some .int), Cond.fieldLink RX0 19 "MoorWatch" "wind" "I", Cond.fieldLink RX0 16 "MoorWatch" "passing" "[I", Cond.methodLink RX0 149 yX0_pullWith, Cond.instanceMethod yX0_pullWith, Cond.selects RX0 yX0_pullWith yX0_pullWith]
def wsL_tend_r3 : List Cond := [Cond.code yX0_pullWith cX0_pullWith 8 (some .int), Cond.fieldLink RX0 38 "MoorWatch" "lineReaches" "[I", Cond.methodLink RX0 146 yX0_heightIn, Cond.instanceMethod yX0_heightIn, Cond.selects RX0 yX0_heightIn yX0_heightIn, Cond.code yX0_heightIn cX0_heightIn 2 (some .int), Cond.fieldLink RX0 9 "MoorWatch" "tides" "[I", Cond.fieldLink RX0 13 "MoorWatch" "loads" "[I", Cond.methodLink RX0 75 yX0_lengthOver, Cond.static yX0_lengthOver, Cond.code yX0_lengthOver cX0_lengthOver 6 (some .int), Cond.methodLink RX0 101 yX0_tensionAtLength, Cond.instanceMethod yX0_tensionAtLength, Cond.selects RX0 yX0_tensionAtLength yX0_tensionAtLength, Cond.code yX0_tensionAtLength cX0_tensionAtLength 3 (some .int), Cond.fieldLink RX0 41 "MoorWatch" "lineStiffnesses" "[I", Cond.methodLink RX0 97 yX0_lengthWith, Cond.instanceMethod yX0_lengthWith, Cond.selects RX0 yX0_lengthWith yX0_lengthWith, Cond.code yX0_lengthWith cX0_lengthWith 4 (some .int)]
def wsL_tend : List Cond := .codeWith yL_tend cL_tend 6 (some .int) [(0, 12, 15, 21), (0, 12, 19, 13), (0, 12, 23, 15)] :: ((wsL_tend_r1 ++ (wsL_tend_r2 ++ wsL_tend_r3)) ++ wsX00 ++ (vx_atS RX0 66 "java/lang/IllegalStateException" ["java/lang/RuntimeException", "java/lang/Exception"]).filter goodWord ++ (vx_atS RX0 139 "java/lang/IndexOutOfBoundsException" ["java/lang/RuntimeException", "java/lang/Exception"]).filter goodWord ++ (vx_atS RX0 125 "java/lang/IllegalArgumentException" ["java/lang/RuntimeException", "java/lang/Exception"]).filter goodWord)
def wsL_tendAll_r1 : List Cond := [Cond.classLink RL 21 "java/lang/IndexOutOfBoundsException", Cond.methodLink RL 68 yX0_tendAll, Cond.instanceMethod yX0_tendAll, Cond.selects RX0 yX0_tendAll yX0_tendAll, Cond.initialized RX0, Cond.code yX0_tendAll cX0_tendAll 2 (some .int), Cond.methodLink RX0 82 yX0_checkHour, Cond.static yX0_checkHour, Cond.code yX0_checkHour cX0_checkHour 1 none, Cond.classLink RX0 135 "java/lang/IndexOutOfBoundsException", Cond.initialized "java/lang/IndexOutOfBoundsException", Cond.methodLink RX0 118 yX0_tendFastLines, Cond.instanceMethod yX0_tendFastLines, Cond.selects RX0 yX0_tendFastLines yX0_tendFastLines, Cond.code yX0_tendFastLines cX0_tendFastLines 6 (some .int), Cond.fieldLink RX0 32 "MoorWatch" "lineCount" "I", Cond.fieldLink RX0 50 "MoorWatch" "lineFast" "[Z", Cond.fieldLink RX0 47 "MoorWatch" "lineSets" "[I", Cond.methodLink RX0 89 yX0_balanceOf, Cond.instanceMethod yX0_balanceOf, Cond.selects RX0 yX0_balanceOf yX0_balanceOf, Cond.code yX0_balanceOf cX0_balanceOf 6 (some .int), Cond.methodLink RX0 152 yJ9_floorDiv_7cf53, Cond.static yJ9_floorDiv_7cf53]
def wsL_tendAll_r2 : List Cond := [Cond.initialized RJ9, Cond.code yJ9_floorDiv_7cf53 cJ9_floorDiv_7cf53 3 (some .int), Cond.methodLink RX0 86 yX0_forceWith, Cond.instanceMethod yX0_forceWith, Cond.selects RX0 yX0_forceWith yX0_forceWith, Cond.code yX0_forceWith cX0_forceWith 5 (some .int), Cond.fieldLink RX0 19 "MoorWatch" "wind" "I", Cond.fieldLink RX0 16 "MoorWatch" "passing" "[I", Cond.methodLink RX0 149 yX0_pullWith, Cond.instanceMethod yX0_pullWith, Cond.selects RX0 yX0_pullWith yX0_pullWith, Cond.code yX0_pullWith cX0_pullWith 8 (some .int), Cond.fieldLink RX0 38 "MoorWatch" "lineReaches" "[I", Cond.methodLink RX0 146 yX0_heightIn, Cond.instanceMethod yX0_heightIn, Cond.selects RX0 yX0_heightIn yX0_heightIn, Cond.code yX0_heightIn cX0_heightIn 2 (some .int), Cond.fieldLink RX0 9 "MoorWatch" "tides" "[I", Cond.fieldLink RX0 13 "MoorWatch" "loads" "[I", Cond.methodLink RX0 75 yX0_lengthOver, Cond.static yX0_lengthOver, Cond.code yX0_lengthOver cX0_lengthOver 6 (some .int), Cond.methodLink RX0 101 yX0_tensionAtLength, Cond.instanceMethod yX0_tensionAtLength]
def wsL_tendAll_r3 : List Cond := [Cond.selects RX0 yX0_tensionAtLength yX0_tensionAtLength, Cond.code yX0_tensionAtLength cX0_tensionAtLength 3 (some .int), Cond.fieldLink RX0 41 "MoorWatch" "lineStiffnesses" "[I", Cond.methodLink RX0 113 Lib.Math.max.name, Cond.static Lib.Math.max.name, Cond.initialized "java/lang/Math", Cond.code Lib.Math.max.name Lib.Math.max.code 2 (some .int), Cond.methodLink RX0 97 yX0_lengthWith, Cond.instanceMethod yX0_lengthWith, Cond.selects RX0 yX0_lengthWith yX0_lengthWith, Cond.code yX0_lengthWith cX0_lengthWith 4 (some .int)]
def wsL_tendAll : List Cond := .codeWith yL_tendAll cL_tendAll 4 (some .int) [(0, 9, 12, 21)] :: ((wsL_tendAll_r1 ++ (wsL_tendAll_r2 ++ wsL_tendAll_r3)) ++ wsX00 ++ (vx_atS RX0 139 "java/lang/IndexOutOfBoundsException" ["java/lang/RuntimeException", "java/lang/Exception"]).filter goodWord)
def wsL_plan_r1 : List Cond := [Cond.classLink RL 21 "java/lang/IndexOutOfBoundsException", Cond.classLink RL 13 "java/lang/IllegalArgumentException", Cond.methodLink RL 71 yX0_plan, Cond.instanceMethod yX0_plan, Cond.selects RX0 yX0_plan yX0_plan, Cond.initialized RX0, Cond.code yX0_plan cX0_plan 4 (some .int), Cond.classLink RX0 121 "java/lang/IllegalArgumentException", Cond.initialized "java/lang/IllegalArgumentException", Cond.fieldLink RX0 47 "MoorWatch" "lineSets" "[I", Cond.fieldLink RX0 54 "MoorWatch" "setsBeforePlan" "[I", Cond.methodLink RX0 126 arraycopyName, Cond.native arraycopyName, Cond.static arraycopyName, Cond.initialized "java/lang/System", Cond.methodLink RX0 82 yX0_checkHour, Cond.static yX0_checkHour, Cond.code yX0_checkHour cX0_checkHour 1 none, Cond.classLink RX0 135 "java/lang/IndexOutOfBoundsException", Cond.initialized "java/lang/IndexOutOfBoundsException", Cond.methodLink RX0 132 yX0_tendThrough, Cond.instanceMethod yX0_tendThrough, Cond.selects RX0 yX0_tendThrough yX0_tendThrough, Cond.code yX0_tendThrough cX0_tendThrough 5 (some .int)]
def wsL_plan_r2 : List Cond := [Cond.methodLink RX0 107 yX0_holdsIn, Cond.instanceMethod yX0_holdsIn, Cond.selects RX0 yX0_holdsIn yX0_holdsIn, Cond.code yX0_holdsIn cX0_holdsIn 3 (some .boolean), Cond.methodLink RX0 89 yX0_balanceOf, Cond.instanceMethod yX0_balanceOf, Cond.selects RX0 yX0_balanceOf yX0_balanceOf, Cond.code yX0_balanceOf cX0_balanceOf 6 (some .int), Cond.methodLink RX0 152 yJ9_floorDiv_7cf53, Cond.static yJ9_floorDiv_7cf53, Cond.initialized RJ9, Cond.code yJ9_floorDiv_7cf53 cJ9_floorDiv_7cf53 3 (some .int), Cond.methodLink RX0 86 yX0_forceWith, Cond.instanceMethod yX0_forceWith, Cond.selects RX0 yX0_forceWith yX0_forceWith, Cond.code yX0_forceWith cX0_forceWith 5 (some .int), Cond.fieldLink RX0 19 "MoorWatch" "wind" "I", Cond.fieldLink RX0 16 "MoorWatch" "passing" "[I", Cond.fieldLink RX0 32 "MoorWatch" "lineCount" "I", Cond.methodLink RX0 149 yX0_pullWith, Cond.instanceMethod yX0_pullWith, Cond.selects RX0 yX0_pullWith yX0_pullWith, Cond.code yX0_pullWith cX0_pullWith 8 (some .int), Cond.fieldLink RX0 38 "MoorWatch" "lineReaches" "[I"]
def wsL_plan_r3 : List Cond := [Cond.methodLink RX0 146 yX0_heightIn, Cond.instanceMethod yX0_heightIn, Cond.selects RX0 yX0_heightIn yX0_heightIn, Cond.code yX0_heightIn cX0_heightIn 2 (some .int), Cond.fieldLink RX0 9 "MoorWatch" "tides" "[I", Cond.fieldLink RX0 13 "MoorWatch" "loads" "[I", Cond.methodLink RX0 75 yX0_lengthOver, Cond.static yX0_lengthOver, Cond.code yX0_lengthOver cX0_lengthOver 6 (some .int), Cond.methodLink RX0 101 yX0_tensionAtLength, Cond.instanceMethod yX0_tensionAtLength, Cond.selects RX0 yX0_tensionAtLength yX0_tensionAtLength, Cond.code yX0_tensionAtLength cX0_tensionAtLength 3 (some .int), Cond.fieldLink RX0 50 "MoorWatch" "lineFast" "[Z", Cond.fieldLink RX0 41 "MoorWatch" "lineStiffnesses" "[I", Cond.methodLink RX0 113 Lib.Math.max.name, Cond.static Lib.Math.max.name, Cond.initialized "java/lang/Math", Cond.code Lib.Math.max.name Lib.Math.max.code 2 (some .int), Cond.methodLink RX0 93 yX0_driftsWith, Cond.instanceMethod yX0_driftsWith, Cond.selects RX0 yX0_driftsWith yX0_driftsWith, Cond.code yX0_driftsWith cX0_driftsWith 3 (some .boolean), Cond.methodLink RX0 155 yX0_linesHold]
def wsL_plan_r4 : List Cond := [Cond.instanceMethod yX0_linesHold, Cond.selects RX0 yX0_linesHold yX0_linesHold, Cond.code yX0_linesHold cX0_linesHold 5 (some .boolean), Cond.fieldLink RX0 44 "MoorWatch" "lineStrengths" "[I", Cond.methodLink RX0 97 yX0_lengthWith, Cond.instanceMethod yX0_lengthWith, Cond.selects RX0 yX0_lengthWith yX0_lengthWith, Cond.code yX0_lengthWith cX0_lengthWith 4 (some .int), Cond.methodLink RX0 158 yX0_bollardsHold, Cond.instanceMethod yX0_bollardsHold, Cond.selects RX0 yX0_bollardsHold yX0_bollardsHold, Cond.code yX0_bollardsHold cX0_bollardsHold 4 (some .boolean), Cond.fieldLink RX0 23 "MoorWatch" "bollardCount" "I", Cond.fieldLink RX0 29 "MoorWatch" "bollardLimits" "[I", Cond.methodLink RX0 104 yX0_bollardTension, Cond.instanceMethod yX0_bollardTension, Cond.selects RX0 yX0_bollardTension yX0_bollardTension, Cond.code yX0_bollardTension cX0_bollardTension 6 (some .int), Cond.fieldLink RX0 35 "MoorWatch" "lineBollards" "[I", Cond.methodLink RX0 118 yX0_tendFastLines, Cond.instanceMethod yX0_tendFastLines, Cond.selects RX0 yX0_tendFastLines yX0_tendFastLines, Cond.code yX0_tendFastLines cX0_tendFastLines 6 (some .int)]
def wsL_plan : List Cond := .codeWith yL_plan cL_plan 5 (some .int) [(0, 10, 13, 21), (0, 10, 17, 13)] :: ((wsL_plan_r1 ++ (wsL_plan_r2 ++ (wsL_plan_r3 ++ wsL_plan_r4))) ++ wsX00 ++ (vx_atS RX0 125 "java/lang/IllegalArgumentException" ["java/lang/RuntimeException", "java/lang/Exception"]).filter goodWord ++ (vx_atS RX0 139 "java/lang/IndexOutOfBoundsException" ["java/lang/RuntimeException", "java/lang/Exception"]).filter goodWord)
def wsL_law0_r1 : List Cond := [Cond.classLink RL 8 RX0, Cond.instantiable RX0 15, Cond.initialized RX0, Cond.classLink RL 75 RX1, Cond.instantiable RX1 16, Cond.initialized RX1, Cond.arrayClass .long, Cond.methodLink RL 74 yX0_init, Cond.instanceMethod yX0_init, Cond.code yX0_init cX0_init 1 none, Cond.methodLink RX0 1 objectInit, Cond.instanceMethod objectInit, Cond.code objectInit ⟨#[0xb1]⟩ 1 none, Cond.arrayClass .int, Cond.fieldLink RX0 9 "MoorWatch" "tides" "[I", Cond.fieldLink RX0 13 "MoorWatch" "loads" "[I", Cond.fieldLink RX0 16 "MoorWatch" "passing" "[I", Cond.fieldLink RX0 19 "MoorWatch" "wind" "I", Cond.fieldLink RX0 23 "MoorWatch" "bollardCount" "I", Cond.fieldLink RX0 26 "MoorWatch" "bollardPlaces" "[I", Cond.fieldLink RX0 29 "MoorWatch" "bollardLimits" "[I", Cond.fieldLink RX0 32 "MoorWatch" "lineCount" "I", Cond.fieldLink RX0 35 "MoorWatch" "lineBollards" "[I", Cond.fieldLink RX0 38 "MoorWatch" "lineReaches" "[I"]
def wsL_law0_r2 : List Cond := [Cond.fieldLink RX0 41 "MoorWatch" "lineStiffnesses" "[I", Cond.fieldLink RX0 44 "MoorWatch" "lineStrengths" "[I", Cond.fieldLink RX0 47 "MoorWatch" "lineSets" "[I", Cond.arrayClass .boolean, Cond.fieldLink RX0 50 "MoorWatch" "lineFast" "[Z", Cond.fieldLink RX0 54 "MoorWatch" "setsBeforePlan" "[I", Cond.methodLink RL 77 yX1_init, Cond.instanceMethod yX1_init, Cond.code yX1_init cX1_init 1 none, Cond.methodLink RX1 1 objectInit, Cond.fieldLink RX1 7 "MoorWatchModel" "places" "[I", Cond.fieldLink RX1 13 "MoorWatchModel" "limits" "[I", Cond.fieldLink RX1 16 "MoorWatchModel" "points" "[I", Cond.fieldLink RX1 19 "MoorWatchModel" "fastTo" "[I", Cond.fieldLink RX1 22 "MoorWatchModel" "stiffness" "[I", Cond.fieldLink RX1 25 "MoorWatchModel" "strengths" "[I", Cond.fieldLink RX1 28 "MoorWatchModel" "sets" "[I", Cond.fieldLink RX1 31 "MoorWatchModel" "gone" "[Z", Cond.fieldLink RX1 35 "MoorWatchModel" "tides" "[I", Cond.fieldLink RX1 38 "MoorWatchModel" "loads" "[I", Cond.fieldLink RX1 41 "MoorWatchModel" "passings" "[I", Cond.fieldLink RX1 44 "MoorWatchModel" "kept" "[I", Cond.methodLink RL 78 yL_addBollard, Cond.static yL_addBollard]
def wsL_law0_r3 : List Cond := [Cond.initialized RL, Cond.codeWith yL_addBollard cL_addBollard 5 (some .int) [(0, 10, 13, 13), (0, 10, 17, 15)], Cond.classLink RL 13 "java/lang/IllegalArgumentException", Cond.classLink RL 15 "java/lang/IllegalStateException", Cond.methodLink RL 7 yX0_addBollard, Cond.instanceMethod yX0_addBollard, Cond.selects RX0 yX0_addBollard yX0_addBollard, Cond.code yX0_addBollard cX0_addBollard 4 (some .int), Cond.classLink RX0 62 "java/lang/IllegalStateException", Cond.initialized "java/lang/IllegalStateException", Cond.constant RX0 61 (1000000), Cond.methodLink RX0 57 yX0_checkRange, Cond.static yX0_checkRange, Cond.code yX0_checkRange cX0_checkRange 3 none, Cond.classLink RX0 121 "java/lang/IllegalArgumentException", Cond.initialized "java/lang/IllegalArgumentException", Cond.methodLink RL 83 yX1_addBollard, Cond.instanceMethod yX1_addBollard, Cond.selects RX1 yX1_addBollard yX1_addBollard, Cond.code yX1_addBollard cX1_addBollard 3 (some .int), Cond.constant RX1 58 (1000000), Cond.fieldLink RX1 59 "MoorWatchModel" "bollards" "I", Cond.methodLink RX1 51 yX1_in, Cond.static yX1_in]
def wsL_law0_r4 : List Cond := [Cond.code yX1_in cX1_in 3 (some .boolean), Cond.methodLink RX1 62 yX1_goes, Cond.instanceMethod yX1_goes, Cond.selects RX1 yX1_goes yX1_goes, Cond.code yX1_goes cX1_goes 4 (some .boolean), Cond.fieldLink RX1 47 "MoorWatchModel" "last" "I", Cond.methodLink RL 84 yX1_thrown, Cond.instanceMethod yX1_thrown, Cond.selects RX1 yX1_thrown yX1_thrown, Cond.code yX1_thrown cX1_thrown 1 (some .int), Cond.methodLink RL 88 yL_addLine, Cond.static yL_addLine, Cond.codeWith yL_addLine cL_addLine 7 (some .int) [(0, 14, 17, 21), (0, 14, 21, 13), (0, 14, 25, 15)], Cond.classLink RL 21 "java/lang/IndexOutOfBoundsException", Cond.methodLink RL 17 yX0_addLine, Cond.instanceMethod yX0_addLine, Cond.selects RX0 yX0_addLine yX0_addLine, Cond.code yX0_addLine cX0_addLine 7 (some .int), Cond.methodLink RX0 69 yX0_checkBollard, Cond.instanceMethod yX0_checkBollard, Cond.selects RX0 yX0_checkBollard yX0_checkBollard, Cond.code yX0_checkBollard cX0_checkBollard 2 none, Cond.classLink RX0 135 "java/lang/IndexOutOfBoundsException", Cond.initialized "java/lang/IndexOutOfBoundsException"]
def wsL_law0_r5 : List Cond := [Cond.methodLink RX0 75 yX0_lengthOver, Cond.static yX0_lengthOver, Cond.code yX0_lengthOver cX0_lengthOver 6 (some .int), Cond.methodLink RL 91 yX1_addLine, Cond.instanceMethod yX1_addLine, Cond.selects RX1 yX1_addLine yX1_addLine, Cond.code yX1_addLine cX1_addLine 7 (some .int), Cond.fieldLink RX1 55 "MoorWatchModel" "lines" "I", Cond.methodLink RX1 66 yX1_root, Cond.static yX1_root, Cond.code yX1_root cX1_root 6 (some .int), Cond.methodLink RL 92 yL_toggle, Cond.static yL_toggle, Cond.codeWith yL_toggle cL_toggle 4 (some .int) [(0, 16, 19, 21)], Cond.methodLink RL 23 yX0_toggle, Cond.instanceMethod yX0_toggle, Cond.selects RX0 yX0_toggle yX0_toggle, Cond.code yX0_toggle cX0_toggle 2 (some .boolean), Cond.methodLink RX0 79 yX0_checkLine, Cond.instanceMethod yX0_checkLine, Cond.selects RX0 yX0_checkLine yX0_checkLine, Cond.code yX0_checkLine cX0_checkLine 2 none, Cond.methodLink RL 95 yX1_toggle, Cond.instanceMethod yX1_toggle]
def wsL_law0_r6 : List Cond := [Cond.selects RX1 yX1_toggle yX1_toggle, Cond.code yX1_toggle cX1_toggle 2 (some .boolean), Cond.methodLink RX1 70 yX1_isLine, Cond.instanceMethod yX1_isLine, Cond.selects RX1 yX1_isLine yX1_isLine, Cond.code yX1_isLine cX1_isLine 2 (some .boolean), Cond.methodLink RL 96 yL_setTide, Cond.static yL_setTide, Cond.codeWith yL_setTide cL_setTide 5 (some .int) [(0, 10, 13, 21), (0, 10, 17, 13)], Cond.methodLink RL 27 yX0_setTide, Cond.instanceMethod yX0_setTide, Cond.selects RX0 yX0_setTide yX0_setTide, Cond.code yX0_setTide cX0_setTide 4 (some .int), Cond.methodLink RX0 82 yX0_checkHour, Cond.static yX0_checkHour, Cond.code yX0_checkHour cX0_checkHour 1 none, Cond.methodLink RL 98 yX1_setTide, Cond.instanceMethod yX1_setTide, Cond.selects RX1 yX1_setTide yX1_setTide, Cond.code yX1_setTide cX1_setTide 4 (some .int), Cond.methodLink RX1 74 yX1_isHour, Cond.static yX1_isHour, Cond.code yX1_isHour cX1_isHour 1 (some .boolean), Cond.methodLink RL 99 yL_setLoad]
def wsL_law0_r7 : List Cond := [Cond.static yL_setLoad, Cond.codeWith yL_setLoad cL_setLoad 5 (some .int) [(0, 10, 13, 21), (0, 10, 17, 13)], Cond.methodLink RL 30 yX0_setLoad, Cond.instanceMethod yX0_setLoad, Cond.selects RX0 yX0_setLoad yX0_setLoad, Cond.code yX0_setLoad cX0_setLoad 5 (some .int), Cond.methodLink RL 101 yX1_setLoad, Cond.instanceMethod yX1_setLoad, Cond.selects RX1 yX1_setLoad yX1_setLoad, Cond.code yX1_setLoad cX1_setLoad 5 (some .int), Cond.methodLink RL 102 yL_setWind, Cond.static yL_setWind, Cond.codeWith yL_setWind cL_setWind 4 (some .int) [(0, 9, 12, 13)], Cond.methodLink RL 33 yX0_setWind, Cond.instanceMethod yX0_setWind, Cond.selects RX0 yX0_setWind yX0_setWind, Cond.code yX0_setWind cX0_setWind 3 (some .int), Cond.constant RX0 85 (-1000000), Cond.methodLink RL 104 yX1_setWind, Cond.instanceMethod yX1_setWind, Cond.selects RX1 yX1_setWind yX1_setWind, Cond.code yX1_setWind cX1_setWind 3 (some .int), Cond.constant RX1 77 (-1000000), Cond.fieldLink RX1 78 "MoorWatchModel" "wind" "I"]
def wsL_law0_r8 : List Cond := [Cond.methodLink RL 105 yL_setPassing, Cond.static yL_setPassing, Cond.codeWith yL_setPassing cL_setPassing 5 (some .int) [(0, 10, 13, 21), (0, 10, 17, 13)], Cond.methodLink RL 37 yX0_setPassing, Cond.instanceMethod yX0_setPassing, Cond.selects RX0 yX0_setPassing yX0_setPassing, Cond.code yX0_setPassing cX0_setPassing 4 (some .int), Cond.methodLink RL 107 yX1_setPassing, Cond.instanceMethod yX1_setPassing, Cond.selects RX1 yX1_setPassing yX1_setPassing, Cond.code yX1_setPassing cX1_setPassing 4 (some .int), Cond.methodLink RL 108 yL_force, Cond.static yL_force, Cond.codeWith yL_force cL_force 5 (some .int) [(0, 10, 13, 21), (0, 10, 17, 13)], Cond.methodLink RL 40 yX0_force, Cond.instanceMethod yX0_force, Cond.selects RX0 yX0_force yX0_force, Cond.code yX0_force cX0_force 3 (some .int), Cond.methodLink RX0 86 yX0_forceWith, Cond.instanceMethod yX0_forceWith, Cond.selects RX0 yX0_forceWith yX0_forceWith, Cond.code yX0_forceWith cX0_forceWith 5 (some .int), Cond.methodLink RX0 149 yX0_pullWith, Cond.instanceMethod yX0_pullWith]
def wsL_law0_r9 : List Cond := [Cond.selects RX0 yX0_pullWith yX0_pullWith, Cond.code yX0_pullWith cX0_pullWith 8 (some .int), Cond.methodLink RX0 146 yX0_heightIn, Cond.instanceMethod yX0_heightIn, Cond.selects RX0 yX0_heightIn yX0_heightIn, Cond.code yX0_heightIn cX0_heightIn 2 (some .int), Cond.methodLink RX0 101 yX0_tensionAtLength, Cond.instanceMethod yX0_tensionAtLength, Cond.selects RX0 yX0_tensionAtLength yX0_tensionAtLength, Cond.code yX0_tensionAtLength cX0_tensionAtLength 3 (some .int), Cond.methodLink RX0 113 Lib.Math.max.name, Cond.static Lib.Math.max.name, Cond.initialized "java/lang/Math", Cond.code Lib.Math.max.name Lib.Math.max.code 2 (some .int), Cond.methodLink RL 110 yX1_force, Cond.instanceMethod yX1_force, Cond.selects RX1 yX1_force yX1_force, Cond.code yX1_force cX1_force 3 (some .int), Cond.methodLink RX1 91 yX1_forceAt, Cond.instanceMethod yX1_forceAt, Cond.selects RX1 yX1_forceAt yX1_forceAt, Cond.code yX1_forceAt cX1_forceAt 8 (some .int), Cond.methodLink RX1 84 yX1_lengthAt, Cond.instanceMethod yX1_lengthAt]
def wsL_law0_r10 : List Cond := [Cond.selects RX1 yX1_lengthAt yX1_lengthAt, Cond.code yX1_lengthAt cX1_lengthAt 4 (some .int), Cond.methodLink RX1 81 yX1_away, Cond.instanceMethod yX1_away, Cond.selects RX1 yX1_away yX1_away, Cond.code yX1_away cX1_away 3 (some .int), Cond.methodLink RX1 88 yX1_tensionAt, Cond.instanceMethod yX1_tensionAt, Cond.selects RX1 yX1_tensionAt yX1_tensionAt, Cond.code yX1_tensionAt cX1_tensionAt 5 (some .int), Cond.methodLink RL 111 yL_shift, Cond.static yL_shift, Cond.codeWith yL_shift cL_shift 4 (some .int) [(0, 9, 12, 21)], Cond.methodLink RL 43 yX0_shift, Cond.instanceMethod yX0_shift, Cond.selects RX0 yX0_shift yX0_shift, Cond.code yX0_shift cX0_shift 2 (some .int), Cond.methodLink RX0 89 yX0_balanceOf, Cond.instanceMethod yX0_balanceOf, Cond.selects RX0 yX0_balanceOf yX0_balanceOf, Cond.code yX0_balanceOf cX0_balanceOf 6 (some .int), Cond.methodLink RX0 152 yJ9_floorDiv_7cf53, Cond.static yJ9_floorDiv_7cf53, Cond.initialized RJ9]
def wsL_law0_r11 : List Cond := [Cond.code yJ9_floorDiv_7cf53 cJ9_floorDiv_7cf53 3 (some .int), Cond.methodLink RL 113 yX1_shift, Cond.instanceMethod yX1_shift, Cond.selects RX1 yX1_shift yX1_shift, Cond.code yX1_shift cX1_shift 2 (some .int), Cond.methodLink RX1 94 yX1_shiftAt, Cond.instanceMethod yX1_shiftAt, Cond.selects RX1 yX1_shiftAt yX1_shiftAt, Cond.code yX1_shiftAt cX1_shiftAt 5 (some .int), Cond.methodLink RL 114 yL_isAdrift, Cond.static yL_isAdrift, Cond.codeWith yL_isAdrift cL_isAdrift 4 (some .int) [(0, 16, 19, 21)], Cond.methodLink RL 46 yX0_isAdrift, Cond.instanceMethod yX0_isAdrift, Cond.selects RX0 yX0_isAdrift yX0_isAdrift, Cond.code yX0_isAdrift cX0_isAdrift 2 (some .boolean), Cond.methodLink RX0 93 yX0_driftsWith, Cond.instanceMethod yX0_driftsWith, Cond.selects RX0 yX0_driftsWith yX0_driftsWith, Cond.code yX0_driftsWith cX0_driftsWith 3 (some .boolean), Cond.methodLink RL 116 yX1_isAdrift, Cond.instanceMethod yX1_isAdrift, Cond.selects RX1 yX1_isAdrift yX1_isAdrift, Cond.code yX1_isAdrift cX1_isAdrift 2 (some .boolean)]
def wsL_law0_r12 : List Cond := [Cond.methodLink RX1 98 yX1_drifts, Cond.instanceMethod yX1_drifts, Cond.selects RX1 yX1_drifts yX1_drifts, Cond.code yX1_drifts cX1_drifts 4 (some .boolean), Cond.methodLink RL 117 yL_length, Cond.static yL_length, Cond.codeWith yL_length cL_length 5 (some .int) [(0, 10, 13, 21)], Cond.methodLink RL 49 yX0_length, Cond.instanceMethod yX0_length, Cond.selects RX0 yX0_length yX0_length, Cond.code yX0_length cX0_length 3 (some .int), Cond.methodLink RX0 97 yX0_lengthWith, Cond.instanceMethod yX0_lengthWith, Cond.selects RX0 yX0_lengthWith yX0_lengthWith, Cond.code yX0_lengthWith cX0_lengthWith 4 (some .int), Cond.methodLink RL 119 yX1_length, Cond.instanceMethod yX1_length, Cond.selects RX1 yX1_length yX1_length, Cond.code yX1_length cX1_length 3 (some .int), Cond.methodLink RL 120 yL_tension, Cond.static yL_tension, Cond.codeWith yL_tension cL_tension 5 (some .int) [(0, 10, 13, 21)], Cond.methodLink RL 52 yX0_tension, Cond.instanceMethod yX0_tension]
def wsL_law0_r13 : List Cond := [Cond.selects RX0 yX0_tension yX0_tension, Cond.code yX0_tension cX0_tension 3 (some .int), Cond.methodLink RL 122 yX1_tension, Cond.instanceMethod yX1_tension, Cond.selects RX1 yX1_tension yX1_tension, Cond.code yX1_tension cX1_tension 3 (some .int), Cond.methodLink RL 123 yL_onBollard, Cond.static yL_onBollard, Cond.codeWith yL_onBollard cL_onBollard 5 (some .int) [(0, 10, 13, 21)], Cond.methodLink RL 55 yX0_onBollard, Cond.instanceMethod yX0_onBollard, Cond.selects RX0 yX0_onBollard yX0_onBollard, Cond.code yX0_onBollard cX0_onBollard 3 (some .int), Cond.methodLink RX0 104 yX0_bollardTension, Cond.instanceMethod yX0_bollardTension, Cond.selects RX0 yX0_bollardTension yX0_bollardTension, Cond.code yX0_bollardTension cX0_bollardTension 6 (some .int), Cond.methodLink RL 125 yX1_onBollard, Cond.instanceMethod yX1_onBollard, Cond.selects RX1 yX1_onBollard yX1_onBollard, Cond.code yX1_onBollard cX1_onBollard 3 (some .int), Cond.methodLink RX1 101 yX1_sumOn, Cond.instanceMethod yX1_sumOn, Cond.selects RX1 yX1_sumOn yX1_sumOn]
def wsL_law0_r14 : List Cond := [Cond.code yX1_sumOn cX1_sumOn 6 (some .int), Cond.methodLink RL 126 yL_isSafe, Cond.static yL_isSafe, Cond.codeWith yL_isSafe cL_isSafe 4 (some .int) [(0, 16, 19, 21)], Cond.methodLink RL 58 yX0_isSafe, Cond.instanceMethod yX0_isSafe, Cond.selects RX0 yX0_isSafe yX0_isSafe, Cond.code yX0_isSafe cX0_isSafe 2 (some .boolean), Cond.methodLink RX0 107 yX0_holdsIn, Cond.instanceMethod yX0_holdsIn, Cond.selects RX0 yX0_holdsIn yX0_holdsIn, Cond.code yX0_holdsIn cX0_holdsIn 3 (some .boolean), Cond.methodLink RX0 155 yX0_linesHold, Cond.instanceMethod yX0_linesHold, Cond.selects RX0 yX0_linesHold yX0_linesHold, Cond.code yX0_linesHold cX0_linesHold 5 (some .boolean), Cond.methodLink RX0 158 yX0_bollardsHold, Cond.instanceMethod yX0_bollardsHold, Cond.selects RX0 yX0_bollardsHold yX0_bollardsHold, Cond.code yX0_bollardsHold cX0_bollardsHold 4 (some .boolean), Cond.methodLink RL 128 yX1_isSafe, Cond.instanceMethod yX1_isSafe, Cond.selects RX1 yX1_isSafe yX1_isSafe, Cond.code yX1_isSafe cX1_isSafe 2 (some .boolean)]
def wsL_law0_r15 : List Cond := [Cond.methodLink RX1 108 yX1_holds, Cond.instanceMethod yX1_holds, Cond.selects RX1 yX1_holds yX1_holds, Cond.code yX1_holds cX1_holds 5 (some .boolean), Cond.constantLong RX1 104 (100), Cond.constantLong RX1 106 (55), Cond.methodLink RL 129 yL_firstUnsafe, Cond.static yL_firstUnsafe, Cond.codeWith yL_firstUnsafe cL_firstUnsafe 4 (some .int) [(0, 9, 12, 21)], Cond.methodLink RL 61 yX0_firstUnsafe, Cond.instanceMethod yX0_firstUnsafe, Cond.selects RX0 yX0_firstUnsafe yX0_firstUnsafe, Cond.code yX0_firstUnsafe cX0_firstUnsafe 3 (some .int), Cond.methodLink RL 131 yX1_firstUnsafe, Cond.instanceMethod yX1_firstUnsafe, Cond.selects RX1 yX1_firstUnsafe yX1_firstUnsafe, Cond.code yX1_firstUnsafe cX1_firstUnsafe 3 (some .int), Cond.methodLink RL 132 yL_tend, Cond.static yL_tend, Cond.codeWith yL_tend cL_tend 6 (some .int) [(0, 12, 15, 21), (0, 12, 19, 13), (0, 12, 23, 15)], Cond.methodLink RL 64 yX0_tend, Cond.instanceMethod yX0_tend, Cond.selects RX0 yX0_tend yX0_tend, Cond.code yX0_tend cX0_tend 4 (some .int)]
def wsL_law0_r16 : List Cond := [Cond.methodLink RL 135 yX1_tend, Cond.instanceMethod yX1_tend, Cond.selects RX1 yX1_tend yX1_tend, Cond.code yX1_tend cX1_tend 6 (some .int), Cond.methodLink RL 136 yL_tendAll, Cond.static yL_tendAll, Cond.codeWith yL_tendAll cL_tendAll 4 (some .int) [(0, 9, 12, 21)], Cond.methodLink RL 68 yX0_tendAll, Cond.instanceMethod yX0_tendAll, Cond.selects RX0 yX0_tendAll yX0_tendAll, Cond.code yX0_tendAll cX0_tendAll 2 (some .int), Cond.methodLink RX0 118 yX0_tendFastLines, Cond.instanceMethod yX0_tendFastLines, Cond.selects RX0 yX0_tendFastLines yX0_tendFastLines, Cond.code yX0_tendFastLines cX0_tendFastLines 6 (some .int), Cond.methodLink RL 138 yX1_tendAll, Cond.instanceMethod yX1_tendAll, Cond.selects RX1 yX1_tendAll yX1_tendAll, Cond.code yX1_tendAll cX1_tendAll 2 (some .int), Cond.methodLink RX1 111 yX1_tends, Cond.instanceMethod yX1_tends, Cond.selects RX1 yX1_tends yX1_tends, Cond.code yX1_tends cX1_tends 6 (some .int), Cond.methodLink RL 139 yL_plan]
def wsL_law0_r17 : List Cond := [Cond.static yL_plan, Cond.codeWith yL_plan cL_plan 5 (some .int) [(0, 10, 13, 21), (0, 10, 17, 13)], Cond.methodLink RL 71 yX0_plan, Cond.instanceMethod yX0_plan, Cond.selects RX0 yX0_plan yX0_plan, Cond.code yX0_plan cX0_plan 4 (some .int), Cond.methodLink RX0 126 arraycopyName, Cond.native arraycopyName, Cond.static arraycopyName, Cond.initialized "java/lang/System", Cond.methodLink RX0 132 yX0_tendThrough, Cond.instanceMethod yX0_tendThrough, Cond.selects RX0 yX0_tendThrough yX0_tendThrough, Cond.code yX0_tendThrough cX0_tendThrough 5 (some .int), Cond.methodLink RL 141 yX1_plan, Cond.instanceMethod yX1_plan, Cond.selects RX1 yX1_plan yX1_plan, Cond.code yX1_plan cX1_plan 5 (some .int)]
def wsL_law0 : List Cond := (wsL_law0_r1 ++ (wsL_law0_r2 ++ (wsL_law0_r3 ++ (wsL_law0_r4 ++ (wsL_law0_r5 ++ (wsL_law0_r6 ++ (wsL_law0_r7 ++ (wsL_law0_r8 ++ (wsL_law0_r9 ++ (wsL_law0_r10 ++ (wsL_law0_r11 ++ (wsL_law0_r12 ++ (wsL_law0_r13 ++ (wsL_law0_r14 ++ (wsL_law0_r15 ++ (wsL_law0_r16 ++ wsL_law0_r17)))))))))))))))) ++ wsX00 ++ wsX10 ++ ([] : List Cond)
def wsL_law : List Cond := wsL_law0 ++ (vx_atS RX0 66 "java/lang/IllegalStateException" ["java/lang/RuntimeException", "java/lang/Exception"]).filter goodWord ++ (vx_atS RX0 125 "java/lang/IllegalArgumentException" ["java/lang/RuntimeException", "java/lang/Exception"]).filter goodWord ++ (vx_atS RX0 139 "java/lang/IndexOutOfBoundsException" ["java/lang/RuntimeException", "java/lang/Exception"]).filter goodWord
end
section
set_option maxRecDepth 20000 in
theorem wi_r1 : ∀ w ∈ wsL_law0_r1, w ∈ lw_tbl := fun w h => (goodIn_p wsL_law0_r1 [42, 45] (by decide +kernel) (by decide +kernel) w h).1
set_option maxRecDepth 20000 in
theorem wi_r2 : ∀ w ∈ wsL_law0_r2, w ∈ lw_tbl := fun w h => (goodIn_p wsL_law0_r2 [412] (by decide +kernel) (by decide +kernel) w h).1
set_option maxRecDepth 20000 in
theorem wi_r3 : ∀ w ∈ wsL_law0_r3, w ∈ lw_tbl := fun w h => (goodIn_p wsL_law0_r3 [102, 105, 470] (by decide +kernel) (by decide +kernel) w h).1
set_option maxRecDepth 20000 in
theorem wi_r4 : ∀ w ∈ wsL_law0_r4, w ∈ lw_tbl := fun w h => (goodIn_p wsL_law0_r4 [473, 478, 466, 198, 202] (by decide +kernel) (by decide +kernel) w h).1
set_option maxRecDepth 20000 in
theorem wi_r5 : ∀ w ∈ wsL_law0_r5, w ∈ lw_tbl := fun w h => (goodIn_p wsL_law0_r5 [222, 482, 485, 229, 233] (by decide +kernel) (by decide +kernel) w h).1
set_option maxRecDepth 20000 in
theorem wi_r6 : ∀ w ∈ wsL_law0_r6, w ∈ lw_tbl := fun w h => (goodIn_p wsL_law0_r6 [489, 493, 241, 244, 497, 500] (by decide +kernel) (by decide +kernel) w h).1
set_option maxRecDepth 20000 in
theorem wi_r7 : ∀ w ∈ wsL_law0_r7, w ∈ lw_tbl := fun w h => (goodIn_p wsL_law0_r7 [252, 504, 259, 508] (by decide +kernel) (by decide +kernel) w h).1
set_option maxRecDepth 20000 in
theorem wi_r8 : ∀ w ∈ wsL_law0_r8, w ∈ lw_tbl := fun w h => (goodIn_p wsL_law0_r8 [267, 513, 274, 278] (by decide +kernel) (by decide +kernel) w h).1
set_option maxRecDepth 20000 in
theorem wi_r9 : ∀ w ∈ wsL_law0_r9, w ∈ lw_tbl := fun w h => (goodIn_p wsL_law0_r9 [282, 286, 290, 293, 517, 521] (by decide +kernel) (by decide +kernel) w h).1
set_option maxRecDepth 20000 in
theorem wi_r10 : ∀ w ∈ wsL_law0_r10, w ∈ lw_tbl := fun w h => (goodIn_p wsL_law0_r10 [525, 529, 533, 300, 304] (by decide +kernel) (by decide +kernel) w h).1
set_option maxRecDepth 20000 in
theorem wi_r11 : ∀ w ∈ wsL_law0_r11, w ∈ lw_tbl := fun w h => (goodIn_p wsL_law0_r11 [307, 537, 541, 314, 318, 545] (by decide +kernel) (by decide +kernel) w h).1
set_option maxRecDepth 20000 in
theorem wi_r12 : ∀ w ∈ wsL_law0_r12, w ∈ lw_tbl := fun w h => (goodIn_p wsL_law0_r12 [549, 325, 329, 553] (by decide +kernel) (by decide +kernel) w h).1
set_option maxRecDepth 20000 in
theorem wi_r13 : ∀ w ∈ wsL_law0_r13, w ∈ lw_tbl := fun w h => (goodIn_p wsL_law0_r13 [336, 557, 343, 347, 561] (by decide +kernel) (by decide +kernel) w h).1
set_option maxRecDepth 20000 in
theorem wi_r14 : ∀ w ∈ wsL_law0_r14, w ∈ lw_tbl := fun w h => (goodIn_p wsL_law0_r14 [565, 354, 358, 362, 366, 569] (by decide +kernel) (by decide +kernel) w h).1
set_option maxRecDepth 20000 in
theorem wi_r15 : ∀ w ∈ wsL_law0_r15, w ∈ lw_tbl := fun w h => (goodIn_p wsL_law0_r15 [573, 373, 579, 380] (by decide +kernel) (by decide +kernel) w h).1
set_option maxRecDepth 20000 in
theorem wi_r16 : ∀ w ∈ wsL_law0_r16, w ∈ lw_tbl := fun w h => (goodIn_p wsL_law0_r16 [583, 388, 392, 587, 591] (by decide +kernel) (by decide +kernel) w h).1
set_option maxRecDepth 20000 in
theorem wi_r17 : ∀ w ∈ wsL_law0_r17, w ∈ lw_tbl := fun w h => (goodIn_p wsL_law0_r17 [399, 407, 595] (by decide +kernel) (by decide +kernel) w h).1
theorem wi_x0 : ∀ w ∈ wsX00, w ∈ lw_tbl := by decide +kernel
theorem wi_x1 : ∀ w ∈ wsX10, w ∈ lw_tbl := by decide +kernel
theorem wi_all : ∀ w ∈ (wsL_law0_r1 ++ (wsL_law0_r2 ++ (wsL_law0_r3 ++ (wsL_law0_r4 ++ (wsL_law0_r5 ++ (wsL_law0_r6 ++ (wsL_law0_r7 ++ (wsL_law0_r8 ++ (wsL_law0_r9 ++ (wsL_law0_r10 ++ (wsL_law0_r11 ++ (wsL_law0_r12 ++ (wsL_law0_r13 ++ (wsL_law0_r14 ++ (wsL_law0_r15 ++ (wsL_law0_r16 ++ wsL_law0_r17)))))))))))))))), w ∈ lw_tbl := fun w h => (List.mem_append.mp h).elim (fun h => wi_r1 w h) (fun h => (List.mem_append.mp h).elim (fun h => wi_r2 w h) (fun h => (List.mem_append.mp h).elim (fun h => wi_r3 w h) (fun h => (List.mem_append.mp h).elim (fun h => wi_r4 w h) (fun h => (List.mem_append.mp h).elim (fun h => wi_r5 w h) (fun h => (List.mem_append.mp h).elim (fun h => wi_r6 w h) (fun h => (List.mem_append.mp h).elim (fun h => wi_r7 w h) (fun h => (List.mem_append.mp h).elim (fun h => wi_r8 w h) (fun h => (List.mem_append.mp h).elim (fun h => wi_r9 w h) (fun h => (List.mem_append.mp h).elim (fun h => wi_r10 w h) (fun h => (List.mem_append.mp h).elim (fun h => wi_r11 w h) (fun h => (List.mem_append.mp h).elim (fun h => wi_r12 w h) (fun h => (List.mem_append.mp h).elim (fun h => wi_r13 w h) (fun h => (List.mem_append.mp h).elim (fun h => wi_r14 w h) (fun h => (List.mem_append.mp h).elim (fun h => wi_r15 w h) (fun h => (List.mem_append.mp h).elim (fun h => wi_r16 w h) (fun h => wi_r17 w h))))))))))))))))
theorem wsL_law_in0 : ∀ w ∈ wsL_law0, w ∈ lw_tbl := fun w h => (List.mem_append.mp h).elim (fun h => (List.mem_append.mp h).elim (fun h => (List.mem_append.mp h).elim (fun h => wi_all w h) (fun h => wi_x0 w h)) (fun h => wi_x1 w h)) (fun h => nomatch h)
theorem wsL_law_x0 : ∀ w ∈ (vx_atS RX0 66 "java/lang/IllegalStateException" ["java/lang/RuntimeException", "java/lang/Exception"]).filter goodWord, w ∈ lw_tbl := by decide +kernel
theorem wsL_law_x1 : ∀ w ∈ (vx_atS RX0 125 "java/lang/IllegalArgumentException" ["java/lang/RuntimeException", "java/lang/Exception"]).filter goodWord, w ∈ lw_tbl := by decide +kernel
theorem wsL_law_x2 : ∀ w ∈ (vx_atS RX0 139 "java/lang/IndexOutOfBoundsException" ["java/lang/RuntimeException", "java/lang/Exception"]).filter goodWord, w ∈ lw_tbl := by decide +kernel
theorem wsL_law_in : ∀ w ∈ wsL_law, w ∈ lw_tbl := fun w h => (List.mem_append.mp h).elim (fun h => (List.mem_append.mp h).elim (fun h => (List.mem_append.mp h).elim (fun h => wsL_law_in0 w h) (fun h => wsL_law_x0 w h)) (fun h => wsL_law_x1 w h)) (fun h => wsL_law_x2 w h)
theorem inlX0 : ∀ w ∈ wsX00, w ∈ wsL_law := fun _ h => List.mem_append_left _ (List.mem_append_left _ (List.mem_append_left _ (List.mem_append_left _ (List.mem_append_left _ (List.mem_append_right _ h)))))
theorem inX0 : ∀ w ∈ wsX00, w ∈ lw_tbl := fun w h => wsL_law_in w (inlX0 w h)
theorem inlX1 : ∀ w ∈ wsX10, w ∈ wsL_law := fun _ h => List.mem_append_left _ (List.mem_append_left _ (List.mem_append_left _ (List.mem_append_left _ (List.mem_append_right _ h))))
theorem inX1 : ∀ w ∈ wsX10, w ∈ lw_tbl := fun w h => wsL_law_in w (inlX1 w h)
end
section
theorem inJ9 : ∀ w ∈ wsJ90, w ∈ lw_tbl := by decide +kernel
theorem inJ0 : ∀ w ∈ wsJ00, w ∈ lw_tbl := by decide +kernel
theorem inJ10 : ∀ w ∈ wsJ100, w ∈ lw_tbl := by decide +kernel
theorem dX0_init_0 : decode cX0_init 0 = .ok (.aload_n 0, 1) := by decide +kernel
theorem dX0_init_1 : decode cX0_init 1 = .ok (.invokespecial 1, 3) := by decide +kernel
theorem dX0_init_4 : decode cX0_init 4 = .ok (.aload_n 0, 1) := by decide +kernel
theorem dX0_init_5 : decode cX0_init 5 = .ok (.bipush 48, 2) := by decide +kernel
theorem dX0_init_7 : decode cX0_init 7 = .ok (.newarray .int, 2) := by decide +kernel
theorem dX0_init_9 : decode cX0_init 9 = .ok (.putfield 9, 3) := by decide +kernel
theorem dX0_init_12 : decode cX0_init 12 = .ok (.aload_n 0, 1) := by decide +kernel
theorem dX0_init_13 : decode cX0_init 13 = .ok (.bipush 48, 2) := by decide +kernel
theorem dX0_init_15 : decode cX0_init 15 = .ok (.newarray .int, 2) := by decide +kernel
theorem dX0_init_17 : decode cX0_init 17 = .ok (.putfield 13, 3) := by decide +kernel
theorem dX0_init_20 : decode cX0_init 20 = .ok (.aload_n 0, 1) := by decide +kernel
theorem dX0_init_21 : decode cX0_init 21 = .ok (.bipush 48, 2) := by decide +kernel
theorem dX0_init_23 : decode cX0_init 23 = .ok (.newarray .int, 2) := by decide +kernel
theorem dX0_init_25 : decode cX0_init 25 = .ok (.putfield 16, 3) := by decide +kernel
theorem dX0_init_28 : decode cX0_init 28 = .ok (.aload_n 0, 1) := by decide +kernel
theorem dX0_init_29 : decode cX0_init 29 = .ok (.iconst 0, 1) := by decide +kernel
theorem dX0_init_30 : decode cX0_init 30 = .ok (.putfield 19, 3) := by decide +kernel
theorem dX0_init_33 : decode cX0_init 33 = .ok (.aload_n 0, 1) := by decide +kernel
theorem dX0_init_34 : decode cX0_init 34 = .ok (.iconst 0, 1) := by decide +kernel
theorem dX0_init_35 : decode cX0_init 35 = .ok (.putfield 23, 3) := by decide +kernel
theorem dX0_init_38 : decode cX0_init 38 = .ok (.aload_n 0, 1) := by decide +kernel
theorem dX0_init_39 : decode cX0_init 39 = .ok (.bipush 6, 2) := by decide +kernel
theorem dX0_init_41 : decode cX0_init 41 = .ok (.newarray .int, 2) := by decide +kernel
theorem dX0_init_43 : decode cX0_init 43 = .ok (.putfield 26, 3) := by decide +kernel
theorem dX0_init_46 : decode cX0_init 46 = .ok (.aload_n 0, 1) := by decide +kernel
theorem dX0_init_47 : decode cX0_init 47 = .ok (.bipush 6, 2) := by decide +kernel
theorem dX0_init_49 : decode cX0_init 49 = .ok (.newarray .int, 2) := by decide +kernel
theorem dX0_init_51 : decode cX0_init 51 = .ok (.putfield 29, 3) := by decide +kernel
theorem dX0_init_54 : decode cX0_init 54 = .ok (.aload_n 0, 1) := by decide +kernel
theorem dX0_init_55 : decode cX0_init 55 = .ok (.iconst 0, 1) := by decide +kernel
theorem dX0_init_56 : decode cX0_init 56 = .ok (.putfield 32, 3) := by decide +kernel
theorem dX0_init_59 : decode cX0_init 59 = .ok (.aload_n 0, 1) := by decide +kernel
theorem dX0_init_60 : decode cX0_init 60 = .ok (.bipush 10, 2) := by decide +kernel
theorem dX0_init_62 : decode cX0_init 62 = .ok (.newarray .int, 2) := by decide +kernel
theorem dX0_init_64 : decode cX0_init 64 = .ok (.putfield 35, 3) := by decide +kernel
theorem dX0_init_67 : decode cX0_init 67 = .ok (.aload_n 0, 1) := by decide +kernel
theorem dX0_init_68 : decode cX0_init 68 = .ok (.bipush 10, 2) := by decide +kernel
theorem dX0_init_70 : decode cX0_init 70 = .ok (.newarray .int, 2) := by decide +kernel
theorem dX0_init_72 : decode cX0_init 72 = .ok (.putfield 38, 3) := by decide +kernel
theorem dX0_init_75 : decode cX0_init 75 = .ok (.aload_n 0, 1) := by decide +kernel
theorem dX0_init_76 : decode cX0_init 76 = .ok (.bipush 10, 2) := by decide +kernel
theorem dX0_init_78 : decode cX0_init 78 = .ok (.newarray .int, 2) := by decide +kernel
theorem dX0_init_80 : decode cX0_init 80 = .ok (.putfield 41, 3) := by decide +kernel
theorem dX0_init_83 : decode cX0_init 83 = .ok (.aload_n 0, 1) := by decide +kernel
theorem dX0_init_84 : decode cX0_init 84 = .ok (.bipush 10, 2) := by decide +kernel
theorem dX0_init_86 : decode cX0_init 86 = .ok (.newarray .int, 2) := by decide +kernel
theorem dX0_init_88 : decode cX0_init 88 = .ok (.putfield 44, 3) := by decide +kernel
theorem dX0_init_91 : decode cX0_init 91 = .ok (.aload_n 0, 1) := by decide +kernel
theorem dX0_init_92 : decode cX0_init 92 = .ok (.bipush 10, 2) := by decide +kernel
theorem dX0_init_94 : decode cX0_init 94 = .ok (.newarray .int, 2) := by decide +kernel
theorem dX0_init_96 : decode cX0_init 96 = .ok (.putfield 47, 3) := by decide +kernel
theorem dX0_init_99 : decode cX0_init 99 = .ok (.aload_n 0, 1) := by decide +kernel
theorem dX0_init_100 : decode cX0_init 100 = .ok (.bipush 10, 2) := by decide +kernel
theorem dX0_init_102 : decode cX0_init 102 = .ok (.newarray .boolean, 2) := by decide +kernel
theorem dX0_init_104 : decode cX0_init 104 = .ok (.putfield 50, 3) := by decide +kernel
theorem dX0_init_107 : decode cX0_init 107 = .ok (.aload_n 0, 1) := by decide +kernel
theorem dX0_init_108 : decode cX0_init 108 = .ok (.bipush 10, 2) := by decide +kernel
theorem dX0_init_110 : decode cX0_init 110 = .ok (.newarray .int, 2) := by decide +kernel
theorem dX0_init_112 : decode cX0_init 112 = .ok (.putfield 54, 3) := by decide +kernel
theorem dX0_init_115 : decode cX0_init 115 = .ok (.return_, 1) := by decide +kernel
set_option maxRecDepth 20000 in
theorem ggX0_addBollard_X0_checkRange : GoodIn wsX0_addBollard wsX0_checkRange := goodIn_ca (goodIn_r _ [10, 11, 12] (by decide +kernel) (by decide +kernel)) (goodIn_sub (fun _ h => List.mem_cons_of_mem _ (List.mem_append_right _ h)) (by decide +kernel))
set_option maxRecDepth 20000 in
theorem gX0_addBollard_X0_checkRange : GoodIn wsX0_addBollard (va_wsS RX0 57 yX0_checkRange wsX0_checkRange) := goodIn_app (goodIn_of _ (by decide +kernel)) ggX0_addBollard_X0_checkRange
theorem dX0_addBollard_0 : decode cX0_addBollard 0 = .ok (.iload_n 1, 1) := by decide +kernel
theorem dX0_addBollard_1 : decode cX0_addBollard 1 = .ok (.sipush (-5000), 3) := by decide +kernel
theorem dX0_addBollard_4 : decode cX0_addBollard 4 = .ok (.sipush 5000, 3) := by decide +kernel
theorem dX0_addBollard_7 : decode cX0_addBollard 7 = .ok (.invokestatic 57, 3) := by decide +kernel
theorem dX0_addBollard_10 : decode cX0_addBollard 10 = .ok (.iload_n 2, 1) := by decide +kernel
theorem dX0_addBollard_11 : decode cX0_addBollard 11 = .ok (.iconst 1, 1) := by decide +kernel
theorem dX0_addBollard_12 : decode cX0_addBollard 12 = .ok (.ldc 61, 2) := by decide +kernel
theorem dX0_addBollard_14 : decode cX0_addBollard 14 = .ok (.invokestatic 57, 3) := by decide +kernel
theorem dX0_addBollard_17 : decode cX0_addBollard 17 = .ok (.aload_n 0, 1) := by decide +kernel
theorem dX0_addBollard_18 : decode cX0_addBollard 18 = .ok (.getfield 23, 3) := by decide +kernel
theorem dX0_addBollard_21 : decode cX0_addBollard 21 = .ok (.bipush 6, 2) := by decide +kernel
theorem dX0_addBollard_23 : decode cX0_addBollard 23 = .ok (.if_icmp .lt 13, 3) := by decide +kernel
theorem dX0_addBollard_26 : decode cX0_addBollard 26 = .ok (.new 62, 3) := by decide +kernel
theorem dX0_addBollard_29 : decode cX0_addBollard 29 = .ok (.dup, 1) := by decide +kernel
theorem dX0_addBollard_30 : decode cX0_addBollard 30 = .ok (.ldc 64, 2) := by decide +kernel
theorem dX0_addBollard_32 : decode cX0_addBollard 32 = .ok (.invokespecial 66, 3) := by decide +kernel
theorem dX0_addBollard_35 : decode cX0_addBollard 35 = .ok (.athrow, 1) := by decide +kernel
theorem dX0_addBollard_36 : decode cX0_addBollard 36 = .ok (.aload_n 0, 1) := by decide +kernel
theorem dX0_addBollard_37 : decode cX0_addBollard 37 = .ok (.getfield 23, 3) := by decide +kernel
theorem dX0_addBollard_40 : decode cX0_addBollard 40 = .ok (.istore_n 3, 1) := by decide +kernel
theorem dX0_addBollard_41 : decode cX0_addBollard 41 = .ok (.aload_n 0, 1) := by decide +kernel
theorem dX0_addBollard_42 : decode cX0_addBollard 42 = .ok (.getfield 26, 3) := by decide +kernel
theorem dX0_addBollard_45 : decode cX0_addBollard 45 = .ok (.iload_n 3, 1) := by decide +kernel
theorem dX0_addBollard_46 : decode cX0_addBollard 46 = .ok (.iload_n 1, 1) := by decide +kernel
theorem dX0_addBollard_47 : decode cX0_addBollard 47 = .ok (.iastore, 1) := by decide +kernel
theorem dX0_addBollard_48 : decode cX0_addBollard 48 = .ok (.aload_n 0, 1) := by decide +kernel
theorem dX0_addBollard_49 : decode cX0_addBollard 49 = .ok (.getfield 29, 3) := by decide +kernel
theorem dX0_addBollard_52 : decode cX0_addBollard 52 = .ok (.iload_n 3, 1) := by decide +kernel
theorem dX0_addBollard_53 : decode cX0_addBollard 53 = .ok (.iload_n 2, 1) := by decide +kernel
theorem dX0_addBollard_54 : decode cX0_addBollard 54 = .ok (.iastore, 1) := by decide +kernel
theorem dX0_addBollard_55 : decode cX0_addBollard 55 = .ok (.aload_n 0, 1) := by decide +kernel
theorem dX0_addBollard_56 : decode cX0_addBollard 56 = .ok (.iload_n 3, 1) := by decide +kernel
theorem dX0_addBollard_57 : decode cX0_addBollard 57 = .ok (.iconst 1, 1) := by decide +kernel
theorem dX0_addBollard_58 : decode cX0_addBollard 58 = .ok (.iadd, 1) := by decide +kernel
theorem dX0_addBollard_59 : decode cX0_addBollard 59 = .ok (.putfield 23, 3) := by decide +kernel
theorem dX0_addBollard_62 : decode cX0_addBollard 62 = .ok (.iload_n 3, 1) := by decide +kernel
theorem dX0_addBollard_63 : decode cX0_addBollard 63 = .ok (.ireturn, 1) := by decide +kernel
set_option maxRecDepth 20000 in
theorem ggX0_addLine_X0_checkBollard : GoodIn wsX0_addLine wsX0_checkBollard := goodIn_ca (goodIn_r _ [16, 17, 18, 19, 28, 29, 30, 31, 32, 33, 34, 35, 36, 37, 38, 39, 40, 41, 42] (by decide +kernel) (by decide +kernel)) (goodIn_sub (fun _ h => List.mem_cons_of_mem _ (List.mem_append_left _ (List.mem_append_right _ h))) (by decide +kernel))
set_option maxRecDepth 20000 in
theorem gX0_addLine_X0_checkBollard : GoodIn wsX0_addLine (wsV RX0 69 RX0 yX0_checkBollard wsX0_checkBollard) := goodIn_app (goodIn_of _ (by decide +kernel)) ggX0_addLine_X0_checkBollard
set_option maxRecDepth 20000 in
theorem ggX0_addLine_X0_checkRange : GoodIn wsX0_addLine wsX0_checkRange := goodIn_ca (goodIn_r _ [22, 23, 24] (by decide +kernel) (by decide +kernel)) (goodIn_sub (fun _ h => List.mem_cons_of_mem _ (List.mem_append_right _ h)) (by decide +kernel))
set_option maxRecDepth 20000 in
theorem gX0_addLine_X0_checkRange : GoodIn wsX0_addLine (va_wsS RX0 57 yX0_checkRange wsX0_checkRange) := goodIn_app (goodIn_of _ (by decide +kernel)) ggX0_addLine_X0_checkRange
set_option maxRecDepth 20000 in
theorem ggX0_addLine_X0_lengthOver : GoodIn wsX0_addLine wsX0_lengthOver := goodIn_r _ [27] (by decide +kernel) (by decide +kernel)
set_option maxRecDepth 20000 in
theorem gX0_addLine_X0_lengthOver : GoodIn wsX0_addLine (va_wsS RX0 75 yX0_lengthOver wsX0_lengthOver) := goodIn_app (goodIn_of _ (by decide +kernel)) ggX0_addLine_X0_lengthOver
theorem dX0_addLine_0 : decode cX0_addLine 0 = .ok (.aload_n 0, 1) := by decide +kernel
theorem dX0_addLine_1 : decode cX0_addLine 1 = .ok (.iload_n 2, 1) := by decide +kernel
theorem dX0_addLine_2 : decode cX0_addLine 2 = .ok (.invokevirtual 69, 3) := by decide +kernel
theorem dX0_addLine_5 : decode cX0_addLine 5 = .ok (.iload_n 1, 1) := by decide +kernel
theorem dX0_addLine_6 : decode cX0_addLine 6 = .ok (.sipush (-5000), 3) := by decide +kernel
theorem dX0_addLine_9 : decode cX0_addLine 9 = .ok (.sipush 5000, 3) := by decide +kernel
theorem dX0_addLine_12 : decode cX0_addLine 12 = .ok (.invokestatic 57, 3) := by decide +kernel
theorem dX0_addLine_15 : decode cX0_addLine 15 = .ok (.iload_n 3, 1) := by decide +kernel
theorem dX0_addLine_16 : decode cX0_addLine 16 = .ok (.iconst 1, 1) := by decide +kernel
theorem dX0_addLine_17 : decode cX0_addLine 17 = .ok (.bipush 100, 2) := by decide +kernel
theorem dX0_addLine_19 : decode cX0_addLine 19 = .ok (.invokestatic 57, 3) := by decide +kernel
theorem dX0_addLine_22 : decode cX0_addLine 22 = .ok (.iload 4, 2) := by decide +kernel
theorem dX0_addLine_24 : decode cX0_addLine 24 = .ok (.iconst 1, 1) := by decide +kernel
theorem dX0_addLine_25 : decode cX0_addLine 25 = .ok (.ldc 61, 2) := by decide +kernel
theorem dX0_addLine_27 : decode cX0_addLine 27 = .ok (.invokestatic 57, 3) := by decide +kernel
theorem dX0_addLine_30 : decode cX0_addLine 30 = .ok (.aload_n 0, 1) := by decide +kernel
theorem dX0_addLine_31 : decode cX0_addLine 31 = .ok (.getfield 32, 3) := by decide +kernel
theorem dX0_addLine_34 : decode cX0_addLine 34 = .ok (.bipush 10, 2) := by decide +kernel
theorem dX0_addLine_36 : decode cX0_addLine 36 = .ok (.if_icmp .lt 13, 3) := by decide +kernel
theorem dX0_addLine_39 : decode cX0_addLine 39 = .ok (.new 62, 3) := by decide +kernel
theorem dX0_addLine_42 : decode cX0_addLine 42 = .ok (.dup, 1) := by decide +kernel
theorem dX0_addLine_43 : decode cX0_addLine 43 = .ok (.ldc 73, 2) := by decide +kernel
theorem dX0_addLine_45 : decode cX0_addLine 45 = .ok (.invokespecial 66, 3) := by decide +kernel
theorem dX0_addLine_48 : decode cX0_addLine 48 = .ok (.athrow, 1) := by decide +kernel
theorem dX0_addLine_49 : decode cX0_addLine 49 = .ok (.aload_n 0, 1) := by decide +kernel
theorem dX0_addLine_50 : decode cX0_addLine 50 = .ok (.getfield 32, 3) := by decide +kernel
theorem dX0_addLine_53 : decode cX0_addLine 53 = .ok (.istore 5, 2) := by decide +kernel
theorem dX0_addLine_55 : decode cX0_addLine 55 = .ok (.aload_n 0, 1) := by decide +kernel
theorem dX0_addLine_56 : decode cX0_addLine 56 = .ok (.getfield 26, 3) := by decide +kernel
theorem dX0_addLine_59 : decode cX0_addLine 59 = .ok (.iload_n 2, 1) := by decide +kernel
theorem dX0_addLine_60 : decode cX0_addLine 60 = .ok (.iaload, 1) := by decide +kernel
theorem dX0_addLine_61 : decode cX0_addLine 61 = .ok (.iload_n 1, 1) := by decide +kernel
theorem dX0_addLine_62 : decode cX0_addLine 62 = .ok (.isub, 1) := by decide +kernel
theorem dX0_addLine_63 : decode cX0_addLine 63 = .ok (.istore 6, 2) := by decide +kernel
theorem dX0_addLine_65 : decode cX0_addLine 65 = .ok (.aload_n 0, 1) := by decide +kernel
theorem dX0_addLine_66 : decode cX0_addLine 66 = .ok (.getfield 35, 3) := by decide +kernel
theorem dX0_addLine_69 : decode cX0_addLine 69 = .ok (.iload 5, 2) := by decide +kernel
theorem dX0_addLine_71 : decode cX0_addLine 71 = .ok (.iload_n 2, 1) := by decide +kernel
theorem dX0_addLine_72 : decode cX0_addLine 72 = .ok (.iastore, 1) := by decide +kernel
theorem dX0_addLine_73 : decode cX0_addLine 73 = .ok (.aload_n 0, 1) := by decide +kernel
theorem dX0_addLine_74 : decode cX0_addLine 74 = .ok (.getfield 38, 3) := by decide +kernel
theorem dX0_addLine_77 : decode cX0_addLine 77 = .ok (.iload 5, 2) := by decide +kernel
theorem dX0_addLine_79 : decode cX0_addLine 79 = .ok (.iload 6, 2) := by decide +kernel
theorem dX0_addLine_81 : decode cX0_addLine 81 = .ok (.iastore, 1) := by decide +kernel
theorem dX0_addLine_82 : decode cX0_addLine 82 = .ok (.aload_n 0, 1) := by decide +kernel
theorem dX0_addLine_83 : decode cX0_addLine 83 = .ok (.getfield 41, 3) := by decide +kernel
theorem dX0_addLine_86 : decode cX0_addLine 86 = .ok (.iload 5, 2) := by decide +kernel
theorem dX0_addLine_88 : decode cX0_addLine 88 = .ok (.iload_n 3, 1) := by decide +kernel
theorem dX0_addLine_89 : decode cX0_addLine 89 = .ok (.iastore, 1) := by decide +kernel
theorem dX0_addLine_90 : decode cX0_addLine 90 = .ok (.aload_n 0, 1) := by decide +kernel
theorem dX0_addLine_91 : decode cX0_addLine 91 = .ok (.getfield 44, 3) := by decide +kernel
theorem dX0_addLine_94 : decode cX0_addLine 94 = .ok (.iload 5, 2) := by decide +kernel
theorem dX0_addLine_96 : decode cX0_addLine 96 = .ok (.iload 4, 2) := by decide +kernel
theorem dX0_addLine_98 : decode cX0_addLine 98 = .ok (.iastore, 1) := by decide +kernel
theorem dX0_addLine_99 : decode cX0_addLine 99 = .ok (.aload_n 0, 1) := by decide +kernel
theorem dX0_addLine_100 : decode cX0_addLine 100 = .ok (.getfield 47, 3) := by decide +kernel
theorem dX0_addLine_103 : decode cX0_addLine 103 = .ok (.iload 5, 2) := by decide +kernel
theorem dX0_addLine_105 : decode cX0_addLine 105 = .ok (.iload 6, 2) := by decide +kernel
theorem dX0_addLine_107 : decode cX0_addLine 107 = .ok (.sipush 300, 3) := by decide +kernel
theorem dX0_addLine_110 : decode cX0_addLine 110 = .ok (.invokestatic 75, 3) := by decide +kernel
theorem dX0_addLine_113 : decode cX0_addLine 113 = .ok (.iastore, 1) := by decide +kernel
theorem dX0_addLine_114 : decode cX0_addLine 114 = .ok (.aload_n 0, 1) := by decide +kernel
theorem dX0_addLine_115 : decode cX0_addLine 115 = .ok (.getfield 50, 3) := by decide +kernel
theorem dX0_addLine_118 : decode cX0_addLine 118 = .ok (.iload 5, 2) := by decide +kernel
theorem dX0_addLine_120 : decode cX0_addLine 120 = .ok (.iconst 1, 1) := by decide +kernel
theorem dX0_addLine_121 : decode cX0_addLine 121 = .ok (.bastore, 1) := by decide +kernel
theorem dX0_addLine_122 : decode cX0_addLine 122 = .ok (.aload_n 0, 1) := by decide +kernel
theorem dX0_addLine_123 : decode cX0_addLine 123 = .ok (.iload 5, 2) := by decide +kernel
theorem dX0_addLine_125 : decode cX0_addLine 125 = .ok (.iconst 1, 1) := by decide +kernel
theorem dX0_addLine_126 : decode cX0_addLine 126 = .ok (.iadd, 1) := by decide +kernel
theorem dX0_addLine_127 : decode cX0_addLine 127 = .ok (.putfield 32, 3) := by decide +kernel
theorem dX0_addLine_130 : decode cX0_addLine 130 = .ok (.iload 5, 2) := by decide +kernel
theorem dX0_addLine_132 : decode cX0_addLine 132 = .ok (.ireturn, 1) := by decide +kernel
set_option maxRecDepth 20000 in
theorem ggX0_toggle_X0_checkLine : GoodIn wsX0_toggle wsX0_checkLine := goodIn_ca (goodIn_r _ [6, 7, 8, 9, 10, 11, 12, 13, 14, 15, 16, 17, 18, 19, 20, 21, 22, 23, 24] (by decide +kernel) (by decide +kernel)) (goodIn_sub (fun _ h => List.mem_cons_of_mem _ (List.mem_append_right _ h)) (by decide +kernel))
set_option maxRecDepth 20000 in
theorem gX0_toggle_X0_checkLine : GoodIn wsX0_toggle (wsV RX0 79 RX0 yX0_checkLine wsX0_checkLine) := goodIn_app (goodIn_of _ (by decide +kernel)) ggX0_toggle_X0_checkLine
theorem dX0_toggle_0 : decode cX0_toggle 0 = .ok (.aload_n 0, 1) := by decide +kernel
theorem dX0_toggle_1 : decode cX0_toggle 1 = .ok (.iload_n 1, 1) := by decide +kernel
theorem dX0_toggle_2 : decode cX0_toggle 2 = .ok (.invokevirtual 79, 3) := by decide +kernel
theorem dX0_toggle_5 : decode cX0_toggle 5 = .ok (.aload_n 0, 1) := by decide +kernel
theorem dX0_toggle_6 : decode cX0_toggle 6 = .ok (.getfield 50, 3) := by decide +kernel
theorem dX0_toggle_9 : decode cX0_toggle 9 = .ok (.iload_n 1, 1) := by decide +kernel
theorem dX0_toggle_10 : decode cX0_toggle 10 = .ok (.aload_n 0, 1) := by decide +kernel
theorem dX0_toggle_11 : decode cX0_toggle 11 = .ok (.getfield 50, 3) := by decide +kernel
theorem dX0_toggle_14 : decode cX0_toggle 14 = .ok (.iload_n 1, 1) := by decide +kernel
theorem dX0_toggle_15 : decode cX0_toggle 15 = .ok (.baload, 1) := by decide +kernel
theorem dX0_toggle_16 : decode cX0_toggle 16 = .ok (.ifCond .ne 7, 3) := by decide +kernel
theorem dX0_toggle_19 : decode cX0_toggle 19 = .ok (.iconst 1, 1) := by decide +kernel
theorem dX0_toggle_20 : decode cX0_toggle 20 = .ok (.goto 4, 3) := by decide +kernel
theorem dX0_toggle_23 : decode cX0_toggle 23 = .ok (.iconst 0, 1) := by decide +kernel
theorem dX0_toggle_24 : decode cX0_toggle 24 = .ok (.bastore, 1) := by decide +kernel
theorem dX0_toggle_25 : decode cX0_toggle 25 = .ok (.aload_n 0, 1) := by decide +kernel
theorem dX0_toggle_26 : decode cX0_toggle 26 = .ok (.getfield 50, 3) := by decide +kernel
theorem dX0_toggle_29 : decode cX0_toggle 29 = .ok (.iload_n 1, 1) := by decide +kernel
theorem dX0_toggle_30 : decode cX0_toggle 30 = .ok (.baload, 1) := by decide +kernel
theorem dX0_toggle_31 : decode cX0_toggle 31 = .ok (.ireturn, 1) := by decide +kernel
set_option maxRecDepth 20000 in
theorem ggX0_setTide_X0_checkHour : GoodIn wsX0_setTide wsX0_checkHour := goodIn_ca (goodIn_r _ [5, 6, 7] (by decide +kernel) (by decide +kernel)) (goodIn_sub (fun _ h => List.mem_cons_of_mem _ (List.mem_append_left _ (List.mem_append_right _ h))) (by decide +kernel))
set_option maxRecDepth 20000 in
theorem gX0_setTide_X0_checkHour : GoodIn wsX0_setTide (va_wsS RX0 82 yX0_checkHour wsX0_checkHour) := goodIn_app (goodIn_of _ (by decide +kernel)) ggX0_setTide_X0_checkHour
set_option maxRecDepth 20000 in
theorem ggX0_setTide_X0_checkRange : GoodIn wsX0_setTide wsX0_checkRange := goodIn_ca (goodIn_r _ [10, 11, 12] (by decide +kernel) (by decide +kernel)) (goodIn_sub (fun _ h => List.mem_cons_of_mem _ (List.mem_append_right _ h)) (by decide +kernel))
set_option maxRecDepth 20000 in
theorem gX0_setTide_X0_checkRange : GoodIn wsX0_setTide (va_wsS RX0 57 yX0_checkRange wsX0_checkRange) := goodIn_app (goodIn_of _ (by decide +kernel)) ggX0_setTide_X0_checkRange
theorem dX0_setTide_0 : decode cX0_setTide 0 = .ok (.iload_n 1, 1) := by decide +kernel
theorem dX0_setTide_1 : decode cX0_setTide 1 = .ok (.invokestatic 82, 3) := by decide +kernel
theorem dX0_setTide_4 : decode cX0_setTide 4 = .ok (.iload_n 2, 1) := by decide +kernel
theorem dX0_setTide_5 : decode cX0_setTide 5 = .ok (.sipush (-200), 3) := by decide +kernel
theorem dX0_setTide_8 : decode cX0_setTide 8 = .ok (.sipush 200, 3) := by decide +kernel
theorem dX0_setTide_11 : decode cX0_setTide 11 = .ok (.invokestatic 57, 3) := by decide +kernel
theorem dX0_setTide_14 : decode cX0_setTide 14 = .ok (.aload_n 0, 1) := by decide +kernel
theorem dX0_setTide_15 : decode cX0_setTide 15 = .ok (.getfield 9, 3) := by decide +kernel
theorem dX0_setTide_18 : decode cX0_setTide 18 = .ok (.iload_n 1, 1) := by decide +kernel
theorem dX0_setTide_19 : decode cX0_setTide 19 = .ok (.iaload, 1) := by decide +kernel
theorem dX0_setTide_20 : decode cX0_setTide 20 = .ok (.istore_n 3, 1) := by decide +kernel
theorem dX0_setTide_21 : decode cX0_setTide 21 = .ok (.aload_n 0, 1) := by decide +kernel
theorem dX0_setTide_22 : decode cX0_setTide 22 = .ok (.getfield 9, 3) := by decide +kernel
theorem dX0_setTide_25 : decode cX0_setTide 25 = .ok (.iload_n 1, 1) := by decide +kernel
theorem dX0_setTide_26 : decode cX0_setTide 26 = .ok (.iload_n 2, 1) := by decide +kernel
theorem dX0_setTide_27 : decode cX0_setTide 27 = .ok (.iastore, 1) := by decide +kernel
theorem dX0_setTide_28 : decode cX0_setTide 28 = .ok (.iload_n 3, 1) := by decide +kernel
theorem dX0_setTide_29 : decode cX0_setTide 29 = .ok (.ireturn, 1) := by decide +kernel
set_option maxRecDepth 20000 in
theorem ggX0_setLoad_X0_checkHour : GoodIn wsX0_setLoad wsX0_checkHour := goodIn_ca (goodIn_r _ [5, 6, 7] (by decide +kernel) (by decide +kernel)) (goodIn_sub (fun _ h => List.mem_cons_of_mem _ (List.mem_append_left _ (List.mem_append_right _ h))) (by decide +kernel))
set_option maxRecDepth 20000 in
theorem gX0_setLoad_X0_checkHour : GoodIn wsX0_setLoad (va_wsS RX0 82 yX0_checkHour wsX0_checkHour) := goodIn_app (goodIn_of _ (by decide +kernel)) ggX0_setLoad_X0_checkHour
set_option maxRecDepth 20000 in
theorem ggX0_setLoad_X0_checkRange : GoodIn wsX0_setLoad wsX0_checkRange := goodIn_ca (goodIn_r _ [10, 11, 12] (by decide +kernel) (by decide +kernel)) (goodIn_sub (fun _ h => List.mem_cons_of_mem _ (List.mem_append_right _ h)) (by decide +kernel))
set_option maxRecDepth 20000 in
theorem gX0_setLoad_X0_checkRange : GoodIn wsX0_setLoad (va_wsS RX0 57 yX0_checkRange wsX0_checkRange) := goodIn_app (goodIn_of _ (by decide +kernel)) ggX0_setLoad_X0_checkRange
theorem dX0_setLoad_0 : decode cX0_setLoad 0 = .ok (.iload_n 1, 1) := by decide +kernel
theorem dX0_setLoad_1 : decode cX0_setLoad 1 = .ok (.invokestatic 82, 3) := by decide +kernel
theorem dX0_setLoad_4 : decode cX0_setLoad 4 = .ok (.iload_n 2, 1) := by decide +kernel
theorem dX0_setLoad_5 : decode cX0_setLoad 5 = .ok (.sipush (-200), 3) := by decide +kernel
theorem dX0_setLoad_8 : decode cX0_setLoad 8 = .ok (.sipush 200, 3) := by decide +kernel
theorem dX0_setLoad_11 : decode cX0_setLoad 11 = .ok (.invokestatic 57, 3) := by decide +kernel
theorem dX0_setLoad_14 : decode cX0_setLoad 14 = .ok (.aload_n 0, 1) := by decide +kernel
theorem dX0_setLoad_15 : decode cX0_setLoad 15 = .ok (.getfield 13, 3) := by decide +kernel
theorem dX0_setLoad_18 : decode cX0_setLoad 18 = .ok (.iload_n 1, 1) := by decide +kernel
theorem dX0_setLoad_19 : decode cX0_setLoad 19 = .ok (.iaload, 1) := by decide +kernel
theorem dX0_setLoad_20 : decode cX0_setLoad 20 = .ok (.istore_n 3, 1) := by decide +kernel
theorem dX0_setLoad_21 : decode cX0_setLoad 21 = .ok (.iload_n 1, 1) := by decide +kernel
theorem dX0_setLoad_22 : decode cX0_setLoad 22 = .ok (.istore 4, 2) := by decide +kernel
theorem dX0_setLoad_24 : decode cX0_setLoad 24 = .ok (.iload 4, 2) := by decide +kernel
theorem dX0_setLoad_26 : decode cX0_setLoad 26 = .ok (.bipush 48, 2) := by decide +kernel
theorem dX0_setLoad_28 : decode cX0_setLoad 28 = .ok (.if_icmp .ge 17, 3) := by decide +kernel
theorem dX0_setLoad_31 : decode cX0_setLoad 31 = .ok (.aload_n 0, 1) := by decide +kernel
theorem dX0_setLoad_32 : decode cX0_setLoad 32 = .ok (.getfield 13, 3) := by decide +kernel
theorem dX0_setLoad_35 : decode cX0_setLoad 35 = .ok (.iload 4, 2) := by decide +kernel
theorem dX0_setLoad_37 : decode cX0_setLoad 37 = .ok (.iload_n 2, 1) := by decide +kernel
theorem dX0_setLoad_38 : decode cX0_setLoad 38 = .ok (.iastore, 1) := by decide +kernel
theorem dX0_setLoad_39 : decode cX0_setLoad 39 = .ok (.iinc 4 1, 3) := by decide +kernel
theorem dX0_setLoad_42 : decode cX0_setLoad 42 = .ok (.goto (-18), 3) := by decide +kernel
theorem dX0_setLoad_45 : decode cX0_setLoad 45 = .ok (.iload_n 3, 1) := by decide +kernel
theorem dX0_setLoad_46 : decode cX0_setLoad 46 = .ok (.ireturn, 1) := by decide +kernel
set_option maxRecDepth 20000 in
theorem ggX0_setWind_X0_checkRange : GoodIn wsX0_setWind wsX0_checkRange := goodIn_ca (goodIn_r _ [7, 8, 9] (by decide +kernel) (by decide +kernel)) (goodIn_sub (fun _ h => List.mem_cons_of_mem _ (List.mem_append_right _ h)) (by decide +kernel))
set_option maxRecDepth 20000 in
theorem gX0_setWind_X0_checkRange : GoodIn wsX0_setWind (va_wsS RX0 57 yX0_checkRange wsX0_checkRange) := goodIn_app (goodIn_of _ (by decide +kernel)) ggX0_setWind_X0_checkRange
theorem dX0_setWind_0 : decode cX0_setWind 0 = .ok (.iload_n 1, 1) := by decide +kernel
theorem dX0_setWind_1 : decode cX0_setWind 1 = .ok (.ldc 85, 2) := by decide +kernel
theorem dX0_setWind_3 : decode cX0_setWind 3 = .ok (.ldc 61, 2) := by decide +kernel
theorem dX0_setWind_5 : decode cX0_setWind 5 = .ok (.invokestatic 57, 3) := by decide +kernel
theorem dX0_setWind_8 : decode cX0_setWind 8 = .ok (.aload_n 0, 1) := by decide +kernel
theorem dX0_setWind_9 : decode cX0_setWind 9 = .ok (.getfield 19, 3) := by decide +kernel
theorem dX0_setWind_12 : decode cX0_setWind 12 = .ok (.istore_n 2, 1) := by decide +kernel
theorem dX0_setWind_13 : decode cX0_setWind 13 = .ok (.aload_n 0, 1) := by decide +kernel
theorem dX0_setWind_14 : decode cX0_setWind 14 = .ok (.iload_n 1, 1) := by decide +kernel
theorem dX0_setWind_15 : decode cX0_setWind 15 = .ok (.putfield 19, 3) := by decide +kernel
theorem dX0_setWind_18 : decode cX0_setWind 18 = .ok (.iload_n 2, 1) := by decide +kernel
theorem dX0_setWind_19 : decode cX0_setWind 19 = .ok (.ireturn, 1) := by decide +kernel
set_option maxRecDepth 20000 in
theorem ggX0_setPassing_X0_checkHour : GoodIn wsX0_setPassing wsX0_checkHour := goodIn_ca (goodIn_r _ [7, 8, 9] (by decide +kernel) (by decide +kernel)) (goodIn_sub (fun _ h => List.mem_cons_of_mem _ (List.mem_append_left _ (List.mem_append_right _ h))) (by decide +kernel))
set_option maxRecDepth 20000 in
theorem gX0_setPassing_X0_checkHour : GoodIn wsX0_setPassing (va_wsS RX0 82 yX0_checkHour wsX0_checkHour) := goodIn_app (goodIn_of _ (by decide +kernel)) ggX0_setPassing_X0_checkHour
set_option maxRecDepth 20000 in
theorem ggX0_setPassing_X0_checkRange : GoodIn wsX0_setPassing wsX0_checkRange := goodIn_ca (goodIn_r _ [12, 13, 14] (by decide +kernel) (by decide +kernel)) (goodIn_sub (fun _ h => List.mem_cons_of_mem _ (List.mem_append_right _ h)) (by decide +kernel))
set_option maxRecDepth 20000 in
theorem gX0_setPassing_X0_checkRange : GoodIn wsX0_setPassing (va_wsS RX0 57 yX0_checkRange wsX0_checkRange) := goodIn_app (goodIn_of _ (by decide +kernel)) ggX0_setPassing_X0_checkRange
theorem dX0_setPassing_0 : decode cX0_setPassing 0 = .ok (.iload_n 1, 1) := by decide +kernel
theorem dX0_setPassing_1 : decode cX0_setPassing 1 = .ok (.invokestatic 82, 3) := by decide +kernel
theorem dX0_setPassing_4 : decode cX0_setPassing 4 = .ok (.iload_n 2, 1) := by decide +kernel
theorem dX0_setPassing_5 : decode cX0_setPassing 5 = .ok (.ldc 85, 2) := by decide +kernel
theorem dX0_setPassing_7 : decode cX0_setPassing 7 = .ok (.ldc 61, 2) := by decide +kernel
theorem dX0_setPassing_9 : decode cX0_setPassing 9 = .ok (.invokestatic 57, 3) := by decide +kernel
theorem dX0_setPassing_12 : decode cX0_setPassing 12 = .ok (.aload_n 0, 1) := by decide +kernel
theorem dX0_setPassing_13 : decode cX0_setPassing 13 = .ok (.getfield 16, 3) := by decide +kernel
theorem dX0_setPassing_16 : decode cX0_setPassing 16 = .ok (.iload_n 1, 1) := by decide +kernel
theorem dX0_setPassing_17 : decode cX0_setPassing 17 = .ok (.iaload, 1) := by decide +kernel
theorem dX0_setPassing_18 : decode cX0_setPassing 18 = .ok (.istore_n 3, 1) := by decide +kernel
theorem dX0_setPassing_19 : decode cX0_setPassing 19 = .ok (.aload_n 0, 1) := by decide +kernel
theorem dX0_setPassing_20 : decode cX0_setPassing 20 = .ok (.getfield 16, 3) := by decide +kernel
theorem dX0_setPassing_23 : decode cX0_setPassing 23 = .ok (.iload_n 1, 1) := by decide +kernel
theorem dX0_setPassing_24 : decode cX0_setPassing 24 = .ok (.iload_n 2, 1) := by decide +kernel
theorem dX0_setPassing_25 : decode cX0_setPassing 25 = .ok (.iastore, 1) := by decide +kernel
theorem dX0_setPassing_26 : decode cX0_setPassing 26 = .ok (.iload_n 3, 1) := by decide +kernel
theorem dX0_setPassing_27 : decode cX0_setPassing 27 = .ok (.ireturn, 1) := by decide +kernel
set_option maxRecDepth 20000 in
theorem ggX0_force_X0_checkHour : GoodIn wsX0_force wsX0_checkHour := goodIn_ca (goodIn_r _ [4, 5, 6] (by decide +kernel) (by decide +kernel)) (goodIn_sub (fun _ h => List.mem_cons_of_mem _ (List.mem_append_left _ (List.mem_append_right _ h))) (by decide +kernel))
set_option maxRecDepth 20000 in
theorem gX0_force_X0_checkHour : GoodIn wsX0_force (va_wsS RX0 82 yX0_checkHour wsX0_checkHour) := goodIn_app (goodIn_of _ (by decide +kernel)) ggX0_force_X0_checkHour
set_option maxRecDepth 20000 in
theorem ggX0_force_X0_checkRange : GoodIn wsX0_force wsX0_checkRange := goodIn_ca (goodIn_r _ [9, 10, 11] (by decide +kernel) (by decide +kernel)) (goodIn_sub (fun _ h => List.mem_cons_of_mem _ (List.mem_append_right _ h)) (by decide +kernel))
set_option maxRecDepth 20000 in
theorem gX0_force_X0_checkRange : GoodIn wsX0_force (va_wsS RX0 57 yX0_checkRange wsX0_checkRange) := goodIn_app (goodIn_of _ (by decide +kernel)) ggX0_force_X0_checkRange
set_option maxRecDepth 20000 in
theorem ggX0_force_X0_forceWith : GoodIn wsX0_force wsX0_forceWith := goodIn_r _ [15, 16, 17, 18, 19, 20, 21, 3, 22, 23, 24, 25, 26, 27, 28, 29, 30, 31, 32, 33, 34, 35, 36, 37, 38, 39, 40, 41, 42, 43, 44, 45, 46, 47, 48, 49, 50, 51, 52, 53, 54, 55, 56, 57, 58] (by decide +kernel) (by decide +kernel)
set_option maxRecDepth 20000 in
theorem gX0_force_X0_forceWith : GoodIn wsX0_force (wsV RX0 86 RX0 yX0_forceWith wsX0_forceWith) := goodIn_app (goodIn_of _ (by decide +kernel)) ggX0_force_X0_forceWith
theorem dX0_force_0 : decode cX0_force 0 = .ok (.iload_n 1, 1) := by decide +kernel
theorem dX0_force_1 : decode cX0_force 1 = .ok (.invokestatic 82, 3) := by decide +kernel
theorem dX0_force_4 : decode cX0_force 4 = .ok (.iload_n 2, 1) := by decide +kernel
theorem dX0_force_5 : decode cX0_force 5 = .ok (.sipush (-200), 3) := by decide +kernel
theorem dX0_force_8 : decode cX0_force 8 = .ok (.sipush 200, 3) := by decide +kernel
theorem dX0_force_11 : decode cX0_force 11 = .ok (.invokestatic 57, 3) := by decide +kernel
theorem dX0_force_14 : decode cX0_force 14 = .ok (.aload_n 0, 1) := by decide +kernel
theorem dX0_force_15 : decode cX0_force 15 = .ok (.iload_n 1, 1) := by decide +kernel
theorem dX0_force_16 : decode cX0_force 16 = .ok (.iload_n 2, 1) := by decide +kernel
theorem dX0_force_17 : decode cX0_force 17 = .ok (.invokevirtual 86, 3) := by decide +kernel
theorem dX0_force_20 : decode cX0_force 20 = .ok (.ireturn, 1) := by decide +kernel
set_option maxRecDepth 20000 in
theorem ggX0_shift_X0_checkHour : GoodIn wsX0_shift wsX0_checkHour := goodIn_ca (goodIn_r _ [4, 5, 6] (by decide +kernel) (by decide +kernel)) (goodIn_sub (fun _ h => List.mem_cons_of_mem _ (List.mem_append_right _ h)) (by decide +kernel))
set_option maxRecDepth 20000 in
theorem gX0_shift_X0_checkHour : GoodIn wsX0_shift (va_wsS RX0 82 yX0_checkHour wsX0_checkHour) := goodIn_app (goodIn_of _ (by decide +kernel)) ggX0_shift_X0_checkHour
set_option maxRecDepth 20000 in
theorem ggX0_shift_X0_balanceOf : GoodIn wsX0_shift wsX0_balanceOf := goodIn_r _ [10, 11, 12, 13, 14, 15, 16, 17, 3, 18, 19, 20, 21, 22, 23, 24, 25, 26, 27, 28, 29, 30, 31, 32, 33, 34, 35, 36, 37, 38, 39, 40, 41, 42, 43, 44, 45, 46, 47, 48, 49, 50, 51, 52, 53, 54, 55, 56, 57, 58, 59, 60, 61] (by decide +kernel) (by decide +kernel)
set_option maxRecDepth 20000 in
theorem gX0_shift_X0_balanceOf : GoodIn wsX0_shift (wsV RX0 89 RX0 yX0_balanceOf wsX0_balanceOf) := goodIn_app (goodIn_of _ (by decide +kernel)) ggX0_shift_X0_balanceOf
theorem dX0_shift_0 : decode cX0_shift 0 = .ok (.iload_n 1, 1) := by decide +kernel
theorem dX0_shift_1 : decode cX0_shift 1 = .ok (.invokestatic 82, 3) := by decide +kernel
theorem dX0_shift_4 : decode cX0_shift 4 = .ok (.aload_n 0, 1) := by decide +kernel
theorem dX0_shift_5 : decode cX0_shift 5 = .ok (.iload_n 1, 1) := by decide +kernel
theorem dX0_shift_6 : decode cX0_shift 6 = .ok (.invokevirtual 89, 3) := by decide +kernel
theorem dX0_shift_9 : decode cX0_shift 9 = .ok (.ireturn, 1) := by decide +kernel
set_option maxRecDepth 20000 in
theorem ggX0_isAdrift_X0_checkHour : GoodIn wsX0_isAdrift wsX0_checkHour := goodIn_ca (goodIn_r _ [4, 5, 6] (by decide +kernel) (by decide +kernel)) (goodIn_sub (fun _ h => List.mem_cons_of_mem _ (List.mem_append_right _ h)) (by decide +kernel))
set_option maxRecDepth 20000 in
theorem gX0_isAdrift_X0_checkHour : GoodIn wsX0_isAdrift (va_wsS RX0 82 yX0_checkHour wsX0_checkHour) := goodIn_app (goodIn_of _ (by decide +kernel)) ggX0_isAdrift_X0_checkHour
set_option maxRecDepth 20000 in
theorem ggX0_isAdrift_X0_balanceOf : GoodIn wsX0_isAdrift wsX0_balanceOf := goodIn_r _ [10, 11, 12, 13, 14, 15, 16, 17, 3, 18, 19, 20, 21, 22, 23, 24, 25, 26, 27, 28, 29, 30, 31, 32, 33, 34, 35, 36, 37, 38, 39, 40, 41, 42, 43, 44, 45, 46, 51, 52, 53, 54, 55, 56, 57, 58, 59, 60, 61, 62, 63, 64, 65] (by decide +kernel) (by decide +kernel)
set_option maxRecDepth 20000 in
theorem gX0_isAdrift_X0_balanceOf : GoodIn wsX0_isAdrift (wsV RX0 89 RX0 yX0_balanceOf wsX0_balanceOf) := goodIn_app (goodIn_of _ (by decide +kernel)) ggX0_isAdrift_X0_balanceOf
set_option maxRecDepth 20000 in
theorem ggX0_isAdrift_X0_driftsWith : GoodIn wsX0_isAdrift wsX0_driftsWith := goodIn_r _ [50, 15, 16, 17, 3, 18, 19, 20, 21, 22, 23, 24, 25, 26, 27, 28, 29, 30, 31, 32, 33, 34, 35, 36, 37, 38, 39, 40, 41, 42, 43, 44, 45, 46, 51, 52, 53, 54, 55, 56, 57, 58, 59, 60, 61, 62, 63, 64, 65] (by decide +kernel) (by decide +kernel)
set_option maxRecDepth 20000 in
theorem gX0_isAdrift_X0_driftsWith : GoodIn wsX0_isAdrift (wsV RX0 93 RX0 yX0_driftsWith wsX0_driftsWith) := goodIn_app (goodIn_of _ (by decide +kernel)) ggX0_isAdrift_X0_driftsWith
theorem dX0_isAdrift_0 : decode cX0_isAdrift 0 = .ok (.iload_n 1, 1) := by decide +kernel
theorem dX0_isAdrift_1 : decode cX0_isAdrift 1 = .ok (.invokestatic 82, 3) := by decide +kernel
theorem dX0_isAdrift_4 : decode cX0_isAdrift 4 = .ok (.aload_n 0, 1) := by decide +kernel
theorem dX0_isAdrift_5 : decode cX0_isAdrift 5 = .ok (.iload_n 1, 1) := by decide +kernel
theorem dX0_isAdrift_6 : decode cX0_isAdrift 6 = .ok (.aload_n 0, 1) := by decide +kernel
theorem dX0_isAdrift_7 : decode cX0_isAdrift 7 = .ok (.iload_n 1, 1) := by decide +kernel
theorem dX0_isAdrift_8 : decode cX0_isAdrift 8 = .ok (.invokevirtual 89, 3) := by decide +kernel
theorem dX0_isAdrift_11 : decode cX0_isAdrift 11 = .ok (.invokevirtual 93, 3) := by decide +kernel
theorem dX0_isAdrift_14 : decode cX0_isAdrift 14 = .ok (.ireturn, 1) := by decide +kernel
set_option maxRecDepth 20000 in
theorem ggX0_length_X0_checkLine : GoodIn wsX0_length wsX0_checkLine := goodIn_ca (goodIn_r _ [5, 6, 7, 8, 55, 56, 57, 58, 59, 60, 61, 62, 63, 64, 65, 66, 67, 68, 69] (by decide +kernel) (by decide +kernel)) (goodIn_sub (fun _ h => List.mem_cons_of_mem _ (List.mem_append_right _ h)) (by decide +kernel))
set_option maxRecDepth 20000 in
theorem gX0_length_X0_checkLine : GoodIn wsX0_length (wsV RX0 79 RX0 yX0_checkLine wsX0_checkLine) := goodIn_app (goodIn_of _ (by decide +kernel)) ggX0_length_X0_checkLine
set_option maxRecDepth 20000 in
theorem ggX0_length_X0_checkHour : GoodIn wsX0_length wsX0_checkHour := goodIn_ca (goodIn_r _ [11, 6, 7] (by decide +kernel) (by decide +kernel)) (goodIn_sub (fun _ h => List.mem_cons_of_mem _ (List.mem_append_right _ h)) (by decide +kernel))
set_option maxRecDepth 20000 in
theorem gX0_length_X0_checkHour : GoodIn wsX0_length (va_wsS RX0 82 yX0_checkHour wsX0_checkHour) := goodIn_app (goodIn_of _ (by decide +kernel)) ggX0_length_X0_checkHour
set_option maxRecDepth 20000 in
theorem ggX0_length_X0_balanceOf : GoodIn wsX0_length wsX0_balanceOf := goodIn_r _ [15, 16, 17, 18, 19, 20, 21, 22, 4, 23, 24, 25, 8, 26, 27, 28, 29, 30, 31, 32, 33, 34, 35, 36, 37, 38, 39, 40, 41, 42, 43, 44, 45, 46, 47, 48, 49, 50, 55, 56, 57, 58, 59, 60, 61, 62, 63, 64, 65, 66, 67, 68, 69] (by decide +kernel) (by decide +kernel)
set_option maxRecDepth 20000 in
theorem gX0_length_X0_balanceOf : GoodIn wsX0_length (wsV RX0 89 RX0 yX0_balanceOf wsX0_balanceOf) := goodIn_app (goodIn_of _ (by decide +kernel)) ggX0_length_X0_balanceOf
set_option maxRecDepth 20000 in
theorem ggX0_length_X0_lengthWith : GoodIn wsX0_length wsX0_lengthWith := goodIn_r _ [54, 30, 31, 32, 33, 4, 34, 35, 36, 37, 38, 39, 55, 56, 57, 58, 59, 60, 61, 62, 63, 64, 65, 66, 67, 68, 69] (by decide +kernel) (by decide +kernel)
set_option maxRecDepth 20000 in
theorem gX0_length_X0_lengthWith : GoodIn wsX0_length (wsV RX0 97 RX0 yX0_lengthWith wsX0_lengthWith) := goodIn_app (goodIn_of _ (by decide +kernel)) ggX0_length_X0_lengthWith
theorem dX0_length_0 : decode cX0_length 0 = .ok (.aload_n 0, 1) := by decide +kernel
theorem dX0_length_1 : decode cX0_length 1 = .ok (.iload_n 1, 1) := by decide +kernel
theorem dX0_length_2 : decode cX0_length 2 = .ok (.invokevirtual 79, 3) := by decide +kernel
theorem dX0_length_5 : decode cX0_length 5 = .ok (.iload_n 2, 1) := by decide +kernel
theorem dX0_length_6 : decode cX0_length 6 = .ok (.invokestatic 82, 3) := by decide +kernel
theorem dX0_length_9 : decode cX0_length 9 = .ok (.aload_n 0, 1) := by decide +kernel
theorem dX0_length_10 : decode cX0_length 10 = .ok (.iload_n 1, 1) := by decide +kernel
theorem dX0_length_11 : decode cX0_length 11 = .ok (.iload_n 2, 1) := by decide +kernel
theorem dX0_length_12 : decode cX0_length 12 = .ok (.aload_n 0, 1) := by decide +kernel
theorem dX0_length_13 : decode cX0_length 13 = .ok (.iload_n 2, 1) := by decide +kernel
theorem dX0_length_14 : decode cX0_length 14 = .ok (.invokevirtual 89, 3) := by decide +kernel
theorem dX0_length_17 : decode cX0_length 17 = .ok (.invokevirtual 97, 3) := by decide +kernel
theorem dX0_length_20 : decode cX0_length 20 = .ok (.ireturn, 1) := by decide +kernel
set_option maxRecDepth 20000 in
theorem ggX0_tension_X0_checkLine : GoodIn wsX0_tension wsX0_checkLine := goodIn_ca (goodIn_r _ [5, 6, 7, 8, 55, 56, 57, 58, 59, 60, 61, 62, 63, 64, 65, 66, 67, 68, 69] (by decide +kernel) (by decide +kernel)) (goodIn_sub (fun _ h => List.mem_cons_of_mem _ (List.mem_append_right _ h)) (by decide +kernel))
set_option maxRecDepth 20000 in
theorem gX0_tension_X0_checkLine : GoodIn wsX0_tension (wsV RX0 79 RX0 yX0_checkLine wsX0_checkLine) := goodIn_app (goodIn_of _ (by decide +kernel)) ggX0_tension_X0_checkLine
set_option maxRecDepth 20000 in
theorem ggX0_tension_X0_checkHour : GoodIn wsX0_tension wsX0_checkHour := goodIn_ca (goodIn_r _ [11, 6, 7] (by decide +kernel) (by decide +kernel)) (goodIn_sub (fun _ h => List.mem_cons_of_mem _ (List.mem_append_right _ h)) (by decide +kernel))
set_option maxRecDepth 20000 in
theorem gX0_tension_X0_checkHour : GoodIn wsX0_tension (va_wsS RX0 82 yX0_checkHour wsX0_checkHour) := goodIn_app (goodIn_of _ (by decide +kernel)) ggX0_tension_X0_checkHour
set_option maxRecDepth 20000 in
theorem ggX0_tension_X0_balanceOf : GoodIn wsX0_tension wsX0_balanceOf := goodIn_r _ [15, 16, 17, 18, 19, 20, 21, 22, 4, 23, 24, 25, 8, 26, 27, 28, 29, 30, 31, 32, 33, 34, 35, 36, 37, 38, 39, 40, 41, 42, 43, 44, 45, 46, 47, 48, 49, 50, 55, 56, 57, 58, 59, 60, 61, 62, 63, 64, 65, 66, 67, 68, 69] (by decide +kernel) (by decide +kernel)
set_option maxRecDepth 20000 in
theorem gX0_tension_X0_balanceOf : GoodIn wsX0_tension (wsV RX0 89 RX0 yX0_balanceOf wsX0_balanceOf) := goodIn_app (goodIn_of _ (by decide +kernel)) ggX0_tension_X0_balanceOf
set_option maxRecDepth 20000 in
theorem ggX0_tension_X0_lengthWith : GoodIn wsX0_tension wsX0_lengthWith := goodIn_r _ [54, 30, 31, 32, 33, 4, 34, 35, 36, 37, 38, 39, 55, 56, 57, 58, 59, 60, 61, 62, 63, 64, 65, 66, 67, 68, 69] (by decide +kernel) (by decide +kernel)
set_option maxRecDepth 20000 in
theorem gX0_tension_X0_lengthWith : GoodIn wsX0_tension (wsV RX0 97 RX0 yX0_lengthWith wsX0_lengthWith) := goodIn_app (goodIn_of _ (by decide +kernel)) ggX0_tension_X0_lengthWith
set_option maxRecDepth 20000 in
theorem ggX0_tension_X0_tensionAtLength : GoodIn wsX0_tension wsX0_tensionAtLength := goodIn_r _ [43, 44, 45, 46, 47, 48, 49, 50, 55, 56, 57, 58, 59, 60, 61, 62, 63, 64, 65, 66, 67, 68, 69] (by decide +kernel) (by decide +kernel)
set_option maxRecDepth 20000 in
theorem gX0_tension_X0_tensionAtLength : GoodIn wsX0_tension (wsV RX0 101 RX0 yX0_tensionAtLength wsX0_tensionAtLength) := goodIn_app (goodIn_of _ (by decide +kernel)) ggX0_tension_X0_tensionAtLength
theorem dX0_tension_0 : decode cX0_tension 0 = .ok (.aload_n 0, 1) := by decide +kernel
theorem dX0_tension_1 : decode cX0_tension 1 = .ok (.iload_n 1, 1) := by decide +kernel
theorem dX0_tension_2 : decode cX0_tension 2 = .ok (.invokevirtual 79, 3) := by decide +kernel
theorem dX0_tension_5 : decode cX0_tension 5 = .ok (.iload_n 2, 1) := by decide +kernel
theorem dX0_tension_6 : decode cX0_tension 6 = .ok (.invokestatic 82, 3) := by decide +kernel
theorem dX0_tension_9 : decode cX0_tension 9 = .ok (.aload_n 0, 1) := by decide +kernel
theorem dX0_tension_10 : decode cX0_tension 10 = .ok (.iload_n 1, 1) := by decide +kernel
theorem dX0_tension_11 : decode cX0_tension 11 = .ok (.aload_n 0, 1) := by decide +kernel
theorem dX0_tension_12 : decode cX0_tension 12 = .ok (.iload_n 1, 1) := by decide +kernel
theorem dX0_tension_13 : decode cX0_tension 13 = .ok (.iload_n 2, 1) := by decide +kernel
theorem dX0_tension_14 : decode cX0_tension 14 = .ok (.aload_n 0, 1) := by decide +kernel
theorem dX0_tension_15 : decode cX0_tension 15 = .ok (.iload_n 2, 1) := by decide +kernel
theorem dX0_tension_16 : decode cX0_tension 16 = .ok (.invokevirtual 89, 3) := by decide +kernel
theorem dX0_tension_19 : decode cX0_tension 19 = .ok (.invokevirtual 97, 3) := by decide +kernel
theorem dX0_tension_22 : decode cX0_tension 22 = .ok (.invokevirtual 101, 3) := by decide +kernel
theorem dX0_tension_25 : decode cX0_tension 25 = .ok (.ireturn, 1) := by decide +kernel
set_option maxRecDepth 20000 in
theorem ggX0_onBollard_X0_checkBollard : GoodIn wsX0_onBollard wsX0_checkBollard := goodIn_ca (goodIn_r _ [5, 6, 7, 8, 61, 62, 63, 64, 65, 66, 67, 68, 69, 70, 71, 72, 73, 74, 75] (by decide +kernel) (by decide +kernel)) (goodIn_sub (fun _ h => List.mem_cons_of_mem _ (List.mem_append_right _ h)) (by decide +kernel))
set_option maxRecDepth 20000 in
theorem gX0_onBollard_X0_checkBollard : GoodIn wsX0_onBollard (wsV RX0 69 RX0 yX0_checkBollard wsX0_checkBollard) := goodIn_app (goodIn_of _ (by decide +kernel)) ggX0_onBollard_X0_checkBollard
set_option maxRecDepth 20000 in
theorem ggX0_onBollard_X0_checkHour : GoodIn wsX0_onBollard wsX0_checkHour := goodIn_ca (goodIn_r _ [11, 6, 7] (by decide +kernel) (by decide +kernel)) (goodIn_sub (fun _ h => List.mem_cons_of_mem _ (List.mem_append_right _ h)) (by decide +kernel))
set_option maxRecDepth 20000 in
theorem gX0_onBollard_X0_checkHour : GoodIn wsX0_onBollard (va_wsS RX0 82 yX0_checkHour wsX0_checkHour) := goodIn_app (goodIn_of _ (by decide +kernel)) ggX0_onBollard_X0_checkHour
set_option maxRecDepth 20000 in
theorem ggX0_onBollard_X0_balanceOf : GoodIn wsX0_onBollard wsX0_balanceOf := goodIn_r _ [15, 16, 17, 18, 19, 20, 21, 22, 4, 23, 24, 25, 26, 27, 28, 29, 30, 31, 32, 33, 34, 35, 36, 37, 38, 39, 40, 41, 42, 43, 44, 45, 46, 47, 48, 49, 50, 51, 61, 62, 63, 64, 65, 66, 67, 68, 69, 70, 71, 72, 73, 74, 75] (by decide +kernel) (by decide +kernel)
set_option maxRecDepth 20000 in
theorem gX0_onBollard_X0_balanceOf : GoodIn wsX0_onBollard (wsV RX0 89 RX0 yX0_balanceOf wsX0_balanceOf) := goodIn_app (goodIn_of _ (by decide +kernel)) ggX0_onBollard_X0_balanceOf
set_option maxRecDepth 20000 in
theorem ggX0_onBollard_X0_bollardTension : GoodIn wsX0_onBollard wsX0_bollardTension := goodIn_r _ [55, 26, 56, 57, 58, 59, 4, 60, 31, 32, 33, 34, 35, 36, 37, 38, 39, 40, 41, 42, 43, 44, 45, 46, 47, 48, 49, 50, 51, 61, 62, 63, 64, 65, 66, 67, 68, 69, 70, 71, 72, 73, 74, 75] (by decide +kernel) (by decide +kernel)
set_option maxRecDepth 20000 in
theorem gX0_onBollard_X0_bollardTension : GoodIn wsX0_onBollard (wsV RX0 104 RX0 yX0_bollardTension wsX0_bollardTension) := goodIn_app (goodIn_of _ (by decide +kernel)) ggX0_onBollard_X0_bollardTension
theorem dX0_onBollard_0 : decode cX0_onBollard 0 = .ok (.aload_n 0, 1) := by decide +kernel
theorem dX0_onBollard_1 : decode cX0_onBollard 1 = .ok (.iload_n 1, 1) := by decide +kernel
theorem dX0_onBollard_2 : decode cX0_onBollard 2 = .ok (.invokevirtual 69, 3) := by decide +kernel
theorem dX0_onBollard_5 : decode cX0_onBollard 5 = .ok (.iload_n 2, 1) := by decide +kernel
theorem dX0_onBollard_6 : decode cX0_onBollard 6 = .ok (.invokestatic 82, 3) := by decide +kernel
theorem dX0_onBollard_9 : decode cX0_onBollard 9 = .ok (.aload_n 0, 1) := by decide +kernel
theorem dX0_onBollard_10 : decode cX0_onBollard 10 = .ok (.iload_n 1, 1) := by decide +kernel
theorem dX0_onBollard_11 : decode cX0_onBollard 11 = .ok (.iload_n 2, 1) := by decide +kernel
theorem dX0_onBollard_12 : decode cX0_onBollard 12 = .ok (.aload_n 0, 1) := by decide +kernel
theorem dX0_onBollard_13 : decode cX0_onBollard 13 = .ok (.iload_n 2, 1) := by decide +kernel
theorem dX0_onBollard_14 : decode cX0_onBollard 14 = .ok (.invokevirtual 89, 3) := by decide +kernel
theorem dX0_onBollard_17 : decode cX0_onBollard 17 = .ok (.invokevirtual 104, 3) := by decide +kernel
theorem dX0_onBollard_20 : decode cX0_onBollard 20 = .ok (.ireturn, 1) := by decide +kernel
set_option maxRecDepth 20000 in
theorem ggX0_isSafe_X0_checkHour : GoodIn wsX0_isSafe wsX0_checkHour := goodIn_ca (goodIn_r _ [4, 5, 6] (by decide +kernel) (by decide +kernel)) (goodIn_sub (fun _ h => List.mem_cons_of_mem _ (List.mem_append_right _ h)) (by decide +kernel))
set_option maxRecDepth 20000 in
theorem gX0_isSafe_X0_checkHour : GoodIn wsX0_isSafe (va_wsS RX0 82 yX0_checkHour wsX0_checkHour) := goodIn_app (goodIn_of _ (by decide +kernel)) ggX0_isSafe_X0_checkHour
set_option maxRecDepth 20000 in
theorem ggX0_isSafe_X0_holdsIn : GoodIn wsX0_isSafe wsX0_holdsIn := goodIn_r _ [10, 11, 12, 13, 3, 14, 15, 16, 17, 18, 19, 20, 21, 22, 23, 24, 25, 26, 27, 28, 29, 30, 31, 32, 33, 34, 35, 36, 37, 38, 39, 40, 41, 42, 43, 44, 45, 46, 47, 48, 49, 50, 51, 52, 53, 54, 55, 56, 57, 58, 59, 60, 61, 62, 63, 64, 65, 66, 67, 68, 69, 70, 71, 72, 73, 74, 75, 76, 77, 78, 79, 80, 81, 82, 83, 84, 85, 86, 87, 88, 89] (by decide +kernel) (by decide +kernel)
set_option maxRecDepth 20000 in
theorem gX0_isSafe_X0_holdsIn : GoodIn wsX0_isSafe (wsV RX0 107 RX0 yX0_holdsIn wsX0_holdsIn) := goodIn_app (goodIn_of _ (by decide +kernel)) ggX0_isSafe_X0_holdsIn
theorem dX0_isSafe_0 : decode cX0_isSafe 0 = .ok (.iload_n 1, 1) := by decide +kernel
theorem dX0_isSafe_1 : decode cX0_isSafe 1 = .ok (.invokestatic 82, 3) := by decide +kernel
theorem dX0_isSafe_4 : decode cX0_isSafe 4 = .ok (.aload_n 0, 1) := by decide +kernel
theorem dX0_isSafe_5 : decode cX0_isSafe 5 = .ok (.iload_n 1, 1) := by decide +kernel
theorem dX0_isSafe_6 : decode cX0_isSafe 6 = .ok (.invokevirtual 107, 3) := by decide +kernel
theorem dX0_isSafe_9 : decode cX0_isSafe 9 = .ok (.ireturn, 1) := by decide +kernel
set_option maxRecDepth 20000 in
theorem ggX0_firstUnsafe_X0_checkHour : GoodIn wsX0_firstUnsafe wsX0_checkHour := goodIn_ca (goodIn_r _ [4, 5, 6] (by decide +kernel) (by decide +kernel)) (goodIn_sub (fun _ h => List.mem_cons_of_mem _ (List.mem_append_right _ h)) (by decide +kernel))
set_option maxRecDepth 20000 in
theorem gX0_firstUnsafe_X0_checkHour : GoodIn wsX0_firstUnsafe (va_wsS RX0 82 yX0_checkHour wsX0_checkHour) := goodIn_app (goodIn_of _ (by decide +kernel)) ggX0_firstUnsafe_X0_checkHour
set_option maxRecDepth 20000 in
theorem ggX0_firstUnsafe_X0_holdsIn : GoodIn wsX0_firstUnsafe wsX0_holdsIn := goodIn_r _ [10, 11, 12, 13, 3, 14, 15, 16, 17, 18, 19, 20, 21, 22, 23, 24, 25, 26, 27, 28, 29, 30, 31, 32, 33, 34, 35, 36, 37, 38, 39, 40, 41, 42, 43, 44, 45, 46, 47, 48, 49, 50, 51, 52, 53, 54, 55, 56, 57, 58, 59, 60, 61, 62, 63, 64, 65, 66, 67, 68, 69, 70, 71, 72, 73, 74, 75, 76, 77, 78, 79, 80, 81, 82, 83, 84, 85, 86, 87, 88, 89] (by decide +kernel) (by decide +kernel)
set_option maxRecDepth 20000 in
theorem gX0_firstUnsafe_X0_holdsIn : GoodIn wsX0_firstUnsafe (wsV RX0 107 RX0 yX0_holdsIn wsX0_holdsIn) := goodIn_app (goodIn_of _ (by decide +kernel)) ggX0_firstUnsafe_X0_holdsIn
theorem dX0_firstUnsafe_0 : decode cX0_firstUnsafe 0 = .ok (.iload_n 1, 1) := by decide +kernel
theorem dX0_firstUnsafe_1 : decode cX0_firstUnsafe 1 = .ok (.invokestatic 82, 3) := by decide +kernel
theorem dX0_firstUnsafe_4 : decode cX0_firstUnsafe 4 = .ok (.iload_n 1, 1) := by decide +kernel
theorem dX0_firstUnsafe_5 : decode cX0_firstUnsafe 5 = .ok (.istore_n 2, 1) := by decide +kernel
theorem dX0_firstUnsafe_6 : decode cX0_firstUnsafe 6 = .ok (.iload_n 2, 1) := by decide +kernel
theorem dX0_firstUnsafe_7 : decode cX0_firstUnsafe 7 = .ok (.bipush 48, 2) := by decide +kernel
theorem dX0_firstUnsafe_9 : decode cX0_firstUnsafe 9 = .ok (.if_icmp .ge 19, 3) := by decide +kernel
theorem dX0_firstUnsafe_12 : decode cX0_firstUnsafe 12 = .ok (.aload_n 0, 1) := by decide +kernel
theorem dX0_firstUnsafe_13 : decode cX0_firstUnsafe 13 = .ok (.iload_n 2, 1) := by decide +kernel
theorem dX0_firstUnsafe_14 : decode cX0_firstUnsafe 14 = .ok (.invokevirtual 107, 3) := by decide +kernel
theorem dX0_firstUnsafe_17 : decode cX0_firstUnsafe 17 = .ok (.ifCond .ne 5, 3) := by decide +kernel
theorem dX0_firstUnsafe_20 : decode cX0_firstUnsafe 20 = .ok (.iload_n 2, 1) := by decide +kernel
theorem dX0_firstUnsafe_21 : decode cX0_firstUnsafe 21 = .ok (.ireturn, 1) := by decide +kernel
theorem dX0_firstUnsafe_22 : decode cX0_firstUnsafe 22 = .ok (.iinc 2 1, 3) := by decide +kernel
theorem dX0_firstUnsafe_25 : decode cX0_firstUnsafe 25 = .ok (.goto (-19), 3) := by decide +kernel
theorem dX0_firstUnsafe_28 : decode cX0_firstUnsafe 28 = .ok (.iconst (-1), 1) := by decide +kernel
theorem dX0_firstUnsafe_29 : decode cX0_firstUnsafe 29 = .ok (.ireturn, 1) := by decide +kernel
set_option maxRecDepth 20000 in
theorem ggX0_tend_X0_checkLine : GoodIn wsX0_tend wsX0_checkLine := goodIn_ca (goodIn_r _ [13, 14, 15, 16, 62, 63, 64, 65, 66, 67, 68, 69, 70, 71, 72, 73, 74, 75, 76] (by decide +kernel) (by decide +kernel)) (goodIn_sub (fun _ h => List.mem_cons_of_mem _ (List.mem_append_left _ (List.mem_append_right _ h))) (by decide +kernel))
set_option maxRecDepth 20000 in
theorem gX0_tend_X0_checkLine : GoodIn wsX0_tend (wsV RX0 79 RX0 yX0_checkLine wsX0_checkLine) := goodIn_app (goodIn_of _ (by decide +kernel)) ggX0_tend_X0_checkLine
set_option maxRecDepth 20000 in
theorem ggX0_tend_X0_checkHour : GoodIn wsX0_tend wsX0_checkHour := goodIn_ca (goodIn_r _ [19, 14, 15] (by decide +kernel) (by decide +kernel)) (goodIn_sub (fun _ h => List.mem_cons_of_mem _ (List.mem_append_left _ (List.mem_append_right _ h))) (by decide +kernel))
set_option maxRecDepth 20000 in
theorem gX0_tend_X0_checkHour : GoodIn wsX0_tend (va_wsS RX0 82 yX0_checkHour wsX0_checkHour) := goodIn_app (goodIn_of _ (by decide +kernel)) ggX0_tend_X0_checkHour
set_option maxRecDepth 20000 in
theorem ggX0_tend_X0_checkRange : GoodIn wsX0_tend wsX0_checkRange := goodIn_ca (goodIn_r _ [22, 23, 24] (by decide +kernel) (by decide +kernel)) (goodIn_sub (fun _ h => List.mem_cons_of_mem _ (List.mem_append_right _ h)) (by decide +kernel))
set_option maxRecDepth 20000 in
theorem gX0_tend_X0_checkRange : GoodIn wsX0_tend (va_wsS RX0 57 yX0_checkRange wsX0_checkRange) := goodIn_app (goodIn_of _ (by decide +kernel)) ggX0_tend_X0_checkRange
set_option maxRecDepth 20000 in
theorem ggX0_tend_X0_balanceOf : GoodIn wsX0_tend wsX0_balanceOf := goodIn_r _ [28, 29, 30, 31, 32, 33, 34, 35, 12, 36, 37, 38, 16, 39, 40, 41, 42, 43, 44, 45, 46, 47, 48, 49, 50, 51, 52, 53, 54, 55, 56, 3, 57, 4, 5, 6, 7, 8, 62, 63, 64, 65, 66, 67, 68, 69, 70, 71, 72, 73, 74, 75, 76] (by decide +kernel) (by decide +kernel)
set_option maxRecDepth 20000 in
theorem gX0_tend_X0_balanceOf : GoodIn wsX0_tend (wsV RX0 89 RX0 yX0_balanceOf wsX0_balanceOf) := goodIn_app (goodIn_of _ (by decide +kernel)) ggX0_tend_X0_balanceOf
set_option maxRecDepth 20000 in
theorem ggX0_tend_X0_lengthWith : GoodIn wsX0_tend wsX0_lengthWith := goodIn_r _ [61, 43, 44, 45, 46, 12, 47, 48, 49, 50, 51, 52, 62, 63, 64, 65, 66, 67, 68, 69, 70, 71, 72, 73, 74, 75, 76] (by decide +kernel) (by decide +kernel)
set_option maxRecDepth 20000 in
theorem gX0_tend_X0_lengthWith : GoodIn wsX0_tend (wsV RX0 97 RX0 yX0_lengthWith wsX0_lengthWith) := goodIn_app (goodIn_of _ (by decide +kernel)) ggX0_tend_X0_lengthWith
theorem dX0_tend_0 : decode cX0_tend 0 = .ok (.aload_n 0, 1) := by decide +kernel
theorem dX0_tend_1 : decode cX0_tend 1 = .ok (.iload_n 1, 1) := by decide +kernel
theorem dX0_tend_2 : decode cX0_tend 2 = .ok (.invokevirtual 79, 3) := by decide +kernel
theorem dX0_tend_5 : decode cX0_tend 5 = .ok (.iload_n 2, 1) := by decide +kernel
theorem dX0_tend_6 : decode cX0_tend 6 = .ok (.invokestatic 82, 3) := by decide +kernel
theorem dX0_tend_9 : decode cX0_tend 9 = .ok (.iload_n 3, 1) := by decide +kernel
theorem dX0_tend_10 : decode cX0_tend 10 = .ok (.bipush (-100), 2) := by decide +kernel
theorem dX0_tend_12 : decode cX0_tend 12 = .ok (.bipush 100, 2) := by decide +kernel
theorem dX0_tend_14 : decode cX0_tend 14 = .ok (.invokestatic 57, 3) := by decide +kernel
theorem dX0_tend_17 : decode cX0_tend 17 = .ok (.aload_n 0, 1) := by decide +kernel
theorem dX0_tend_18 : decode cX0_tend 18 = .ok (.getfield 50, 3) := by decide +kernel
theorem dX0_tend_21 : decode cX0_tend 21 = .ok (.iload_n 1, 1) := by decide +kernel
theorem dX0_tend_22 : decode cX0_tend 22 = .ok (.baload, 1) := by decide +kernel
theorem dX0_tend_23 : decode cX0_tend 23 = .ok (.ifCond .ne 13, 3) := by decide +kernel
theorem dX0_tend_26 : decode cX0_tend 26 = .ok (.new 62, 3) := by decide +kernel
theorem dX0_tend_29 : decode cX0_tend 29 = .ok (.dup, 1) := by decide +kernel
theorem dX0_tend_30 : decode cX0_tend 30 = .ok (.ldc 111, 2) := by decide +kernel
theorem dX0_tend_32 : decode cX0_tend 32 = .ok (.invokespecial 66, 3) := by decide +kernel
theorem dX0_tend_35 : decode cX0_tend 35 = .ok (.athrow, 1) := by decide +kernel
theorem dX0_tend_36 : decode cX0_tend 36 = .ok (.aload_n 0, 1) := by decide +kernel
theorem dX0_tend_37 : decode cX0_tend 37 = .ok (.getfield 47, 3) := by decide +kernel
theorem dX0_tend_40 : decode cX0_tend 40 = .ok (.iload_n 1, 1) := by decide +kernel
theorem dX0_tend_41 : decode cX0_tend 41 = .ok (.iconst 0, 1) := by decide +kernel
theorem dX0_tend_42 : decode cX0_tend 42 = .ok (.aload_n 0, 1) := by decide +kernel
theorem dX0_tend_43 : decode cX0_tend 43 = .ok (.iload_n 1, 1) := by decide +kernel
theorem dX0_tend_44 : decode cX0_tend 44 = .ok (.iload_n 2, 1) := by decide +kernel
theorem dX0_tend_45 : decode cX0_tend 45 = .ok (.aload_n 0, 1) := by decide +kernel
theorem dX0_tend_46 : decode cX0_tend 46 = .ok (.iload_n 2, 1) := by decide +kernel
theorem dX0_tend_47 : decode cX0_tend 47 = .ok (.invokevirtual 89, 3) := by decide +kernel
theorem dX0_tend_50 : decode cX0_tend 50 = .ok (.invokevirtual 97, 3) := by decide +kernel
theorem dX0_tend_53 : decode cX0_tend 53 = .ok (.iload_n 3, 1) := by decide +kernel
theorem dX0_tend_54 : decode cX0_tend 54 = .ok (.iadd, 1) := by decide +kernel
theorem dX0_tend_55 : decode cX0_tend 55 = .ok (.invokestatic 113, 3) := by decide +kernel
theorem dX0_tend_58 : decode cX0_tend 58 = .ok (.iastore, 1) := by decide +kernel
theorem dX0_tend_59 : decode cX0_tend 59 = .ok (.aload_n 0, 1) := by decide +kernel
theorem dX0_tend_60 : decode cX0_tend 60 = .ok (.getfield 47, 3) := by decide +kernel
theorem dX0_tend_63 : decode cX0_tend 63 = .ok (.iload_n 1, 1) := by decide +kernel
theorem dX0_tend_64 : decode cX0_tend 64 = .ok (.iaload, 1) := by decide +kernel
theorem dX0_tend_65 : decode cX0_tend 65 = .ok (.ireturn, 1) := by decide +kernel
set_option maxRecDepth 20000 in
theorem ggX0_tendAll_X0_checkHour : GoodIn wsX0_tendAll wsX0_checkHour := goodIn_ca (goodIn_r _ [4, 5, 6] (by decide +kernel) (by decide +kernel)) (goodIn_sub (fun _ h => List.mem_cons_of_mem _ (List.mem_append_right _ h)) (by decide +kernel))
set_option maxRecDepth 20000 in
theorem gX0_tendAll_X0_checkHour : GoodIn wsX0_tendAll (va_wsS RX0 82 yX0_checkHour wsX0_checkHour) := goodIn_app (goodIn_of _ (by decide +kernel)) ggX0_tendAll_X0_checkHour
set_option maxRecDepth 20000 in
theorem ggX0_tendAll_X0_tendFastLines : GoodIn wsX0_tendAll wsX0_tendFastLines := goodIn_r _ [10, 11, 12, 13, 14, 15, 16, 3, 17, 18, 19, 20, 21, 22, 23, 24, 25, 26, 27, 28, 29, 30, 31, 32, 33, 34, 35, 36, 37, 38, 39, 40, 41, 42, 43, 44, 45, 46, 47, 48, 49, 50, 51, 52, 53, 54, 55, 56, 57, 58, 59, 60, 61, 62, 63, 64, 65, 66, 67, 68, 69] (by decide +kernel) (by decide +kernel)
set_option maxRecDepth 20000 in
theorem gX0_tendAll_X0_tendFastLines : GoodIn wsX0_tendAll (wsV RX0 118 RX0 yX0_tendFastLines wsX0_tendFastLines) := goodIn_app (goodIn_of _ (by decide +kernel)) ggX0_tendAll_X0_tendFastLines
theorem dX0_tendAll_0 : decode cX0_tendAll 0 = .ok (.iload_n 1, 1) := by decide +kernel
theorem dX0_tendAll_1 : decode cX0_tendAll 1 = .ok (.invokestatic 82, 3) := by decide +kernel
theorem dX0_tendAll_4 : decode cX0_tendAll 4 = .ok (.aload_n 0, 1) := by decide +kernel
theorem dX0_tendAll_5 : decode cX0_tendAll 5 = .ok (.iload_n 1, 1) := by decide +kernel
theorem dX0_tendAll_6 : decode cX0_tendAll 6 = .ok (.invokevirtual 118, 3) := by decide +kernel
theorem dX0_tendAll_9 : decode cX0_tendAll 9 = .ok (.ireturn, 1) := by decide +kernel
set_option maxRecDepth 20000 in
theorem ggX0_plan_X0_checkHour : GoodIn wsX0_plan wsX0_checkHour := goodIn_ca (goodIn_r _ [12, 13, 14] (by decide +kernel) (by decide +kernel)) (goodIn_sub (fun _ h => List.mem_cons_of_mem _ (List.mem_append_right _ h)) (by decide +kernel))
set_option maxRecDepth 20000 in
theorem gX0_plan_X0_checkHour : GoodIn wsX0_plan (va_wsS RX0 82 yX0_checkHour wsX0_checkHour) := goodIn_app (goodIn_of _ (by decide +kernel)) ggX0_plan_X0_checkHour
set_option maxRecDepth 20000 in
theorem ggX0_plan_X0_tendThrough : GoodIn wsX0_plan wsX0_tendThrough := goodIn_r _ [18, 19, 20, 21, 11, 22, 23, 24, 25, 26, 27, 28, 29, 30, 31, 32, 33, 34, 35, 36, 37, 38, 39, 40, 41, 42, 43, 44, 45, 46, 47, 48, 49, 50, 51, 52, 53, 54, 55, 56, 57, 3, 58, 59, 60, 61, 62, 63, 64, 65, 66, 67, 68, 69, 70, 71, 72, 73, 74, 75, 76, 77, 78, 79, 80, 81, 82, 83, 84, 85, 86, 87, 88, 89, 90, 91, 92, 93, 94, 95, 96, 97, 98, 99, 100, 101, 102, 103, 104] (by decide +kernel) (by decide +kernel)
set_option maxRecDepth 20000 in
theorem gX0_plan_X0_tendThrough : GoodIn wsX0_plan (wsV RX0 132 RX0 yX0_tendThrough wsX0_tendThrough) := goodIn_app (goodIn_of _ (by decide +kernel)) ggX0_plan_X0_tendThrough
theorem dX0_plan_0 : decode cX0_plan 0 = .ok (.iload_n 1, 1) := by decide +kernel
theorem dX0_plan_1 : decode cX0_plan 1 = .ok (.invokestatic 82, 3) := by decide +kernel
theorem dX0_plan_4 : decode cX0_plan 4 = .ok (.iload_n 2, 1) := by decide +kernel
theorem dX0_plan_5 : decode cX0_plan 5 = .ok (.invokestatic 82, 3) := by decide +kernel
theorem dX0_plan_8 : decode cX0_plan 8 = .ok (.iload_n 2, 1) := by decide +kernel
theorem dX0_plan_9 : decode cX0_plan 9 = .ok (.iload_n 1, 1) := by decide +kernel
theorem dX0_plan_10 : decode cX0_plan 10 = .ok (.if_icmp .ge 13, 3) := by decide +kernel
theorem dX0_plan_13 : decode cX0_plan 13 = .ok (.new 121, 3) := by decide +kernel
theorem dX0_plan_16 : decode cX0_plan 16 = .ok (.dup, 1) := by decide +kernel
theorem dX0_plan_17 : decode cX0_plan 17 = .ok (.ldc 123, 2) := by decide +kernel
theorem dX0_plan_19 : decode cX0_plan 19 = .ok (.invokespecial 125, 3) := by decide +kernel
theorem dX0_plan_22 : decode cX0_plan 22 = .ok (.athrow, 1) := by decide +kernel
theorem dX0_plan_23 : decode cX0_plan 23 = .ok (.aload_n 0, 1) := by decide +kernel
theorem dX0_plan_24 : decode cX0_plan 24 = .ok (.getfield 47, 3) := by decide +kernel
theorem dX0_plan_27 : decode cX0_plan 27 = .ok (.iconst 0, 1) := by decide +kernel
theorem dX0_plan_28 : decode cX0_plan 28 = .ok (.aload_n 0, 1) := by decide +kernel
theorem dX0_plan_29 : decode cX0_plan 29 = .ok (.getfield 54, 3) := by decide +kernel
theorem dX0_plan_32 : decode cX0_plan 32 = .ok (.iconst 0, 1) := by decide +kernel
theorem dX0_plan_33 : decode cX0_plan 33 = .ok (.bipush 10, 2) := by decide +kernel
theorem dX0_plan_35 : decode cX0_plan 35 = .ok (.invokestatic 126, 3) := by decide +kernel
theorem dX0_plan_38 : decode cX0_plan 38 = .ok (.aload_n 0, 1) := by decide +kernel
theorem dX0_plan_39 : decode cX0_plan 39 = .ok (.iload_n 1, 1) := by decide +kernel
theorem dX0_plan_40 : decode cX0_plan 40 = .ok (.iload_n 2, 1) := by decide +kernel
theorem dX0_plan_41 : decode cX0_plan 41 = .ok (.invokevirtual 132, 3) := by decide +kernel
theorem dX0_plan_44 : decode cX0_plan 44 = .ok (.istore_n 3, 1) := by decide +kernel
theorem dX0_plan_45 : decode cX0_plan 45 = .ok (.aload_n 0, 1) := by decide +kernel
theorem dX0_plan_46 : decode cX0_plan 46 = .ok (.getfield 54, 3) := by decide +kernel
theorem dX0_plan_49 : decode cX0_plan 49 = .ok (.iconst 0, 1) := by decide +kernel
theorem dX0_plan_50 : decode cX0_plan 50 = .ok (.aload_n 0, 1) := by decide +kernel
theorem dX0_plan_51 : decode cX0_plan 51 = .ok (.getfield 47, 3) := by decide +kernel
theorem dX0_plan_54 : decode cX0_plan 54 = .ok (.iconst 0, 1) := by decide +kernel
theorem dX0_plan_55 : decode cX0_plan 55 = .ok (.bipush 10, 2) := by decide +kernel
theorem dX0_plan_57 : decode cX0_plan 57 = .ok (.invokestatic 126, 3) := by decide +kernel
theorem dX0_plan_60 : decode cX0_plan 60 = .ok (.iload_n 3, 1) := by decide +kernel
theorem dX0_plan_61 : decode cX0_plan 61 = .ok (.ireturn, 1) := by decide +kernel
theorem dX0_checkHour_0 : decode cX0_checkHour 0 = .ok (.iload_n 0, 1) := by decide +kernel
theorem dX0_checkHour_1 : decode cX0_checkHour 1 = .ok (.ifCond .lt 9, 3) := by decide +kernel
theorem dX0_checkHour_4 : decode cX0_checkHour 4 = .ok (.iload_n 0, 1) := by decide +kernel
theorem dX0_checkHour_5 : decode cX0_checkHour 5 = .ok (.bipush 48, 2) := by decide +kernel
theorem dX0_checkHour_7 : decode cX0_checkHour 7 = .ok (.if_icmp .lt 13, 3) := by decide +kernel
theorem dX0_checkHour_10 : decode cX0_checkHour 10 = .ok (.new 135, 3) := by decide +kernel
theorem dX0_checkHour_13 : decode cX0_checkHour 13 = .ok (.dup, 1) := by decide +kernel
theorem dX0_checkHour_14 : decode cX0_checkHour 14 = .ok (.ldc 137, 2) := by decide +kernel
theorem dX0_checkHour_16 : decode cX0_checkHour 16 = .ok (.invokespecial 139, 3) := by decide +kernel
theorem dX0_checkHour_19 : decode cX0_checkHour 19 = .ok (.athrow, 1) := by decide +kernel
theorem dX0_checkHour_20 : decode cX0_checkHour 20 = .ok (.return_, 1) := by decide +kernel
theorem dX0_checkBollard_0 : decode cX0_checkBollard 0 = .ok (.iload_n 1, 1) := by decide +kernel
theorem dX0_checkBollard_1 : decode cX0_checkBollard 1 = .ok (.ifCond .lt 11, 3) := by decide +kernel
theorem dX0_checkBollard_4 : decode cX0_checkBollard 4 = .ok (.iload_n 1, 1) := by decide +kernel
theorem dX0_checkBollard_5 : decode cX0_checkBollard 5 = .ok (.aload_n 0, 1) := by decide +kernel
theorem dX0_checkBollard_6 : decode cX0_checkBollard 6 = .ok (.getfield 23, 3) := by decide +kernel
theorem dX0_checkBollard_9 : decode cX0_checkBollard 9 = .ok (.if_icmp .lt 13, 3) := by decide +kernel
theorem dX0_checkBollard_12 : decode cX0_checkBollard 12 = .ok (.new 135, 3) := by decide +kernel
theorem dX0_checkBollard_15 : decode cX0_checkBollard 15 = .ok (.dup, 1) := by decide +kernel
theorem dX0_checkBollard_16 : decode cX0_checkBollard 16 = .ok (.ldc 140, 2) := by decide +kernel
theorem dX0_checkBollard_18 : decode cX0_checkBollard 18 = .ok (.invokespecial 139, 3) := by decide +kernel
theorem dX0_checkBollard_21 : decode cX0_checkBollard 21 = .ok (.athrow, 1) := by decide +kernel
theorem dX0_checkBollard_22 : decode cX0_checkBollard 22 = .ok (.return_, 1) := by decide +kernel
theorem dX0_checkLine_0 : decode cX0_checkLine 0 = .ok (.iload_n 1, 1) := by decide +kernel
theorem dX0_checkLine_1 : decode cX0_checkLine 1 = .ok (.ifCond .lt 11, 3) := by decide +kernel
theorem dX0_checkLine_4 : decode cX0_checkLine 4 = .ok (.iload_n 1, 1) := by decide +kernel
theorem dX0_checkLine_5 : decode cX0_checkLine 5 = .ok (.aload_n 0, 1) := by decide +kernel
theorem dX0_checkLine_6 : decode cX0_checkLine 6 = .ok (.getfield 32, 3) := by decide +kernel
theorem dX0_checkLine_9 : decode cX0_checkLine 9 = .ok (.if_icmp .lt 13, 3) := by decide +kernel
theorem dX0_checkLine_12 : decode cX0_checkLine 12 = .ok (.new 135, 3) := by decide +kernel
theorem dX0_checkLine_15 : decode cX0_checkLine 15 = .ok (.dup, 1) := by decide +kernel
theorem dX0_checkLine_16 : decode cX0_checkLine 16 = .ok (.ldc 142, 2) := by decide +kernel
theorem dX0_checkLine_18 : decode cX0_checkLine 18 = .ok (.invokespecial 139, 3) := by decide +kernel
theorem dX0_checkLine_21 : decode cX0_checkLine 21 = .ok (.athrow, 1) := by decide +kernel
theorem dX0_checkLine_22 : decode cX0_checkLine 22 = .ok (.return_, 1) := by decide +kernel
theorem dX0_checkRange_0 : decode cX0_checkRange 0 = .ok (.iload_n 0, 1) := by decide +kernel
theorem dX0_checkRange_1 : decode cX0_checkRange 1 = .ok (.iload_n 1, 1) := by decide +kernel
theorem dX0_checkRange_2 : decode cX0_checkRange 2 = .ok (.if_icmp .lt 8, 3) := by decide +kernel
theorem dX0_checkRange_5 : decode cX0_checkRange 5 = .ok (.iload_n 0, 1) := by decide +kernel
theorem dX0_checkRange_6 : decode cX0_checkRange 6 = .ok (.iload_n 2, 1) := by decide +kernel
theorem dX0_checkRange_7 : decode cX0_checkRange 7 = .ok (.if_icmp .le 13, 3) := by decide +kernel
theorem dX0_checkRange_10 : decode cX0_checkRange 10 = .ok (.new 121, 3) := by decide +kernel
theorem dX0_checkRange_13 : decode cX0_checkRange 13 = .ok (.dup, 1) := by decide +kernel
theorem dX0_checkRange_14 : decode cX0_checkRange 14 = .ok (.ldc 144, 2) := by decide +kernel
theorem dX0_checkRange_16 : decode cX0_checkRange 16 = .ok (.invokespecial 125, 3) := by decide +kernel
theorem dX0_checkRange_19 : decode cX0_checkRange 19 = .ok (.athrow, 1) := by decide +kernel
theorem dX0_checkRange_20 : decode cX0_checkRange 20 = .ok (.return_, 1) := by decide +kernel
theorem dX0_heightIn_0 : decode cX0_heightIn 0 = .ok (.sipush 300, 3) := by decide +kernel
theorem dX0_heightIn_3 : decode cX0_heightIn 3 = .ok (.aload_n 0, 1) := by decide +kernel
theorem dX0_heightIn_4 : decode cX0_heightIn 4 = .ok (.getfield 9, 3) := by decide +kernel
theorem dX0_heightIn_7 : decode cX0_heightIn 7 = .ok (.iload_n 1, 1) := by decide +kernel
theorem dX0_heightIn_8 : decode cX0_heightIn 8 = .ok (.iaload, 1) := by decide +kernel
theorem dX0_heightIn_9 : decode cX0_heightIn 9 = .ok (.iadd, 1) := by decide +kernel
theorem dX0_heightIn_10 : decode cX0_heightIn 10 = .ok (.aload_n 0, 1) := by decide +kernel
theorem dX0_heightIn_11 : decode cX0_heightIn 11 = .ok (.getfield 13, 3) := by decide +kernel
theorem dX0_heightIn_14 : decode cX0_heightIn 14 = .ok (.iload_n 1, 1) := by decide +kernel
theorem dX0_heightIn_15 : decode cX0_heightIn 15 = .ok (.iaload, 1) := by decide +kernel
theorem dX0_heightIn_16 : decode cX0_heightIn 16 = .ok (.iadd, 1) := by decide +kernel
theorem dX0_heightIn_17 : decode cX0_heightIn 17 = .ok (.ireturn, 1) := by decide +kernel
theorem dX0_lengthOver_0 : decode cX0_lengthOver 0 = .ok (.iload_n 0, 1) := by decide +kernel
theorem dX0_lengthOver_1 : decode cX0_lengthOver 1 = .ok (.iload_n 0, 1) := by decide +kernel
theorem dX0_lengthOver_2 : decode cX0_lengthOver 2 = .ok (.imul, 1) := by decide +kernel
theorem dX0_lengthOver_3 : decode cX0_lengthOver 3 = .ok (.iload_n 1, 1) := by decide +kernel
theorem dX0_lengthOver_4 : decode cX0_lengthOver 4 = .ok (.iload_n 1, 1) := by decide +kernel
theorem dX0_lengthOver_5 : decode cX0_lengthOver 5 = .ok (.imul, 1) := by decide +kernel
theorem dX0_lengthOver_6 : decode cX0_lengthOver 6 = .ok (.iadd, 1) := by decide +kernel
theorem dX0_lengthOver_7 : decode cX0_lengthOver 7 = .ok (.istore_n 2, 1) := by decide +kernel
theorem dX0_lengthOver_8 : decode cX0_lengthOver 8 = .ok (.iconst 0, 1) := by decide +kernel
theorem dX0_lengthOver_9 : decode cX0_lengthOver 9 = .ok (.istore_n 3, 1) := by decide +kernel
theorem dX0_lengthOver_10 : decode cX0_lengthOver 10 = .ok (.sipush 8192, 3) := by decide +kernel
theorem dX0_lengthOver_13 : decode cX0_lengthOver 13 = .ok (.istore 4, 2) := by decide +kernel
theorem dX0_lengthOver_15 : decode cX0_lengthOver 15 = .ok (.iload 4, 2) := by decide +kernel
theorem dX0_lengthOver_17 : decode cX0_lengthOver 17 = .ok (.ifCond .le 30, 3) := by decide +kernel
theorem dX0_lengthOver_20 : decode cX0_lengthOver 20 = .ok (.iload_n 3, 1) := by decide +kernel
theorem dX0_lengthOver_21 : decode cX0_lengthOver 21 = .ok (.iload 4, 2) := by decide +kernel
theorem dX0_lengthOver_23 : decode cX0_lengthOver 23 = .ok (.iadd, 1) := by decide +kernel
theorem dX0_lengthOver_24 : decode cX0_lengthOver 24 = .ok (.istore 5, 2) := by decide +kernel
theorem dX0_lengthOver_26 : decode cX0_lengthOver 26 = .ok (.iload 5, 2) := by decide +kernel
theorem dX0_lengthOver_28 : decode cX0_lengthOver 28 = .ok (.iload 5, 2) := by decide +kernel
theorem dX0_lengthOver_30 : decode cX0_lengthOver 30 = .ok (.imul, 1) := by decide +kernel
theorem dX0_lengthOver_31 : decode cX0_lengthOver 31 = .ok (.iload_n 2, 1) := by decide +kernel
theorem dX0_lengthOver_32 : decode cX0_lengthOver 32 = .ok (.if_icmp .gt 6, 3) := by decide +kernel
theorem dX0_lengthOver_35 : decode cX0_lengthOver 35 = .ok (.iload 5, 2) := by decide +kernel
theorem dX0_lengthOver_37 : decode cX0_lengthOver 37 = .ok (.istore_n 3, 1) := by decide +kernel
theorem dX0_lengthOver_38 : decode cX0_lengthOver 38 = .ok (.iload 4, 2) := by decide +kernel
theorem dX0_lengthOver_40 : decode cX0_lengthOver 40 = .ok (.iconst 2, 1) := by decide +kernel
theorem dX0_lengthOver_41 : decode cX0_lengthOver 41 = .ok (.idiv, 1) := by decide +kernel
theorem dX0_lengthOver_42 : decode cX0_lengthOver 42 = .ok (.istore 4, 2) := by decide +kernel
theorem dX0_lengthOver_44 : decode cX0_lengthOver 44 = .ok (.goto (-29), 3) := by decide +kernel
theorem dX0_lengthOver_47 : decode cX0_lengthOver 47 = .ok (.iload_n 3, 1) := by decide +kernel
theorem dX0_lengthOver_48 : decode cX0_lengthOver 48 = .ok (.ireturn, 1) := by decide +kernel
set_option maxRecDepth 20000 in
theorem ggX0_lengthWith_X0_heightIn : GoodIn wsX0_lengthWith wsX0_heightIn := goodIn_r _ [6, 7, 8, 12, 13, 14, 15, 16, 17, 18, 19, 20, 21, 22, 23, 24, 25, 26] (by decide +kernel) (by decide +kernel)
set_option maxRecDepth 20000 in
theorem gX0_lengthWith_X0_heightIn : GoodIn wsX0_lengthWith (wsV RX0 146 RX0 yX0_heightIn wsX0_heightIn) := goodIn_app (goodIn_of _ (by decide +kernel)) ggX0_lengthWith_X0_heightIn
set_option maxRecDepth 20000 in
theorem ggX0_lengthWith_X0_lengthOver : GoodIn wsX0_lengthWith wsX0_lengthOver := goodIn_r _ [11] (by decide +kernel) (by decide +kernel)
set_option maxRecDepth 20000 in
theorem gX0_lengthWith_X0_lengthOver : GoodIn wsX0_lengthWith (va_wsS RX0 75 yX0_lengthOver wsX0_lengthOver) := goodIn_app (goodIn_of _ (by decide +kernel)) ggX0_lengthWith_X0_lengthOver
theorem dX0_lengthWith_0 : decode cX0_lengthWith 0 = .ok (.aload_n 0, 1) := by decide +kernel
theorem dX0_lengthWith_1 : decode cX0_lengthWith 1 = .ok (.getfield 38, 3) := by decide +kernel
theorem dX0_lengthWith_4 : decode cX0_lengthWith 4 = .ok (.iload_n 1, 1) := by decide +kernel
theorem dX0_lengthWith_5 : decode cX0_lengthWith 5 = .ok (.iaload, 1) := by decide +kernel
theorem dX0_lengthWith_6 : decode cX0_lengthWith 6 = .ok (.iload_n 3, 1) := by decide +kernel
theorem dX0_lengthWith_7 : decode cX0_lengthWith 7 = .ok (.isub, 1) := by decide +kernel
theorem dX0_lengthWith_8 : decode cX0_lengthWith 8 = .ok (.aload_n 0, 1) := by decide +kernel
theorem dX0_lengthWith_9 : decode cX0_lengthWith 9 = .ok (.iload_n 2, 1) := by decide +kernel
theorem dX0_lengthWith_10 : decode cX0_lengthWith 10 = .ok (.invokevirtual 146, 3) := by decide +kernel
theorem dX0_lengthWith_13 : decode cX0_lengthWith 13 = .ok (.invokestatic 75, 3) := by decide +kernel
theorem dX0_lengthWith_16 : decode cX0_lengthWith 16 = .ok (.ireturn, 1) := by decide +kernel
theorem dX0_tensionAtLength_0 : decode cX0_tensionAtLength 0 = .ok (.aload_n 0, 1) := by decide +kernel
theorem dX0_tensionAtLength_1 : decode cX0_tensionAtLength 1 = .ok (.getfield 50, 3) := by decide +kernel
theorem dX0_tensionAtLength_4 : decode cX0_tensionAtLength 4 = .ok (.iload_n 1, 1) := by decide +kernel
theorem dX0_tensionAtLength_5 : decode cX0_tensionAtLength 5 = .ok (.baload, 1) := by decide +kernel
theorem dX0_tensionAtLength_6 : decode cX0_tensionAtLength 6 = .ok (.ifCond .ne 5, 3) := by decide +kernel
theorem dX0_tensionAtLength_9 : decode cX0_tensionAtLength 9 = .ok (.iconst 0, 1) := by decide +kernel
theorem dX0_tensionAtLength_10 : decode cX0_tensionAtLength 10 = .ok (.ireturn, 1) := by decide +kernel
theorem dX0_tensionAtLength_11 : decode cX0_tensionAtLength 11 = .ok (.aload_n 0, 1) := by decide +kernel
theorem dX0_tensionAtLength_12 : decode cX0_tensionAtLength 12 = .ok (.getfield 41, 3) := by decide +kernel
theorem dX0_tensionAtLength_15 : decode cX0_tensionAtLength 15 = .ok (.iload_n 1, 1) := by decide +kernel
theorem dX0_tensionAtLength_16 : decode cX0_tensionAtLength 16 = .ok (.iaload, 1) := by decide +kernel
theorem dX0_tensionAtLength_17 : decode cX0_tensionAtLength 17 = .ok (.iconst 0, 1) := by decide +kernel
theorem dX0_tensionAtLength_18 : decode cX0_tensionAtLength 18 = .ok (.iload_n 2, 1) := by decide +kernel
theorem dX0_tensionAtLength_19 : decode cX0_tensionAtLength 19 = .ok (.aload_n 0, 1) := by decide +kernel
theorem dX0_tensionAtLength_20 : decode cX0_tensionAtLength 20 = .ok (.getfield 47, 3) := by decide +kernel
theorem dX0_tensionAtLength_23 : decode cX0_tensionAtLength 23 = .ok (.iload_n 1, 1) := by decide +kernel
theorem dX0_tensionAtLength_24 : decode cX0_tensionAtLength 24 = .ok (.iaload, 1) := by decide +kernel
theorem dX0_tensionAtLength_25 : decode cX0_tensionAtLength 25 = .ok (.isub, 1) := by decide +kernel
theorem dX0_tensionAtLength_26 : decode cX0_tensionAtLength 26 = .ok (.invokestatic 113, 3) := by decide +kernel
theorem dX0_tensionAtLength_29 : decode cX0_tensionAtLength 29 = .ok (.imul, 1) := by decide +kernel
theorem dX0_tensionAtLength_30 : decode cX0_tensionAtLength 30 = .ok (.ireturn, 1) := by decide +kernel
set_option maxRecDepth 20000 in
theorem ggX0_pullWith_X0_heightIn : GoodIn wsX0_pullWith wsX0_heightIn := goodIn_r _ [6, 7, 8, 23, 24, 25, 26, 27, 28, 29, 30, 31, 32, 33, 34, 35, 36, 37] (by decide +kernel) (by decide +kernel)
set_option maxRecDepth 20000 in
theorem gX0_pullWith_X0_heightIn : GoodIn wsX0_pullWith (wsV RX0 146 RX0 yX0_heightIn wsX0_heightIn) := goodIn_app (goodIn_of _ (by decide +kernel)) ggX0_pullWith_X0_heightIn
set_option maxRecDepth 20000 in
theorem ggX0_pullWith_X0_lengthOver : GoodIn wsX0_pullWith wsX0_lengthOver := goodIn_r _ [11] (by decide +kernel) (by decide +kernel)
set_option maxRecDepth 20000 in
theorem gX0_pullWith_X0_lengthOver : GoodIn wsX0_pullWith (va_wsS RX0 75 yX0_lengthOver wsX0_lengthOver) := goodIn_app (goodIn_of _ (by decide +kernel)) ggX0_pullWith_X0_lengthOver
set_option maxRecDepth 20000 in
theorem ggX0_pullWith_X0_tensionAtLength : GoodIn wsX0_pullWith wsX0_tensionAtLength := goodIn_r _ [15, 16, 17, 18, 19, 20, 21, 22, 23, 24, 25, 26, 27, 28, 29, 30, 31, 32, 33, 34, 35, 36, 37] (by decide +kernel) (by decide +kernel)
set_option maxRecDepth 20000 in
theorem gX0_pullWith_X0_tensionAtLength : GoodIn wsX0_pullWith (wsV RX0 101 RX0 yX0_tensionAtLength wsX0_tensionAtLength) := goodIn_app (goodIn_of _ (by decide +kernel)) ggX0_pullWith_X0_tensionAtLength
theorem dX0_pullWith_0 : decode cX0_pullWith 0 = .ok (.aload_n 0, 1) := by decide +kernel
theorem dX0_pullWith_1 : decode cX0_pullWith 1 = .ok (.getfield 38, 3) := by decide +kernel
theorem dX0_pullWith_4 : decode cX0_pullWith 4 = .ok (.iload_n 1, 1) := by decide +kernel
theorem dX0_pullWith_5 : decode cX0_pullWith 5 = .ok (.iaload, 1) := by decide +kernel
theorem dX0_pullWith_6 : decode cX0_pullWith 6 = .ok (.iload_n 3, 1) := by decide +kernel
theorem dX0_pullWith_7 : decode cX0_pullWith 7 = .ok (.isub, 1) := by decide +kernel
theorem dX0_pullWith_8 : decode cX0_pullWith 8 = .ok (.istore 4, 2) := by decide +kernel
theorem dX0_pullWith_10 : decode cX0_pullWith 10 = .ok (.iload 4, 2) := by decide +kernel
theorem dX0_pullWith_12 : decode cX0_pullWith 12 = .ok (.aload_n 0, 1) := by decide +kernel
theorem dX0_pullWith_13 : decode cX0_pullWith 13 = .ok (.iload_n 2, 1) := by decide +kernel
theorem dX0_pullWith_14 : decode cX0_pullWith 14 = .ok (.invokevirtual 146, 3) := by decide +kernel
theorem dX0_pullWith_17 : decode cX0_pullWith 17 = .ok (.invokestatic 75, 3) := by decide +kernel
theorem dX0_pullWith_20 : decode cX0_pullWith 20 = .ok (.istore 5, 2) := by decide +kernel
theorem dX0_pullWith_22 : decode cX0_pullWith 22 = .ok (.iload 5, 2) := by decide +kernel
theorem dX0_pullWith_24 : decode cX0_pullWith 24 = .ok (.ifCond .gt 5, 3) := by decide +kernel
theorem dX0_pullWith_27 : decode cX0_pullWith 27 = .ok (.iconst 0, 1) := by decide +kernel
theorem dX0_pullWith_28 : decode cX0_pullWith 28 = .ok (.ireturn, 1) := by decide +kernel
theorem dX0_pullWith_29 : decode cX0_pullWith 29 = .ok (.aload_n 0, 1) := by decide +kernel
theorem dX0_pullWith_30 : decode cX0_pullWith 30 = .ok (.iload_n 1, 1) := by decide +kernel
theorem dX0_pullWith_31 : decode cX0_pullWith 31 = .ok (.iload 5, 2) := by decide +kernel
theorem dX0_pullWith_33 : decode cX0_pullWith 33 = .ok (.invokevirtual 101, 3) := by decide +kernel
theorem dX0_pullWith_36 : decode cX0_pullWith 36 = .ok (.i2l, 1) := by decide +kernel
theorem dX0_pullWith_37 : decode cX0_pullWith 37 = .ok (.iload 4, 2) := by decide +kernel
theorem dX0_pullWith_39 : decode cX0_pullWith 39 = .ok (.i2l, 1) := by decide +kernel
theorem dX0_pullWith_40 : decode cX0_pullWith 40 = .ok (.lmul, 1) := by decide +kernel
theorem dX0_pullWith_41 : decode cX0_pullWith 41 = .ok (.lstore 6, 2) := by decide +kernel
theorem dX0_pullWith_43 : decode cX0_pullWith 43 = .ok (.lload 6, 2) := by decide +kernel
theorem dX0_pullWith_45 : decode cX0_pullWith 45 = .ok (.iload 5, 2) := by decide +kernel
theorem dX0_pullWith_47 : decode cX0_pullWith 47 = .ok (.i2l, 1) := by decide +kernel
theorem dX0_pullWith_48 : decode cX0_pullWith 48 = .ok (.ldiv, 1) := by decide +kernel
theorem dX0_pullWith_49 : decode cX0_pullWith 49 = .ok (.l2i, 1) := by decide +kernel
theorem dX0_pullWith_50 : decode cX0_pullWith 50 = .ok (.ireturn, 1) := by decide +kernel
set_option maxRecDepth 20000 in
theorem ggX0_bollardTension_X0_lengthWith : GoodIn wsX0_bollardTension wsX0_lengthWith := goodIn_r _ [7, 8, 9, 10, 11, 6, 12, 13, 14, 15, 16, 17, 29, 30, 31, 32, 33, 34, 35, 36, 37, 38, 39, 40, 41, 42, 43] (by decide +kernel) (by decide +kernel)
set_option maxRecDepth 20000 in
theorem gX0_bollardTension_X0_lengthWith : GoodIn wsX0_bollardTension (wsV RX0 97 RX0 yX0_lengthWith wsX0_lengthWith) := goodIn_app (goodIn_of _ (by decide +kernel)) ggX0_bollardTension_X0_lengthWith
set_option maxRecDepth 20000 in
theorem ggX0_bollardTension_X0_tensionAtLength : GoodIn wsX0_bollardTension wsX0_tensionAtLength := goodIn_r _ [21, 22, 23, 24, 25, 26, 27, 28, 29, 30, 31, 32, 33, 34, 35, 36, 37, 38, 39, 40, 41, 42, 43] (by decide +kernel) (by decide +kernel)
set_option maxRecDepth 20000 in
theorem gX0_bollardTension_X0_tensionAtLength : GoodIn wsX0_bollardTension (wsV RX0 101 RX0 yX0_tensionAtLength wsX0_tensionAtLength) := goodIn_app (goodIn_of _ (by decide +kernel)) ggX0_bollardTension_X0_tensionAtLength
theorem dX0_bollardTension_0 : decode cX0_bollardTension 0 = .ok (.iconst 0, 1) := by decide +kernel
theorem dX0_bollardTension_1 : decode cX0_bollardTension 1 = .ok (.istore 4, 2) := by decide +kernel
theorem dX0_bollardTension_3 : decode cX0_bollardTension 3 = .ok (.iconst 0, 1) := by decide +kernel
theorem dX0_bollardTension_4 : decode cX0_bollardTension 4 = .ok (.istore 5, 2) := by decide +kernel
theorem dX0_bollardTension_6 : decode cX0_bollardTension 6 = .ok (.iload 5, 2) := by decide +kernel
theorem dX0_bollardTension_8 : decode cX0_bollardTension 8 = .ok (.aload_n 0, 1) := by decide +kernel
theorem dX0_bollardTension_9 : decode cX0_bollardTension 9 = .ok (.getfield 32, 3) := by decide +kernel
theorem dX0_bollardTension_12 : decode cX0_bollardTension 12 = .ok (.if_icmp .ge 39, 3) := by decide +kernel
theorem dX0_bollardTension_15 : decode cX0_bollardTension 15 = .ok (.aload_n 0, 1) := by decide +kernel
theorem dX0_bollardTension_16 : decode cX0_bollardTension 16 = .ok (.getfield 35, 3) := by decide +kernel
theorem dX0_bollardTension_19 : decode cX0_bollardTension 19 = .ok (.iload 5, 2) := by decide +kernel
theorem dX0_bollardTension_21 : decode cX0_bollardTension 21 = .ok (.iaload, 1) := by decide +kernel
theorem dX0_bollardTension_22 : decode cX0_bollardTension 22 = .ok (.iload_n 1, 1) := by decide +kernel
theorem dX0_bollardTension_23 : decode cX0_bollardTension 23 = .ok (.if_icmp .ne 22, 3) := by decide +kernel
theorem dX0_bollardTension_26 : decode cX0_bollardTension 26 = .ok (.iload 4, 2) := by decide +kernel
theorem dX0_bollardTension_28 : decode cX0_bollardTension 28 = .ok (.aload_n 0, 1) := by decide +kernel
theorem dX0_bollardTension_29 : decode cX0_bollardTension 29 = .ok (.iload 5, 2) := by decide +kernel
theorem dX0_bollardTension_31 : decode cX0_bollardTension 31 = .ok (.aload_n 0, 1) := by decide +kernel
theorem dX0_bollardTension_32 : decode cX0_bollardTension 32 = .ok (.iload 5, 2) := by decide +kernel
theorem dX0_bollardTension_34 : decode cX0_bollardTension 34 = .ok (.iload_n 2, 1) := by decide +kernel
theorem dX0_bollardTension_35 : decode cX0_bollardTension 35 = .ok (.iload_n 3, 1) := by decide +kernel
theorem dX0_bollardTension_36 : decode cX0_bollardTension 36 = .ok (.invokevirtual 97, 3) := by decide +kernel
theorem dX0_bollardTension_39 : decode cX0_bollardTension 39 = .ok (.invokevirtual 101, 3) := by decide +kernel
theorem dX0_bollardTension_42 : decode cX0_bollardTension 42 = .ok (.iadd, 1) := by decide +kernel
theorem dX0_bollardTension_43 : decode cX0_bollardTension 43 = .ok (.istore 4, 2) := by decide +kernel
theorem dX0_bollardTension_45 : decode cX0_bollardTension 45 = .ok (.iinc 5 1, 3) := by decide +kernel
theorem dX0_bollardTension_48 : decode cX0_bollardTension 48 = .ok (.goto (-42), 3) := by decide +kernel
theorem dX0_bollardTension_51 : decode cX0_bollardTension 51 = .ok (.iload 4, 2) := by decide +kernel
theorem dX0_bollardTension_53 : decode cX0_bollardTension 53 = .ok (.ireturn, 1) := by decide +kernel
set_option maxRecDepth 20000 in
theorem ggX0_forceWith_X0_pullWith : GoodIn wsX0_forceWith wsX0_pullWith := goodIn_r _ [8, 9, 10, 11, 12, 7, 13, 14, 15, 16, 17, 18, 19, 20, 21, 22, 23, 24, 25, 26, 27, 28, 29, 30, 31, 32, 33, 34, 35, 36, 37, 38, 39, 40, 41, 42, 43, 44] (by decide +kernel) (by decide +kernel)
set_option maxRecDepth 20000 in
theorem gX0_forceWith_X0_pullWith : GoodIn wsX0_forceWith (wsV RX0 149 RX0 yX0_pullWith wsX0_pullWith) := goodIn_app (goodIn_of _ (by decide +kernel)) ggX0_forceWith_X0_pullWith
theorem dX0_forceWith_0 : decode cX0_forceWith 0 = .ok (.aload_n 0, 1) := by decide +kernel
theorem dX0_forceWith_1 : decode cX0_forceWith 1 = .ok (.getfield 19, 3) := by decide +kernel
theorem dX0_forceWith_4 : decode cX0_forceWith 4 = .ok (.aload_n 0, 1) := by decide +kernel
theorem dX0_forceWith_5 : decode cX0_forceWith 5 = .ok (.getfield 16, 3) := by decide +kernel
theorem dX0_forceWith_8 : decode cX0_forceWith 8 = .ok (.iload_n 1, 1) := by decide +kernel
theorem dX0_forceWith_9 : decode cX0_forceWith 9 = .ok (.iaload, 1) := by decide +kernel
theorem dX0_forceWith_10 : decode cX0_forceWith 10 = .ok (.iadd, 1) := by decide +kernel
theorem dX0_forceWith_11 : decode cX0_forceWith 11 = .ok (.istore_n 3, 1) := by decide +kernel
theorem dX0_forceWith_12 : decode cX0_forceWith 12 = .ok (.iconst 0, 1) := by decide +kernel
theorem dX0_forceWith_13 : decode cX0_forceWith 13 = .ok (.istore 4, 2) := by decide +kernel
theorem dX0_forceWith_15 : decode cX0_forceWith 15 = .ok (.iload 4, 2) := by decide +kernel
theorem dX0_forceWith_17 : decode cX0_forceWith 17 = .ok (.aload_n 0, 1) := by decide +kernel
theorem dX0_forceWith_18 : decode cX0_forceWith 18 = .ok (.getfield 32, 3) := by decide +kernel
theorem dX0_forceWith_21 : decode cX0_forceWith 21 = .ok (.if_icmp .ge 20, 3) := by decide +kernel
theorem dX0_forceWith_24 : decode cX0_forceWith 24 = .ok (.iload_n 3, 1) := by decide +kernel
theorem dX0_forceWith_25 : decode cX0_forceWith 25 = .ok (.aload_n 0, 1) := by decide +kernel
theorem dX0_forceWith_26 : decode cX0_forceWith 26 = .ok (.iload 4, 2) := by decide +kernel
theorem dX0_forceWith_28 : decode cX0_forceWith 28 = .ok (.iload_n 1, 1) := by decide +kernel
theorem dX0_forceWith_29 : decode cX0_forceWith 29 = .ok (.iload_n 2, 1) := by decide +kernel
theorem dX0_forceWith_30 : decode cX0_forceWith 30 = .ok (.invokevirtual 149, 3) := by decide +kernel
theorem dX0_forceWith_33 : decode cX0_forceWith 33 = .ok (.iadd, 1) := by decide +kernel
theorem dX0_forceWith_34 : decode cX0_forceWith 34 = .ok (.istore_n 3, 1) := by decide +kernel
theorem dX0_forceWith_35 : decode cX0_forceWith 35 = .ok (.iinc 4 1, 3) := by decide +kernel
theorem dX0_forceWith_38 : decode cX0_forceWith 38 = .ok (.goto (-23), 3) := by decide +kernel
theorem dX0_forceWith_41 : decode cX0_forceWith 41 = .ok (.iload_n 3, 1) := by decide +kernel
theorem dX0_forceWith_42 : decode cX0_forceWith 42 = .ok (.ireturn, 1) := by decide +kernel
set_option maxRecDepth 20000 in
theorem ggX0_balanceOf_J9_floorDiv_7cf53 : GoodIn wsX0_balanceOf wsJ9_floorDiv_7cf53 := goodIn_r _ [4] (by decide +kernel) (by decide +kernel)
set_option maxRecDepth 20000 in
theorem gX0_balanceOf_J9_floorDiv_7cf53 : GoodIn wsX0_balanceOf (va_wsS RX0 152 yJ9_floorDiv_7cf53 wsJ9_floorDiv_7cf53) := goodIn_app (goodIn_of _ (by decide +kernel)) ggX0_balanceOf_J9_floorDiv_7cf53
set_option maxRecDepth 20000 in
theorem ggX0_balanceOf_X0_forceWith : GoodIn wsX0_balanceOf wsX0_forceWith := goodIn_r _ [9, 10, 11, 12, 13, 14, 15, 8, 16, 17, 18, 19, 20, 21, 22, 23, 24, 25, 26, 27, 28, 29, 30, 31, 32, 33, 34, 35, 36, 37, 38, 39, 40, 41, 42, 43, 44, 45, 46, 47, 48, 49, 50, 51, 52] (by decide +kernel) (by decide +kernel)
set_option maxRecDepth 20000 in
theorem gX0_balanceOf_X0_forceWith : GoodIn wsX0_balanceOf (wsV RX0 86 RX0 yX0_forceWith wsX0_forceWith) := goodIn_app (goodIn_of _ (by decide +kernel)) ggX0_balanceOf_X0_forceWith
theorem dX0_balanceOf_0 : decode cX0_balanceOf 0 = .ok (.sipush (-200), 3) := by decide +kernel
theorem dX0_balanceOf_3 : decode cX0_balanceOf 3 = .ok (.istore_n 2, 1) := by decide +kernel
theorem dX0_balanceOf_4 : decode cX0_balanceOf 4 = .ok (.sipush 200, 3) := by decide +kernel
theorem dX0_balanceOf_7 : decode cX0_balanceOf 7 = .ok (.istore_n 3, 1) := by decide +kernel
theorem dX0_balanceOf_8 : decode cX0_balanceOf 8 = .ok (.iconst 0, 1) := by decide +kernel
theorem dX0_balanceOf_9 : decode cX0_balanceOf 9 = .ok (.istore 4, 2) := by decide +kernel
theorem dX0_balanceOf_11 : decode cX0_balanceOf 11 = .ok (.iload_n 2, 1) := by decide +kernel
theorem dX0_balanceOf_12 : decode cX0_balanceOf 12 = .ok (.iload_n 3, 1) := by decide +kernel
theorem dX0_balanceOf_13 : decode cX0_balanceOf 13 = .ok (.if_icmp .ge 47, 3) := by decide +kernel
theorem dX0_balanceOf_16 : decode cX0_balanceOf 16 = .ok (.iload 4, 2) := by decide +kernel
theorem dX0_balanceOf_18 : decode cX0_balanceOf 18 = .ok (.sipush 401, 3) := by decide +kernel
theorem dX0_balanceOf_21 : decode cX0_balanceOf 21 = .ok (.if_icmp .ge 39, 3) := by decide +kernel
theorem dX0_balanceOf_24 : decode cX0_balanceOf 24 = .ok (.iload_n 2, 1) := by decide +kernel
theorem dX0_balanceOf_25 : decode cX0_balanceOf 25 = .ok (.iload_n 3, 1) := by decide +kernel
theorem dX0_balanceOf_26 : decode cX0_balanceOf 26 = .ok (.iadd, 1) := by decide +kernel
theorem dX0_balanceOf_27 : decode cX0_balanceOf 27 = .ok (.iconst 2, 1) := by decide +kernel
theorem dX0_balanceOf_28 : decode cX0_balanceOf 28 = .ok (.invokestatic 152, 3) := by decide +kernel
theorem dX0_balanceOf_31 : decode cX0_balanceOf 31 = .ok (.istore 5, 2) := by decide +kernel
theorem dX0_balanceOf_33 : decode cX0_balanceOf 33 = .ok (.aload_n 0, 1) := by decide +kernel
theorem dX0_balanceOf_34 : decode cX0_balanceOf 34 = .ok (.iload_n 1, 1) := by decide +kernel
theorem dX0_balanceOf_35 : decode cX0_balanceOf 35 = .ok (.iload 5, 2) := by decide +kernel
theorem dX0_balanceOf_37 : decode cX0_balanceOf 37 = .ok (.invokevirtual 86, 3) := by decide +kernel
theorem dX0_balanceOf_40 : decode cX0_balanceOf 40 = .ok (.ifCond .le 11, 3) := by decide +kernel
theorem dX0_balanceOf_43 : decode cX0_balanceOf 43 = .ok (.iload 5, 2) := by decide +kernel
theorem dX0_balanceOf_45 : decode cX0_balanceOf 45 = .ok (.iconst 1, 1) := by decide +kernel
theorem dX0_balanceOf_46 : decode cX0_balanceOf 46 = .ok (.iadd, 1) := by decide +kernel
theorem dX0_balanceOf_47 : decode cX0_balanceOf 47 = .ok (.istore_n 2, 1) := by decide +kernel
theorem dX0_balanceOf_48 : decode cX0_balanceOf 48 = .ok (.goto 6, 3) := by decide +kernel
theorem dX0_balanceOf_51 : decode cX0_balanceOf 51 = .ok (.iload 5, 2) := by decide +kernel
theorem dX0_balanceOf_53 : decode cX0_balanceOf 53 = .ok (.istore_n 3, 1) := by decide +kernel
theorem dX0_balanceOf_54 : decode cX0_balanceOf 54 = .ok (.iinc 4 1, 3) := by decide +kernel
theorem dX0_balanceOf_57 : decode cX0_balanceOf 57 = .ok (.goto (-46), 3) := by decide +kernel
theorem dX0_balanceOf_60 : decode cX0_balanceOf 60 = .ok (.iload_n 2, 1) := by decide +kernel
theorem dX0_balanceOf_61 : decode cX0_balanceOf 61 = .ok (.ireturn, 1) := by decide +kernel
set_option maxRecDepth 20000 in
theorem ggX0_driftsWith_X0_forceWith : GoodIn wsX0_driftsWith wsX0_forceWith := goodIn_r _ [5, 6, 7, 8, 9, 10, 11, 4, 12, 13, 14, 15, 16, 17, 18, 19, 20, 21, 22, 23, 24, 25, 26, 27, 28, 29, 30, 31, 32, 33, 34, 35, 36, 37, 38, 39, 40, 41, 42, 43, 44, 45, 46, 47, 48] (by decide +kernel) (by decide +kernel)
set_option maxRecDepth 20000 in
theorem gX0_driftsWith_X0_forceWith : GoodIn wsX0_driftsWith (wsV RX0 86 RX0 yX0_forceWith wsX0_forceWith) := goodIn_app (goodIn_of _ (by decide +kernel)) ggX0_driftsWith_X0_forceWith
theorem dX0_driftsWith_0 : decode cX0_driftsWith 0 = .ok (.iload_n 2, 1) := by decide +kernel
theorem dX0_driftsWith_1 : decode cX0_driftsWith 1 = .ok (.sipush 200, 3) := by decide +kernel
theorem dX0_driftsWith_4 : decode cX0_driftsWith 4 = .ok (.if_icmp .ne 18, 3) := by decide +kernel
theorem dX0_driftsWith_7 : decode cX0_driftsWith 7 = .ok (.aload_n 0, 1) := by decide +kernel
theorem dX0_driftsWith_8 : decode cX0_driftsWith 8 = .ok (.iload_n 1, 1) := by decide +kernel
theorem dX0_driftsWith_9 : decode cX0_driftsWith 9 = .ok (.iload_n 2, 1) := by decide +kernel
theorem dX0_driftsWith_10 : decode cX0_driftsWith 10 = .ok (.invokevirtual 86, 3) := by decide +kernel
theorem dX0_driftsWith_13 : decode cX0_driftsWith 13 = .ok (.ifCond .le 7, 3) := by decide +kernel
theorem dX0_driftsWith_16 : decode cX0_driftsWith 16 = .ok (.iconst 1, 1) := by decide +kernel
theorem dX0_driftsWith_17 : decode cX0_driftsWith 17 = .ok (.goto 4, 3) := by decide +kernel
theorem dX0_driftsWith_20 : decode cX0_driftsWith 20 = .ok (.iconst 0, 1) := by decide +kernel
theorem dX0_driftsWith_21 : decode cX0_driftsWith 21 = .ok (.ireturn, 1) := by decide +kernel
theorem dX0_driftsWith_22 : decode cX0_driftsWith 22 = .ok (.iload_n 2, 1) := by decide +kernel
theorem dX0_driftsWith_23 : decode cX0_driftsWith 23 = .ok (.sipush (-200), 3) := by decide +kernel
theorem dX0_driftsWith_26 : decode cX0_driftsWith 26 = .ok (.if_icmp .ne 18, 3) := by decide +kernel
theorem dX0_driftsWith_29 : decode cX0_driftsWith 29 = .ok (.aload_n 0, 1) := by decide +kernel
theorem dX0_driftsWith_30 : decode cX0_driftsWith 30 = .ok (.iload_n 1, 1) := by decide +kernel
theorem dX0_driftsWith_31 : decode cX0_driftsWith 31 = .ok (.iload_n 2, 1) := by decide +kernel
theorem dX0_driftsWith_32 : decode cX0_driftsWith 32 = .ok (.invokevirtual 86, 3) := by decide +kernel
theorem dX0_driftsWith_35 : decode cX0_driftsWith 35 = .ok (.ifCond .ge 7, 3) := by decide +kernel
theorem dX0_driftsWith_38 : decode cX0_driftsWith 38 = .ok (.iconst 1, 1) := by decide +kernel
theorem dX0_driftsWith_39 : decode cX0_driftsWith 39 = .ok (.goto 4, 3) := by decide +kernel
theorem dX0_driftsWith_42 : decode cX0_driftsWith 42 = .ok (.iconst 0, 1) := by decide +kernel
theorem dX0_driftsWith_43 : decode cX0_driftsWith 43 = .ok (.ireturn, 1) := by decide +kernel
theorem dX0_driftsWith_44 : decode cX0_driftsWith 44 = .ok (.iconst 0, 1) := by decide +kernel
theorem dX0_driftsWith_45 : decode cX0_driftsWith 45 = .ok (.ireturn, 1) := by decide +kernel
set_option maxRecDepth 20000 in
theorem ggX0_holdsIn_X0_balanceOf : GoodIn wsX0_holdsIn wsX0_balanceOf := goodIn_r _ [5, 6, 7, 8, 9, 10, 11, 12, 4, 13, 14, 15, 16, 17, 18, 19, 20, 21, 22, 23, 24, 25, 26, 27, 28, 29, 30, 31, 32, 33, 34, 35, 36, 37, 38, 39, 40, 41, 66, 67, 68, 69, 70, 71, 72, 73, 74, 75, 76, 77, 78, 79, 80] (by decide +kernel) (by decide +kernel)
set_option maxRecDepth 20000 in
theorem gX0_holdsIn_X0_balanceOf : GoodIn wsX0_holdsIn (wsV RX0 89 RX0 yX0_balanceOf wsX0_balanceOf) := goodIn_app (goodIn_of _ (by decide +kernel)) ggX0_holdsIn_X0_balanceOf
set_option maxRecDepth 20000 in
theorem ggX0_holdsIn_X0_driftsWith : GoodIn wsX0_holdsIn wsX0_driftsWith := goodIn_r _ [45, 10, 11, 12, 4, 13, 14, 15, 16, 17, 18, 19, 20, 21, 22, 23, 24, 25, 26, 27, 28, 29, 30, 31, 32, 33, 34, 35, 36, 37, 38, 39, 40, 41, 66, 67, 68, 69, 70, 71, 72, 73, 74, 75, 76, 77, 78, 79, 80] (by decide +kernel) (by decide +kernel)
set_option maxRecDepth 20000 in
theorem gX0_holdsIn_X0_driftsWith : GoodIn wsX0_holdsIn (wsV RX0 93 RX0 yX0_driftsWith wsX0_driftsWith) := goodIn_app (goodIn_of _ (by decide +kernel)) ggX0_holdsIn_X0_driftsWith
set_option maxRecDepth 20000 in
theorem ggX0_holdsIn_X0_linesHold : GoodIn wsX0_holdsIn wsX0_linesHold := goodIn_r _ [49, 16, 50, 51, 52, 53, 4, 54, 21, 22, 23, 24, 25, 26, 27, 28, 29, 30, 31, 32, 33, 34, 35, 36, 37, 38, 39, 40, 41, 66, 67, 68, 69, 70, 71, 72, 73, 74, 75, 76, 77, 78, 79, 80] (by decide +kernel) (by decide +kernel)
set_option maxRecDepth 20000 in
theorem gX0_holdsIn_X0_linesHold : GoodIn wsX0_holdsIn (wsV RX0 155 RX0 yX0_linesHold wsX0_linesHold) := goodIn_app (goodIn_of _ (by decide +kernel)) ggX0_holdsIn_X0_linesHold
set_option maxRecDepth 20000 in
theorem ggX0_holdsIn_X0_bollardsHold : GoodIn wsX0_holdsIn wsX0_bollardsHold := goodIn_r _ [58, 59, 60, 61, 62, 63, 4, 64, 16, 65, 51, 52, 53, 54, 21, 22, 23, 24, 25, 26, 27, 28, 29, 30, 31, 32, 33, 34, 35, 36, 37, 38, 39, 40, 41, 66, 67, 68, 69, 70, 71, 72, 73, 74, 75, 76, 77, 78, 79, 80] (by decide +kernel) (by decide +kernel)
set_option maxRecDepth 20000 in
theorem gX0_holdsIn_X0_bollardsHold : GoodIn wsX0_holdsIn (wsV RX0 158 RX0 yX0_bollardsHold wsX0_bollardsHold) := goodIn_app (goodIn_of _ (by decide +kernel)) ggX0_holdsIn_X0_bollardsHold
end
section
theorem dX0_holdsIn_0 : decode cX0_holdsIn 0 = .ok (.aload_n 0, 1) := by decide +kernel
theorem dX0_holdsIn_1 : decode cX0_holdsIn 1 = .ok (.iload_n 1, 1) := by decide +kernel
theorem dX0_holdsIn_2 : decode cX0_holdsIn 2 = .ok (.invokevirtual 89, 3) := by decide +kernel
theorem dX0_holdsIn_5 : decode cX0_holdsIn 5 = .ok (.istore_n 2, 1) := by decide +kernel
theorem dX0_holdsIn_6 : decode cX0_holdsIn 6 = .ok (.aload_n 0, 1) := by decide +kernel
theorem dX0_holdsIn_7 : decode cX0_holdsIn 7 = .ok (.iload_n 1, 1) := by decide +kernel
theorem dX0_holdsIn_8 : decode cX0_holdsIn 8 = .ok (.iload_n 2, 1) := by decide +kernel
theorem dX0_holdsIn_9 : decode cX0_holdsIn 9 = .ok (.invokevirtual 93, 3) := by decide +kernel
theorem dX0_holdsIn_12 : decode cX0_holdsIn 12 = .ok (.ifCond .ne 25, 3) := by decide +kernel
theorem dX0_holdsIn_15 : decode cX0_holdsIn 15 = .ok (.aload_n 0, 1) := by decide +kernel
theorem dX0_holdsIn_16 : decode cX0_holdsIn 16 = .ok (.iload_n 1, 1) := by decide +kernel
theorem dX0_holdsIn_17 : decode cX0_holdsIn 17 = .ok (.iload_n 2, 1) := by decide +kernel
theorem dX0_holdsIn_18 : decode cX0_holdsIn 18 = .ok (.invokevirtual 155, 3) := by decide +kernel
theorem dX0_holdsIn_21 : decode cX0_holdsIn 21 = .ok (.ifCond .eq 16, 3) := by decide +kernel
theorem dX0_holdsIn_24 : decode cX0_holdsIn 24 = .ok (.aload_n 0, 1) := by decide +kernel
theorem dX0_holdsIn_25 : decode cX0_holdsIn 25 = .ok (.iload_n 1, 1) := by decide +kernel
theorem dX0_holdsIn_26 : decode cX0_holdsIn 26 = .ok (.iload_n 2, 1) := by decide +kernel
theorem dX0_holdsIn_27 : decode cX0_holdsIn 27 = .ok (.invokevirtual 158, 3) := by decide +kernel
theorem dX0_holdsIn_30 : decode cX0_holdsIn 30 = .ok (.ifCond .eq 7, 3) := by decide +kernel
theorem dX0_holdsIn_33 : decode cX0_holdsIn 33 = .ok (.iconst 1, 1) := by decide +kernel
theorem dX0_holdsIn_34 : decode cX0_holdsIn 34 = .ok (.goto 4, 3) := by decide +kernel
theorem dX0_holdsIn_37 : decode cX0_holdsIn 37 = .ok (.iconst 0, 1) := by decide +kernel
theorem dX0_holdsIn_38 : decode cX0_holdsIn 38 = .ok (.ireturn, 1) := by decide +kernel
set_option maxRecDepth 20000 in
theorem ggX0_linesHold_X0_lengthWith : GoodIn wsX0_linesHold wsX0_lengthWith := goodIn_r _ [7, 8, 9, 10, 11, 6, 12, 13, 14, 15, 16, 17, 29, 30, 31, 32, 33, 34, 35, 36, 37, 38, 39, 40, 41, 42, 43] (by decide +kernel) (by decide +kernel)
set_option maxRecDepth 20000 in
theorem gX0_linesHold_X0_lengthWith : GoodIn wsX0_linesHold (wsV RX0 97 RX0 yX0_lengthWith wsX0_lengthWith) := goodIn_app (goodIn_of _ (by decide +kernel)) ggX0_linesHold_X0_lengthWith
set_option maxRecDepth 20000 in
theorem ggX0_linesHold_X0_tensionAtLength : GoodIn wsX0_linesHold wsX0_tensionAtLength := goodIn_r _ [21, 22, 23, 24, 25, 26, 27, 28, 29, 30, 31, 32, 33, 34, 35, 36, 37, 38, 39, 40, 41, 42, 43] (by decide +kernel) (by decide +kernel)
set_option maxRecDepth 20000 in
theorem gX0_linesHold_X0_tensionAtLength : GoodIn wsX0_linesHold (wsV RX0 101 RX0 yX0_tensionAtLength wsX0_tensionAtLength) := goodIn_app (goodIn_of _ (by decide +kernel)) ggX0_linesHold_X0_tensionAtLength
theorem dX0_linesHold_0 : decode cX0_linesHold 0 = .ok (.iconst 0, 1) := by decide +kernel
theorem dX0_linesHold_1 : decode cX0_linesHold 1 = .ok (.istore_n 3, 1) := by decide +kernel
theorem dX0_linesHold_2 : decode cX0_linesHold 2 = .ok (.iload_n 3, 1) := by decide +kernel
theorem dX0_linesHold_3 : decode cX0_linesHold 3 = .ok (.aload_n 0, 1) := by decide +kernel
theorem dX0_linesHold_4 : decode cX0_linesHold 4 = .ok (.getfield 32, 3) := by decide +kernel
theorem dX0_linesHold_7 : decode cX0_linesHold 7 = .ok (.if_icmp .ge 42, 3) := by decide +kernel
theorem dX0_linesHold_10 : decode cX0_linesHold 10 = .ok (.aload_n 0, 1) := by decide +kernel
theorem dX0_linesHold_11 : decode cX0_linesHold 11 = .ok (.iload_n 3, 1) := by decide +kernel
theorem dX0_linesHold_12 : decode cX0_linesHold 12 = .ok (.aload_n 0, 1) := by decide +kernel
theorem dX0_linesHold_13 : decode cX0_linesHold 13 = .ok (.iload_n 3, 1) := by decide +kernel
theorem dX0_linesHold_14 : decode cX0_linesHold 14 = .ok (.iload_n 1, 1) := by decide +kernel
theorem dX0_linesHold_15 : decode cX0_linesHold 15 = .ok (.iload_n 2, 1) := by decide +kernel
theorem dX0_linesHold_16 : decode cX0_linesHold 16 = .ok (.invokevirtual 97, 3) := by decide +kernel
theorem dX0_linesHold_19 : decode cX0_linesHold 19 = .ok (.invokevirtual 101, 3) := by decide +kernel
theorem dX0_linesHold_22 : decode cX0_linesHold 22 = .ok (.istore 4, 2) := by decide +kernel
theorem dX0_linesHold_24 : decode cX0_linesHold 24 = .ok (.iload 4, 2) := by decide +kernel
theorem dX0_linesHold_26 : decode cX0_linesHold 26 = .ok (.bipush 100, 2) := by decide +kernel
theorem dX0_linesHold_28 : decode cX0_linesHold 28 = .ok (.imul, 1) := by decide +kernel
theorem dX0_linesHold_29 : decode cX0_linesHold 29 = .ok (.aload_n 0, 1) := by decide +kernel
theorem dX0_linesHold_30 : decode cX0_linesHold 30 = .ok (.getfield 44, 3) := by decide +kernel
theorem dX0_linesHold_33 : decode cX0_linesHold 33 = .ok (.iload_n 3, 1) := by decide +kernel
theorem dX0_linesHold_34 : decode cX0_linesHold 34 = .ok (.iaload, 1) := by decide +kernel
theorem dX0_linesHold_35 : decode cX0_linesHold 35 = .ok (.bipush 55, 2) := by decide +kernel
theorem dX0_linesHold_37 : decode cX0_linesHold 37 = .ok (.imul, 1) := by decide +kernel
theorem dX0_linesHold_38 : decode cX0_linesHold 38 = .ok (.if_icmp .le 5, 3) := by decide +kernel
theorem dX0_linesHold_41 : decode cX0_linesHold 41 = .ok (.iconst 0, 1) := by decide +kernel
theorem dX0_linesHold_42 : decode cX0_linesHold 42 = .ok (.ireturn, 1) := by decide +kernel
theorem dX0_linesHold_43 : decode cX0_linesHold 43 = .ok (.iinc 3 1, 3) := by decide +kernel
theorem dX0_linesHold_46 : decode cX0_linesHold 46 = .ok (.goto (-44), 3) := by decide +kernel
theorem dX0_linesHold_49 : decode cX0_linesHold 49 = .ok (.iconst 1, 1) := by decide +kernel
theorem dX0_linesHold_50 : decode cX0_linesHold 50 = .ok (.ireturn, 1) := by decide +kernel
set_option maxRecDepth 20000 in
theorem ggX0_bollardsHold_X0_bollardTension : GoodIn wsX0_bollardsHold wsX0_bollardTension := goodIn_r _ [7, 8, 9, 10, 11, 12, 6, 13, 14, 15, 16, 17, 18, 19, 20, 21, 22, 23, 24, 25, 26, 27, 28, 29, 30, 31, 32, 33, 34, 35, 36, 37, 38, 39, 40, 41, 42, 43, 44, 45, 46, 47, 48, 49] (by decide +kernel) (by decide +kernel)
set_option maxRecDepth 20000 in
theorem gX0_bollardsHold_X0_bollardTension : GoodIn wsX0_bollardsHold (wsV RX0 104 RX0 yX0_bollardTension wsX0_bollardTension) := goodIn_app (goodIn_of _ (by decide +kernel)) ggX0_bollardsHold_X0_bollardTension
theorem dX0_bollardsHold_0 : decode cX0_bollardsHold 0 = .ok (.iconst 0, 1) := by decide +kernel
theorem dX0_bollardsHold_1 : decode cX0_bollardsHold 1 = .ok (.istore_n 3, 1) := by decide +kernel
theorem dX0_bollardsHold_2 : decode cX0_bollardsHold 2 = .ok (.iload_n 3, 1) := by decide +kernel
theorem dX0_bollardsHold_3 : decode cX0_bollardsHold 3 = .ok (.aload_n 0, 1) := by decide +kernel
theorem dX0_bollardsHold_4 : decode cX0_bollardsHold 4 = .ok (.getfield 23, 3) := by decide +kernel
theorem dX0_bollardsHold_7 : decode cX0_bollardsHold 7 = .ok (.if_icmp .ge 27, 3) := by decide +kernel
theorem dX0_bollardsHold_10 : decode cX0_bollardsHold 10 = .ok (.aload_n 0, 1) := by decide +kernel
theorem dX0_bollardsHold_11 : decode cX0_bollardsHold 11 = .ok (.iload_n 3, 1) := by decide +kernel
theorem dX0_bollardsHold_12 : decode cX0_bollardsHold 12 = .ok (.iload_n 1, 1) := by decide +kernel
theorem dX0_bollardsHold_13 : decode cX0_bollardsHold 13 = .ok (.iload_n 2, 1) := by decide +kernel
theorem dX0_bollardsHold_14 : decode cX0_bollardsHold 14 = .ok (.invokevirtual 104, 3) := by decide +kernel
theorem dX0_bollardsHold_17 : decode cX0_bollardsHold 17 = .ok (.aload_n 0, 1) := by decide +kernel
theorem dX0_bollardsHold_18 : decode cX0_bollardsHold 18 = .ok (.getfield 29, 3) := by decide +kernel
theorem dX0_bollardsHold_21 : decode cX0_bollardsHold 21 = .ok (.iload_n 3, 1) := by decide +kernel
theorem dX0_bollardsHold_22 : decode cX0_bollardsHold 22 = .ok (.iaload, 1) := by decide +kernel
theorem dX0_bollardsHold_23 : decode cX0_bollardsHold 23 = .ok (.if_icmp .le 5, 3) := by decide +kernel
theorem dX0_bollardsHold_26 : decode cX0_bollardsHold 26 = .ok (.iconst 0, 1) := by decide +kernel
theorem dX0_bollardsHold_27 : decode cX0_bollardsHold 27 = .ok (.ireturn, 1) := by decide +kernel
theorem dX0_bollardsHold_28 : decode cX0_bollardsHold 28 = .ok (.iinc 3 1, 3) := by decide +kernel
theorem dX0_bollardsHold_31 : decode cX0_bollardsHold 31 = .ok (.goto (-29), 3) := by decide +kernel
theorem dX0_bollardsHold_34 : decode cX0_bollardsHold 34 = .ok (.iconst 1, 1) := by decide +kernel
theorem dX0_bollardsHold_35 : decode cX0_bollardsHold 35 = .ok (.ireturn, 1) := by decide +kernel
set_option maxRecDepth 20000 in
theorem ggX0_tendFastLines_X0_balanceOf : GoodIn wsX0_tendFastLines wsX0_balanceOf := goodIn_r _ [8, 9, 10, 11, 12, 13, 14, 15, 7, 16, 17, 18, 1, 19, 20, 21, 22, 23, 24, 25, 26, 27, 28, 29, 30, 31, 32, 33, 34, 35, 36, 2, 37, 3, 38, 39, 40, 41, 46, 47, 48, 49, 50, 51, 52, 53, 54, 55, 56, 57, 58, 59, 60] (by decide +kernel) (by decide +kernel)
set_option maxRecDepth 20000 in
theorem gX0_tendFastLines_X0_balanceOf : GoodIn wsX0_tendFastLines (wsV RX0 89 RX0 yX0_balanceOf wsX0_balanceOf) := goodIn_app (goodIn_of _ (by decide +kernel)) ggX0_tendFastLines_X0_balanceOf
set_option maxRecDepth 20000 in
theorem ggX0_tendFastLines_X0_lengthWith : GoodIn wsX0_tendFastLines wsX0_lengthWith := goodIn_r _ [45, 23, 24, 25, 26, 7, 27, 28, 29, 30, 31, 32, 46, 47, 48, 49, 50, 51, 52, 53, 54, 55, 56, 57, 58, 59, 60] (by decide +kernel) (by decide +kernel)
set_option maxRecDepth 20000 in
theorem gX0_tendFastLines_X0_lengthWith : GoodIn wsX0_tendFastLines (wsV RX0 97 RX0 yX0_lengthWith wsX0_lengthWith) := goodIn_app (goodIn_of _ (by decide +kernel)) ggX0_tendFastLines_X0_lengthWith
theorem dX0_tendFastLines_0 : decode cX0_tendFastLines 0 = .ok (.aload_n 0, 1) := by decide +kernel
theorem dX0_tendFastLines_1 : decode cX0_tendFastLines 1 = .ok (.iload_n 1, 1) := by decide +kernel
theorem dX0_tendFastLines_2 : decode cX0_tendFastLines 2 = .ok (.invokevirtual 89, 3) := by decide +kernel
theorem dX0_tendFastLines_5 : decode cX0_tendFastLines 5 = .ok (.istore_n 2, 1) := by decide +kernel
theorem dX0_tendFastLines_6 : decode cX0_tendFastLines 6 = .ok (.iconst 0, 1) := by decide +kernel
theorem dX0_tendFastLines_7 : decode cX0_tendFastLines 7 = .ok (.istore_n 3, 1) := by decide +kernel
theorem dX0_tendFastLines_8 : decode cX0_tendFastLines 8 = .ok (.iconst 0, 1) := by decide +kernel
theorem dX0_tendFastLines_9 : decode cX0_tendFastLines 9 = .ok (.istore 4, 2) := by decide +kernel
theorem dX0_tendFastLines_11 : decode cX0_tendFastLines 11 = .ok (.iload 4, 2) := by decide +kernel
theorem dX0_tendFastLines_13 : decode cX0_tendFastLines 13 = .ok (.aload_n 0, 1) := by decide +kernel
theorem dX0_tendFastLines_14 : decode cX0_tendFastLines 14 = .ok (.getfield 32, 3) := by decide +kernel
theorem dX0_tendFastLines_17 : decode cX0_tendFastLines 17 = .ok (.if_icmp .ge 63, 3) := by decide +kernel
theorem dX0_tendFastLines_20 : decode cX0_tendFastLines 20 = .ok (.aload_n 0, 1) := by decide +kernel
theorem dX0_tendFastLines_21 : decode cX0_tendFastLines 21 = .ok (.getfield 50, 3) := by decide +kernel
theorem dX0_tendFastLines_24 : decode cX0_tendFastLines 24 = .ok (.iload 4, 2) := by decide +kernel
theorem dX0_tendFastLines_26 : decode cX0_tendFastLines 26 = .ok (.baload, 1) := by decide +kernel
theorem dX0_tendFastLines_27 : decode cX0_tendFastLines 27 = .ok (.ifCond .eq 47, 3) := by decide +kernel
theorem dX0_tendFastLines_30 : decode cX0_tendFastLines 30 = .ok (.aload_n 0, 1) := by decide +kernel
theorem dX0_tendFastLines_31 : decode cX0_tendFastLines 31 = .ok (.getfield 47, 3) := by decide +kernel
theorem dX0_tendFastLines_34 : decode cX0_tendFastLines 34 = .ok (.iload 4, 2) := by decide +kernel
theorem dX0_tendFastLines_36 : decode cX0_tendFastLines 36 = .ok (.iaload, 1) := by decide +kernel
theorem dX0_tendFastLines_37 : decode cX0_tendFastLines 37 = .ok (.istore 5, 2) := by decide +kernel
theorem dX0_tendFastLines_39 : decode cX0_tendFastLines 39 = .ok (.aload_n 0, 1) := by decide +kernel
theorem dX0_tendFastLines_40 : decode cX0_tendFastLines 40 = .ok (.getfield 47, 3) := by decide +kernel
theorem dX0_tendFastLines_43 : decode cX0_tendFastLines 43 = .ok (.iload 4, 2) := by decide +kernel
theorem dX0_tendFastLines_45 : decode cX0_tendFastLines 45 = .ok (.aload_n 0, 1) := by decide +kernel
theorem dX0_tendFastLines_46 : decode cX0_tendFastLines 46 = .ok (.iload 4, 2) := by decide +kernel
theorem dX0_tendFastLines_48 : decode cX0_tendFastLines 48 = .ok (.iload_n 1, 1) := by decide +kernel
theorem dX0_tendFastLines_49 : decode cX0_tendFastLines 49 = .ok (.iload_n 2, 1) := by decide +kernel
theorem dX0_tendFastLines_50 : decode cX0_tendFastLines 50 = .ok (.invokevirtual 97, 3) := by decide +kernel
theorem dX0_tendFastLines_53 : decode cX0_tendFastLines 53 = .ok (.iastore, 1) := by decide +kernel
theorem dX0_tendFastLines_54 : decode cX0_tendFastLines 54 = .ok (.iload_n 3, 1) := by decide +kernel
theorem dX0_tendFastLines_55 : decode cX0_tendFastLines 55 = .ok (.aload_n 0, 1) := by decide +kernel
theorem dX0_tendFastLines_56 : decode cX0_tendFastLines 56 = .ok (.getfield 47, 3) := by decide +kernel
theorem dX0_tendFastLines_59 : decode cX0_tendFastLines 59 = .ok (.iload 4, 2) := by decide +kernel
theorem dX0_tendFastLines_61 : decode cX0_tendFastLines 61 = .ok (.iaload, 1) := by decide +kernel
theorem dX0_tendFastLines_62 : decode cX0_tendFastLines 62 = .ok (.iload 5, 2) := by decide +kernel
theorem dX0_tendFastLines_64 : decode cX0_tendFastLines 64 = .ok (.if_icmp .ne 7, 3) := by decide +kernel
theorem dX0_tendFastLines_67 : decode cX0_tendFastLines 67 = .ok (.iconst 0, 1) := by decide +kernel
theorem dX0_tendFastLines_68 : decode cX0_tendFastLines 68 = .ok (.goto 4, 3) := by decide +kernel
theorem dX0_tendFastLines_71 : decode cX0_tendFastLines 71 = .ok (.iconst 1, 1) := by decide +kernel
theorem dX0_tendFastLines_72 : decode cX0_tendFastLines 72 = .ok (.iadd, 1) := by decide +kernel
theorem dX0_tendFastLines_73 : decode cX0_tendFastLines 73 = .ok (.istore_n 3, 1) := by decide +kernel
theorem dX0_tendFastLines_74 : decode cX0_tendFastLines 74 = .ok (.iinc 4 1, 3) := by decide +kernel
theorem dX0_tendFastLines_77 : decode cX0_tendFastLines 77 = .ok (.goto (-66), 3) := by decide +kernel
theorem dX0_tendFastLines_80 : decode cX0_tendFastLines 80 = .ok (.iload_n 3, 1) := by decide +kernel
theorem dX0_tendFastLines_81 : decode cX0_tendFastLines 81 = .ok (.ireturn, 1) := by decide +kernel
set_option maxRecDepth 20000 in
theorem ggX0_tendThrough_X0_holdsIn : GoodIn wsX0_tendThrough wsX0_holdsIn := goodIn_r _ [5, 6, 7, 8, 4, 9, 10, 11, 12, 13, 14, 15, 16, 17, 18, 19, 20, 21, 22, 23, 24, 25, 26, 27, 28, 29, 30, 31, 32, 33, 34, 35, 36, 37, 38, 39, 40, 41, 42, 43, 44, 45, 46, 47, 48, 49, 50, 51, 52, 53, 54, 55, 56, 57, 58, 59, 60, 61, 62, 63, 64, 65, 66, 67, 68, 69, 74, 75, 76, 77, 78, 79, 80, 81, 82, 83, 84, 85, 86, 87, 88] (by decide +kernel) (by decide +kernel)
set_option maxRecDepth 20000 in
theorem gX0_tendThrough_X0_holdsIn : GoodIn wsX0_tendThrough (wsV RX0 107 RX0 yX0_holdsIn wsX0_holdsIn) := goodIn_app (goodIn_of _ (by decide +kernel)) ggX0_tendThrough_X0_holdsIn
set_option maxRecDepth 20000 in
theorem ggX0_tendThrough_X0_tendFastLines : GoodIn wsX0_tendThrough wsX0_tendFastLines := goodIn_r _ [73, 20, 39, 41, 6, 7, 8, 4, 9, 10, 11, 12, 13, 14, 15, 16, 17, 18, 19, 21, 22, 23, 24, 25, 26, 27, 28, 29, 30, 31, 32, 33, 34, 35, 36, 37, 38, 40, 42, 43, 44, 45, 55, 56, 57, 58, 74, 75, 76, 77, 78, 79, 80, 81, 82, 83, 84, 85, 86, 87, 88] (by decide +kernel) (by decide +kernel)
set_option maxRecDepth 20000 in
theorem gX0_tendThrough_X0_tendFastLines : GoodIn wsX0_tendThrough (wsV RX0 118 RX0 yX0_tendFastLines wsX0_tendFastLines) := goodIn_app (goodIn_of _ (by decide +kernel)) ggX0_tendThrough_X0_tendFastLines
theorem dX0_tendThrough_0 : decode cX0_tendThrough 0 = .ok (.iconst 0, 1) := by decide +kernel
theorem dX0_tendThrough_1 : decode cX0_tendThrough 1 = .ok (.istore_n 3, 1) := by decide +kernel
theorem dX0_tendThrough_2 : decode cX0_tendThrough 2 = .ok (.iload_n 1, 1) := by decide +kernel
theorem dX0_tendThrough_3 : decode cX0_tendThrough 3 = .ok (.istore 4, 2) := by decide +kernel
theorem dX0_tendThrough_5 : decode cX0_tendThrough 5 = .ok (.iload 4, 2) := by decide +kernel
theorem dX0_tendThrough_7 : decode cX0_tendThrough 7 = .ok (.iload_n 2, 1) := by decide +kernel
theorem dX0_tendThrough_8 : decode cX0_tendThrough 8 = .ok (.if_icmp .gt 39, 3) := by decide +kernel
theorem dX0_tendThrough_11 : decode cX0_tendThrough 11 = .ok (.aload_n 0, 1) := by decide +kernel
theorem dX0_tendThrough_12 : decode cX0_tendThrough 12 = .ok (.iload 4, 2) := by decide +kernel
theorem dX0_tendThrough_14 : decode cX0_tendThrough 14 = .ok (.invokevirtual 107, 3) := by decide +kernel
theorem dX0_tendThrough_17 : decode cX0_tendThrough 17 = .ok (.ifCond .ne 24, 3) := by decide +kernel
theorem dX0_tendThrough_20 : decode cX0_tendThrough 20 = .ok (.aload_n 0, 1) := by decide +kernel
theorem dX0_tendThrough_21 : decode cX0_tendThrough 21 = .ok (.iload 4, 2) := by decide +kernel
theorem dX0_tendThrough_23 : decode cX0_tendThrough 23 = .ok (.invokevirtual 118, 3) := by decide +kernel
theorem dX0_tendThrough_26 : decode cX0_tendThrough 26 = .ok (.pop, 1) := by decide +kernel
theorem dX0_tendThrough_27 : decode cX0_tendThrough 27 = .ok (.iinc 3 1, 3) := by decide +kernel
theorem dX0_tendThrough_30 : decode cX0_tendThrough 30 = .ok (.aload_n 0, 1) := by decide +kernel
theorem dX0_tendThrough_31 : decode cX0_tendThrough 31 = .ok (.iload 4, 2) := by decide +kernel
theorem dX0_tendThrough_33 : decode cX0_tendThrough 33 = .ok (.invokevirtual 107, 3) := by decide +kernel
theorem dX0_tendThrough_36 : decode cX0_tendThrough 36 = .ok (.ifCond .ne 5, 3) := by decide +kernel
theorem dX0_tendThrough_39 : decode cX0_tendThrough 39 = .ok (.iconst (-1), 1) := by decide +kernel
theorem dX0_tendThrough_40 : decode cX0_tendThrough 40 = .ok (.ireturn, 1) := by decide +kernel
theorem dX0_tendThrough_41 : decode cX0_tendThrough 41 = .ok (.iinc 4 1, 3) := by decide +kernel
theorem dX0_tendThrough_44 : decode cX0_tendThrough 44 = .ok (.goto (-39), 3) := by decide +kernel
theorem dX0_tendThrough_47 : decode cX0_tendThrough 47 = .ok (.iload_n 3, 1) := by decide +kernel
theorem dX0_tendThrough_48 : decode cX0_tendThrough 48 = .ok (.ireturn, 1) := by decide +kernel
theorem dX1_init_0 : decode cX1_init 0 = .ok (.aload_n 0, 1) := by decide +kernel
theorem dX1_init_1 : decode cX1_init 1 = .ok (.invokespecial 1, 3) := by decide +kernel
theorem dX1_init_4 : decode cX1_init 4 = .ok (.aload_n 0, 1) := by decide +kernel
theorem dX1_init_5 : decode cX1_init 5 = .ok (.bipush 6, 2) := by decide +kernel
theorem dX1_init_7 : decode cX1_init 7 = .ok (.newarray .int, 2) := by decide +kernel
theorem dX1_init_9 : decode cX1_init 9 = .ok (.putfield 7, 3) := by decide +kernel
theorem dX1_init_12 : decode cX1_init 12 = .ok (.aload_n 0, 1) := by decide +kernel
theorem dX1_init_13 : decode cX1_init 13 = .ok (.bipush 6, 2) := by decide +kernel
theorem dX1_init_15 : decode cX1_init 15 = .ok (.newarray .int, 2) := by decide +kernel
theorem dX1_init_17 : decode cX1_init 17 = .ok (.putfield 13, 3) := by decide +kernel
theorem dX1_init_20 : decode cX1_init 20 = .ok (.aload_n 0, 1) := by decide +kernel
theorem dX1_init_21 : decode cX1_init 21 = .ok (.bipush 10, 2) := by decide +kernel
theorem dX1_init_23 : decode cX1_init 23 = .ok (.newarray .int, 2) := by decide +kernel
theorem dX1_init_25 : decode cX1_init 25 = .ok (.putfield 16, 3) := by decide +kernel
theorem dX1_init_28 : decode cX1_init 28 = .ok (.aload_n 0, 1) := by decide +kernel
theorem dX1_init_29 : decode cX1_init 29 = .ok (.bipush 10, 2) := by decide +kernel
theorem dX1_init_31 : decode cX1_init 31 = .ok (.newarray .int, 2) := by decide +kernel
theorem dX1_init_33 : decode cX1_init 33 = .ok (.putfield 19, 3) := by decide +kernel
theorem dX1_init_36 : decode cX1_init 36 = .ok (.aload_n 0, 1) := by decide +kernel
theorem dX1_init_37 : decode cX1_init 37 = .ok (.bipush 10, 2) := by decide +kernel
theorem dX1_init_39 : decode cX1_init 39 = .ok (.newarray .int, 2) := by decide +kernel
theorem dX1_init_41 : decode cX1_init 41 = .ok (.putfield 22, 3) := by decide +kernel
theorem dX1_init_44 : decode cX1_init 44 = .ok (.aload_n 0, 1) := by decide +kernel
theorem dX1_init_45 : decode cX1_init 45 = .ok (.bipush 10, 2) := by decide +kernel
theorem dX1_init_47 : decode cX1_init 47 = .ok (.newarray .int, 2) := by decide +kernel
theorem dX1_init_49 : decode cX1_init 49 = .ok (.putfield 25, 3) := by decide +kernel
theorem dX1_init_52 : decode cX1_init 52 = .ok (.aload_n 0, 1) := by decide +kernel
theorem dX1_init_53 : decode cX1_init 53 = .ok (.bipush 10, 2) := by decide +kernel
theorem dX1_init_55 : decode cX1_init 55 = .ok (.newarray .int, 2) := by decide +kernel
theorem dX1_init_57 : decode cX1_init 57 = .ok (.putfield 28, 3) := by decide +kernel
theorem dX1_init_60 : decode cX1_init 60 = .ok (.aload_n 0, 1) := by decide +kernel
theorem dX1_init_61 : decode cX1_init 61 = .ok (.bipush 10, 2) := by decide +kernel
theorem dX1_init_63 : decode cX1_init 63 = .ok (.newarray .boolean, 2) := by decide +kernel
theorem dX1_init_65 : decode cX1_init 65 = .ok (.putfield 31, 3) := by decide +kernel
theorem dX1_init_68 : decode cX1_init 68 = .ok (.aload_n 0, 1) := by decide +kernel
theorem dX1_init_69 : decode cX1_init 69 = .ok (.bipush 48, 2) := by decide +kernel
theorem dX1_init_71 : decode cX1_init 71 = .ok (.newarray .int, 2) := by decide +kernel
theorem dX1_init_73 : decode cX1_init 73 = .ok (.putfield 35, 3) := by decide +kernel
theorem dX1_init_76 : decode cX1_init 76 = .ok (.aload_n 0, 1) := by decide +kernel
theorem dX1_init_77 : decode cX1_init 77 = .ok (.bipush 48, 2) := by decide +kernel
theorem dX1_init_79 : decode cX1_init 79 = .ok (.newarray .int, 2) := by decide +kernel
theorem dX1_init_81 : decode cX1_init 81 = .ok (.putfield 38, 3) := by decide +kernel
theorem dX1_init_84 : decode cX1_init 84 = .ok (.aload_n 0, 1) := by decide +kernel
theorem dX1_init_85 : decode cX1_init 85 = .ok (.bipush 48, 2) := by decide +kernel
theorem dX1_init_87 : decode cX1_init 87 = .ok (.newarray .int, 2) := by decide +kernel
theorem dX1_init_89 : decode cX1_init 89 = .ok (.putfield 41, 3) := by decide +kernel
theorem dX1_init_92 : decode cX1_init 92 = .ok (.aload_n 0, 1) := by decide +kernel
theorem dX1_init_93 : decode cX1_init 93 = .ok (.bipush 10, 2) := by decide +kernel
theorem dX1_init_95 : decode cX1_init 95 = .ok (.newarray .int, 2) := by decide +kernel
theorem dX1_init_97 : decode cX1_init 97 = .ok (.putfield 44, 3) := by decide +kernel
theorem dX1_init_100 : decode cX1_init 100 = .ok (.return_, 1) := by decide +kernel
theorem dX1_thrown_0 : decode cX1_thrown 0 = .ok (.aload_n 0, 1) := by decide +kernel
theorem dX1_thrown_1 : decode cX1_thrown 1 = .ok (.getfield 47, 3) := by decide +kernel
theorem dX1_thrown_4 : decode cX1_thrown 4 = .ok (.ireturn, 1) := by decide +kernel
theorem dX1_in_0 : decode cX1_in 0 = .ok (.iload_n 0, 1) := by decide +kernel
theorem dX1_in_1 : decode cX1_in 1 = .ok (.iload_n 1, 1) := by decide +kernel
theorem dX1_in_2 : decode cX1_in 2 = .ok (.if_icmp .lt 12, 3) := by decide +kernel
theorem dX1_in_5 : decode cX1_in 5 = .ok (.iload_n 0, 1) := by decide +kernel
theorem dX1_in_6 : decode cX1_in 6 = .ok (.iload_n 2, 1) := by decide +kernel
theorem dX1_in_7 : decode cX1_in 7 = .ok (.if_icmp .gt 7, 3) := by decide +kernel
theorem dX1_in_10 : decode cX1_in 10 = .ok (.iconst 1, 1) := by decide +kernel
theorem dX1_in_11 : decode cX1_in 11 = .ok (.goto 4, 3) := by decide +kernel
theorem dX1_in_14 : decode cX1_in 14 = .ok (.iconst 0, 1) := by decide +kernel
theorem dX1_in_15 : decode cX1_in 15 = .ok (.ireturn, 1) := by decide +kernel
theorem dX1_goes_0 : decode cX1_goes 0 = .ok (.aload_n 0, 1) := by decide +kernel
theorem dX1_goes_1 : decode cX1_goes 1 = .ok (.iload_n 1, 1) := by decide +kernel
theorem dX1_goes_2 : decode cX1_goes 2 = .ok (.ifCond .ne 7, 3) := by decide +kernel
theorem dX1_goes_5 : decode cX1_goes 5 = .ok (.iconst 1, 1) := by decide +kernel
theorem dX1_goes_6 : decode cX1_goes 6 = .ok (.goto 20, 3) := by decide +kernel
theorem dX1_goes_9 : decode cX1_goes 9 = .ok (.iload_n 2, 1) := by decide +kernel
theorem dX1_goes_10 : decode cX1_goes 10 = .ok (.ifCond .ne 7, 3) := by decide +kernel
theorem dX1_goes_13 : decode cX1_goes 13 = .ok (.iconst 2, 1) := by decide +kernel
theorem dX1_goes_14 : decode cX1_goes 14 = .ok (.goto 12, 3) := by decide +kernel
theorem dX1_goes_17 : decode cX1_goes 17 = .ok (.iload_n 3, 1) := by decide +kernel
theorem dX1_goes_18 : decode cX1_goes 18 = .ok (.ifCond .eq 7, 3) := by decide +kernel
theorem dX1_goes_21 : decode cX1_goes 21 = .ok (.iconst 0, 1) := by decide +kernel
theorem dX1_goes_22 : decode cX1_goes 22 = .ok (.goto 4, 3) := by decide +kernel
theorem dX1_goes_25 : decode cX1_goes 25 = .ok (.iconst 3, 1) := by decide +kernel
theorem dX1_goes_26 : decode cX1_goes 26 = .ok (.putfield 47, 3) := by decide +kernel
theorem dX1_goes_29 : decode cX1_goes 29 = .ok (.aload_n 0, 1) := by decide +kernel
theorem dX1_goes_30 : decode cX1_goes 30 = .ok (.getfield 47, 3) := by decide +kernel
theorem dX1_goes_33 : decode cX1_goes 33 = .ok (.ifCond .ne 7, 3) := by decide +kernel
theorem dX1_goes_36 : decode cX1_goes 36 = .ok (.iconst 1, 1) := by decide +kernel
theorem dX1_goes_37 : decode cX1_goes 37 = .ok (.goto 4, 3) := by decide +kernel
theorem dX1_goes_40 : decode cX1_goes 40 = .ok (.iconst 0, 1) := by decide +kernel
theorem dX1_goes_41 : decode cX1_goes 41 = .ok (.ireturn, 1) := by decide +kernel
set_option maxRecDepth 20000 in
theorem ggX1_isHour_X1_in : GoodIn wsX1_isHour wsX1_in := goodIn_r _ [4] (by decide +kernel) (by decide +kernel)
set_option maxRecDepth 20000 in
theorem gX1_isHour_X1_in : GoodIn wsX1_isHour (va_wsS RX1 51 yX1_in wsX1_in) := goodIn_app (goodIn_of _ (by decide +kernel)) ggX1_isHour_X1_in
theorem dX1_isHour_0 : decode cX1_isHour 0 = .ok (.iload_n 0, 1) := by decide +kernel
theorem dX1_isHour_1 : decode cX1_isHour 1 = .ok (.iconst 0, 1) := by decide +kernel
theorem dX1_isHour_2 : decode cX1_isHour 2 = .ok (.bipush 47, 2) := by decide +kernel
theorem dX1_isHour_4 : decode cX1_isHour 4 = .ok (.invokestatic 51, 3) := by decide +kernel
theorem dX1_isHour_7 : decode cX1_isHour 7 = .ok (.ireturn, 1) := by decide +kernel
set_option maxRecDepth 20000 in
theorem ggX1_isLine_X1_in : GoodIn wsX1_isLine wsX1_in := goodIn_r _ [5] (by decide +kernel) (by decide +kernel)
set_option maxRecDepth 20000 in
theorem gX1_isLine_X1_in : GoodIn wsX1_isLine (va_wsS RX1 51 yX1_in wsX1_in) := goodIn_app (goodIn_of _ (by decide +kernel)) ggX1_isLine_X1_in
theorem dX1_isLine_0 : decode cX1_isLine 0 = .ok (.iload_n 1, 1) := by decide +kernel
theorem dX1_isLine_1 : decode cX1_isLine 1 = .ok (.iconst 0, 1) := by decide +kernel
theorem dX1_isLine_2 : decode cX1_isLine 2 = .ok (.aload_n 0, 1) := by decide +kernel
theorem dX1_isLine_3 : decode cX1_isLine 3 = .ok (.getfield 55, 3) := by decide +kernel
theorem dX1_isLine_6 : decode cX1_isLine 6 = .ok (.iconst 1, 1) := by decide +kernel
theorem dX1_isLine_7 : decode cX1_isLine 7 = .ok (.isub, 1) := by decide +kernel
theorem dX1_isLine_8 : decode cX1_isLine 8 = .ok (.invokestatic 51, 3) := by decide +kernel
theorem dX1_isLine_11 : decode cX1_isLine 11 = .ok (.ireturn, 1) := by decide +kernel
set_option maxRecDepth 20000 in
theorem ggX1_addBollard_X1_in : GoodIn wsX1_addBollard wsX1_in := goodIn_r _ [8] (by decide +kernel) (by decide +kernel)
set_option maxRecDepth 20000 in
theorem gX1_addBollard_X1_in : GoodIn wsX1_addBollard (va_wsS RX1 51 yX1_in wsX1_in) := goodIn_app (goodIn_of _ (by decide +kernel)) ggX1_addBollard_X1_in
set_option maxRecDepth 20000 in
theorem ggX1_addBollard_X1_goes : GoodIn wsX1_addBollard wsX1_goes := goodIn_r _ [12, 13, 14, 15, 16, 17, 18, 19, 20, 21, 22, 23, 24, 25, 26, 27, 28, 29] (by decide +kernel) (by decide +kernel)
set_option maxRecDepth 20000 in
theorem gX1_addBollard_X1_goes : GoodIn wsX1_addBollard (wsV RX1 62 RX1 yX1_goes wsX1_goes) := goodIn_app (goodIn_of _ (by decide +kernel)) ggX1_addBollard_X1_goes
theorem dX1_addBollard_0 : decode cX1_addBollard 0 = .ok (.aload_n 0, 1) := by decide +kernel
theorem dX1_addBollard_1 : decode cX1_addBollard 1 = .ok (.iload_n 1, 1) := by decide +kernel
theorem dX1_addBollard_2 : decode cX1_addBollard 2 = .ok (.sipush (-5000), 3) := by decide +kernel
theorem dX1_addBollard_5 : decode cX1_addBollard 5 = .ok (.sipush 5000, 3) := by decide +kernel
theorem dX1_addBollard_8 : decode cX1_addBollard 8 = .ok (.invokestatic 51, 3) := by decide +kernel
theorem dX1_addBollard_11 : decode cX1_addBollard 11 = .ok (.ifCond .eq 17, 3) := by decide +kernel
theorem dX1_addBollard_14 : decode cX1_addBollard 14 = .ok (.iload_n 2, 1) := by decide +kernel
theorem dX1_addBollard_15 : decode cX1_addBollard 15 = .ok (.iconst 1, 1) := by decide +kernel
theorem dX1_addBollard_16 : decode cX1_addBollard 16 = .ok (.ldc 58, 2) := by decide +kernel
theorem dX1_addBollard_18 : decode cX1_addBollard 18 = .ok (.invokestatic 51, 3) := by decide +kernel
theorem dX1_addBollard_21 : decode cX1_addBollard 21 = .ok (.ifCond .eq 7, 3) := by decide +kernel
theorem dX1_addBollard_24 : decode cX1_addBollard 24 = .ok (.iconst 1, 1) := by decide +kernel
theorem dX1_addBollard_25 : decode cX1_addBollard 25 = .ok (.goto 4, 3) := by decide +kernel
theorem dX1_addBollard_28 : decode cX1_addBollard 28 = .ok (.iconst 0, 1) := by decide +kernel
theorem dX1_addBollard_29 : decode cX1_addBollard 29 = .ok (.aload_n 0, 1) := by decide +kernel
theorem dX1_addBollard_30 : decode cX1_addBollard 30 = .ok (.getfield 59, 3) := by decide +kernel
theorem dX1_addBollard_33 : decode cX1_addBollard 33 = .ok (.bipush 6, 2) := by decide +kernel
theorem dX1_addBollard_35 : decode cX1_addBollard 35 = .ok (.if_icmp .ge 7, 3) := by decide +kernel
theorem dX1_addBollard_38 : decode cX1_addBollard 38 = .ok (.iconst 1, 1) := by decide +kernel
theorem dX1_addBollard_39 : decode cX1_addBollard 39 = .ok (.goto 4, 3) := by decide +kernel
theorem dX1_addBollard_42 : decode cX1_addBollard 42 = .ok (.iconst 0, 1) := by decide +kernel
theorem dX1_addBollard_43 : decode cX1_addBollard 43 = .ok (.iconst 1, 1) := by decide +kernel
theorem dX1_addBollard_44 : decode cX1_addBollard 44 = .ok (.invokevirtual 62, 3) := by decide +kernel
theorem dX1_addBollard_47 : decode cX1_addBollard 47 = .ok (.ifCond .ne 5, 3) := by decide +kernel
theorem dX1_addBollard_50 : decode cX1_addBollard 50 = .ok (.iconst 0, 1) := by decide +kernel
theorem dX1_addBollard_51 : decode cX1_addBollard 51 = .ok (.ireturn, 1) := by decide +kernel
theorem dX1_addBollard_52 : decode cX1_addBollard 52 = .ok (.aload_n 0, 1) := by decide +kernel
theorem dX1_addBollard_53 : decode cX1_addBollard 53 = .ok (.getfield 7, 3) := by decide +kernel
theorem dX1_addBollard_56 : decode cX1_addBollard 56 = .ok (.aload_n 0, 1) := by decide +kernel
theorem dX1_addBollard_57 : decode cX1_addBollard 57 = .ok (.getfield 59, 3) := by decide +kernel
theorem dX1_addBollard_60 : decode cX1_addBollard 60 = .ok (.iload_n 1, 1) := by decide +kernel
theorem dX1_addBollard_61 : decode cX1_addBollard 61 = .ok (.iastore, 1) := by decide +kernel
theorem dX1_addBollard_62 : decode cX1_addBollard 62 = .ok (.aload_n 0, 1) := by decide +kernel
theorem dX1_addBollard_63 : decode cX1_addBollard 63 = .ok (.getfield 13, 3) := by decide +kernel
theorem dX1_addBollard_66 : decode cX1_addBollard 66 = .ok (.aload_n 0, 1) := by decide +kernel
theorem dX1_addBollard_67 : decode cX1_addBollard 67 = .ok (.getfield 59, 3) := by decide +kernel
theorem dX1_addBollard_70 : decode cX1_addBollard 70 = .ok (.iload_n 2, 1) := by decide +kernel
theorem dX1_addBollard_71 : decode cX1_addBollard 71 = .ok (.iastore, 1) := by decide +kernel
theorem dX1_addBollard_72 : decode cX1_addBollard 72 = .ok (.aload_n 0, 1) := by decide +kernel
theorem dX1_addBollard_73 : decode cX1_addBollard 73 = .ok (.dup, 1) := by decide +kernel
theorem dX1_addBollard_74 : decode cX1_addBollard 74 = .ok (.getfield 59, 3) := by decide +kernel
theorem dX1_addBollard_77 : decode cX1_addBollard 77 = .ok (.iconst 1, 1) := by decide +kernel
theorem dX1_addBollard_78 : decode cX1_addBollard 78 = .ok (.iadd, 1) := by decide +kernel
theorem dX1_addBollard_79 : decode cX1_addBollard 79 = .ok (.putfield 59, 3) := by decide +kernel
theorem dX1_addBollard_82 : decode cX1_addBollard 82 = .ok (.aload_n 0, 1) := by decide +kernel
theorem dX1_addBollard_83 : decode cX1_addBollard 83 = .ok (.getfield 59, 3) := by decide +kernel
theorem dX1_addBollard_86 : decode cX1_addBollard 86 = .ok (.iconst 1, 1) := by decide +kernel
theorem dX1_addBollard_87 : decode cX1_addBollard 87 = .ok (.isub, 1) := by decide +kernel
theorem dX1_addBollard_88 : decode cX1_addBollard 88 = .ok (.ireturn, 1) := by decide +kernel
theorem dX1_root_0 : decode cX1_root 0 = .ok (.iload_n 0, 1) := by decide +kernel
theorem dX1_root_1 : decode cX1_root 1 = .ok (.iload_n 0, 1) := by decide +kernel
theorem dX1_root_2 : decode cX1_root 2 = .ok (.imul, 1) := by decide +kernel
theorem dX1_root_3 : decode cX1_root 3 = .ok (.iload_n 1, 1) := by decide +kernel
theorem dX1_root_4 : decode cX1_root 4 = .ok (.iload_n 1, 1) := by decide +kernel
theorem dX1_root_5 : decode cX1_root 5 = .ok (.imul, 1) := by decide +kernel
theorem dX1_root_6 : decode cX1_root 6 = .ok (.iadd, 1) := by decide +kernel
theorem dX1_root_7 : decode cX1_root 7 = .ok (.istore_n 2, 1) := by decide +kernel
theorem dX1_root_8 : decode cX1_root 8 = .ok (.iconst 0, 1) := by decide +kernel
theorem dX1_root_9 : decode cX1_root 9 = .ok (.istore_n 3, 1) := by decide +kernel
theorem dX1_root_10 : decode cX1_root 10 = .ok (.sipush 20000, 3) := by decide +kernel
theorem dX1_root_13 : decode cX1_root 13 = .ok (.istore 4, 2) := by decide +kernel
theorem dX1_root_15 : decode cX1_root 15 = .ok (.iload_n 3, 1) := by decide +kernel
theorem dX1_root_16 : decode cX1_root 16 = .ok (.iload 4, 2) := by decide +kernel
theorem dX1_root_18 : decode cX1_root 18 = .ok (.if_icmp .ge 37, 3) := by decide +kernel
theorem dX1_root_21 : decode cX1_root 21 = .ok (.iload_n 3, 1) := by decide +kernel
theorem dX1_root_22 : decode cX1_root 22 = .ok (.iload 4, 2) := by decide +kernel
theorem dX1_root_24 : decode cX1_root 24 = .ok (.iadd, 1) := by decide +kernel
theorem dX1_root_25 : decode cX1_root 25 = .ok (.iconst 1, 1) := by decide +kernel
theorem dX1_root_26 : decode cX1_root 26 = .ok (.iadd, 1) := by decide +kernel
theorem dX1_root_27 : decode cX1_root 27 = .ok (.iconst 2, 1) := by decide +kernel
theorem dX1_root_28 : decode cX1_root 28 = .ok (.idiv, 1) := by decide +kernel
theorem dX1_root_29 : decode cX1_root 29 = .ok (.istore 5, 2) := by decide +kernel
theorem dX1_root_31 : decode cX1_root 31 = .ok (.iload 5, 2) := by decide +kernel
theorem dX1_root_33 : decode cX1_root 33 = .ok (.iload 5, 2) := by decide +kernel
theorem dX1_root_35 : decode cX1_root 35 = .ok (.imul, 1) := by decide +kernel
theorem dX1_root_36 : decode cX1_root 36 = .ok (.iload_n 2, 1) := by decide +kernel
theorem dX1_root_37 : decode cX1_root 37 = .ok (.if_icmp .gt 9, 3) := by decide +kernel
theorem dX1_root_40 : decode cX1_root 40 = .ok (.iload 5, 2) := by decide +kernel
theorem dX1_root_42 : decode cX1_root 42 = .ok (.istore_n 3, 1) := by decide +kernel
theorem dX1_root_43 : decode cX1_root 43 = .ok (.goto 9, 3) := by decide +kernel
theorem dX1_root_46 : decode cX1_root 46 = .ok (.iload 5, 2) := by decide +kernel
theorem dX1_root_48 : decode cX1_root 48 = .ok (.iconst 1, 1) := by decide +kernel
theorem dX1_root_49 : decode cX1_root 49 = .ok (.isub, 1) := by decide +kernel
theorem dX1_root_50 : decode cX1_root 50 = .ok (.istore 4, 2) := by decide +kernel
theorem dX1_root_52 : decode cX1_root 52 = .ok (.goto (-37), 3) := by decide +kernel
theorem dX1_root_55 : decode cX1_root 55 = .ok (.iload_n 3, 1) := by decide +kernel
theorem dX1_root_56 : decode cX1_root 56 = .ok (.ireturn, 1) := by decide +kernel
set_option maxRecDepth 20000 in
theorem ggX1_addLine_X1_in : GoodIn wsX1_addLine wsX1_in := goodIn_r _ [13] (by decide +kernel) (by decide +kernel)
set_option maxRecDepth 20000 in
theorem gX1_addLine_X1_in : GoodIn wsX1_addLine (va_wsS RX1 51 yX1_in wsX1_in) := goodIn_app (goodIn_of _ (by decide +kernel)) ggX1_addLine_X1_in
set_option maxRecDepth 20000 in
theorem ggX1_addLine_X1_goes : GoodIn wsX1_addLine wsX1_goes := goodIn_r _ [17, 18, 22, 23, 24, 25, 26, 27, 28, 29, 30, 31, 32, 33, 34, 35, 36, 37] (by decide +kernel) (by decide +kernel)
set_option maxRecDepth 20000 in
theorem gX1_addLine_X1_goes : GoodIn wsX1_addLine (wsV RX1 62 RX1 yX1_goes wsX1_goes) := goodIn_app (goodIn_of _ (by decide +kernel)) ggX1_addLine_X1_goes
set_option maxRecDepth 20000 in
theorem ggX1_addLine_X1_root : GoodIn wsX1_addLine wsX1_root := goodIn_r _ [21] (by decide +kernel) (by decide +kernel)
set_option maxRecDepth 20000 in
theorem gX1_addLine_X1_root : GoodIn wsX1_addLine (va_wsS RX1 66 yX1_root wsX1_root) := goodIn_app (goodIn_of _ (by decide +kernel)) ggX1_addLine_X1_root
theorem dX1_addLine_0 : decode cX1_addLine 0 = .ok (.iload_n 2, 1) := by decide +kernel
theorem dX1_addLine_1 : decode cX1_addLine 1 = .ok (.iconst 0, 1) := by decide +kernel
theorem dX1_addLine_2 : decode cX1_addLine 2 = .ok (.aload_n 0, 1) := by decide +kernel
theorem dX1_addLine_3 : decode cX1_addLine 3 = .ok (.getfield 59, 3) := by decide +kernel
theorem dX1_addLine_6 : decode cX1_addLine 6 = .ok (.iconst 1, 1) := by decide +kernel
theorem dX1_addLine_7 : decode cX1_addLine 7 = .ok (.isub, 1) := by decide +kernel
theorem dX1_addLine_8 : decode cX1_addLine 8 = .ok (.invokestatic 51, 3) := by decide +kernel
theorem dX1_addLine_11 : decode cX1_addLine 11 = .ok (.istore 5, 2) := by decide +kernel
theorem dX1_addLine_13 : decode cX1_addLine 13 = .ok (.iload_n 1, 1) := by decide +kernel
theorem dX1_addLine_14 : decode cX1_addLine 14 = .ok (.sipush (-5000), 3) := by decide +kernel
theorem dX1_addLine_17 : decode cX1_addLine 17 = .ok (.sipush 5000, 3) := by decide +kernel
theorem dX1_addLine_20 : decode cX1_addLine 20 = .ok (.invokestatic 51, 3) := by decide +kernel
theorem dX1_addLine_23 : decode cX1_addLine 23 = .ok (.ifCond .eq 28, 3) := by decide +kernel
theorem dX1_addLine_26 : decode cX1_addLine 26 = .ok (.iload_n 3, 1) := by decide +kernel
theorem dX1_addLine_27 : decode cX1_addLine 27 = .ok (.iconst 1, 1) := by decide +kernel
theorem dX1_addLine_28 : decode cX1_addLine 28 = .ok (.bipush 100, 2) := by decide +kernel
theorem dX1_addLine_30 : decode cX1_addLine 30 = .ok (.invokestatic 51, 3) := by decide +kernel
theorem dX1_addLine_33 : decode cX1_addLine 33 = .ok (.ifCond .eq 18, 3) := by decide +kernel
theorem dX1_addLine_36 : decode cX1_addLine 36 = .ok (.iload 4, 2) := by decide +kernel
theorem dX1_addLine_38 : decode cX1_addLine 38 = .ok (.iconst 1, 1) := by decide +kernel
theorem dX1_addLine_39 : decode cX1_addLine 39 = .ok (.ldc 58, 2) := by decide +kernel
theorem dX1_addLine_41 : decode cX1_addLine 41 = .ok (.invokestatic 51, 3) := by decide +kernel
theorem dX1_addLine_44 : decode cX1_addLine 44 = .ok (.ifCond .eq 7, 3) := by decide +kernel
theorem dX1_addLine_47 : decode cX1_addLine 47 = .ok (.iconst 1, 1) := by decide +kernel
theorem dX1_addLine_48 : decode cX1_addLine 48 = .ok (.goto 4, 3) := by decide +kernel
theorem dX1_addLine_51 : decode cX1_addLine 51 = .ok (.iconst 0, 1) := by decide +kernel
theorem dX1_addLine_52 : decode cX1_addLine 52 = .ok (.istore 6, 2) := by decide +kernel
theorem dX1_addLine_54 : decode cX1_addLine 54 = .ok (.aload_n 0, 1) := by decide +kernel
theorem dX1_addLine_55 : decode cX1_addLine 55 = .ok (.iload 5, 2) := by decide +kernel
theorem dX1_addLine_57 : decode cX1_addLine 57 = .ok (.iload 6, 2) := by decide +kernel
theorem dX1_addLine_59 : decode cX1_addLine 59 = .ok (.aload_n 0, 1) := by decide +kernel
theorem dX1_addLine_60 : decode cX1_addLine 60 = .ok (.getfield 55, 3) := by decide +kernel
theorem dX1_addLine_63 : decode cX1_addLine 63 = .ok (.bipush 10, 2) := by decide +kernel
theorem dX1_addLine_65 : decode cX1_addLine 65 = .ok (.if_icmp .ge 7, 3) := by decide +kernel
theorem dX1_addLine_68 : decode cX1_addLine 68 = .ok (.iconst 1, 1) := by decide +kernel
theorem dX1_addLine_69 : decode cX1_addLine 69 = .ok (.goto 4, 3) := by decide +kernel
theorem dX1_addLine_72 : decode cX1_addLine 72 = .ok (.iconst 0, 1) := by decide +kernel
theorem dX1_addLine_73 : decode cX1_addLine 73 = .ok (.invokevirtual 62, 3) := by decide +kernel
theorem dX1_addLine_76 : decode cX1_addLine 76 = .ok (.ifCond .ne 5, 3) := by decide +kernel
theorem dX1_addLine_79 : decode cX1_addLine 79 = .ok (.iconst 0, 1) := by decide +kernel
theorem dX1_addLine_80 : decode cX1_addLine 80 = .ok (.ireturn, 1) := by decide +kernel
theorem dX1_addLine_81 : decode cX1_addLine 81 = .ok (.aload_n 0, 1) := by decide +kernel
theorem dX1_addLine_82 : decode cX1_addLine 82 = .ok (.getfield 16, 3) := by decide +kernel
theorem dX1_addLine_85 : decode cX1_addLine 85 = .ok (.aload_n 0, 1) := by decide +kernel
theorem dX1_addLine_86 : decode cX1_addLine 86 = .ok (.getfield 55, 3) := by decide +kernel
theorem dX1_addLine_89 : decode cX1_addLine 89 = .ok (.iload_n 1, 1) := by decide +kernel
theorem dX1_addLine_90 : decode cX1_addLine 90 = .ok (.iastore, 1) := by decide +kernel
theorem dX1_addLine_91 : decode cX1_addLine 91 = .ok (.aload_n 0, 1) := by decide +kernel
theorem dX1_addLine_92 : decode cX1_addLine 92 = .ok (.getfield 19, 3) := by decide +kernel
theorem dX1_addLine_95 : decode cX1_addLine 95 = .ok (.aload_n 0, 1) := by decide +kernel
theorem dX1_addLine_96 : decode cX1_addLine 96 = .ok (.getfield 55, 3) := by decide +kernel
theorem dX1_addLine_99 : decode cX1_addLine 99 = .ok (.iload_n 2, 1) := by decide +kernel
theorem dX1_addLine_100 : decode cX1_addLine 100 = .ok (.iastore, 1) := by decide +kernel
theorem dX1_addLine_101 : decode cX1_addLine 101 = .ok (.aload_n 0, 1) := by decide +kernel
theorem dX1_addLine_102 : decode cX1_addLine 102 = .ok (.getfield 22, 3) := by decide +kernel
theorem dX1_addLine_105 : decode cX1_addLine 105 = .ok (.aload_n 0, 1) := by decide +kernel
theorem dX1_addLine_106 : decode cX1_addLine 106 = .ok (.getfield 55, 3) := by decide +kernel
theorem dX1_addLine_109 : decode cX1_addLine 109 = .ok (.iload_n 3, 1) := by decide +kernel
theorem dX1_addLine_110 : decode cX1_addLine 110 = .ok (.iastore, 1) := by decide +kernel
theorem dX1_addLine_111 : decode cX1_addLine 111 = .ok (.aload_n 0, 1) := by decide +kernel
theorem dX1_addLine_112 : decode cX1_addLine 112 = .ok (.getfield 25, 3) := by decide +kernel
theorem dX1_addLine_115 : decode cX1_addLine 115 = .ok (.aload_n 0, 1) := by decide +kernel
theorem dX1_addLine_116 : decode cX1_addLine 116 = .ok (.getfield 55, 3) := by decide +kernel
theorem dX1_addLine_119 : decode cX1_addLine 119 = .ok (.iload 4, 2) := by decide +kernel
theorem dX1_addLine_121 : decode cX1_addLine 121 = .ok (.iastore, 1) := by decide +kernel
theorem dX1_addLine_122 : decode cX1_addLine 122 = .ok (.aload_n 0, 1) := by decide +kernel
theorem dX1_addLine_123 : decode cX1_addLine 123 = .ok (.getfield 28, 3) := by decide +kernel
theorem dX1_addLine_126 : decode cX1_addLine 126 = .ok (.aload_n 0, 1) := by decide +kernel
theorem dX1_addLine_127 : decode cX1_addLine 127 = .ok (.getfield 55, 3) := by decide +kernel
theorem dX1_addLine_130 : decode cX1_addLine 130 = .ok (.aload_n 0, 1) := by decide +kernel
theorem dX1_addLine_131 : decode cX1_addLine 131 = .ok (.getfield 7, 3) := by decide +kernel
theorem dX1_addLine_134 : decode cX1_addLine 134 = .ok (.iload_n 2, 1) := by decide +kernel
theorem dX1_addLine_135 : decode cX1_addLine 135 = .ok (.iaload, 1) := by decide +kernel
theorem dX1_addLine_136 : decode cX1_addLine 136 = .ok (.iload_n 1, 1) := by decide +kernel
theorem dX1_addLine_137 : decode cX1_addLine 137 = .ok (.isub, 1) := by decide +kernel
theorem dX1_addLine_138 : decode cX1_addLine 138 = .ok (.sipush 300, 3) := by decide +kernel
theorem dX1_addLine_141 : decode cX1_addLine 141 = .ok (.invokestatic 66, 3) := by decide +kernel
theorem dX1_addLine_144 : decode cX1_addLine 144 = .ok (.iastore, 1) := by decide +kernel
theorem dX1_addLine_145 : decode cX1_addLine 145 = .ok (.aload_n 0, 1) := by decide +kernel
theorem dX1_addLine_146 : decode cX1_addLine 146 = .ok (.dup, 1) := by decide +kernel
theorem dX1_addLine_147 : decode cX1_addLine 147 = .ok (.getfield 55, 3) := by decide +kernel
theorem dX1_addLine_150 : decode cX1_addLine 150 = .ok (.iconst 1, 1) := by decide +kernel
theorem dX1_addLine_151 : decode cX1_addLine 151 = .ok (.iadd, 1) := by decide +kernel
theorem dX1_addLine_152 : decode cX1_addLine 152 = .ok (.putfield 55, 3) := by decide +kernel
theorem dX1_addLine_155 : decode cX1_addLine 155 = .ok (.aload_n 0, 1) := by decide +kernel
theorem dX1_addLine_156 : decode cX1_addLine 156 = .ok (.getfield 55, 3) := by decide +kernel
theorem dX1_addLine_159 : decode cX1_addLine 159 = .ok (.iconst 1, 1) := by decide +kernel
theorem dX1_addLine_160 : decode cX1_addLine 160 = .ok (.isub, 1) := by decide +kernel
theorem dX1_addLine_161 : decode cX1_addLine 161 = .ok (.ireturn, 1) := by decide +kernel
set_option maxRecDepth 20000 in
theorem ggX1_toggle_X1_isLine : GoodIn wsX1_toggle wsX1_isLine := goodIn_r _ [6, 7, 8, 9, 5, 10, 16, 17, 18, 19, 20, 21, 22, 23, 24, 25, 26, 27, 28, 29, 30, 31] (by decide +kernel) (by decide +kernel)
set_option maxRecDepth 20000 in
theorem gX1_toggle_X1_isLine : GoodIn wsX1_toggle (wsV RX1 70 RX1 yX1_isLine wsX1_isLine) := goodIn_app (goodIn_of _ (by decide +kernel)) ggX1_toggle_X1_isLine
set_option maxRecDepth 20000 in
theorem ggX1_toggle_X1_goes : GoodIn wsX1_toggle wsX1_goes := goodIn_r _ [14, 15, 16, 17, 18, 19, 20, 21, 22, 23, 24, 25, 26, 27, 28, 29, 30, 31] (by decide +kernel) (by decide +kernel)
set_option maxRecDepth 20000 in
theorem gX1_toggle_X1_goes : GoodIn wsX1_toggle (wsV RX1 62 RX1 yX1_goes wsX1_goes) := goodIn_app (goodIn_of _ (by decide +kernel)) ggX1_toggle_X1_goes
theorem dX1_toggle_0 : decode cX1_toggle 0 = .ok (.aload_n 0, 1) := by decide +kernel
theorem dX1_toggle_1 : decode cX1_toggle 1 = .ok (.aload_n 0, 1) := by decide +kernel
theorem dX1_toggle_2 : decode cX1_toggle 2 = .ok (.iload_n 1, 1) := by decide +kernel
theorem dX1_toggle_3 : decode cX1_toggle 3 = .ok (.invokevirtual 70, 3) := by decide +kernel
theorem dX1_toggle_6 : decode cX1_toggle 6 = .ok (.iconst 1, 1) := by decide +kernel
theorem dX1_toggle_7 : decode cX1_toggle 7 = .ok (.iconst 1, 1) := by decide +kernel
theorem dX1_toggle_8 : decode cX1_toggle 8 = .ok (.invokevirtual 62, 3) := by decide +kernel
theorem dX1_toggle_11 : decode cX1_toggle 11 = .ok (.ifCond .ne 5, 3) := by decide +kernel
theorem dX1_toggle_14 : decode cX1_toggle 14 = .ok (.iconst 0, 1) := by decide +kernel
theorem dX1_toggle_15 : decode cX1_toggle 15 = .ok (.ireturn, 1) := by decide +kernel
theorem dX1_toggle_16 : decode cX1_toggle 16 = .ok (.aload_n 0, 1) := by decide +kernel
theorem dX1_toggle_17 : decode cX1_toggle 17 = .ok (.getfield 31, 3) := by decide +kernel
theorem dX1_toggle_20 : decode cX1_toggle 20 = .ok (.iload_n 1, 1) := by decide +kernel
theorem dX1_toggle_21 : decode cX1_toggle 21 = .ok (.aload_n 0, 1) := by decide +kernel
theorem dX1_toggle_22 : decode cX1_toggle 22 = .ok (.getfield 31, 3) := by decide +kernel
theorem dX1_toggle_25 : decode cX1_toggle 25 = .ok (.iload_n 1, 1) := by decide +kernel
theorem dX1_toggle_26 : decode cX1_toggle 26 = .ok (.baload, 1) := by decide +kernel
theorem dX1_toggle_27 : decode cX1_toggle 27 = .ok (.ifCond .ne 7, 3) := by decide +kernel
theorem dX1_toggle_30 : decode cX1_toggle 30 = .ok (.iconst 1, 1) := by decide +kernel
theorem dX1_toggle_31 : decode cX1_toggle 31 = .ok (.goto 4, 3) := by decide +kernel
theorem dX1_toggle_34 : decode cX1_toggle 34 = .ok (.iconst 0, 1) := by decide +kernel
theorem dX1_toggle_35 : decode cX1_toggle 35 = .ok (.bastore, 1) := by decide +kernel
theorem dX1_toggle_36 : decode cX1_toggle 36 = .ok (.aload_n 0, 1) := by decide +kernel
theorem dX1_toggle_37 : decode cX1_toggle 37 = .ok (.getfield 31, 3) := by decide +kernel
theorem dX1_toggle_40 : decode cX1_toggle 40 = .ok (.iload_n 1, 1) := by decide +kernel
theorem dX1_toggle_41 : decode cX1_toggle 41 = .ok (.baload, 1) := by decide +kernel
theorem dX1_toggle_42 : decode cX1_toggle 42 = .ok (.ifCond .ne 7, 3) := by decide +kernel
theorem dX1_toggle_45 : decode cX1_toggle 45 = .ok (.iconst 1, 1) := by decide +kernel
theorem dX1_toggle_46 : decode cX1_toggle 46 = .ok (.goto 4, 3) := by decide +kernel
theorem dX1_toggle_49 : decode cX1_toggle 49 = .ok (.iconst 0, 1) := by decide +kernel
theorem dX1_toggle_50 : decode cX1_toggle 50 = .ok (.ireturn, 1) := by decide +kernel
set_option maxRecDepth 20000 in
theorem ggX1_setTide_X1_isHour : GoodIn wsX1_setTide wsX1_isHour := goodIn_r _ [5, 6, 7, 4, 8] (by decide +kernel) (by decide +kernel)
set_option maxRecDepth 20000 in
theorem gX1_setTide_X1_isHour : GoodIn wsX1_setTide (va_wsS RX1 74 yX1_isHour wsX1_isHour) := goodIn_app (goodIn_of _ (by decide +kernel)) ggX1_setTide_X1_isHour
set_option maxRecDepth 20000 in
theorem ggX1_setTide_X1_in : GoodIn wsX1_setTide wsX1_in := goodIn_r _ [8] (by decide +kernel) (by decide +kernel)
set_option maxRecDepth 20000 in
theorem gX1_setTide_X1_in : GoodIn wsX1_setTide (va_wsS RX1 51 yX1_in wsX1_in) := goodIn_app (goodIn_of _ (by decide +kernel)) ggX1_setTide_X1_in
set_option maxRecDepth 20000 in
theorem ggX1_setTide_X1_goes : GoodIn wsX1_setTide wsX1_goes := goodIn_r _ [12, 13, 14, 15, 16, 17, 18, 19, 20, 21, 22, 23, 24, 25, 26, 27, 28, 29] (by decide +kernel) (by decide +kernel)
set_option maxRecDepth 20000 in
theorem gX1_setTide_X1_goes : GoodIn wsX1_setTide (wsV RX1 62 RX1 yX1_goes wsX1_goes) := goodIn_app (goodIn_of _ (by decide +kernel)) ggX1_setTide_X1_goes
theorem dX1_setTide_0 : decode cX1_setTide 0 = .ok (.aload_n 0, 1) := by decide +kernel
theorem dX1_setTide_1 : decode cX1_setTide 1 = .ok (.iload_n 1, 1) := by decide +kernel
theorem dX1_setTide_2 : decode cX1_setTide 2 = .ok (.invokestatic 74, 3) := by decide +kernel
theorem dX1_setTide_5 : decode cX1_setTide 5 = .ok (.iload_n 2, 1) := by decide +kernel
theorem dX1_setTide_6 : decode cX1_setTide 6 = .ok (.sipush (-200), 3) := by decide +kernel
theorem dX1_setTide_9 : decode cX1_setTide 9 = .ok (.sipush 200, 3) := by decide +kernel
theorem dX1_setTide_12 : decode cX1_setTide 12 = .ok (.invokestatic 51, 3) := by decide +kernel
theorem dX1_setTide_15 : decode cX1_setTide 15 = .ok (.iconst 1, 1) := by decide +kernel
theorem dX1_setTide_16 : decode cX1_setTide 16 = .ok (.invokevirtual 62, 3) := by decide +kernel
theorem dX1_setTide_19 : decode cX1_setTide 19 = .ok (.ifCond .ne 5, 3) := by decide +kernel
theorem dX1_setTide_22 : decode cX1_setTide 22 = .ok (.iconst 0, 1) := by decide +kernel
theorem dX1_setTide_23 : decode cX1_setTide 23 = .ok (.ireturn, 1) := by decide +kernel
theorem dX1_setTide_24 : decode cX1_setTide 24 = .ok (.aload_n 0, 1) := by decide +kernel
theorem dX1_setTide_25 : decode cX1_setTide 25 = .ok (.getfield 35, 3) := by decide +kernel
theorem dX1_setTide_28 : decode cX1_setTide 28 = .ok (.iload_n 1, 1) := by decide +kernel
theorem dX1_setTide_29 : decode cX1_setTide 29 = .ok (.iaload, 1) := by decide +kernel
theorem dX1_setTide_30 : decode cX1_setTide 30 = .ok (.istore_n 3, 1) := by decide +kernel
theorem dX1_setTide_31 : decode cX1_setTide 31 = .ok (.aload_n 0, 1) := by decide +kernel
theorem dX1_setTide_32 : decode cX1_setTide 32 = .ok (.getfield 35, 3) := by decide +kernel
theorem dX1_setTide_35 : decode cX1_setTide 35 = .ok (.iload_n 1, 1) := by decide +kernel
theorem dX1_setTide_36 : decode cX1_setTide 36 = .ok (.iload_n 2, 1) := by decide +kernel
theorem dX1_setTide_37 : decode cX1_setTide 37 = .ok (.iastore, 1) := by decide +kernel
theorem dX1_setTide_38 : decode cX1_setTide 38 = .ok (.iload_n 3, 1) := by decide +kernel
theorem dX1_setTide_39 : decode cX1_setTide 39 = .ok (.ireturn, 1) := by decide +kernel
set_option maxRecDepth 20000 in
theorem ggX1_setLoad_X1_isHour : GoodIn wsX1_setLoad wsX1_isHour := goodIn_r _ [5, 6, 7, 4, 8] (by decide +kernel) (by decide +kernel)
set_option maxRecDepth 20000 in
theorem gX1_setLoad_X1_isHour : GoodIn wsX1_setLoad (va_wsS RX1 74 yX1_isHour wsX1_isHour) := goodIn_app (goodIn_of _ (by decide +kernel)) ggX1_setLoad_X1_isHour
set_option maxRecDepth 20000 in
theorem ggX1_setLoad_X1_in : GoodIn wsX1_setLoad wsX1_in := goodIn_r _ [8] (by decide +kernel) (by decide +kernel)
set_option maxRecDepth 20000 in
theorem gX1_setLoad_X1_in : GoodIn wsX1_setLoad (va_wsS RX1 51 yX1_in wsX1_in) := goodIn_app (goodIn_of _ (by decide +kernel)) ggX1_setLoad_X1_in
set_option maxRecDepth 20000 in
theorem ggX1_setLoad_X1_goes : GoodIn wsX1_setLoad wsX1_goes := goodIn_r _ [12, 13, 14, 15, 16, 17, 18, 19, 20, 21, 22, 23, 24, 25, 26, 27, 28, 29] (by decide +kernel) (by decide +kernel)
set_option maxRecDepth 20000 in
theorem gX1_setLoad_X1_goes : GoodIn wsX1_setLoad (wsV RX1 62 RX1 yX1_goes wsX1_goes) := goodIn_app (goodIn_of _ (by decide +kernel)) ggX1_setLoad_X1_goes
theorem dX1_setLoad_0 : decode cX1_setLoad 0 = .ok (.aload_n 0, 1) := by decide +kernel
theorem dX1_setLoad_1 : decode cX1_setLoad 1 = .ok (.iload_n 1, 1) := by decide +kernel
theorem dX1_setLoad_2 : decode cX1_setLoad 2 = .ok (.invokestatic 74, 3) := by decide +kernel
theorem dX1_setLoad_5 : decode cX1_setLoad 5 = .ok (.iload_n 2, 1) := by decide +kernel
theorem dX1_setLoad_6 : decode cX1_setLoad 6 = .ok (.sipush (-200), 3) := by decide +kernel
theorem dX1_setLoad_9 : decode cX1_setLoad 9 = .ok (.sipush 200, 3) := by decide +kernel
theorem dX1_setLoad_12 : decode cX1_setLoad 12 = .ok (.invokestatic 51, 3) := by decide +kernel
theorem dX1_setLoad_15 : decode cX1_setLoad 15 = .ok (.iconst 1, 1) := by decide +kernel
theorem dX1_setLoad_16 : decode cX1_setLoad 16 = .ok (.invokevirtual 62, 3) := by decide +kernel
theorem dX1_setLoad_19 : decode cX1_setLoad 19 = .ok (.ifCond .ne 5, 3) := by decide +kernel
theorem dX1_setLoad_22 : decode cX1_setLoad 22 = .ok (.iconst 0, 1) := by decide +kernel
theorem dX1_setLoad_23 : decode cX1_setLoad 23 = .ok (.ireturn, 1) := by decide +kernel
theorem dX1_setLoad_24 : decode cX1_setLoad 24 = .ok (.aload_n 0, 1) := by decide +kernel
theorem dX1_setLoad_25 : decode cX1_setLoad 25 = .ok (.getfield 38, 3) := by decide +kernel
theorem dX1_setLoad_28 : decode cX1_setLoad 28 = .ok (.iload_n 1, 1) := by decide +kernel
theorem dX1_setLoad_29 : decode cX1_setLoad 29 = .ok (.iaload, 1) := by decide +kernel
theorem dX1_setLoad_30 : decode cX1_setLoad 30 = .ok (.istore_n 3, 1) := by decide +kernel
theorem dX1_setLoad_31 : decode cX1_setLoad 31 = .ok (.iload_n 1, 1) := by decide +kernel
theorem dX1_setLoad_32 : decode cX1_setLoad 32 = .ok (.istore 4, 2) := by decide +kernel
theorem dX1_setLoad_34 : decode cX1_setLoad 34 = .ok (.iload 4, 2) := by decide +kernel
theorem dX1_setLoad_36 : decode cX1_setLoad 36 = .ok (.bipush 48, 2) := by decide +kernel
theorem dX1_setLoad_38 : decode cX1_setLoad 38 = .ok (.if_icmp .ge 17, 3) := by decide +kernel
theorem dX1_setLoad_41 : decode cX1_setLoad 41 = .ok (.aload_n 0, 1) := by decide +kernel
theorem dX1_setLoad_42 : decode cX1_setLoad 42 = .ok (.getfield 38, 3) := by decide +kernel
theorem dX1_setLoad_45 : decode cX1_setLoad 45 = .ok (.iload 4, 2) := by decide +kernel
theorem dX1_setLoad_47 : decode cX1_setLoad 47 = .ok (.iload_n 2, 1) := by decide +kernel
theorem dX1_setLoad_48 : decode cX1_setLoad 48 = .ok (.iastore, 1) := by decide +kernel
theorem dX1_setLoad_49 : decode cX1_setLoad 49 = .ok (.iinc 4 1, 3) := by decide +kernel
theorem dX1_setLoad_52 : decode cX1_setLoad 52 = .ok (.goto (-18), 3) := by decide +kernel
theorem dX1_setLoad_55 : decode cX1_setLoad 55 = .ok (.iload_n 3, 1) := by decide +kernel
theorem dX1_setLoad_56 : decode cX1_setLoad 56 = .ok (.ireturn, 1) := by decide +kernel
set_option maxRecDepth 20000 in
theorem ggX1_setWind_X1_in : GoodIn wsX1_setWind wsX1_in := goodIn_r _ [7] (by decide +kernel) (by decide +kernel)
set_option maxRecDepth 20000 in
theorem gX1_setWind_X1_in : GoodIn wsX1_setWind (va_wsS RX1 51 yX1_in wsX1_in) := goodIn_app (goodIn_of _ (by decide +kernel)) ggX1_setWind_X1_in
set_option maxRecDepth 20000 in
theorem ggX1_setWind_X1_goes : GoodIn wsX1_setWind wsX1_goes := goodIn_r _ [11, 12, 13, 14, 15, 16, 17, 18, 19, 20, 21, 22, 23, 24, 25, 26, 27, 28] (by decide +kernel) (by decide +kernel)
set_option maxRecDepth 20000 in
theorem gX1_setWind_X1_goes : GoodIn wsX1_setWind (wsV RX1 62 RX1 yX1_goes wsX1_goes) := goodIn_app (goodIn_of _ (by decide +kernel)) ggX1_setWind_X1_goes
theorem dX1_setWind_0 : decode cX1_setWind 0 = .ok (.aload_n 0, 1) := by decide +kernel
theorem dX1_setWind_1 : decode cX1_setWind 1 = .ok (.iload_n 1, 1) := by decide +kernel
theorem dX1_setWind_2 : decode cX1_setWind 2 = .ok (.ldc 77, 2) := by decide +kernel
theorem dX1_setWind_4 : decode cX1_setWind 4 = .ok (.ldc 58, 2) := by decide +kernel
theorem dX1_setWind_6 : decode cX1_setWind 6 = .ok (.invokestatic 51, 3) := by decide +kernel
theorem dX1_setWind_9 : decode cX1_setWind 9 = .ok (.iconst 1, 1) := by decide +kernel
theorem dX1_setWind_10 : decode cX1_setWind 10 = .ok (.iconst 1, 1) := by decide +kernel
theorem dX1_setWind_11 : decode cX1_setWind 11 = .ok (.invokevirtual 62, 3) := by decide +kernel
theorem dX1_setWind_14 : decode cX1_setWind 14 = .ok (.ifCond .ne 5, 3) := by decide +kernel
theorem dX1_setWind_17 : decode cX1_setWind 17 = .ok (.iconst 0, 1) := by decide +kernel
theorem dX1_setWind_18 : decode cX1_setWind 18 = .ok (.ireturn, 1) := by decide +kernel
theorem dX1_setWind_19 : decode cX1_setWind 19 = .ok (.aload_n 0, 1) := by decide +kernel
theorem dX1_setWind_20 : decode cX1_setWind 20 = .ok (.getfield 78, 3) := by decide +kernel
theorem dX1_setWind_23 : decode cX1_setWind 23 = .ok (.istore_n 2, 1) := by decide +kernel
theorem dX1_setWind_24 : decode cX1_setWind 24 = .ok (.aload_n 0, 1) := by decide +kernel
theorem dX1_setWind_25 : decode cX1_setWind 25 = .ok (.iload_n 1, 1) := by decide +kernel
theorem dX1_setWind_26 : decode cX1_setWind 26 = .ok (.putfield 78, 3) := by decide +kernel
theorem dX1_setWind_29 : decode cX1_setWind 29 = .ok (.iload_n 2, 1) := by decide +kernel
theorem dX1_setWind_30 : decode cX1_setWind 30 = .ok (.ireturn, 1) := by decide +kernel
set_option maxRecDepth 20000 in
theorem ggX1_setPassing_X1_isHour : GoodIn wsX1_setPassing wsX1_isHour := goodIn_r _ [7, 8, 9, 6, 10] (by decide +kernel) (by decide +kernel)
set_option maxRecDepth 20000 in
theorem gX1_setPassing_X1_isHour : GoodIn wsX1_setPassing (va_wsS RX1 74 yX1_isHour wsX1_isHour) := goodIn_app (goodIn_of _ (by decide +kernel)) ggX1_setPassing_X1_isHour
set_option maxRecDepth 20000 in
theorem ggX1_setPassing_X1_in : GoodIn wsX1_setPassing wsX1_in := goodIn_r _ [10] (by decide +kernel) (by decide +kernel)
set_option maxRecDepth 20000 in
theorem gX1_setPassing_X1_in : GoodIn wsX1_setPassing (va_wsS RX1 51 yX1_in wsX1_in) := goodIn_app (goodIn_of _ (by decide +kernel)) ggX1_setPassing_X1_in
set_option maxRecDepth 20000 in
theorem ggX1_setPassing_X1_goes : GoodIn wsX1_setPassing wsX1_goes := goodIn_r _ [14, 15, 16, 17, 18, 19, 20, 21, 22, 23, 24, 25, 26, 27, 28, 29, 30, 31] (by decide +kernel) (by decide +kernel)
set_option maxRecDepth 20000 in
theorem gX1_setPassing_X1_goes : GoodIn wsX1_setPassing (wsV RX1 62 RX1 yX1_goes wsX1_goes) := goodIn_app (goodIn_of _ (by decide +kernel)) ggX1_setPassing_X1_goes
theorem dX1_setPassing_0 : decode cX1_setPassing 0 = .ok (.aload_n 0, 1) := by decide +kernel
theorem dX1_setPassing_1 : decode cX1_setPassing 1 = .ok (.iload_n 1, 1) := by decide +kernel
theorem dX1_setPassing_2 : decode cX1_setPassing 2 = .ok (.invokestatic 74, 3) := by decide +kernel
theorem dX1_setPassing_5 : decode cX1_setPassing 5 = .ok (.iload_n 2, 1) := by decide +kernel
theorem dX1_setPassing_6 : decode cX1_setPassing 6 = .ok (.ldc 77, 2) := by decide +kernel
theorem dX1_setPassing_8 : decode cX1_setPassing 8 = .ok (.ldc 58, 2) := by decide +kernel
theorem dX1_setPassing_10 : decode cX1_setPassing 10 = .ok (.invokestatic 51, 3) := by decide +kernel
theorem dX1_setPassing_13 : decode cX1_setPassing 13 = .ok (.iconst 1, 1) := by decide +kernel
theorem dX1_setPassing_14 : decode cX1_setPassing 14 = .ok (.invokevirtual 62, 3) := by decide +kernel
theorem dX1_setPassing_17 : decode cX1_setPassing 17 = .ok (.ifCond .ne 5, 3) := by decide +kernel
theorem dX1_setPassing_20 : decode cX1_setPassing 20 = .ok (.iconst 0, 1) := by decide +kernel
theorem dX1_setPassing_21 : decode cX1_setPassing 21 = .ok (.ireturn, 1) := by decide +kernel
theorem dX1_setPassing_22 : decode cX1_setPassing 22 = .ok (.aload_n 0, 1) := by decide +kernel
theorem dX1_setPassing_23 : decode cX1_setPassing 23 = .ok (.getfield 41, 3) := by decide +kernel
theorem dX1_setPassing_26 : decode cX1_setPassing 26 = .ok (.iload_n 1, 1) := by decide +kernel
theorem dX1_setPassing_27 : decode cX1_setPassing 27 = .ok (.iaload, 1) := by decide +kernel
theorem dX1_setPassing_28 : decode cX1_setPassing 28 = .ok (.istore_n 3, 1) := by decide +kernel
theorem dX1_setPassing_29 : decode cX1_setPassing 29 = .ok (.aload_n 0, 1) := by decide +kernel
theorem dX1_setPassing_30 : decode cX1_setPassing 30 = .ok (.getfield 41, 3) := by decide +kernel
theorem dX1_setPassing_33 : decode cX1_setPassing 33 = .ok (.iload_n 1, 1) := by decide +kernel
theorem dX1_setPassing_34 : decode cX1_setPassing 34 = .ok (.iload_n 2, 1) := by decide +kernel
theorem dX1_setPassing_35 : decode cX1_setPassing 35 = .ok (.iastore, 1) := by decide +kernel
theorem dX1_setPassing_36 : decode cX1_setPassing 36 = .ok (.iload_n 3, 1) := by decide +kernel
theorem dX1_setPassing_37 : decode cX1_setPassing 37 = .ok (.ireturn, 1) := by decide +kernel
theorem dX1_away_0 : decode cX1_away 0 = .ok (.aload_n 0, 1) := by decide +kernel
theorem dX1_away_1 : decode cX1_away 1 = .ok (.getfield 7, 3) := by decide +kernel
theorem dX1_away_4 : decode cX1_away 4 = .ok (.aload_n 0, 1) := by decide +kernel
theorem dX1_away_5 : decode cX1_away 5 = .ok (.getfield 19, 3) := by decide +kernel
theorem dX1_away_8 : decode cX1_away 8 = .ok (.iload_n 1, 1) := by decide +kernel
theorem dX1_away_9 : decode cX1_away 9 = .ok (.iaload, 1) := by decide +kernel
theorem dX1_away_10 : decode cX1_away 10 = .ok (.iaload, 1) := by decide +kernel
theorem dX1_away_11 : decode cX1_away 11 = .ok (.aload_n 0, 1) := by decide +kernel
theorem dX1_away_12 : decode cX1_away 12 = .ok (.getfield 16, 3) := by decide +kernel
theorem dX1_away_15 : decode cX1_away 15 = .ok (.iload_n 1, 1) := by decide +kernel
theorem dX1_away_16 : decode cX1_away 16 = .ok (.iaload, 1) := by decide +kernel
theorem dX1_away_17 : decode cX1_away 17 = .ok (.isub, 1) := by decide +kernel
theorem dX1_away_18 : decode cX1_away 18 = .ok (.iload_n 2, 1) := by decide +kernel
theorem dX1_away_19 : decode cX1_away 19 = .ok (.isub, 1) := by decide +kernel
theorem dX1_away_20 : decode cX1_away 20 = .ok (.ireturn, 1) := by decide +kernel
set_option maxRecDepth 20000 in
theorem ggX1_lengthAt_X1_away : GoodIn wsX1_lengthAt wsX1_away := goodIn_r _ [7, 8, 9, 10, 14, 15, 16, 17, 18, 19, 20, 21, 22, 23, 24, 25, 26, 27, 28, 29] (by decide +kernel) (by decide +kernel)
set_option maxRecDepth 20000 in
theorem gX1_lengthAt_X1_away : GoodIn wsX1_lengthAt (wsV RX1 81 RX1 yX1_away wsX1_away) := goodIn_app (goodIn_of _ (by decide +kernel)) ggX1_lengthAt_X1_away
set_option maxRecDepth 20000 in
theorem ggX1_lengthAt_X1_root : GoodIn wsX1_lengthAt wsX1_root := goodIn_r _ [13] (by decide +kernel) (by decide +kernel)
set_option maxRecDepth 20000 in
theorem gX1_lengthAt_X1_root : GoodIn wsX1_lengthAt (va_wsS RX1 66 yX1_root wsX1_root) := goodIn_app (goodIn_of _ (by decide +kernel)) ggX1_lengthAt_X1_root
theorem dX1_lengthAt_0 : decode cX1_lengthAt 0 = .ok (.aload_n 0, 1) := by decide +kernel
theorem dX1_lengthAt_1 : decode cX1_lengthAt 1 = .ok (.iload_n 1, 1) := by decide +kernel
theorem dX1_lengthAt_2 : decode cX1_lengthAt 2 = .ok (.iload_n 3, 1) := by decide +kernel
theorem dX1_lengthAt_3 : decode cX1_lengthAt 3 = .ok (.invokevirtual 81, 3) := by decide +kernel
theorem dX1_lengthAt_6 : decode cX1_lengthAt 6 = .ok (.sipush 300, 3) := by decide +kernel
theorem dX1_lengthAt_9 : decode cX1_lengthAt 9 = .ok (.aload_n 0, 1) := by decide +kernel
theorem dX1_lengthAt_10 : decode cX1_lengthAt 10 = .ok (.getfield 35, 3) := by decide +kernel
theorem dX1_lengthAt_13 : decode cX1_lengthAt 13 = .ok (.iload_n 2, 1) := by decide +kernel
theorem dX1_lengthAt_14 : decode cX1_lengthAt 14 = .ok (.iaload, 1) := by decide +kernel
theorem dX1_lengthAt_15 : decode cX1_lengthAt 15 = .ok (.iadd, 1) := by decide +kernel
theorem dX1_lengthAt_16 : decode cX1_lengthAt 16 = .ok (.aload_n 0, 1) := by decide +kernel
theorem dX1_lengthAt_17 : decode cX1_lengthAt 17 = .ok (.getfield 38, 3) := by decide +kernel
theorem dX1_lengthAt_20 : decode cX1_lengthAt 20 = .ok (.iload_n 2, 1) := by decide +kernel
theorem dX1_lengthAt_21 : decode cX1_lengthAt 21 = .ok (.iaload, 1) := by decide +kernel
theorem dX1_lengthAt_22 : decode cX1_lengthAt 22 = .ok (.iadd, 1) := by decide +kernel
theorem dX1_lengthAt_23 : decode cX1_lengthAt 23 = .ok (.invokestatic 66, 3) := by decide +kernel
theorem dX1_lengthAt_26 : decode cX1_lengthAt 26 = .ok (.ireturn, 1) := by decide +kernel
set_option maxRecDepth 20000 in
theorem ggX1_tensionAt_X1_lengthAt : GoodIn wsX1_tensionAt wsX1_lengthAt := goodIn_r _ [8, 9, 10, 11, 12, 13, 7, 14, 15, 16, 17, 18, 19, 20, 21, 22, 23, 24, 25, 26, 27, 28, 29, 30, 31, 32, 33, 34, 35, 36] (by decide +kernel) (by decide +kernel)
set_option maxRecDepth 20000 in
theorem gX1_tensionAt_X1_lengthAt : GoodIn wsX1_tensionAt (wsV RX1 84 RX1 yX1_lengthAt wsX1_lengthAt) := goodIn_app (goodIn_of _ (by decide +kernel)) ggX1_tensionAt_X1_lengthAt
theorem dX1_tensionAt_0 : decode cX1_tensionAt 0 = .ok (.aload_n 0, 1) := by decide +kernel
theorem dX1_tensionAt_1 : decode cX1_tensionAt 1 = .ok (.iload_n 1, 1) := by decide +kernel
theorem dX1_tensionAt_2 : decode cX1_tensionAt 2 = .ok (.iload_n 2, 1) := by decide +kernel
theorem dX1_tensionAt_3 : decode cX1_tensionAt 3 = .ok (.iload_n 3, 1) := by decide +kernel
theorem dX1_tensionAt_4 : decode cX1_tensionAt 4 = .ok (.invokevirtual 84, 3) := by decide +kernel
theorem dX1_tensionAt_7 : decode cX1_tensionAt 7 = .ok (.aload_n 0, 1) := by decide +kernel
theorem dX1_tensionAt_8 : decode cX1_tensionAt 8 = .ok (.getfield 28, 3) := by decide +kernel
theorem dX1_tensionAt_11 : decode cX1_tensionAt 11 = .ok (.iload_n 1, 1) := by decide +kernel
theorem dX1_tensionAt_12 : decode cX1_tensionAt 12 = .ok (.iaload, 1) := by decide +kernel
theorem dX1_tensionAt_13 : decode cX1_tensionAt 13 = .ok (.isub, 1) := by decide +kernel
theorem dX1_tensionAt_14 : decode cX1_tensionAt 14 = .ok (.istore 4, 2) := by decide +kernel
theorem dX1_tensionAt_16 : decode cX1_tensionAt 16 = .ok (.aload_n 0, 1) := by decide +kernel
theorem dX1_tensionAt_17 : decode cX1_tensionAt 17 = .ok (.getfield 31, 3) := by decide +kernel
theorem dX1_tensionAt_20 : decode cX1_tensionAt 20 = .ok (.iload_n 1, 1) := by decide +kernel
theorem dX1_tensionAt_21 : decode cX1_tensionAt 21 = .ok (.baload, 1) := by decide +kernel
theorem dX1_tensionAt_22 : decode cX1_tensionAt 22 = .ok (.ifCond .ne 8, 3) := by decide +kernel
theorem dX1_tensionAt_25 : decode cX1_tensionAt 25 = .ok (.iload 4, 2) := by decide +kernel
theorem dX1_tensionAt_27 : decode cX1_tensionAt 27 = .ok (.ifCond .ge 7, 3) := by decide +kernel
theorem dX1_tensionAt_30 : decode cX1_tensionAt 30 = .ok (.iconst 0, 1) := by decide +kernel
theorem dX1_tensionAt_31 : decode cX1_tensionAt 31 = .ok (.goto 12, 3) := by decide +kernel
theorem dX1_tensionAt_34 : decode cX1_tensionAt 34 = .ok (.aload_n 0, 1) := by decide +kernel
theorem dX1_tensionAt_35 : decode cX1_tensionAt 35 = .ok (.getfield 22, 3) := by decide +kernel
theorem dX1_tensionAt_38 : decode cX1_tensionAt 38 = .ok (.iload_n 1, 1) := by decide +kernel
theorem dX1_tensionAt_39 : decode cX1_tensionAt 39 = .ok (.iaload, 1) := by decide +kernel
theorem dX1_tensionAt_40 : decode cX1_tensionAt 40 = .ok (.iload 4, 2) := by decide +kernel
theorem dX1_tensionAt_42 : decode cX1_tensionAt 42 = .ok (.imul, 1) := by decide +kernel
theorem dX1_tensionAt_43 : decode cX1_tensionAt 43 = .ok (.ireturn, 1) := by decide +kernel
set_option maxRecDepth 20000 in
theorem ggX1_forceAt_X1_lengthAt : GoodIn wsX1_forceAt wsX1_lengthAt := goodIn_r _ [8, 9, 10, 11, 12, 13, 7, 14, 15, 16, 17, 18, 19, 20, 28, 29, 30, 31, 32, 33, 34, 35, 36, 37, 38, 39, 40, 41, 42, 43] (by decide +kernel) (by decide +kernel)
set_option maxRecDepth 20000 in
theorem gX1_forceAt_X1_lengthAt : GoodIn wsX1_forceAt (wsV RX1 84 RX1 yX1_lengthAt wsX1_lengthAt) := goodIn_app (goodIn_of _ (by decide +kernel)) ggX1_forceAt_X1_lengthAt
set_option maxRecDepth 20000 in
theorem ggX1_forceAt_X1_tensionAt : GoodIn wsX1_forceAt wsX1_tensionAt := goodIn_r _ [24, 25, 26, 27, 4, 5, 6, 7, 8, 9, 10, 11, 12, 13, 14, 15, 16, 17, 18, 19, 20, 28, 29, 30, 31, 32, 33, 34, 35, 36, 37, 38, 39, 40, 41, 42, 43] (by decide +kernel) (by decide +kernel)
set_option maxRecDepth 20000 in
theorem gX1_forceAt_X1_tensionAt : GoodIn wsX1_forceAt (wsV RX1 88 RX1 yX1_tensionAt wsX1_tensionAt) := goodIn_app (goodIn_of _ (by decide +kernel)) ggX1_forceAt_X1_tensionAt
set_option maxRecDepth 20000 in
theorem ggX1_forceAt_X1_away : GoodIn wsX1_forceAt wsX1_away := goodIn_r _ [14, 15, 16, 17, 28, 29, 30, 31, 32, 33, 34, 35, 36, 37, 38, 39, 40, 41, 42, 43] (by decide +kernel) (by decide +kernel)
set_option maxRecDepth 20000 in
theorem gX1_forceAt_X1_away : GoodIn wsX1_forceAt (wsV RX1 81 RX1 yX1_away wsX1_away) := goodIn_app (goodIn_of _ (by decide +kernel)) ggX1_forceAt_X1_away
theorem dX1_forceAt_0 : decode cX1_forceAt 0 = .ok (.aload_n 0, 1) := by decide +kernel
theorem dX1_forceAt_1 : decode cX1_forceAt 1 = .ok (.getfield 78, 3) := by decide +kernel
theorem dX1_forceAt_4 : decode cX1_forceAt 4 = .ok (.aload_n 0, 1) := by decide +kernel
theorem dX1_forceAt_5 : decode cX1_forceAt 5 = .ok (.getfield 41, 3) := by decide +kernel
theorem dX1_forceAt_8 : decode cX1_forceAt 8 = .ok (.iload_n 1, 1) := by decide +kernel
theorem dX1_forceAt_9 : decode cX1_forceAt 9 = .ok (.iaload, 1) := by decide +kernel
theorem dX1_forceAt_10 : decode cX1_forceAt 10 = .ok (.iadd, 1) := by decide +kernel
theorem dX1_forceAt_11 : decode cX1_forceAt 11 = .ok (.istore_n 3, 1) := by decide +kernel
theorem dX1_forceAt_12 : decode cX1_forceAt 12 = .ok (.iconst 0, 1) := by decide +kernel
theorem dX1_forceAt_13 : decode cX1_forceAt 13 = .ok (.istore 4, 2) := by decide +kernel
theorem dX1_forceAt_15 : decode cX1_forceAt 15 = .ok (.iload 4, 2) := by decide +kernel
theorem dX1_forceAt_17 : decode cX1_forceAt 17 = .ok (.aload_n 0, 1) := by decide +kernel
theorem dX1_forceAt_18 : decode cX1_forceAt 18 = .ok (.getfield 55, 3) := by decide +kernel
theorem dX1_forceAt_21 : decode cX1_forceAt 21 = .ok (.if_icmp .ge 58, 3) := by decide +kernel
theorem dX1_forceAt_24 : decode cX1_forceAt 24 = .ok (.aload_n 0, 1) := by decide +kernel
theorem dX1_forceAt_25 : decode cX1_forceAt 25 = .ok (.iload 4, 2) := by decide +kernel
theorem dX1_forceAt_27 : decode cX1_forceAt 27 = .ok (.iload_n 1, 1) := by decide +kernel
theorem dX1_forceAt_28 : decode cX1_forceAt 28 = .ok (.iload_n 2, 1) := by decide +kernel
theorem dX1_forceAt_29 : decode cX1_forceAt 29 = .ok (.invokevirtual 84, 3) := by decide +kernel
theorem dX1_forceAt_32 : decode cX1_forceAt 32 = .ok (.istore 5, 2) := by decide +kernel
theorem dX1_forceAt_34 : decode cX1_forceAt 34 = .ok (.aload_n 0, 1) := by decide +kernel
theorem dX1_forceAt_35 : decode cX1_forceAt 35 = .ok (.iload 4, 2) := by decide +kernel
theorem dX1_forceAt_37 : decode cX1_forceAt 37 = .ok (.iload_n 1, 1) := by decide +kernel
theorem dX1_forceAt_38 : decode cX1_forceAt 38 = .ok (.iload_n 2, 1) := by decide +kernel
theorem dX1_forceAt_39 : decode cX1_forceAt 39 = .ok (.invokevirtual 88, 3) := by decide +kernel
theorem dX1_forceAt_42 : decode cX1_forceAt 42 = .ok (.i2l, 1) := by decide +kernel
theorem dX1_forceAt_43 : decode cX1_forceAt 43 = .ok (.aload_n 0, 1) := by decide +kernel
theorem dX1_forceAt_44 : decode cX1_forceAt 44 = .ok (.iload 4, 2) := by decide +kernel
theorem dX1_forceAt_46 : decode cX1_forceAt 46 = .ok (.iload_n 2, 1) := by decide +kernel
theorem dX1_forceAt_47 : decode cX1_forceAt 47 = .ok (.invokevirtual 81, 3) := by decide +kernel
theorem dX1_forceAt_50 : decode cX1_forceAt 50 = .ok (.i2l, 1) := by decide +kernel
theorem dX1_forceAt_51 : decode cX1_forceAt 51 = .ok (.lmul, 1) := by decide +kernel
theorem dX1_forceAt_52 : decode cX1_forceAt 52 = .ok (.lstore 6, 2) := by decide +kernel
theorem dX1_forceAt_54 : decode cX1_forceAt 54 = .ok (.iload_n 3, 1) := by decide +kernel
theorem dX1_forceAt_55 : decode cX1_forceAt 55 = .ok (.iload 5, 2) := by decide +kernel
theorem dX1_forceAt_57 : decode cX1_forceAt 57 = .ok (.ifCond .ne 7, 3) := by decide +kernel
theorem dX1_forceAt_60 : decode cX1_forceAt 60 = .ok (.iconst 0, 1) := by decide +kernel
theorem dX1_forceAt_61 : decode cX1_forceAt 61 = .ok (.goto 10, 3) := by decide +kernel
theorem dX1_forceAt_64 : decode cX1_forceAt 64 = .ok (.lload 6, 2) := by decide +kernel
theorem dX1_forceAt_66 : decode cX1_forceAt 66 = .ok (.iload 5, 2) := by decide +kernel
theorem dX1_forceAt_68 : decode cX1_forceAt 68 = .ok (.i2l, 1) := by decide +kernel
theorem dX1_forceAt_69 : decode cX1_forceAt 69 = .ok (.ldiv, 1) := by decide +kernel
theorem dX1_forceAt_70 : decode cX1_forceAt 70 = .ok (.l2i, 1) := by decide +kernel
theorem dX1_forceAt_71 : decode cX1_forceAt 71 = .ok (.iadd, 1) := by decide +kernel
theorem dX1_forceAt_72 : decode cX1_forceAt 72 = .ok (.istore_n 3, 1) := by decide +kernel
theorem dX1_forceAt_73 : decode cX1_forceAt 73 = .ok (.iinc 4 1, 3) := by decide +kernel
theorem dX1_forceAt_76 : decode cX1_forceAt 76 = .ok (.goto (-61), 3) := by decide +kernel
theorem dX1_forceAt_79 : decode cX1_forceAt 79 = .ok (.iload_n 3, 1) := by decide +kernel
theorem dX1_forceAt_80 : decode cX1_forceAt 80 = .ok (.ireturn, 1) := by decide +kernel
set_option maxRecDepth 20000 in
theorem ggX1_shiftAt_X1_forceAt : GoodIn wsX1_shiftAt wsX1_forceAt := goodIn_r _ [5, 6, 7, 8, 9, 10, 11, 4, 12, 13, 14, 15, 16, 17, 18, 19, 20, 21, 22, 23, 24, 25, 26, 27, 28, 29, 30, 31, 32, 33, 34, 35, 36, 37, 38, 39, 40, 41, 42, 43, 44, 45, 46, 47] (by decide +kernel) (by decide +kernel)
set_option maxRecDepth 20000 in
theorem gX1_shiftAt_X1_forceAt : GoodIn wsX1_shiftAt (wsV RX1 91 RX1 yX1_forceAt wsX1_forceAt) := goodIn_app (goodIn_of _ (by decide +kernel)) ggX1_shiftAt_X1_forceAt
theorem dX1_shiftAt_0 : decode cX1_shiftAt 0 = .ok (.sipush (-200), 3) := by decide +kernel
theorem dX1_shiftAt_3 : decode cX1_shiftAt 3 = .ok (.istore_n 2, 1) := by decide +kernel
theorem dX1_shiftAt_4 : decode cX1_shiftAt 4 = .ok (.sipush 200, 3) := by decide +kernel
theorem dX1_shiftAt_7 : decode cX1_shiftAt 7 = .ok (.istore_n 3, 1) := by decide +kernel
theorem dX1_shiftAt_8 : decode cX1_shiftAt 8 = .ok (.iload_n 2, 1) := by decide +kernel
theorem dX1_shiftAt_9 : decode cX1_shiftAt 9 = .ok (.iload_n 3, 1) := by decide +kernel
theorem dX1_shiftAt_10 : decode cX1_shiftAt 10 = .ok (.if_icmp .ge 42, 3) := by decide +kernel
theorem dX1_shiftAt_13 : decode cX1_shiftAt 13 = .ok (.iload_n 2, 1) := by decide +kernel
theorem dX1_shiftAt_14 : decode cX1_shiftAt 14 = .ok (.iload_n 3, 1) := by decide +kernel
theorem dX1_shiftAt_15 : decode cX1_shiftAt 15 = .ok (.iadd, 1) := by decide +kernel
theorem dX1_shiftAt_16 : decode cX1_shiftAt 16 = .ok (.sipush 400, 3) := by decide +kernel
theorem dX1_shiftAt_19 : decode cX1_shiftAt 19 = .ok (.iadd, 1) := by decide +kernel
theorem dX1_shiftAt_20 : decode cX1_shiftAt 20 = .ok (.iconst 2, 1) := by decide +kernel
theorem dX1_shiftAt_21 : decode cX1_shiftAt 21 = .ok (.idiv, 1) := by decide +kernel
theorem dX1_shiftAt_22 : decode cX1_shiftAt 22 = .ok (.sipush 200, 3) := by decide +kernel
theorem dX1_shiftAt_25 : decode cX1_shiftAt 25 = .ok (.isub, 1) := by decide +kernel
theorem dX1_shiftAt_26 : decode cX1_shiftAt 26 = .ok (.istore 4, 2) := by decide +kernel
theorem dX1_shiftAt_28 : decode cX1_shiftAt 28 = .ok (.aload_n 0, 1) := by decide +kernel
theorem dX1_shiftAt_29 : decode cX1_shiftAt 29 = .ok (.iload_n 1, 1) := by decide +kernel
theorem dX1_shiftAt_30 : decode cX1_shiftAt 30 = .ok (.iload 4, 2) := by decide +kernel
theorem dX1_shiftAt_32 : decode cX1_shiftAt 32 = .ok (.invokevirtual 91, 3) := by decide +kernel
theorem dX1_shiftAt_35 : decode cX1_shiftAt 35 = .ok (.ifCond .le 11, 3) := by decide +kernel
theorem dX1_shiftAt_38 : decode cX1_shiftAt 38 = .ok (.iload 4, 2) := by decide +kernel
theorem dX1_shiftAt_40 : decode cX1_shiftAt 40 = .ok (.iconst 1, 1) := by decide +kernel
theorem dX1_shiftAt_41 : decode cX1_shiftAt 41 = .ok (.iadd, 1) := by decide +kernel
theorem dX1_shiftAt_42 : decode cX1_shiftAt 42 = .ok (.istore_n 2, 1) := by decide +kernel
theorem dX1_shiftAt_43 : decode cX1_shiftAt 43 = .ok (.goto 6, 3) := by decide +kernel
theorem dX1_shiftAt_46 : decode cX1_shiftAt 46 = .ok (.iload 4, 2) := by decide +kernel
theorem dX1_shiftAt_48 : decode cX1_shiftAt 48 = .ok (.istore_n 3, 1) := by decide +kernel
theorem dX1_shiftAt_49 : decode cX1_shiftAt 49 = .ok (.goto (-41), 3) := by decide +kernel
theorem dX1_shiftAt_52 : decode cX1_shiftAt 52 = .ok (.iload_n 2, 1) := by decide +kernel
theorem dX1_shiftAt_53 : decode cX1_shiftAt 53 = .ok (.ireturn, 1) := by decide +kernel
set_option maxRecDepth 20000 in
theorem ggX1_drifts_X1_shiftAt : GoodIn wsX1_drifts wsX1_shiftAt := goodIn_r _ [5, 6, 7, 8, 4, 9, 10, 11, 12, 13, 14, 15, 16, 17, 18, 19, 20, 21, 22, 23, 24, 25, 26, 27, 28, 29, 30, 31, 32, 33, 34, 35, 36, 37, 38, 39, 40, 41, 42, 43, 44, 45, 46, 47, 48, 49, 50, 51] (by decide +kernel) (by decide +kernel)
set_option maxRecDepth 20000 in
theorem gX1_drifts_X1_shiftAt : GoodIn wsX1_drifts (wsV RX1 94 RX1 yX1_shiftAt wsX1_shiftAt) := goodIn_app (goodIn_of _ (by decide +kernel)) ggX1_drifts_X1_shiftAt
set_option maxRecDepth 20000 in
theorem ggX1_drifts_X1_forceAt : GoodIn wsX1_drifts wsX1_forceAt := goodIn_r _ [9, 10, 11, 12, 13, 14, 15, 4, 16, 17, 18, 19, 20, 21, 22, 23, 24, 25, 26, 27, 28, 29, 30, 31, 32, 33, 34, 35, 36, 37, 38, 39, 40, 41, 42, 43, 44, 45, 46, 47, 48, 49, 50, 51] (by decide +kernel) (by decide +kernel)
set_option maxRecDepth 20000 in
theorem gX1_drifts_X1_forceAt : GoodIn wsX1_drifts (wsV RX1 91 RX1 yX1_forceAt wsX1_forceAt) := goodIn_app (goodIn_of _ (by decide +kernel)) ggX1_drifts_X1_forceAt
theorem dX1_drifts_0 : decode cX1_drifts 0 = .ok (.aload_n 0, 1) := by decide +kernel
theorem dX1_drifts_1 : decode cX1_drifts 1 = .ok (.iload_n 1, 1) := by decide +kernel
theorem dX1_drifts_2 : decode cX1_drifts 2 = .ok (.invokevirtual 94, 3) := by decide +kernel
theorem dX1_drifts_5 : decode cX1_drifts 5 = .ok (.istore_n 2, 1) := by decide +kernel
theorem dX1_drifts_6 : decode cX1_drifts 6 = .ok (.aload_n 0, 1) := by decide +kernel
theorem dX1_drifts_7 : decode cX1_drifts 7 = .ok (.iload_n 1, 1) := by decide +kernel
theorem dX1_drifts_8 : decode cX1_drifts 8 = .ok (.iload_n 2, 1) := by decide +kernel
theorem dX1_drifts_9 : decode cX1_drifts 9 = .ok (.invokevirtual 91, 3) := by decide +kernel
theorem dX1_drifts_12 : decode cX1_drifts 12 = .ok (.istore_n 3, 1) := by decide +kernel
theorem dX1_drifts_13 : decode cX1_drifts 13 = .ok (.iload_n 2, 1) := by decide +kernel
theorem dX1_drifts_14 : decode cX1_drifts 14 = .ok (.sipush 200, 3) := by decide +kernel
theorem dX1_drifts_17 : decode cX1_drifts 17 = .ok (.if_icmp .ne 7, 3) := by decide +kernel
theorem dX1_drifts_20 : decode cX1_drifts 20 = .ok (.iload_n 3, 1) := by decide +kernel
theorem dX1_drifts_21 : decode cX1_drifts 21 = .ok (.ifCond .gt 14, 3) := by decide +kernel
theorem dX1_drifts_24 : decode cX1_drifts 24 = .ok (.iload_n 2, 1) := by decide +kernel
theorem dX1_drifts_25 : decode cX1_drifts 25 = .ok (.sipush (-200), 3) := by decide +kernel
theorem dX1_drifts_28 : decode cX1_drifts 28 = .ok (.if_icmp .ne 11, 3) := by decide +kernel
theorem dX1_drifts_31 : decode cX1_drifts 31 = .ok (.iload_n 3, 1) := by decide +kernel
theorem dX1_drifts_32 : decode cX1_drifts 32 = .ok (.ifCond .ge 7, 3) := by decide +kernel
theorem dX1_drifts_35 : decode cX1_drifts 35 = .ok (.iconst 1, 1) := by decide +kernel
theorem dX1_drifts_36 : decode cX1_drifts 36 = .ok (.goto 4, 3) := by decide +kernel
theorem dX1_drifts_39 : decode cX1_drifts 39 = .ok (.iconst 0, 1) := by decide +kernel
theorem dX1_drifts_40 : decode cX1_drifts 40 = .ok (.ireturn, 1) := by decide +kernel
set_option maxRecDepth 20000 in
theorem ggX1_force_X1_isHour : GoodIn wsX1_force wsX1_isHour := goodIn_r _ [4, 5, 6, 3, 7] (by decide +kernel) (by decide +kernel)
set_option maxRecDepth 20000 in
theorem gX1_force_X1_isHour : GoodIn wsX1_force (va_wsS RX1 74 yX1_isHour wsX1_isHour) := goodIn_app (goodIn_of _ (by decide +kernel)) ggX1_force_X1_isHour
set_option maxRecDepth 20000 in
theorem ggX1_force_X1_in : GoodIn wsX1_force wsX1_in := goodIn_r _ [7] (by decide +kernel) (by decide +kernel)
set_option maxRecDepth 20000 in
theorem gX1_force_X1_in : GoodIn wsX1_force (va_wsS RX1 51 yX1_in wsX1_in) := goodIn_app (goodIn_of _ (by decide +kernel)) ggX1_force_X1_in
set_option maxRecDepth 20000 in
theorem ggX1_force_X1_goes : GoodIn wsX1_force wsX1_goes := goodIn_r _ [11, 12, 43, 44, 45, 46, 47, 48, 49, 50, 51, 52, 53, 54, 55, 56, 57, 58] (by decide +kernel) (by decide +kernel)
set_option maxRecDepth 20000 in
theorem gX1_force_X1_goes : GoodIn wsX1_force (wsV RX1 62 RX1 yX1_goes wsX1_goes) := goodIn_app (goodIn_of _ (by decide +kernel)) ggX1_force_X1_goes
set_option maxRecDepth 20000 in
theorem ggX1_force_X1_forceAt : GoodIn wsX1_force wsX1_forceAt := goodIn_r _ [16, 17, 18, 19, 20, 21, 22, 3, 23, 24, 25, 26, 27, 28, 29, 30, 31, 32, 33, 34, 35, 36, 37, 38, 39, 40, 41, 42, 43, 44, 45, 46, 47, 48, 49, 50, 51, 52, 53, 54, 55, 56, 57, 58] (by decide +kernel) (by decide +kernel)
set_option maxRecDepth 20000 in
theorem gX1_force_X1_forceAt : GoodIn wsX1_force (wsV RX1 91 RX1 yX1_forceAt wsX1_forceAt) := goodIn_app (goodIn_of _ (by decide +kernel)) ggX1_force_X1_forceAt
theorem dX1_force_0 : decode cX1_force 0 = .ok (.aload_n 0, 1) := by decide +kernel
theorem dX1_force_1 : decode cX1_force 1 = .ok (.iload_n 1, 1) := by decide +kernel
theorem dX1_force_2 : decode cX1_force 2 = .ok (.invokestatic 74, 3) := by decide +kernel
theorem dX1_force_5 : decode cX1_force 5 = .ok (.iload_n 2, 1) := by decide +kernel
theorem dX1_force_6 : decode cX1_force 6 = .ok (.sipush (-200), 3) := by decide +kernel
theorem dX1_force_9 : decode cX1_force 9 = .ok (.sipush 200, 3) := by decide +kernel
theorem dX1_force_12 : decode cX1_force 12 = .ok (.invokestatic 51, 3) := by decide +kernel
theorem dX1_force_15 : decode cX1_force 15 = .ok (.iconst 1, 1) := by decide +kernel
theorem dX1_force_16 : decode cX1_force 16 = .ok (.invokevirtual 62, 3) := by decide +kernel
theorem dX1_force_19 : decode cX1_force 19 = .ok (.ifCond .eq 12, 3) := by decide +kernel
theorem dX1_force_22 : decode cX1_force 22 = .ok (.aload_n 0, 1) := by decide +kernel
theorem dX1_force_23 : decode cX1_force 23 = .ok (.iload_n 1, 1) := by decide +kernel
theorem dX1_force_24 : decode cX1_force 24 = .ok (.iload_n 2, 1) := by decide +kernel
theorem dX1_force_25 : decode cX1_force 25 = .ok (.invokevirtual 91, 3) := by decide +kernel
theorem dX1_force_28 : decode cX1_force 28 = .ok (.goto 4, 3) := by decide +kernel
theorem dX1_force_31 : decode cX1_force 31 = .ok (.iconst 0, 1) := by decide +kernel
theorem dX1_force_32 : decode cX1_force 32 = .ok (.ireturn, 1) := by decide +kernel
set_option maxRecDepth 20000 in
theorem ggX1_shift_X1_isHour : GoodIn wsX1_shift wsX1_isHour := goodIn_r _ [4, 5, 6, 3, 7] (by decide +kernel) (by decide +kernel)
set_option maxRecDepth 20000 in
theorem gX1_shift_X1_isHour : GoodIn wsX1_shift (va_wsS RX1 74 yX1_isHour wsX1_isHour) := goodIn_app (goodIn_of _ (by decide +kernel)) ggX1_shift_X1_isHour
set_option maxRecDepth 20000 in
theorem ggX1_shift_X1_goes : GoodIn wsX1_shift wsX1_goes := goodIn_r _ [11, 12, 47, 48, 49, 50, 51, 52, 53, 54, 55, 56, 57, 58, 59, 60, 61, 62] (by decide +kernel) (by decide +kernel)
set_option maxRecDepth 20000 in
theorem gX1_shift_X1_goes : GoodIn wsX1_shift (wsV RX1 62 RX1 yX1_goes wsX1_goes) := goodIn_app (goodIn_of _ (by decide +kernel)) ggX1_shift_X1_goes
set_option maxRecDepth 20000 in
theorem ggX1_shift_X1_shiftAt : GoodIn wsX1_shift wsX1_shiftAt := goodIn_r _ [16, 17, 18, 19, 3, 20, 21, 22, 23, 24, 25, 26, 27, 28, 29, 30, 31, 32, 33, 34, 35, 36, 37, 38, 39, 40, 41, 42, 43, 44, 45, 46, 47, 48, 49, 50, 51, 52, 53, 54, 55, 56, 57, 58, 59, 60, 61, 62] (by decide +kernel) (by decide +kernel)
set_option maxRecDepth 20000 in
theorem gX1_shift_X1_shiftAt : GoodIn wsX1_shift (wsV RX1 94 RX1 yX1_shiftAt wsX1_shiftAt) := goodIn_app (goodIn_of _ (by decide +kernel)) ggX1_shift_X1_shiftAt
theorem dX1_shift_0 : decode cX1_shift 0 = .ok (.aload_n 0, 1) := by decide +kernel
theorem dX1_shift_1 : decode cX1_shift 1 = .ok (.iload_n 1, 1) := by decide +kernel
theorem dX1_shift_2 : decode cX1_shift 2 = .ok (.invokestatic 74, 3) := by decide +kernel
theorem dX1_shift_5 : decode cX1_shift 5 = .ok (.iconst 1, 1) := by decide +kernel
theorem dX1_shift_6 : decode cX1_shift 6 = .ok (.iconst 1, 1) := by decide +kernel
theorem dX1_shift_7 : decode cX1_shift 7 = .ok (.invokevirtual 62, 3) := by decide +kernel
theorem dX1_shift_10 : decode cX1_shift 10 = .ok (.ifCond .eq 11, 3) := by decide +kernel
theorem dX1_shift_13 : decode cX1_shift 13 = .ok (.aload_n 0, 1) := by decide +kernel
theorem dX1_shift_14 : decode cX1_shift 14 = .ok (.iload_n 1, 1) := by decide +kernel
theorem dX1_shift_15 : decode cX1_shift 15 = .ok (.invokevirtual 94, 3) := by decide +kernel
theorem dX1_shift_18 : decode cX1_shift 18 = .ok (.goto 4, 3) := by decide +kernel
theorem dX1_shift_21 : decode cX1_shift 21 = .ok (.iconst 0, 1) := by decide +kernel
theorem dX1_shift_22 : decode cX1_shift 22 = .ok (.ireturn, 1) := by decide +kernel
set_option maxRecDepth 20000 in
theorem ggX1_isAdrift_X1_isHour : GoodIn wsX1_isAdrift wsX1_isHour := goodIn_r _ [4, 5, 6, 3, 7] (by decide +kernel) (by decide +kernel)
set_option maxRecDepth 20000 in
theorem gX1_isAdrift_X1_isHour : GoodIn wsX1_isAdrift (va_wsS RX1 74 yX1_isHour wsX1_isHour) := goodIn_app (goodIn_of _ (by decide +kernel)) ggX1_isAdrift_X1_isHour
set_option maxRecDepth 20000 in
theorem ggX1_isAdrift_X1_goes : GoodIn wsX1_isAdrift wsX1_goes := goodIn_r _ [11, 12, 51, 52, 53, 54, 55, 56, 57, 58, 59, 60, 61, 62, 63, 64, 65, 66] (by decide +kernel) (by decide +kernel)
set_option maxRecDepth 20000 in
theorem gX1_isAdrift_X1_goes : GoodIn wsX1_isAdrift (wsV RX1 62 RX1 yX1_goes wsX1_goes) := goodIn_app (goodIn_of _ (by decide +kernel)) ggX1_isAdrift_X1_goes
set_option maxRecDepth 20000 in
theorem ggX1_isAdrift_X1_drifts : GoodIn wsX1_isAdrift wsX1_drifts := goodIn_r _ [16, 17, 18, 19, 3, 20, 21, 22, 23, 24, 25, 26, 27, 28, 29, 30, 31, 32, 33, 34, 35, 36, 37, 38, 39, 40, 41, 42, 43, 44, 45, 46, 47, 48, 49, 50, 51, 52, 53, 54, 55, 56, 57, 58, 59, 60, 61, 62, 63, 64, 65, 66] (by decide +kernel) (by decide +kernel)
set_option maxRecDepth 20000 in
theorem gX1_isAdrift_X1_drifts : GoodIn wsX1_isAdrift (wsV RX1 98 RX1 yX1_drifts wsX1_drifts) := goodIn_app (goodIn_of _ (by decide +kernel)) ggX1_isAdrift_X1_drifts
theorem dX1_isAdrift_0 : decode cX1_isAdrift 0 = .ok (.aload_n 0, 1) := by decide +kernel
theorem dX1_isAdrift_1 : decode cX1_isAdrift 1 = .ok (.iload_n 1, 1) := by decide +kernel
theorem dX1_isAdrift_2 : decode cX1_isAdrift 2 = .ok (.invokestatic 74, 3) := by decide +kernel
theorem dX1_isAdrift_5 : decode cX1_isAdrift 5 = .ok (.iconst 1, 1) := by decide +kernel
theorem dX1_isAdrift_6 : decode cX1_isAdrift 6 = .ok (.iconst 1, 1) := by decide +kernel
theorem dX1_isAdrift_7 : decode cX1_isAdrift 7 = .ok (.invokevirtual 62, 3) := by decide +kernel
theorem dX1_isAdrift_10 : decode cX1_isAdrift 10 = .ok (.ifCond .eq 15, 3) := by decide +kernel
theorem dX1_isAdrift_13 : decode cX1_isAdrift 13 = .ok (.aload_n 0, 1) := by decide +kernel
theorem dX1_isAdrift_14 : decode cX1_isAdrift 14 = .ok (.iload_n 1, 1) := by decide +kernel
theorem dX1_isAdrift_15 : decode cX1_isAdrift 15 = .ok (.invokevirtual 98, 3) := by decide +kernel
theorem dX1_isAdrift_18 : decode cX1_isAdrift 18 = .ok (.ifCond .eq 7, 3) := by decide +kernel
theorem dX1_isAdrift_21 : decode cX1_isAdrift 21 = .ok (.iconst 1, 1) := by decide +kernel
theorem dX1_isAdrift_22 : decode cX1_isAdrift 22 = .ok (.goto 4, 3) := by decide +kernel
theorem dX1_isAdrift_25 : decode cX1_isAdrift 25 = .ok (.iconst 0, 1) := by decide +kernel
theorem dX1_isAdrift_26 : decode cX1_isAdrift 26 = .ok (.ireturn, 1) := by decide +kernel
set_option maxRecDepth 20000 in
theorem ggX1_length_X1_isLine : GoodIn wsX1_length wsX1_isLine := goodIn_r _ [5, 6, 7, 8, 4, 9, 51, 52, 53, 54, 55, 56, 57, 58, 59, 60, 61, 62, 63, 64, 65, 66] (by decide +kernel) (by decide +kernel)
set_option maxRecDepth 20000 in
theorem gX1_length_X1_isLine : GoodIn wsX1_length (wsV RX1 70 RX1 yX1_isLine wsX1_isLine) := goodIn_app (goodIn_of _ (by decide +kernel)) ggX1_length_X1_isLine
set_option maxRecDepth 20000 in
theorem ggX1_length_X1_isHour : GoodIn wsX1_length wsX1_isHour := goodIn_r _ [12, 7, 8, 4, 9] (by decide +kernel) (by decide +kernel)
end
section
set_option maxRecDepth 20000 in
theorem gX1_length_X1_isHour : GoodIn wsX1_length (va_wsS RX1 74 yX1_isHour wsX1_isHour) := goodIn_app (goodIn_of _ (by decide +kernel)) ggX1_length_X1_isHour
set_option maxRecDepth 20000 in
theorem ggX1_length_X1_goes : GoodIn wsX1_length wsX1_goes := goodIn_r _ [16, 17, 51, 52, 53, 54, 55, 56, 57, 58, 59, 60, 61, 62, 63, 64, 65, 66] (by decide +kernel) (by decide +kernel)
set_option maxRecDepth 20000 in
theorem gX1_length_X1_goes : GoodIn wsX1_length (wsV RX1 62 RX1 yX1_goes wsX1_goes) := goodIn_app (goodIn_of _ (by decide +kernel)) ggX1_length_X1_goes
set_option maxRecDepth 20000 in
theorem ggX1_length_X1_shiftAt : GoodIn wsX1_length wsX1_shiftAt := goodIn_r _ [21, 22, 23, 24, 4, 25, 26, 27, 6, 28, 29, 30, 31, 32, 33, 34, 35, 36, 37, 38, 39, 40, 41, 42, 43, 44, 45, 46, 47, 48, 49, 50, 51, 52, 53, 54, 55, 56, 57, 58, 59, 60, 61, 62, 63, 64, 65, 66] (by decide +kernel) (by decide +kernel)
set_option maxRecDepth 20000 in
theorem gX1_length_X1_shiftAt : GoodIn wsX1_length (wsV RX1 94 RX1 yX1_shiftAt wsX1_shiftAt) := goodIn_app (goodIn_of _ (by decide +kernel)) ggX1_length_X1_shiftAt
set_option maxRecDepth 20000 in
theorem ggX1_length_X1_lengthAt : GoodIn wsX1_length wsX1_lengthAt := goodIn_r _ [31, 32, 33, 34, 35, 36, 4, 37, 38, 39, 40, 41, 42, 43, 51, 52, 53, 54, 55, 56, 57, 58, 59, 60, 61, 62, 63, 64, 65, 66] (by decide +kernel) (by decide +kernel)
set_option maxRecDepth 20000 in
theorem gX1_length_X1_lengthAt : GoodIn wsX1_length (wsV RX1 84 RX1 yX1_lengthAt wsX1_lengthAt) := goodIn_app (goodIn_of _ (by decide +kernel)) ggX1_length_X1_lengthAt
theorem dX1_length_0 : decode cX1_length 0 = .ok (.aload_n 0, 1) := by decide +kernel
theorem dX1_length_1 : decode cX1_length 1 = .ok (.aload_n 0, 1) := by decide +kernel
theorem dX1_length_2 : decode cX1_length 2 = .ok (.iload_n 1, 1) := by decide +kernel
theorem dX1_length_3 : decode cX1_length 3 = .ok (.invokevirtual 70, 3) := by decide +kernel
theorem dX1_length_6 : decode cX1_length 6 = .ok (.ifCond .eq 14, 3) := by decide +kernel
theorem dX1_length_9 : decode cX1_length 9 = .ok (.iload_n 2, 1) := by decide +kernel
theorem dX1_length_10 : decode cX1_length 10 = .ok (.invokestatic 74, 3) := by decide +kernel
theorem dX1_length_13 : decode cX1_length 13 = .ok (.ifCond .eq 7, 3) := by decide +kernel
theorem dX1_length_16 : decode cX1_length 16 = .ok (.iconst 1, 1) := by decide +kernel
theorem dX1_length_17 : decode cX1_length 17 = .ok (.goto 4, 3) := by decide +kernel
theorem dX1_length_20 : decode cX1_length 20 = .ok (.iconst 0, 1) := by decide +kernel
theorem dX1_length_21 : decode cX1_length 21 = .ok (.iconst 1, 1) := by decide +kernel
theorem dX1_length_22 : decode cX1_length 22 = .ok (.iconst 1, 1) := by decide +kernel
theorem dX1_length_23 : decode cX1_length 23 = .ok (.invokevirtual 62, 3) := by decide +kernel
theorem dX1_length_26 : decode cX1_length 26 = .ok (.ifCond .eq 17, 3) := by decide +kernel
theorem dX1_length_29 : decode cX1_length 29 = .ok (.aload_n 0, 1) := by decide +kernel
theorem dX1_length_30 : decode cX1_length 30 = .ok (.iload_n 1, 1) := by decide +kernel
theorem dX1_length_31 : decode cX1_length 31 = .ok (.iload_n 2, 1) := by decide +kernel
theorem dX1_length_32 : decode cX1_length 32 = .ok (.aload_n 0, 1) := by decide +kernel
theorem dX1_length_33 : decode cX1_length 33 = .ok (.iload_n 2, 1) := by decide +kernel
theorem dX1_length_34 : decode cX1_length 34 = .ok (.invokevirtual 94, 3) := by decide +kernel
theorem dX1_length_37 : decode cX1_length 37 = .ok (.invokevirtual 84, 3) := by decide +kernel
theorem dX1_length_40 : decode cX1_length 40 = .ok (.goto 4, 3) := by decide +kernel
theorem dX1_length_43 : decode cX1_length 43 = .ok (.iconst 0, 1) := by decide +kernel
theorem dX1_length_44 : decode cX1_length 44 = .ok (.ireturn, 1) := by decide +kernel
set_option maxRecDepth 20000 in
theorem ggX1_tension_X1_isLine : GoodIn wsX1_tension wsX1_isLine := goodIn_r _ [5, 6, 7, 8, 4, 9, 51, 52, 53, 54, 55, 56, 57, 58, 59, 60, 61, 62, 63, 64, 65, 66] (by decide +kernel) (by decide +kernel)
set_option maxRecDepth 20000 in
theorem gX1_tension_X1_isLine : GoodIn wsX1_tension (wsV RX1 70 RX1 yX1_isLine wsX1_isLine) := goodIn_app (goodIn_of _ (by decide +kernel)) ggX1_tension_X1_isLine
set_option maxRecDepth 20000 in
theorem ggX1_tension_X1_isHour : GoodIn wsX1_tension wsX1_isHour := goodIn_r _ [12, 7, 8, 4, 9] (by decide +kernel) (by decide +kernel)
set_option maxRecDepth 20000 in
theorem gX1_tension_X1_isHour : GoodIn wsX1_tension (va_wsS RX1 74 yX1_isHour wsX1_isHour) := goodIn_app (goodIn_of _ (by decide +kernel)) ggX1_tension_X1_isHour
set_option maxRecDepth 20000 in
theorem ggX1_tension_X1_goes : GoodIn wsX1_tension wsX1_goes := goodIn_r _ [16, 17, 51, 52, 53, 54, 55, 56, 57, 58, 59, 60, 61, 62, 63, 64, 65, 66] (by decide +kernel) (by decide +kernel)
set_option maxRecDepth 20000 in
theorem gX1_tension_X1_goes : GoodIn wsX1_tension (wsV RX1 62 RX1 yX1_goes wsX1_goes) := goodIn_app (goodIn_of _ (by decide +kernel)) ggX1_tension_X1_goes
set_option maxRecDepth 20000 in
theorem ggX1_tension_X1_shiftAt : GoodIn wsX1_tension wsX1_shiftAt := goodIn_r _ [21, 22, 23, 24, 4, 25, 26, 27, 6, 28, 29, 30, 31, 32, 33, 34, 35, 36, 37, 38, 39, 40, 41, 42, 43, 44, 45, 46, 47, 48, 49, 50, 51, 52, 53, 54, 55, 56, 57, 58, 59, 60, 61, 62, 63, 64, 65, 66] (by decide +kernel) (by decide +kernel)
set_option maxRecDepth 20000 in
theorem gX1_tension_X1_shiftAt : GoodIn wsX1_tension (wsV RX1 94 RX1 yX1_shiftAt wsX1_shiftAt) := goodIn_app (goodIn_of _ (by decide +kernel)) ggX1_tension_X1_shiftAt
set_option maxRecDepth 20000 in
theorem ggX1_tension_X1_tensionAt : GoodIn wsX1_tension wsX1_tensionAt := goodIn_r _ [47, 48, 49, 50, 28, 29, 30, 4, 31, 32, 33, 34, 35, 36, 37, 38, 39, 40, 41, 42, 43, 51, 52, 53, 54, 55, 56, 57, 58, 59, 60, 61, 62, 63, 64, 65, 66] (by decide +kernel) (by decide +kernel)
set_option maxRecDepth 20000 in
theorem gX1_tension_X1_tensionAt : GoodIn wsX1_tension (wsV RX1 88 RX1 yX1_tensionAt wsX1_tensionAt) := goodIn_app (goodIn_of _ (by decide +kernel)) ggX1_tension_X1_tensionAt
theorem dX1_tension_0 : decode cX1_tension 0 = .ok (.aload_n 0, 1) := by decide +kernel
theorem dX1_tension_1 : decode cX1_tension 1 = .ok (.aload_n 0, 1) := by decide +kernel
theorem dX1_tension_2 : decode cX1_tension 2 = .ok (.iload_n 1, 1) := by decide +kernel
theorem dX1_tension_3 : decode cX1_tension 3 = .ok (.invokevirtual 70, 3) := by decide +kernel
theorem dX1_tension_6 : decode cX1_tension 6 = .ok (.ifCond .eq 14, 3) := by decide +kernel
theorem dX1_tension_9 : decode cX1_tension 9 = .ok (.iload_n 2, 1) := by decide +kernel
theorem dX1_tension_10 : decode cX1_tension 10 = .ok (.invokestatic 74, 3) := by decide +kernel
theorem dX1_tension_13 : decode cX1_tension 13 = .ok (.ifCond .eq 7, 3) := by decide +kernel
theorem dX1_tension_16 : decode cX1_tension 16 = .ok (.iconst 1, 1) := by decide +kernel
theorem dX1_tension_17 : decode cX1_tension 17 = .ok (.goto 4, 3) := by decide +kernel
theorem dX1_tension_20 : decode cX1_tension 20 = .ok (.iconst 0, 1) := by decide +kernel
theorem dX1_tension_21 : decode cX1_tension 21 = .ok (.iconst 1, 1) := by decide +kernel
theorem dX1_tension_22 : decode cX1_tension 22 = .ok (.iconst 1, 1) := by decide +kernel
theorem dX1_tension_23 : decode cX1_tension 23 = .ok (.invokevirtual 62, 3) := by decide +kernel
theorem dX1_tension_26 : decode cX1_tension 26 = .ok (.ifCond .eq 17, 3) := by decide +kernel
theorem dX1_tension_29 : decode cX1_tension 29 = .ok (.aload_n 0, 1) := by decide +kernel
theorem dX1_tension_30 : decode cX1_tension 30 = .ok (.iload_n 1, 1) := by decide +kernel
theorem dX1_tension_31 : decode cX1_tension 31 = .ok (.iload_n 2, 1) := by decide +kernel
theorem dX1_tension_32 : decode cX1_tension 32 = .ok (.aload_n 0, 1) := by decide +kernel
theorem dX1_tension_33 : decode cX1_tension 33 = .ok (.iload_n 2, 1) := by decide +kernel
theorem dX1_tension_34 : decode cX1_tension 34 = .ok (.invokevirtual 94, 3) := by decide +kernel
theorem dX1_tension_37 : decode cX1_tension 37 = .ok (.invokevirtual 88, 3) := by decide +kernel
theorem dX1_tension_40 : decode cX1_tension 40 = .ok (.goto 4, 3) := by decide +kernel
theorem dX1_tension_43 : decode cX1_tension 43 = .ok (.iconst 0, 1) := by decide +kernel
theorem dX1_tension_44 : decode cX1_tension 44 = .ok (.ireturn, 1) := by decide +kernel
set_option maxRecDepth 20000 in
theorem ggX1_sumOn_X1_tensionAt : GoodIn wsX1_sumOn wsX1_tensionAt := goodIn_r _ [7, 8, 9, 10, 11, 12, 13, 6, 14, 15, 16, 17, 18, 19, 20, 21, 2, 22, 23, 24, 25, 26, 27, 28, 29, 30, 31, 32, 33, 34, 35, 36, 37, 38, 39, 40, 41] (by decide +kernel) (by decide +kernel)
set_option maxRecDepth 20000 in
theorem gX1_sumOn_X1_tensionAt : GoodIn wsX1_sumOn (wsV RX1 88 RX1 yX1_tensionAt wsX1_tensionAt) := goodIn_app (goodIn_of _ (by decide +kernel)) ggX1_sumOn_X1_tensionAt
theorem dX1_sumOn_0 : decode cX1_sumOn 0 = .ok (.iconst 0, 1) := by decide +kernel
theorem dX1_sumOn_1 : decode cX1_sumOn 1 = .ok (.istore 4, 2) := by decide +kernel
theorem dX1_sumOn_3 : decode cX1_sumOn 3 = .ok (.iconst 0, 1) := by decide +kernel
theorem dX1_sumOn_4 : decode cX1_sumOn 4 = .ok (.istore 5, 2) := by decide +kernel
theorem dX1_sumOn_6 : decode cX1_sumOn 6 = .ok (.iload 5, 2) := by decide +kernel
theorem dX1_sumOn_8 : decode cX1_sumOn 8 = .ok (.aload_n 0, 1) := by decide +kernel
theorem dX1_sumOn_9 : decode cX1_sumOn 9 = .ok (.getfield 55, 3) := by decide +kernel
theorem dX1_sumOn_12 : decode cX1_sumOn 12 = .ok (.if_icmp .ge 37, 3) := by decide +kernel
theorem dX1_sumOn_15 : decode cX1_sumOn 15 = .ok (.iload 4, 2) := by decide +kernel
theorem dX1_sumOn_17 : decode cX1_sumOn 17 = .ok (.aload_n 0, 1) := by decide +kernel
theorem dX1_sumOn_18 : decode cX1_sumOn 18 = .ok (.getfield 19, 3) := by decide +kernel
theorem dX1_sumOn_21 : decode cX1_sumOn 21 = .ok (.iload 5, 2) := by decide +kernel
theorem dX1_sumOn_23 : decode cX1_sumOn 23 = .ok (.iaload, 1) := by decide +kernel
theorem dX1_sumOn_24 : decode cX1_sumOn 24 = .ok (.iload_n 1, 1) := by decide +kernel
theorem dX1_sumOn_25 : decode cX1_sumOn 25 = .ok (.if_icmp .ne 14, 3) := by decide +kernel
theorem dX1_sumOn_28 : decode cX1_sumOn 28 = .ok (.aload_n 0, 1) := by decide +kernel
theorem dX1_sumOn_29 : decode cX1_sumOn 29 = .ok (.iload 5, 2) := by decide +kernel
theorem dX1_sumOn_31 : decode cX1_sumOn 31 = .ok (.iload_n 2, 1) := by decide +kernel
theorem dX1_sumOn_32 : decode cX1_sumOn 32 = .ok (.iload_n 3, 1) := by decide +kernel
theorem dX1_sumOn_33 : decode cX1_sumOn 33 = .ok (.invokevirtual 88, 3) := by decide +kernel
theorem dX1_sumOn_36 : decode cX1_sumOn 36 = .ok (.goto 4, 3) := by decide +kernel
theorem dX1_sumOn_39 : decode cX1_sumOn 39 = .ok (.iconst 0, 1) := by decide +kernel
theorem dX1_sumOn_40 : decode cX1_sumOn 40 = .ok (.iadd, 1) := by decide +kernel
theorem dX1_sumOn_41 : decode cX1_sumOn 41 = .ok (.istore 4, 2) := by decide +kernel
theorem dX1_sumOn_43 : decode cX1_sumOn 43 = .ok (.iinc 5 1, 3) := by decide +kernel
theorem dX1_sumOn_46 : decode cX1_sumOn 46 = .ok (.goto (-40), 3) := by decide +kernel
theorem dX1_sumOn_49 : decode cX1_sumOn 49 = .ok (.iload 4, 2) := by decide +kernel
theorem dX1_sumOn_51 : decode cX1_sumOn 51 = .ok (.ireturn, 1) := by decide +kernel
set_option maxRecDepth 20000 in
theorem ggX1_onBollard_X1_in : GoodIn wsX1_onBollard wsX1_in := goodIn_r _ [5] (by decide +kernel) (by decide +kernel)
set_option maxRecDepth 20000 in
theorem gX1_onBollard_X1_in : GoodIn wsX1_onBollard (va_wsS RX1 51 yX1_in wsX1_in) := goodIn_app (goodIn_of _ (by decide +kernel)) ggX1_onBollard_X1_in
set_option maxRecDepth 20000 in
theorem ggX1_onBollard_X1_isHour : GoodIn wsX1_onBollard wsX1_isHour := goodIn_r _ [8, 2, 3, 4, 5] (by decide +kernel) (by decide +kernel)
set_option maxRecDepth 20000 in
theorem gX1_onBollard_X1_isHour : GoodIn wsX1_onBollard (va_wsS RX1 74 yX1_isHour wsX1_isHour) := goodIn_app (goodIn_of _ (by decide +kernel)) ggX1_onBollard_X1_isHour
set_option maxRecDepth 20000 in
theorem ggX1_onBollard_X1_goes : GoodIn wsX1_onBollard wsX1_goes := goodIn_r _ [12, 13, 52, 53, 54, 55, 56, 57, 58, 59, 60, 61, 62, 63, 64, 65, 66, 67] (by decide +kernel) (by decide +kernel)
set_option maxRecDepth 20000 in
theorem gX1_onBollard_X1_goes : GoodIn wsX1_onBollard (wsV RX1 62 RX1 yX1_goes wsX1_goes) := goodIn_app (goodIn_of _ (by decide +kernel)) ggX1_onBollard_X1_goes
set_option maxRecDepth 20000 in
theorem ggX1_onBollard_X1_shiftAt : GoodIn wsX1_onBollard wsX1_shiftAt := goodIn_r _ [17, 18, 19, 20, 4, 21, 22, 23, 24, 25, 26, 27, 28, 29, 30, 31, 32, 33, 34, 35, 36, 37, 38, 39, 40, 41, 42, 43, 44, 45, 46, 47, 52, 53, 54, 55, 56, 57, 58, 59, 60, 61, 62, 63, 64, 65, 66, 67] (by decide +kernel) (by decide +kernel)
set_option maxRecDepth 20000 in
theorem gX1_onBollard_X1_shiftAt : GoodIn wsX1_onBollard (wsV RX1 94 RX1 yX1_shiftAt wsX1_shiftAt) := goodIn_app (goodIn_of _ (by decide +kernel)) ggX1_onBollard_X1_shiftAt
set_option maxRecDepth 20000 in
theorem ggX1_onBollard_X1_sumOn : GoodIn wsX1_onBollard wsX1_sumOn := goodIn_r _ [51, 24, 36, 41, 42, 43, 4, 44, 45, 46, 47, 25, 26, 27, 28, 29, 30, 31, 32, 33, 34, 35, 37, 38, 39, 40, 52, 53, 54, 55, 56, 57, 58, 59, 60, 61, 62, 63, 64, 65, 66, 67] (by decide +kernel) (by decide +kernel)
set_option maxRecDepth 20000 in
theorem gX1_onBollard_X1_sumOn : GoodIn wsX1_onBollard (wsV RX1 101 RX1 yX1_sumOn wsX1_sumOn) := goodIn_app (goodIn_of _ (by decide +kernel)) ggX1_onBollard_X1_sumOn
theorem dX1_onBollard_0 : decode cX1_onBollard 0 = .ok (.aload_n 0, 1) := by decide +kernel
theorem dX1_onBollard_1 : decode cX1_onBollard 1 = .ok (.iload_n 1, 1) := by decide +kernel
theorem dX1_onBollard_2 : decode cX1_onBollard 2 = .ok (.iconst 0, 1) := by decide +kernel
theorem dX1_onBollard_3 : decode cX1_onBollard 3 = .ok (.aload_n 0, 1) := by decide +kernel
theorem dX1_onBollard_4 : decode cX1_onBollard 4 = .ok (.getfield 59, 3) := by decide +kernel
theorem dX1_onBollard_7 : decode cX1_onBollard 7 = .ok (.iconst 1, 1) := by decide +kernel
theorem dX1_onBollard_8 : decode cX1_onBollard 8 = .ok (.isub, 1) := by decide +kernel
theorem dX1_onBollard_9 : decode cX1_onBollard 9 = .ok (.invokestatic 51, 3) := by decide +kernel
theorem dX1_onBollard_12 : decode cX1_onBollard 12 = .ok (.ifCond .eq 14, 3) := by decide +kernel
theorem dX1_onBollard_15 : decode cX1_onBollard 15 = .ok (.iload_n 2, 1) := by decide +kernel
theorem dX1_onBollard_16 : decode cX1_onBollard 16 = .ok (.invokestatic 74, 3) := by decide +kernel
theorem dX1_onBollard_19 : decode cX1_onBollard 19 = .ok (.ifCond .eq 7, 3) := by decide +kernel
theorem dX1_onBollard_22 : decode cX1_onBollard 22 = .ok (.iconst 1, 1) := by decide +kernel
theorem dX1_onBollard_23 : decode cX1_onBollard 23 = .ok (.goto 4, 3) := by decide +kernel
theorem dX1_onBollard_26 : decode cX1_onBollard 26 = .ok (.iconst 0, 1) := by decide +kernel
theorem dX1_onBollard_27 : decode cX1_onBollard 27 = .ok (.iconst 1, 1) := by decide +kernel
theorem dX1_onBollard_28 : decode cX1_onBollard 28 = .ok (.iconst 1, 1) := by decide +kernel
theorem dX1_onBollard_29 : decode cX1_onBollard 29 = .ok (.invokevirtual 62, 3) := by decide +kernel
theorem dX1_onBollard_32 : decode cX1_onBollard 32 = .ok (.ifCond .eq 17, 3) := by decide +kernel
theorem dX1_onBollard_35 : decode cX1_onBollard 35 = .ok (.aload_n 0, 1) := by decide +kernel
theorem dX1_onBollard_36 : decode cX1_onBollard 36 = .ok (.iload_n 1, 1) := by decide +kernel
theorem dX1_onBollard_37 : decode cX1_onBollard 37 = .ok (.iload_n 2, 1) := by decide +kernel
theorem dX1_onBollard_38 : decode cX1_onBollard 38 = .ok (.aload_n 0, 1) := by decide +kernel
theorem dX1_onBollard_39 : decode cX1_onBollard 39 = .ok (.iload_n 2, 1) := by decide +kernel
theorem dX1_onBollard_40 : decode cX1_onBollard 40 = .ok (.invokevirtual 94, 3) := by decide +kernel
theorem dX1_onBollard_43 : decode cX1_onBollard 43 = .ok (.invokevirtual 101, 3) := by decide +kernel
theorem dX1_onBollard_46 : decode cX1_onBollard 46 = .ok (.goto 4, 3) := by decide +kernel
theorem dX1_onBollard_49 : decode cX1_onBollard 49 = .ok (.iconst 0, 1) := by decide +kernel
theorem dX1_onBollard_50 : decode cX1_onBollard 50 = .ok (.ireturn, 1) := by decide +kernel
set_option maxRecDepth 20000 in
theorem ggX1_holds_X1_shiftAt : GoodIn wsX1_holds wsX1_shiftAt := goodIn_r _ [11, 12, 13, 14, 10, 15, 16, 17, 1, 18, 19, 20, 21, 22, 23, 24, 25, 26, 27, 28, 29, 30, 31, 32, 33, 34, 35, 36, 37, 38, 39, 40, 49, 50, 51, 52, 53, 54, 55, 56, 57, 58, 59, 60, 61, 62, 63, 64] (by decide +kernel) (by decide +kernel)
set_option maxRecDepth 20000 in
theorem gX1_holds_X1_shiftAt : GoodIn wsX1_holds (wsV RX1 94 RX1 yX1_shiftAt wsX1_shiftAt) := goodIn_app (goodIn_of _ (by decide +kernel)) ggX1_holds_X1_shiftAt
set_option maxRecDepth 20000 in
theorem ggX1_holds_X1_drifts : GoodIn wsX1_holds wsX1_drifts := goodIn_r _ [44, 7, 8, 9, 10, 11, 12, 13, 14, 15, 16, 17, 1, 18, 19, 20, 21, 22, 23, 24, 25, 26, 27, 28, 29, 30, 31, 32, 33, 34, 35, 36, 37, 38, 39, 40, 49, 50, 51, 52, 53, 54, 55, 56, 57, 58, 59, 60, 61, 62, 63, 64] (by decide +kernel) (by decide +kernel)
set_option maxRecDepth 20000 in
theorem gX1_holds_X1_drifts : GoodIn wsX1_holds (wsV RX1 98 RX1 yX1_drifts wsX1_drifts) := goodIn_app (goodIn_of _ (by decide +kernel)) ggX1_holds_X1_drifts
set_option maxRecDepth 20000 in
theorem ggX1_holds_X1_tensionAt : GoodIn wsX1_holds wsX1_tensionAt := goodIn_r _ [37, 38, 39, 40, 18, 19, 20, 10, 21, 22, 23, 24, 25, 26, 27, 28, 29, 30, 31, 32, 33, 49, 50, 51, 52, 53, 54, 55, 56, 57, 58, 59, 60, 61, 62, 63, 64] (by decide +kernel) (by decide +kernel)
set_option maxRecDepth 20000 in
theorem gX1_holds_X1_tensionAt : GoodIn wsX1_holds (wsV RX1 88 RX1 yX1_tensionAt wsX1_tensionAt) := goodIn_app (goodIn_of _ (by decide +kernel)) ggX1_holds_X1_tensionAt
set_option maxRecDepth 20000 in
theorem ggX1_holds_X1_sumOn : GoodIn wsX1_holds wsX1_sumOn := goodIn_r _ [48, 1, 29, 34, 35, 36, 10, 37, 38, 39, 40, 18, 19, 20, 21, 22, 23, 24, 25, 26, 27, 28, 30, 31, 32, 33, 49, 50, 51, 52, 53, 54, 55, 56, 57, 58, 59, 60, 61, 62, 63, 64] (by decide +kernel) (by decide +kernel)
set_option maxRecDepth 20000 in
theorem gX1_holds_X1_sumOn : GoodIn wsX1_holds (wsV RX1 101 RX1 yX1_sumOn wsX1_sumOn) := goodIn_app (goodIn_of _ (by decide +kernel)) ggX1_holds_X1_sumOn
theorem dX1_holds_0 : decode cX1_holds 0 = .ok (.aload_n 0, 1) := by decide +kernel
theorem dX1_holds_1 : decode cX1_holds 1 = .ok (.iload_n 1, 1) := by decide +kernel
theorem dX1_holds_2 : decode cX1_holds 2 = .ok (.invokevirtual 94, 3) := by decide +kernel
theorem dX1_holds_5 : decode cX1_holds 5 = .ok (.istore_n 2, 1) := by decide +kernel
theorem dX1_holds_6 : decode cX1_holds 6 = .ok (.aload_n 0, 1) := by decide +kernel
theorem dX1_holds_7 : decode cX1_holds 7 = .ok (.iload_n 1, 1) := by decide +kernel
theorem dX1_holds_8 : decode cX1_holds 8 = .ok (.invokevirtual 98, 3) := by decide +kernel
theorem dX1_holds_11 : decode cX1_holds 11 = .ok (.ifCond .ne 7, 3) := by decide +kernel
theorem dX1_holds_14 : decode cX1_holds 14 = .ok (.iconst 1, 1) := by decide +kernel
theorem dX1_holds_15 : decode cX1_holds 15 = .ok (.goto 4, 3) := by decide +kernel
theorem dX1_holds_18 : decode cX1_holds 18 = .ok (.iconst 0, 1) := by decide +kernel
theorem dX1_holds_19 : decode cX1_holds 19 = .ok (.istore_n 3, 1) := by decide +kernel
theorem dX1_holds_20 : decode cX1_holds 20 = .ok (.iconst 0, 1) := by decide +kernel
theorem dX1_holds_21 : decode cX1_holds 21 = .ok (.istore 4, 2) := by decide +kernel
theorem dX1_holds_23 : decode cX1_holds 23 = .ok (.iload 4, 2) := by decide +kernel
theorem dX1_holds_25 : decode cX1_holds 25 = .ok (.aload_n 0, 1) := by decide +kernel
theorem dX1_holds_26 : decode cX1_holds 26 = .ok (.getfield 55, 3) := by decide +kernel
theorem dX1_holds_29 : decode cX1_holds 29 = .ok (.if_icmp .ge 48, 3) := by decide +kernel
theorem dX1_holds_32 : decode cX1_holds 32 = .ok (.iload_n 3, 1) := by decide +kernel
theorem dX1_holds_33 : decode cX1_holds 33 = .ok (.ifCond .eq 36, 3) := by decide +kernel
theorem dX1_holds_36 : decode cX1_holds 36 = .ok (.ldc2_w 104, 3) := by decide +kernel
theorem dX1_holds_39 : decode cX1_holds 39 = .ok (.aload_n 0, 1) := by decide +kernel
theorem dX1_holds_40 : decode cX1_holds 40 = .ok (.iload 4, 2) := by decide +kernel
theorem dX1_holds_42 : decode cX1_holds 42 = .ok (.iload_n 1, 1) := by decide +kernel
theorem dX1_holds_43 : decode cX1_holds 43 = .ok (.iload_n 2, 1) := by decide +kernel
theorem dX1_holds_44 : decode cX1_holds 44 = .ok (.invokevirtual 88, 3) := by decide +kernel
theorem dX1_holds_47 : decode cX1_holds 47 = .ok (.i2l, 1) := by decide +kernel
theorem dX1_holds_48 : decode cX1_holds 48 = .ok (.lmul, 1) := by decide +kernel
theorem dX1_holds_49 : decode cX1_holds 49 = .ok (.ldc2_w 106, 3) := by decide +kernel
theorem dX1_holds_52 : decode cX1_holds 52 = .ok (.aload_n 0, 1) := by decide +kernel
theorem dX1_holds_53 : decode cX1_holds 53 = .ok (.getfield 25, 3) := by decide +kernel
theorem dX1_holds_56 : decode cX1_holds 56 = .ok (.iload 4, 2) := by decide +kernel
theorem dX1_holds_58 : decode cX1_holds 58 = .ok (.iaload, 1) := by decide +kernel
theorem dX1_holds_59 : decode cX1_holds 59 = .ok (.i2l, 1) := by decide +kernel
theorem dX1_holds_60 : decode cX1_holds 60 = .ok (.lmul, 1) := by decide +kernel
theorem dX1_holds_61 : decode cX1_holds 61 = .ok (.lcmp, 1) := by decide +kernel
theorem dX1_holds_62 : decode cX1_holds 62 = .ok (.ifCond .gt 7, 3) := by decide +kernel
theorem dX1_holds_65 : decode cX1_holds 65 = .ok (.iconst 1, 1) := by decide +kernel
theorem dX1_holds_66 : decode cX1_holds 66 = .ok (.goto 4, 3) := by decide +kernel
theorem dX1_holds_69 : decode cX1_holds 69 = .ok (.iconst 0, 1) := by decide +kernel
theorem dX1_holds_70 : decode cX1_holds 70 = .ok (.istore_n 3, 1) := by decide +kernel
theorem dX1_holds_71 : decode cX1_holds 71 = .ok (.iinc 4 1, 3) := by decide +kernel
theorem dX1_holds_74 : decode cX1_holds 74 = .ok (.goto (-51), 3) := by decide +kernel
theorem dX1_holds_77 : decode cX1_holds 77 = .ok (.iconst 0, 1) := by decide +kernel
theorem dX1_holds_78 : decode cX1_holds 78 = .ok (.istore 4, 2) := by decide +kernel
theorem dX1_holds_80 : decode cX1_holds 80 = .ok (.iload 4, 2) := by decide +kernel
theorem dX1_holds_82 : decode cX1_holds 82 = .ok (.aload_n 0, 1) := by decide +kernel
theorem dX1_holds_83 : decode cX1_holds 83 = .ok (.getfield 59, 3) := by decide +kernel
theorem dX1_holds_86 : decode cX1_holds 86 = .ok (.if_icmp .ge 37, 3) := by decide +kernel
theorem dX1_holds_89 : decode cX1_holds 89 = .ok (.iload_n 3, 1) := by decide +kernel
theorem dX1_holds_90 : decode cX1_holds 90 = .ok (.ifCond .eq 25, 3) := by decide +kernel
theorem dX1_holds_93 : decode cX1_holds 93 = .ok (.aload_n 0, 1) := by decide +kernel
theorem dX1_holds_94 : decode cX1_holds 94 = .ok (.iload 4, 2) := by decide +kernel
theorem dX1_holds_96 : decode cX1_holds 96 = .ok (.iload_n 1, 1) := by decide +kernel
theorem dX1_holds_97 : decode cX1_holds 97 = .ok (.iload_n 2, 1) := by decide +kernel
theorem dX1_holds_98 : decode cX1_holds 98 = .ok (.invokevirtual 101, 3) := by decide +kernel
theorem dX1_holds_101 : decode cX1_holds 101 = .ok (.aload_n 0, 1) := by decide +kernel
theorem dX1_holds_102 : decode cX1_holds 102 = .ok (.getfield 13, 3) := by decide +kernel
theorem dX1_holds_105 : decode cX1_holds 105 = .ok (.iload 4, 2) := by decide +kernel
theorem dX1_holds_107 : decode cX1_holds 107 = .ok (.iaload, 1) := by decide +kernel
theorem dX1_holds_108 : decode cX1_holds 108 = .ok (.if_icmp .gt 7, 3) := by decide +kernel
theorem dX1_holds_111 : decode cX1_holds 111 = .ok (.iconst 1, 1) := by decide +kernel
theorem dX1_holds_112 : decode cX1_holds 112 = .ok (.goto 4, 3) := by decide +kernel
theorem dX1_holds_115 : decode cX1_holds 115 = .ok (.iconst 0, 1) := by decide +kernel
theorem dX1_holds_116 : decode cX1_holds 116 = .ok (.istore_n 3, 1) := by decide +kernel
theorem dX1_holds_117 : decode cX1_holds 117 = .ok (.iinc 4 1, 3) := by decide +kernel
theorem dX1_holds_120 : decode cX1_holds 120 = .ok (.goto (-40), 3) := by decide +kernel
theorem dX1_holds_123 : decode cX1_holds 123 = .ok (.iload_n 3, 1) := by decide +kernel
theorem dX1_holds_124 : decode cX1_holds 124 = .ok (.ireturn, 1) := by decide +kernel
set_option maxRecDepth 20000 in
theorem ggX1_isSafe_X1_isHour : GoodIn wsX1_isSafe wsX1_isHour := goodIn_r _ [4, 5, 6, 3, 7] (by decide +kernel) (by decide +kernel)
set_option maxRecDepth 20000 in
theorem gX1_isSafe_X1_isHour : GoodIn wsX1_isSafe (va_wsS RX1 74 yX1_isHour wsX1_isHour) := goodIn_app (goodIn_of _ (by decide +kernel)) ggX1_isSafe_X1_isHour
set_option maxRecDepth 20000 in
theorem ggX1_isSafe_X1_goes : GoodIn wsX1_isSafe wsX1_goes := goodIn_r _ [11, 12, 64, 65, 66, 67, 68, 69, 70, 71, 72, 73, 74, 75, 76, 77, 78, 79] (by decide +kernel) (by decide +kernel)
set_option maxRecDepth 20000 in
theorem gX1_isSafe_X1_goes : GoodIn wsX1_isSafe (wsV RX1 62 RX1 yX1_goes wsX1_goes) := goodIn_app (goodIn_of _ (by decide +kernel)) ggX1_isSafe_X1_goes
set_option maxRecDepth 20000 in
theorem ggX1_isSafe_X1_holds : GoodIn wsX1_isSafe wsX1_holds := goodIn_r _ [16, 17, 18, 19, 20, 21, 22, 23, 24, 25, 3, 26, 27, 28, 29, 30, 31, 32, 33, 34, 35, 36, 37, 38, 39, 40, 41, 42, 43, 44, 45, 46, 47, 48, 49, 50, 51, 52, 53, 54, 55, 56, 57, 58, 59, 60, 61, 62, 63, 64, 65, 66, 67, 68, 69, 70, 71, 72, 73, 74, 75, 76, 77, 78, 79] (by decide +kernel) (by decide +kernel)
set_option maxRecDepth 20000 in
theorem gX1_isSafe_X1_holds : GoodIn wsX1_isSafe (wsV RX1 108 RX1 yX1_holds wsX1_holds) := goodIn_app (goodIn_of _ (by decide +kernel)) ggX1_isSafe_X1_holds
theorem dX1_isSafe_0 : decode cX1_isSafe 0 = .ok (.aload_n 0, 1) := by decide +kernel
theorem dX1_isSafe_1 : decode cX1_isSafe 1 = .ok (.iload_n 1, 1) := by decide +kernel
theorem dX1_isSafe_2 : decode cX1_isSafe 2 = .ok (.invokestatic 74, 3) := by decide +kernel
theorem dX1_isSafe_5 : decode cX1_isSafe 5 = .ok (.iconst 1, 1) := by decide +kernel
theorem dX1_isSafe_6 : decode cX1_isSafe 6 = .ok (.iconst 1, 1) := by decide +kernel
theorem dX1_isSafe_7 : decode cX1_isSafe 7 = .ok (.invokevirtual 62, 3) := by decide +kernel
theorem dX1_isSafe_10 : decode cX1_isSafe 10 = .ok (.ifCond .eq 15, 3) := by decide +kernel
theorem dX1_isSafe_13 : decode cX1_isSafe 13 = .ok (.aload_n 0, 1) := by decide +kernel
theorem dX1_isSafe_14 : decode cX1_isSafe 14 = .ok (.iload_n 1, 1) := by decide +kernel
theorem dX1_isSafe_15 : decode cX1_isSafe 15 = .ok (.invokevirtual 108, 3) := by decide +kernel
theorem dX1_isSafe_18 : decode cX1_isSafe 18 = .ok (.ifCond .eq 7, 3) := by decide +kernel
theorem dX1_isSafe_21 : decode cX1_isSafe 21 = .ok (.iconst 1, 1) := by decide +kernel
theorem dX1_isSafe_22 : decode cX1_isSafe 22 = .ok (.goto 4, 3) := by decide +kernel
theorem dX1_isSafe_25 : decode cX1_isSafe 25 = .ok (.iconst 0, 1) := by decide +kernel
theorem dX1_isSafe_26 : decode cX1_isSafe 26 = .ok (.ireturn, 1) := by decide +kernel
set_option maxRecDepth 20000 in
theorem ggX1_firstUnsafe_X1_isHour : GoodIn wsX1_firstUnsafe wsX1_isHour := goodIn_r _ [4, 5, 6, 3, 7] (by decide +kernel) (by decide +kernel)
set_option maxRecDepth 20000 in
theorem gX1_firstUnsafe_X1_isHour : GoodIn wsX1_firstUnsafe (va_wsS RX1 74 yX1_isHour wsX1_isHour) := goodIn_app (goodIn_of _ (by decide +kernel)) ggX1_firstUnsafe_X1_isHour
set_option maxRecDepth 20000 in
theorem ggX1_firstUnsafe_X1_goes : GoodIn wsX1_firstUnsafe wsX1_goes := goodIn_r _ [11, 12, 64, 65, 66, 67, 68, 69, 70, 71, 72, 73, 74, 75, 76, 77, 78, 79] (by decide +kernel) (by decide +kernel)
set_option maxRecDepth 20000 in
theorem gX1_firstUnsafe_X1_goes : GoodIn wsX1_firstUnsafe (wsV RX1 62 RX1 yX1_goes wsX1_goes) := goodIn_app (goodIn_of _ (by decide +kernel)) ggX1_firstUnsafe_X1_goes
set_option maxRecDepth 20000 in
theorem ggX1_firstUnsafe_X1_holds : GoodIn wsX1_firstUnsafe wsX1_holds := goodIn_r _ [16, 17, 18, 19, 20, 21, 22, 23, 24, 25, 3, 26, 27, 28, 29, 30, 31, 32, 33, 34, 35, 36, 37, 38, 39, 40, 41, 42, 43, 44, 45, 46, 47, 48, 49, 50, 51, 52, 53, 54, 55, 56, 57, 58, 59, 60, 61, 62, 63, 64, 65, 66, 67, 68, 69, 70, 71, 72, 73, 74, 75, 76, 77, 78, 79] (by decide +kernel) (by decide +kernel)
set_option maxRecDepth 20000 in
theorem gX1_firstUnsafe_X1_holds : GoodIn wsX1_firstUnsafe (wsV RX1 108 RX1 yX1_holds wsX1_holds) := goodIn_app (goodIn_of _ (by decide +kernel)) ggX1_firstUnsafe_X1_holds
theorem dX1_firstUnsafe_0 : decode cX1_firstUnsafe 0 = .ok (.aload_n 0, 1) := by decide +kernel
theorem dX1_firstUnsafe_1 : decode cX1_firstUnsafe 1 = .ok (.iload_n 1, 1) := by decide +kernel
theorem dX1_firstUnsafe_2 : decode cX1_firstUnsafe 2 = .ok (.invokestatic 74, 3) := by decide +kernel
theorem dX1_firstUnsafe_5 : decode cX1_firstUnsafe 5 = .ok (.iconst 1, 1) := by decide +kernel
theorem dX1_firstUnsafe_6 : decode cX1_firstUnsafe 6 = .ok (.iconst 1, 1) := by decide +kernel
theorem dX1_firstUnsafe_7 : decode cX1_firstUnsafe 7 = .ok (.invokevirtual 62, 3) := by decide +kernel
theorem dX1_firstUnsafe_10 : decode cX1_firstUnsafe 10 = .ok (.ifCond .ne 5, 3) := by decide +kernel
theorem dX1_firstUnsafe_13 : decode cX1_firstUnsafe 13 = .ok (.iconst 0, 1) := by decide +kernel
theorem dX1_firstUnsafe_14 : decode cX1_firstUnsafe 14 = .ok (.ireturn, 1) := by decide +kernel
theorem dX1_firstUnsafe_15 : decode cX1_firstUnsafe 15 = .ok (.iload_n 1, 1) := by decide +kernel
theorem dX1_firstUnsafe_16 : decode cX1_firstUnsafe 16 = .ok (.istore_n 2, 1) := by decide +kernel
theorem dX1_firstUnsafe_17 : decode cX1_firstUnsafe 17 = .ok (.iload_n 2, 1) := by decide +kernel
theorem dX1_firstUnsafe_18 : decode cX1_firstUnsafe 18 = .ok (.bipush 48, 2) := by decide +kernel
theorem dX1_firstUnsafe_20 : decode cX1_firstUnsafe 20 = .ok (.if_icmp .ge 19, 3) := by decide +kernel
theorem dX1_firstUnsafe_23 : decode cX1_firstUnsafe 23 = .ok (.aload_n 0, 1) := by decide +kernel
theorem dX1_firstUnsafe_24 : decode cX1_firstUnsafe 24 = .ok (.iload_n 2, 1) := by decide +kernel
theorem dX1_firstUnsafe_25 : decode cX1_firstUnsafe 25 = .ok (.invokevirtual 108, 3) := by decide +kernel
theorem dX1_firstUnsafe_28 : decode cX1_firstUnsafe 28 = .ok (.ifCond .ne 5, 3) := by decide +kernel
theorem dX1_firstUnsafe_31 : decode cX1_firstUnsafe 31 = .ok (.iload_n 2, 1) := by decide +kernel
theorem dX1_firstUnsafe_32 : decode cX1_firstUnsafe 32 = .ok (.ireturn, 1) := by decide +kernel
theorem dX1_firstUnsafe_33 : decode cX1_firstUnsafe 33 = .ok (.iinc 2 1, 3) := by decide +kernel
theorem dX1_firstUnsafe_36 : decode cX1_firstUnsafe 36 = .ok (.goto (-19), 3) := by decide +kernel
theorem dX1_firstUnsafe_39 : decode cX1_firstUnsafe 39 = .ok (.iconst (-1), 1) := by decide +kernel
theorem dX1_firstUnsafe_40 : decode cX1_firstUnsafe 40 = .ok (.ireturn, 1) := by decide +kernel
set_option maxRecDepth 20000 in
theorem ggX1_tend_X1_isLine : GoodIn wsX1_tend wsX1_isLine := goodIn_r _ [7, 8, 9, 10, 6, 11, 51, 52, 53, 54, 55, 56, 57, 58, 59, 60, 61, 62, 63, 64, 65, 66] (by decide +kernel) (by decide +kernel)
set_option maxRecDepth 20000 in
theorem gX1_tend_X1_isLine : GoodIn wsX1_tend (wsV RX1 70 RX1 yX1_isLine wsX1_isLine) := goodIn_app (goodIn_of _ (by decide +kernel)) ggX1_tend_X1_isLine
set_option maxRecDepth 20000 in
theorem ggX1_tend_X1_isHour : GoodIn wsX1_tend wsX1_isHour := goodIn_r _ [14, 9, 10, 6, 11] (by decide +kernel) (by decide +kernel)
set_option maxRecDepth 20000 in
theorem gX1_tend_X1_isHour : GoodIn wsX1_tend (va_wsS RX1 74 yX1_isHour wsX1_isHour) := goodIn_app (goodIn_of _ (by decide +kernel)) ggX1_tend_X1_isHour
set_option maxRecDepth 20000 in
theorem ggX1_tend_X1_in : GoodIn wsX1_tend wsX1_in := goodIn_r _ [11] (by decide +kernel) (by decide +kernel)
set_option maxRecDepth 20000 in
theorem gX1_tend_X1_in : GoodIn wsX1_tend (va_wsS RX1 51 yX1_in wsX1_in) := goodIn_app (goodIn_of _ (by decide +kernel)) ggX1_tend_X1_in
set_option maxRecDepth 20000 in
theorem ggX1_tend_X1_goes : GoodIn wsX1_tend wsX1_goes := goodIn_r _ [18, 19, 51, 52, 53, 54, 55, 56, 57, 58, 59, 60, 61, 62, 63, 64, 65, 66] (by decide +kernel) (by decide +kernel)
set_option maxRecDepth 20000 in
theorem gX1_tend_X1_goes : GoodIn wsX1_tend (wsV RX1 62 RX1 yX1_goes wsX1_goes) := goodIn_app (goodIn_of _ (by decide +kernel)) ggX1_tend_X1_goes
set_option maxRecDepth 20000 in
theorem ggX1_tend_X1_shiftAt : GoodIn wsX1_tend wsX1_shiftAt := goodIn_r _ [23, 24, 25, 26, 6, 27, 28, 29, 8, 30, 31, 32, 33, 34, 35, 36, 37, 38, 39, 40, 41, 42, 43, 44, 45, 46, 47, 48, 49, 2, 1, 50, 51, 52, 53, 54, 55, 56, 57, 58, 59, 60, 61, 62, 63, 64, 65, 66] (by decide +kernel) (by decide +kernel)
set_option maxRecDepth 20000 in
theorem gX1_tend_X1_shiftAt : GoodIn wsX1_tend (wsV RX1 94 RX1 yX1_shiftAt wsX1_shiftAt) := goodIn_app (goodIn_of _ (by decide +kernel)) ggX1_tend_X1_shiftAt
set_option maxRecDepth 20000 in
theorem ggX1_tend_X1_lengthAt : GoodIn wsX1_tend wsX1_lengthAt := goodIn_r _ [33, 34, 35, 36, 37, 38, 6, 39, 40, 41, 42, 43, 44, 45, 51, 52, 53, 54, 55, 56, 57, 58, 59, 60, 61, 62, 63, 64, 65, 66] (by decide +kernel) (by decide +kernel)
set_option maxRecDepth 20000 in
theorem gX1_tend_X1_lengthAt : GoodIn wsX1_tend (wsV RX1 84 RX1 yX1_lengthAt wsX1_lengthAt) := goodIn_app (goodIn_of _ (by decide +kernel)) ggX1_tend_X1_lengthAt
theorem dX1_tend_0 : decode cX1_tend 0 = .ok (.aload_n 0, 1) := by decide +kernel
theorem dX1_tend_1 : decode cX1_tend 1 = .ok (.iload_n 1, 1) := by decide +kernel
theorem dX1_tend_2 : decode cX1_tend 2 = .ok (.invokevirtual 70, 3) := by decide +kernel
theorem dX1_tend_5 : decode cX1_tend 5 = .ok (.ifCond .eq 14, 3) := by decide +kernel
theorem dX1_tend_8 : decode cX1_tend 8 = .ok (.iload_n 2, 1) := by decide +kernel
theorem dX1_tend_9 : decode cX1_tend 9 = .ok (.invokestatic 74, 3) := by decide +kernel
theorem dX1_tend_12 : decode cX1_tend 12 = .ok (.ifCond .eq 7, 3) := by decide +kernel
theorem dX1_tend_15 : decode cX1_tend 15 = .ok (.iconst 1, 1) := by decide +kernel
theorem dX1_tend_16 : decode cX1_tend 16 = .ok (.goto 4, 3) := by decide +kernel
theorem dX1_tend_19 : decode cX1_tend 19 = .ok (.iconst 0, 1) := by decide +kernel
theorem dX1_tend_20 : decode cX1_tend 20 = .ok (.istore 4, 2) := by decide +kernel
theorem dX1_tend_22 : decode cX1_tend 22 = .ok (.aload_n 0, 1) := by decide +kernel
theorem dX1_tend_23 : decode cX1_tend 23 = .ok (.iload 4, 2) := by decide +kernel
theorem dX1_tend_25 : decode cX1_tend 25 = .ok (.iload_n 3, 1) := by decide +kernel
theorem dX1_tend_26 : decode cX1_tend 26 = .ok (.bipush (-100), 2) := by decide +kernel
theorem dX1_tend_28 : decode cX1_tend 28 = .ok (.bipush 100, 2) := by decide +kernel
theorem dX1_tend_30 : decode cX1_tend 30 = .ok (.invokestatic 51, 3) := by decide +kernel
theorem dX1_tend_33 : decode cX1_tend 33 = .ok (.iload 4, 2) := by decide +kernel
theorem dX1_tend_35 : decode cX1_tend 35 = .ok (.ifCond .eq 16, 3) := by decide +kernel
theorem dX1_tend_38 : decode cX1_tend 38 = .ok (.aload_n 0, 1) := by decide +kernel
theorem dX1_tend_39 : decode cX1_tend 39 = .ok (.getfield 31, 3) := by decide +kernel
theorem dX1_tend_42 : decode cX1_tend 42 = .ok (.iload_n 1, 1) := by decide +kernel
theorem dX1_tend_43 : decode cX1_tend 43 = .ok (.baload, 1) := by decide +kernel
theorem dX1_tend_44 : decode cX1_tend 44 = .ok (.ifCond .ne 7, 3) := by decide +kernel
theorem dX1_tend_47 : decode cX1_tend 47 = .ok (.iconst 1, 1) := by decide +kernel
theorem dX1_tend_48 : decode cX1_tend 48 = .ok (.goto 4, 3) := by decide +kernel
theorem dX1_tend_51 : decode cX1_tend 51 = .ok (.iconst 0, 1) := by decide +kernel
theorem dX1_tend_52 : decode cX1_tend 52 = .ok (.invokevirtual 62, 3) := by decide +kernel
theorem dX1_tend_55 : decode cX1_tend 55 = .ok (.ifCond .ne 5, 3) := by decide +kernel
theorem dX1_tend_58 : decode cX1_tend 58 = .ok (.iconst 0, 1) := by decide +kernel
theorem dX1_tend_59 : decode cX1_tend 59 = .ok (.ireturn, 1) := by decide +kernel
theorem dX1_tend_60 : decode cX1_tend 60 = .ok (.aload_n 0, 1) := by decide +kernel
theorem dX1_tend_61 : decode cX1_tend 61 = .ok (.iload_n 1, 1) := by decide +kernel
theorem dX1_tend_62 : decode cX1_tend 62 = .ok (.iload_n 2, 1) := by decide +kernel
theorem dX1_tend_63 : decode cX1_tend 63 = .ok (.aload_n 0, 1) := by decide +kernel
theorem dX1_tend_64 : decode cX1_tend 64 = .ok (.iload_n 2, 1) := by decide +kernel
theorem dX1_tend_65 : decode cX1_tend 65 = .ok (.invokevirtual 94, 3) := by decide +kernel
theorem dX1_tend_68 : decode cX1_tend 68 = .ok (.invokevirtual 84, 3) := by decide +kernel
theorem dX1_tend_71 : decode cX1_tend 71 = .ok (.iload_n 3, 1) := by decide +kernel
theorem dX1_tend_72 : decode cX1_tend 72 = .ok (.iadd, 1) := by decide +kernel
theorem dX1_tend_73 : decode cX1_tend 73 = .ok (.istore 5, 2) := by decide +kernel
theorem dX1_tend_75 : decode cX1_tend 75 = .ok (.aload_n 0, 1) := by decide +kernel
theorem dX1_tend_76 : decode cX1_tend 76 = .ok (.getfield 28, 3) := by decide +kernel
theorem dX1_tend_79 : decode cX1_tend 79 = .ok (.iload_n 1, 1) := by decide +kernel
theorem dX1_tend_80 : decode cX1_tend 80 = .ok (.iload 5, 2) := by decide +kernel
theorem dX1_tend_82 : decode cX1_tend 82 = .ok (.ifCond .ge 7, 3) := by decide +kernel
theorem dX1_tend_85 : decode cX1_tend 85 = .ok (.iconst 0, 1) := by decide +kernel
theorem dX1_tend_86 : decode cX1_tend 86 = .ok (.goto 5, 3) := by decide +kernel
theorem dX1_tend_89 : decode cX1_tend 89 = .ok (.iload 5, 2) := by decide +kernel
theorem dX1_tend_91 : decode cX1_tend 91 = .ok (.iastore, 1) := by decide +kernel
theorem dX1_tend_92 : decode cX1_tend 92 = .ok (.aload_n 0, 1) := by decide +kernel
theorem dX1_tend_93 : decode cX1_tend 93 = .ok (.getfield 28, 3) := by decide +kernel
theorem dX1_tend_96 : decode cX1_tend 96 = .ok (.iload_n 1, 1) := by decide +kernel
theorem dX1_tend_97 : decode cX1_tend 97 = .ok (.iaload, 1) := by decide +kernel
theorem dX1_tend_98 : decode cX1_tend 98 = .ok (.ireturn, 1) := by decide +kernel
set_option maxRecDepth 20000 in
theorem ggX1_tends_X1_shiftAt : GoodIn wsX1_tends wsX1_shiftAt := goodIn_r _ [8, 9, 10, 11, 7, 12, 13, 14, 1, 15, 16, 17, 18, 19, 20, 21, 22, 23, 24, 25, 26, 27, 28, 29, 30, 31, 32, 33, 34, 3, 2, 35, 36, 37, 38, 39, 40, 41, 42, 43, 44, 45, 46, 47, 48, 49, 50, 51] (by decide +kernel) (by decide +kernel)
set_option maxRecDepth 20000 in
theorem gX1_tends_X1_shiftAt : GoodIn wsX1_tends (wsV RX1 94 RX1 yX1_shiftAt wsX1_shiftAt) := goodIn_app (goodIn_of _ (by decide +kernel)) ggX1_tends_X1_shiftAt
set_option maxRecDepth 20000 in
theorem ggX1_tends_X1_lengthAt : GoodIn wsX1_tends wsX1_lengthAt := goodIn_r _ [18, 19, 20, 21, 22, 23, 7, 24, 25, 26, 27, 28, 29, 30, 36, 37, 38, 39, 40, 41, 42, 43, 44, 45, 46, 47, 48, 49, 50, 51] (by decide +kernel) (by decide +kernel)
set_option maxRecDepth 20000 in
theorem gX1_tends_X1_lengthAt : GoodIn wsX1_tends (wsV RX1 84 RX1 yX1_lengthAt wsX1_lengthAt) := goodIn_app (goodIn_of _ (by decide +kernel)) ggX1_tends_X1_lengthAt
theorem dX1_tends_0 : decode cX1_tends 0 = .ok (.iconst 0, 1) := by decide +kernel
theorem dX1_tends_1 : decode cX1_tends 1 = .ok (.istore_n 2, 1) := by decide +kernel
theorem dX1_tends_2 : decode cX1_tends 2 = .ok (.aload_n 0, 1) := by decide +kernel
theorem dX1_tends_3 : decode cX1_tends 3 = .ok (.iload_n 1, 1) := by decide +kernel
theorem dX1_tends_4 : decode cX1_tends 4 = .ok (.invokevirtual 94, 3) := by decide +kernel
theorem dX1_tends_7 : decode cX1_tends 7 = .ok (.istore_n 3, 1) := by decide +kernel
theorem dX1_tends_8 : decode cX1_tends 8 = .ok (.iconst 0, 1) := by decide +kernel
theorem dX1_tends_9 : decode cX1_tends 9 = .ok (.istore 4, 2) := by decide +kernel
theorem dX1_tends_11 : decode cX1_tends 11 = .ok (.iload 4, 2) := by decide +kernel
theorem dX1_tends_13 : decode cX1_tends 13 = .ok (.aload_n 0, 1) := by decide +kernel
theorem dX1_tends_14 : decode cX1_tends 14 = .ok (.getfield 55, 3) := by decide +kernel
theorem dX1_tends_17 : decode cX1_tends 17 = .ok (.if_icmp .ge 58, 3) := by decide +kernel
theorem dX1_tends_20 : decode cX1_tends 20 = .ok (.aload_n 0, 1) := by decide +kernel
theorem dX1_tends_21 : decode cX1_tends 21 = .ok (.getfield 31, 3) := by decide +kernel
theorem dX1_tends_24 : decode cX1_tends 24 = .ok (.iload 4, 2) := by decide +kernel
theorem dX1_tends_26 : decode cX1_tends 26 = .ok (.baload, 1) := by decide +kernel
theorem dX1_tends_27 : decode cX1_tends 27 = .ok (.ifCond .ne 42, 3) := by decide +kernel
theorem dX1_tends_30 : decode cX1_tends 30 = .ok (.aload_n 0, 1) := by decide +kernel
theorem dX1_tends_31 : decode cX1_tends 31 = .ok (.iload 4, 2) := by decide +kernel
theorem dX1_tends_33 : decode cX1_tends 33 = .ok (.iload_n 1, 1) := by decide +kernel
theorem dX1_tends_34 : decode cX1_tends 34 = .ok (.iload_n 3, 1) := by decide +kernel
theorem dX1_tends_35 : decode cX1_tends 35 = .ok (.invokevirtual 84, 3) := by decide +kernel
theorem dX1_tends_38 : decode cX1_tends 38 = .ok (.istore 5, 2) := by decide +kernel
theorem dX1_tends_40 : decode cX1_tends 40 = .ok (.iload_n 2, 1) := by decide +kernel
theorem dX1_tends_41 : decode cX1_tends 41 = .ok (.iload 5, 2) := by decide +kernel
theorem dX1_tends_43 : decode cX1_tends 43 = .ok (.aload_n 0, 1) := by decide +kernel
theorem dX1_tends_44 : decode cX1_tends 44 = .ok (.getfield 28, 3) := by decide +kernel
theorem dX1_tends_47 : decode cX1_tends 47 = .ok (.iload 4, 2) := by decide +kernel
theorem dX1_tends_49 : decode cX1_tends 49 = .ok (.iaload, 1) := by decide +kernel
theorem dX1_tends_50 : decode cX1_tends 50 = .ok (.if_icmp .eq 7, 3) := by decide +kernel
theorem dX1_tends_53 : decode cX1_tends 53 = .ok (.iconst 1, 1) := by decide +kernel
theorem dX1_tends_54 : decode cX1_tends 54 = .ok (.goto 4, 3) := by decide +kernel
theorem dX1_tends_57 : decode cX1_tends 57 = .ok (.iconst 0, 1) := by decide +kernel
theorem dX1_tends_58 : decode cX1_tends 58 = .ok (.iadd, 1) := by decide +kernel
theorem dX1_tends_59 : decode cX1_tends 59 = .ok (.istore_n 2, 1) := by decide +kernel
theorem dX1_tends_60 : decode cX1_tends 60 = .ok (.aload_n 0, 1) := by decide +kernel
theorem dX1_tends_61 : decode cX1_tends 61 = .ok (.getfield 28, 3) := by decide +kernel
theorem dX1_tends_64 : decode cX1_tends 64 = .ok (.iload 4, 2) := by decide +kernel
theorem dX1_tends_66 : decode cX1_tends 66 = .ok (.iload 5, 2) := by decide +kernel
theorem dX1_tends_68 : decode cX1_tends 68 = .ok (.iastore, 1) := by decide +kernel
theorem dX1_tends_69 : decode cX1_tends 69 = .ok (.iinc 4 1, 3) := by decide +kernel
theorem dX1_tends_72 : decode cX1_tends 72 = .ok (.goto (-61), 3) := by decide +kernel
theorem dX1_tends_75 : decode cX1_tends 75 = .ok (.iload_n 2, 1) := by decide +kernel
theorem dX1_tends_76 : decode cX1_tends 76 = .ok (.ireturn, 1) := by decide +kernel
set_option maxRecDepth 20000 in
theorem ggX1_tendAll_X1_isHour : GoodIn wsX1_tendAll wsX1_isHour := goodIn_r _ [4, 5, 6, 3, 7] (by decide +kernel) (by decide +kernel)
set_option maxRecDepth 20000 in
theorem gX1_tendAll_X1_isHour : GoodIn wsX1_tendAll (va_wsS RX1 74 yX1_isHour wsX1_isHour) := goodIn_app (goodIn_of _ (by decide +kernel)) ggX1_tendAll_X1_isHour
set_option maxRecDepth 20000 in
theorem ggX1_tendAll_X1_goes : GoodIn wsX1_tendAll wsX1_goes := goodIn_r _ [11, 12, 51, 52, 53, 54, 55, 56, 57, 58, 59, 60, 61, 62, 63, 64, 65, 66] (by decide +kernel) (by decide +kernel)
set_option maxRecDepth 20000 in
theorem gX1_tendAll_X1_goes : GoodIn wsX1_tendAll (wsV RX1 62 RX1 yX1_goes wsX1_goes) := goodIn_app (goodIn_of _ (by decide +kernel)) ggX1_tendAll_X1_goes
set_option maxRecDepth 20000 in
theorem ggX1_tendAll_X1_tends : GoodIn wsX1_tendAll wsX1_tends := goodIn_r _ [16, 17, 18, 19, 20, 21, 22, 3, 23, 24, 25, 26, 27, 28, 29, 30, 31, 32, 33, 34, 35, 36, 37, 38, 39, 40, 41, 42, 43, 44, 45, 46, 47, 48, 49, 50, 51, 52, 53, 54, 55, 56, 57, 58, 59, 60, 61, 62, 63, 64, 65, 66] (by decide +kernel) (by decide +kernel)
set_option maxRecDepth 20000 in
theorem gX1_tendAll_X1_tends : GoodIn wsX1_tendAll (wsV RX1 111 RX1 yX1_tends wsX1_tends) := goodIn_app (goodIn_of _ (by decide +kernel)) ggX1_tendAll_X1_tends
theorem dX1_tendAll_0 : decode cX1_tendAll 0 = .ok (.aload_n 0, 1) := by decide +kernel
theorem dX1_tendAll_1 : decode cX1_tendAll 1 = .ok (.iload_n 1, 1) := by decide +kernel
theorem dX1_tendAll_2 : decode cX1_tendAll 2 = .ok (.invokestatic 74, 3) := by decide +kernel
theorem dX1_tendAll_5 : decode cX1_tendAll 5 = .ok (.iconst 1, 1) := by decide +kernel
theorem dX1_tendAll_6 : decode cX1_tendAll 6 = .ok (.iconst 1, 1) := by decide +kernel
theorem dX1_tendAll_7 : decode cX1_tendAll 7 = .ok (.invokevirtual 62, 3) := by decide +kernel
theorem dX1_tendAll_10 : decode cX1_tendAll 10 = .ok (.ifCond .eq 11, 3) := by decide +kernel
theorem dX1_tendAll_13 : decode cX1_tendAll 13 = .ok (.aload_n 0, 1) := by decide +kernel
theorem dX1_tendAll_14 : decode cX1_tendAll 14 = .ok (.iload_n 1, 1) := by decide +kernel
theorem dX1_tendAll_15 : decode cX1_tendAll 15 = .ok (.invokevirtual 111, 3) := by decide +kernel
theorem dX1_tendAll_18 : decode cX1_tendAll 18 = .ok (.goto 4, 3) := by decide +kernel
theorem dX1_tendAll_21 : decode cX1_tendAll 21 = .ok (.iconst 0, 1) := by decide +kernel
theorem dX1_tendAll_22 : decode cX1_tendAll 22 = .ok (.ireturn, 1) := by decide +kernel
set_option maxRecDepth 20000 in
theorem ggX1_plan_X1_isHour : GoodIn wsX1_plan wsX1_isHour := goodIn_r _ [7, 8, 9, 6, 10] (by decide +kernel) (by decide +kernel)
set_option maxRecDepth 20000 in
theorem gX1_plan_X1_isHour : GoodIn wsX1_plan (va_wsS RX1 74 yX1_isHour wsX1_isHour) := goodIn_app (goodIn_of _ (by decide +kernel)) ggX1_plan_X1_isHour
set_option maxRecDepth 20000 in
theorem ggX1_plan_X1_goes : GoodIn wsX1_plan wsX1_goes := goodIn_r _ [14, 15, 69, 70, 71, 72, 73, 74, 75, 76, 77, 78, 79, 80, 81, 82, 83, 84] (by decide +kernel) (by decide +kernel)
set_option maxRecDepth 20000 in
theorem gX1_plan_X1_goes : GoodIn wsX1_plan (wsV RX1 62 RX1 yX1_goes wsX1_goes) := goodIn_app (goodIn_of _ (by decide +kernel)) ggX1_plan_X1_goes
set_option maxRecDepth 20000 in
theorem ggX1_plan_X1_holds : GoodIn wsX1_plan wsX1_holds := goodIn_r _ [19, 1, 20, 21, 22, 23, 24, 25, 26, 27, 6, 28, 29, 30, 31, 32, 33, 34, 35, 36, 37, 38, 39, 40, 41, 42, 43, 44, 45, 46, 47, 48, 49, 50, 51, 52, 53, 54, 3, 55, 56, 57, 58, 59, 60, 61, 62, 63, 64, 69, 70, 71, 72, 73, 74, 75, 76, 77, 78, 79, 80, 81, 82, 83, 84] (by decide +kernel) (by decide +kernel)
set_option maxRecDepth 20000 in
theorem gX1_plan_X1_holds : GoodIn wsX1_plan (wsV RX1 108 RX1 yX1_holds wsX1_holds) := goodIn_app (goodIn_of _ (by decide +kernel)) ggX1_plan_X1_holds
set_option maxRecDepth 20000 in
theorem ggX1_plan_X1_tends : GoodIn wsX1_plan wsX1_tends := goodIn_r _ [68, 1, 55, 3, 25, 26, 27, 6, 28, 29, 30, 31, 32, 33, 34, 35, 36, 37, 38, 39, 40, 41, 42, 43, 44, 45, 46, 47, 48, 49, 50, 51, 52, 53, 54, 56, 69, 70, 71, 72, 73, 74, 75, 76, 77, 78, 79, 80, 81, 82, 83, 84] (by decide +kernel) (by decide +kernel)
set_option maxRecDepth 20000 in
theorem gX1_plan_X1_tends : GoodIn wsX1_plan (wsV RX1 111 RX1 yX1_tends wsX1_tends) := goodIn_app (goodIn_of _ (by decide +kernel)) ggX1_plan_X1_tends
theorem dX1_plan_0 : decode cX1_plan 0 = .ok (.aload_n 0, 1) := by decide +kernel
theorem dX1_plan_1 : decode cX1_plan 1 = .ok (.iload_n 1, 1) := by decide +kernel
theorem dX1_plan_2 : decode cX1_plan 2 = .ok (.invokestatic 74, 3) := by decide +kernel
theorem dX1_plan_5 : decode cX1_plan 5 = .ok (.ifCond .eq 14, 3) := by decide +kernel
theorem dX1_plan_8 : decode cX1_plan 8 = .ok (.iload_n 2, 1) := by decide +kernel
theorem dX1_plan_9 : decode cX1_plan 9 = .ok (.invokestatic 74, 3) := by decide +kernel
theorem dX1_plan_12 : decode cX1_plan 12 = .ok (.ifCond .eq 7, 3) := by decide +kernel
theorem dX1_plan_15 : decode cX1_plan 15 = .ok (.iconst 1, 1) := by decide +kernel
theorem dX1_plan_16 : decode cX1_plan 16 = .ok (.goto 4, 3) := by decide +kernel
theorem dX1_plan_19 : decode cX1_plan 19 = .ok (.iconst 0, 1) := by decide +kernel
theorem dX1_plan_20 : decode cX1_plan 20 = .ok (.iload_n 2, 1) := by decide +kernel
theorem dX1_plan_21 : decode cX1_plan 21 = .ok (.iload_n 1, 1) := by decide +kernel
theorem dX1_plan_22 : decode cX1_plan 22 = .ok (.if_icmp .lt 7, 3) := by decide +kernel
theorem dX1_plan_25 : decode cX1_plan 25 = .ok (.iconst 1, 1) := by decide +kernel
theorem dX1_plan_26 : decode cX1_plan 26 = .ok (.goto 4, 3) := by decide +kernel
theorem dX1_plan_29 : decode cX1_plan 29 = .ok (.iconst 0, 1) := by decide +kernel
theorem dX1_plan_30 : decode cX1_plan 30 = .ok (.iconst 1, 1) := by decide +kernel
theorem dX1_plan_31 : decode cX1_plan 31 = .ok (.invokevirtual 62, 3) := by decide +kernel
theorem dX1_plan_34 : decode cX1_plan 34 = .ok (.ifCond .ne 5, 3) := by decide +kernel
theorem dX1_plan_37 : decode cX1_plan 37 = .ok (.iconst 0, 1) := by decide +kernel
theorem dX1_plan_38 : decode cX1_plan 38 = .ok (.ireturn, 1) := by decide +kernel
theorem dX1_plan_39 : decode cX1_plan 39 = .ok (.iconst 0, 1) := by decide +kernel
theorem dX1_plan_40 : decode cX1_plan 40 = .ok (.istore_n 3, 1) := by decide +kernel
theorem dX1_plan_41 : decode cX1_plan 41 = .ok (.iload_n 3, 1) := by decide +kernel
theorem dX1_plan_42 : decode cX1_plan 42 = .ok (.aload_n 0, 1) := by decide +kernel
theorem dX1_plan_43 : decode cX1_plan 43 = .ok (.getfield 55, 3) := by decide +kernel
theorem dX1_plan_46 : decode cX1_plan 46 = .ok (.if_icmp .ge 21, 3) := by decide +kernel
theorem dX1_plan_49 : decode cX1_plan 49 = .ok (.aload_n 0, 1) := by decide +kernel
theorem dX1_plan_50 : decode cX1_plan 50 = .ok (.getfield 44, 3) := by decide +kernel
theorem dX1_plan_53 : decode cX1_plan 53 = .ok (.iload_n 3, 1) := by decide +kernel
theorem dX1_plan_54 : decode cX1_plan 54 = .ok (.aload_n 0, 1) := by decide +kernel
theorem dX1_plan_55 : decode cX1_plan 55 = .ok (.getfield 28, 3) := by decide +kernel
theorem dX1_plan_58 : decode cX1_plan 58 = .ok (.iload_n 3, 1) := by decide +kernel
theorem dX1_plan_59 : decode cX1_plan 59 = .ok (.iaload, 1) := by decide +kernel
theorem dX1_plan_60 : decode cX1_plan 60 = .ok (.iastore, 1) := by decide +kernel
theorem dX1_plan_61 : decode cX1_plan 61 = .ok (.iinc 3 1, 3) := by decide +kernel
theorem dX1_plan_64 : decode cX1_plan 64 = .ok (.goto (-23), 3) := by decide +kernel
theorem dX1_plan_67 : decode cX1_plan 67 = .ok (.iconst 0, 1) := by decide +kernel
theorem dX1_plan_68 : decode cX1_plan 68 = .ok (.istore_n 3, 1) := by decide +kernel
theorem dX1_plan_69 : decode cX1_plan 69 = .ok (.iload_n 1, 1) := by decide +kernel
theorem dX1_plan_70 : decode cX1_plan 70 = .ok (.istore 4, 2) := by decide +kernel
theorem dX1_plan_72 : decode cX1_plan 72 = .ok (.iload 4, 2) := by decide +kernel
theorem dX1_plan_74 : decode cX1_plan 74 = .ok (.iload_n 2, 1) := by decide +kernel
theorem dX1_plan_75 : decode cX1_plan 75 = .ok (.if_icmp .gt 46, 3) := by decide +kernel
theorem dX1_plan_78 : decode cX1_plan 78 = .ok (.iload_n 3, 1) := by decide +kernel
theorem dX1_plan_79 : decode cX1_plan 79 = .ok (.ifCond .lt 42, 3) := by decide +kernel
theorem dX1_plan_82 : decode cX1_plan 82 = .ok (.aload_n 0, 1) := by decide +kernel
theorem dX1_plan_83 : decode cX1_plan 83 = .ok (.iload 4, 2) := by decide +kernel
theorem dX1_plan_85 : decode cX1_plan 85 = .ok (.invokevirtual 108, 3) := by decide +kernel
theorem dX1_plan_88 : decode cX1_plan 88 = .ok (.ifCond .ne 27, 3) := by decide +kernel
theorem dX1_plan_91 : decode cX1_plan 91 = .ok (.aload_n 0, 1) := by decide +kernel
theorem dX1_plan_92 : decode cX1_plan 92 = .ok (.iload 4, 2) := by decide +kernel
theorem dX1_plan_94 : decode cX1_plan 94 = .ok (.invokevirtual 111, 3) := by decide +kernel
theorem dX1_plan_97 : decode cX1_plan 97 = .ok (.pop, 1) := by decide +kernel
theorem dX1_plan_98 : decode cX1_plan 98 = .ok (.aload_n 0, 1) := by decide +kernel
theorem dX1_plan_99 : decode cX1_plan 99 = .ok (.iload 4, 2) := by decide +kernel
theorem dX1_plan_101 : decode cX1_plan 101 = .ok (.invokevirtual 108, 3) := by decide +kernel
theorem dX1_plan_104 : decode cX1_plan 104 = .ok (.ifCond .eq 9, 3) := by decide +kernel
theorem dX1_plan_107 : decode cX1_plan 107 = .ok (.iload_n 3, 1) := by decide +kernel
theorem dX1_plan_108 : decode cX1_plan 108 = .ok (.iconst 1, 1) := by decide +kernel
theorem dX1_plan_109 : decode cX1_plan 109 = .ok (.iadd, 1) := by decide +kernel
theorem dX1_plan_110 : decode cX1_plan 110 = .ok (.goto 4, 3) := by decide +kernel
theorem dX1_plan_113 : decode cX1_plan 113 = .ok (.iconst (-1), 1) := by decide +kernel
theorem dX1_plan_114 : decode cX1_plan 114 = .ok (.istore_n 3, 1) := by decide +kernel
theorem dX1_plan_115 : decode cX1_plan 115 = .ok (.iinc 4 1, 3) := by decide +kernel
theorem dX1_plan_118 : decode cX1_plan 118 = .ok (.goto (-46), 3) := by decide +kernel
theorem dX1_plan_121 : decode cX1_plan 121 = .ok (.iconst 0, 1) := by decide +kernel
theorem dX1_plan_122 : decode cX1_plan 122 = .ok (.istore 4, 2) := by decide +kernel
theorem dX1_plan_124 : decode cX1_plan 124 = .ok (.iload 4, 2) := by decide +kernel
theorem dX1_plan_126 : decode cX1_plan 126 = .ok (.aload_n 0, 1) := by decide +kernel
theorem dX1_plan_127 : decode cX1_plan 127 = .ok (.getfield 55, 3) := by decide +kernel
theorem dX1_plan_130 : decode cX1_plan 130 = .ok (.if_icmp .ge 23, 3) := by decide +kernel
theorem dX1_plan_133 : decode cX1_plan 133 = .ok (.aload_n 0, 1) := by decide +kernel
theorem dX1_plan_134 : decode cX1_plan 134 = .ok (.getfield 28, 3) := by decide +kernel
theorem dX1_plan_137 : decode cX1_plan 137 = .ok (.iload 4, 2) := by decide +kernel
theorem dX1_plan_139 : decode cX1_plan 139 = .ok (.aload_n 0, 1) := by decide +kernel
theorem dX1_plan_140 : decode cX1_plan 140 = .ok (.getfield 44, 3) := by decide +kernel
theorem dX1_plan_143 : decode cX1_plan 143 = .ok (.iload 4, 2) := by decide +kernel
theorem dX1_plan_145 : decode cX1_plan 145 = .ok (.iaload, 1) := by decide +kernel
theorem dX1_plan_146 : decode cX1_plan 146 = .ok (.iastore, 1) := by decide +kernel
theorem dX1_plan_147 : decode cX1_plan 147 = .ok (.iinc 4 1, 3) := by decide +kernel
theorem dX1_plan_150 : decode cX1_plan 150 = .ok (.goto (-26), 3) := by decide +kernel
theorem dX1_plan_153 : decode cX1_plan 153 = .ok (.iload_n 3, 1) := by decide +kernel
theorem dX1_plan_154 : decode cX1_plan 154 = .ok (.ireturn, 1) := by decide +kernel
theorem dJ9_floorDiv_7cf53_0 : decode cJ9_floorDiv_7cf53 0 = .ok (.iload_n 0, 1) := by decide +kernel
theorem dJ9_floorDiv_7cf53_1 : decode cJ9_floorDiv_7cf53 1 = .ok (.iload_n 1, 1) := by decide +kernel
theorem dJ9_floorDiv_7cf53_2 : decode cJ9_floorDiv_7cf53 2 = .ok (.idiv, 1) := by decide +kernel
theorem dJ9_floorDiv_7cf53_3 : decode cJ9_floorDiv_7cf53 3 = .ok (.istore_n 2, 1) := by decide +kernel
theorem dJ9_floorDiv_7cf53_4 : decode cJ9_floorDiv_7cf53 4 = .ok (.iload_n 0, 1) := by decide +kernel
theorem dJ9_floorDiv_7cf53_5 : decode cJ9_floorDiv_7cf53 5 = .ok (.iload_n 1, 1) := by decide +kernel
theorem dJ9_floorDiv_7cf53_6 : decode cJ9_floorDiv_7cf53 6 = .ok (.ixor, 1) := by decide +kernel
theorem dJ9_floorDiv_7cf53_7 : decode cJ9_floorDiv_7cf53 7 = .ok (.ifCond .ge 14, 3) := by decide +kernel
theorem dJ9_floorDiv_7cf53_10 : decode cJ9_floorDiv_7cf53 10 = .ok (.iload_n 2, 1) := by decide +kernel
theorem dJ9_floorDiv_7cf53_11 : decode cJ9_floorDiv_7cf53 11 = .ok (.iload_n 1, 1) := by decide +kernel
theorem dJ9_floorDiv_7cf53_12 : decode cJ9_floorDiv_7cf53 12 = .ok (.imul, 1) := by decide +kernel
theorem dJ9_floorDiv_7cf53_13 : decode cJ9_floorDiv_7cf53 13 = .ok (.iload_n 0, 1) := by decide +kernel
theorem dJ9_floorDiv_7cf53_14 : decode cJ9_floorDiv_7cf53 14 = .ok (.if_icmp .eq 7, 3) := by decide +kernel
theorem dJ9_floorDiv_7cf53_17 : decode cJ9_floorDiv_7cf53 17 = .ok (.iload_n 2, 1) := by decide +kernel
theorem dJ9_floorDiv_7cf53_18 : decode cJ9_floorDiv_7cf53 18 = .ok (.iconst 1, 1) := by decide +kernel
theorem dJ9_floorDiv_7cf53_19 : decode cJ9_floorDiv_7cf53 19 = .ok (.isub, 1) := by decide +kernel
theorem dJ9_floorDiv_7cf53_20 : decode cJ9_floorDiv_7cf53 20 = .ok (.ireturn, 1) := by decide +kernel
theorem dJ9_floorDiv_7cf53_21 : decode cJ9_floorDiv_7cf53 21 = .ok (.iload_n 2, 1) := by decide +kernel
theorem dJ9_floorDiv_7cf53_22 : decode cJ9_floorDiv_7cf53 22 = .ok (.ireturn, 1) := by decide +kernel
theorem dJ9_max_7cf53_0 : decode cJ9_max_7cf53 0 = .ok (.iload_n 0, 1) := by decide +kernel
theorem dJ9_max_7cf53_1 : decode cJ9_max_7cf53 1 = .ok (.iload_n 1, 1) := by decide +kernel
theorem dJ9_max_7cf53_2 : decode cJ9_max_7cf53 2 = .ok (.if_icmp .lt 7, 3) := by decide +kernel
theorem dJ9_max_7cf53_5 : decode cJ9_max_7cf53 5 = .ok (.iload_n 0, 1) := by decide +kernel
theorem dJ9_max_7cf53_6 : decode cJ9_max_7cf53 6 = .ok (.goto 4, 3) := by decide +kernel
theorem dJ9_max_7cf53_9 : decode cJ9_max_7cf53 9 = .ok (.iload_n 1, 1) := by decide +kernel
theorem dJ9_max_7cf53_10 : decode cJ9_max_7cf53 10 = .ok (.ireturn, 1) := by decide +kernel
set_option maxRecDepth 20000 in
theorem ggL_addBollard_X0_addBollard : GoodIn wsL_addBollard wsX0_addBollard := goodIn_ca (goodIn_ca (goodIn_r _ [7, 8, 9, 10, 11, 12, 13, 14, 15, 6, 16, 17, 18, 19, 20, 21, 22, 23, 24, 25, 26, 27, 28, 29, 30, 31, 32, 33] (by decide +kernel) (by decide +kernel)) (goodIn_sub (fun _ h => List.mem_cons_of_mem _ (List.mem_append_left _ (List.mem_append_right _ h))) (by decide +kernel))) (goodIn_sub (fun _ h => List.mem_cons_of_mem _ (List.mem_append_right _ h)) (by decide +kernel))
set_option maxRecDepth 20000 in
theorem gL_addBollard_X0_addBollard : GoodIn wsL_addBollard (wsV RL 7 RX0 yX0_addBollard wsX0_addBollard) := goodIn_app (goodIn_of _ (by decide +kernel)) ggL_addBollard_X0_addBollard
theorem dL_addBollard_0 : decode cL_addBollard 0 = .ok (.aload_n 3, 1) := by decide +kernel
theorem dL_addBollard_1 : decode cL_addBollard 1 = .ok (.iconst 0, 1) := by decide +kernel
theorem dL_addBollard_2 : decode cL_addBollard 2 = .ok (.aload_n 0, 1) := by decide +kernel
theorem dL_addBollard_3 : decode cL_addBollard 3 = .ok (.iload_n 1, 1) := by decide +kernel
theorem dL_addBollard_4 : decode cL_addBollard 4 = .ok (.iload_n 2, 1) := by decide +kernel
theorem dL_addBollard_5 : decode cL_addBollard 5 = .ok (.invokevirtual 7, 3) := by decide +kernel
theorem dL_addBollard_8 : decode cL_addBollard 8 = .ok (.i2l, 1) := by decide +kernel
theorem dL_addBollard_9 : decode cL_addBollard 9 = .ok (.lastore, 1) := by decide +kernel
theorem dL_addBollard_10 : decode cL_addBollard 10 = .ok (.goto 11, 3) := by decide +kernel
theorem dL_addBollard_13 : decode cL_addBollard 13 = .ok (.astore 4, 2) := by decide +kernel
theorem dL_addBollard_15 : decode cL_addBollard 15 = .ok (.iconst 1, 1) := by decide +kernel
theorem dL_addBollard_16 : decode cL_addBollard 16 = .ok (.ireturn, 1) := by decide +kernel
theorem dL_addBollard_17 : decode cL_addBollard 17 = .ok (.astore 4, 2) := by decide +kernel
theorem dL_addBollard_19 : decode cL_addBollard 19 = .ok (.iconst 2, 1) := by decide +kernel
theorem dL_addBollard_20 : decode cL_addBollard 20 = .ok (.ireturn, 1) := by decide +kernel
theorem dL_addBollard_21 : decode cL_addBollard 21 = .ok (.iconst 0, 1) := by decide +kernel
theorem dL_addBollard_22 : decode cL_addBollard 22 = .ok (.ireturn, 1) := by decide +kernel
set_option maxRecDepth 20000 in
theorem ggL_addLine_X0_addLine : GoodIn wsL_addLine wsX0_addLine := goodIn_ca (goodIn_ca (goodIn_ca (goodIn_r _ [8, 9, 10, 11, 12, 13, 14, 15, 16, 17, 18, 19, 20, 21, 22, 7, 23, 24, 25, 26, 27, 28, 29, 30, 31, 32, 33, 34, 35, 36, 37, 38, 39, 40, 41, 42, 43, 44, 45, 46, 47, 48, 49] (by decide +kernel) (by decide +kernel)) (goodIn_sub (fun _ h => List.mem_cons_of_mem _ (List.mem_append_left _ (List.mem_append_left _ (List.mem_append_right _ h)))) (by decide +kernel))) (goodIn_sub (fun _ h => List.mem_cons_of_mem _ (List.mem_append_left _ (List.mem_append_right _ h))) (by decide +kernel))) (goodIn_sub (fun _ h => List.mem_cons_of_mem _ (List.mem_append_right _ h)) (by decide +kernel))
set_option maxRecDepth 20000 in
theorem gL_addLine_X0_addLine : GoodIn wsL_addLine (wsV RL 17 RX0 yX0_addLine wsX0_addLine) := goodIn_app (goodIn_of _ (by decide +kernel)) ggL_addLine_X0_addLine
theorem dL_addLine_0 : decode cL_addLine 0 = .ok (.aload 5, 2) := by decide +kernel
theorem dL_addLine_2 : decode cL_addLine 2 = .ok (.iconst 0, 1) := by decide +kernel
theorem dL_addLine_3 : decode cL_addLine 3 = .ok (.aload_n 0, 1) := by decide +kernel
theorem dL_addLine_4 : decode cL_addLine 4 = .ok (.iload_n 1, 1) := by decide +kernel
theorem dL_addLine_5 : decode cL_addLine 5 = .ok (.iload_n 2, 1) := by decide +kernel
theorem dL_addLine_6 : decode cL_addLine 6 = .ok (.iload_n 3, 1) := by decide +kernel
theorem dL_addLine_7 : decode cL_addLine 7 = .ok (.iload 4, 2) := by decide +kernel
theorem dL_addLine_9 : decode cL_addLine 9 = .ok (.invokevirtual 17, 3) := by decide +kernel
theorem dL_addLine_12 : decode cL_addLine 12 = .ok (.i2l, 1) := by decide +kernel
theorem dL_addLine_13 : decode cL_addLine 13 = .ok (.lastore, 1) := by decide +kernel
theorem dL_addLine_14 : decode cL_addLine 14 = .ok (.goto 15, 3) := by decide +kernel
theorem dL_addLine_17 : decode cL_addLine 17 = .ok (.astore 6, 2) := by decide +kernel
theorem dL_addLine_19 : decode cL_addLine 19 = .ok (.iconst 1, 1) := by decide +kernel
theorem dL_addLine_20 : decode cL_addLine 20 = .ok (.ireturn, 1) := by decide +kernel
theorem dL_addLine_21 : decode cL_addLine 21 = .ok (.astore 6, 2) := by decide +kernel
theorem dL_addLine_23 : decode cL_addLine 23 = .ok (.iconst 2, 1) := by decide +kernel
theorem dL_addLine_24 : decode cL_addLine 24 = .ok (.ireturn, 1) := by decide +kernel
theorem dL_addLine_25 : decode cL_addLine 25 = .ok (.astore 6, 2) := by decide +kernel
theorem dL_addLine_27 : decode cL_addLine 27 = .ok (.iconst 3, 1) := by decide +kernel
theorem dL_addLine_28 : decode cL_addLine 28 = .ok (.ireturn, 1) := by decide +kernel
theorem dL_addLine_29 : decode cL_addLine 29 = .ok (.iconst 0, 1) := by decide +kernel
theorem dL_addLine_30 : decode cL_addLine 30 = .ok (.ireturn, 1) := by decide +kernel
set_option maxRecDepth 20000 in
theorem ggL_toggle_X0_toggle : GoodIn wsL_toggle wsX0_toggle := goodIn_ca (goodIn_r _ [6, 7, 8, 9, 10, 5, 11, 12, 13, 14, 15, 16, 17, 18, 19, 20, 21, 22, 23, 24, 25, 26, 27, 28, 29] (by decide +kernel) (by decide +kernel)) (goodIn_sub (fun _ h => List.mem_cons_of_mem _ (List.mem_append_right _ h)) (by decide +kernel))
set_option maxRecDepth 20000 in
theorem gL_toggle_X0_toggle : GoodIn wsL_toggle (wsV RL 23 RX0 yX0_toggle wsX0_toggle) := goodIn_app (goodIn_of _ (by decide +kernel)) ggL_toggle_X0_toggle
theorem dL_toggle_0 : decode cL_toggle 0 = .ok (.aload_n 2, 1) := by decide +kernel
theorem dL_toggle_1 : decode cL_toggle 1 = .ok (.iconst 0, 1) := by decide +kernel
theorem dL_toggle_2 : decode cL_toggle 2 = .ok (.aload_n 0, 1) := by decide +kernel
theorem dL_toggle_3 : decode cL_toggle 3 = .ok (.iload_n 1, 1) := by decide +kernel
theorem dL_toggle_4 : decode cL_toggle 4 = .ok (.invokevirtual 23, 3) := by decide +kernel
theorem dL_toggle_7 : decode cL_toggle 7 = .ok (.ifCond .eq 7, 3) := by decide +kernel
theorem dL_toggle_10 : decode cL_toggle 10 = .ok (.lconst 1, 1) := by decide +kernel
theorem dL_toggle_11 : decode cL_toggle 11 = .ok (.goto 4, 3) := by decide +kernel
theorem dL_toggle_14 : decode cL_toggle 14 = .ok (.lconst 0, 1) := by decide +kernel
theorem dL_toggle_15 : decode cL_toggle 15 = .ok (.lastore, 1) := by decide +kernel
theorem dL_toggle_16 : decode cL_toggle 16 = .ok (.goto 6, 3) := by decide +kernel
theorem dL_toggle_19 : decode cL_toggle 19 = .ok (.astore_n 3, 1) := by decide +kernel
theorem dL_toggle_20 : decode cL_toggle 20 = .ok (.iconst 1, 1) := by decide +kernel
theorem dL_toggle_21 : decode cL_toggle 21 = .ok (.ireturn, 1) := by decide +kernel
theorem dL_toggle_22 : decode cL_toggle 22 = .ok (.iconst 0, 1) := by decide +kernel
theorem dL_toggle_23 : decode cL_toggle 23 = .ok (.ireturn, 1) := by decide +kernel
set_option maxRecDepth 20000 in
theorem ggL_setTide_X0_setTide : GoodIn wsL_setTide wsX0_setTide := goodIn_ca (goodIn_ca (goodIn_r _ [7, 8, 9, 10, 6, 11, 12, 13, 14, 15, 16, 17, 18, 19, 20, 21, 22, 23, 24, 25, 26, 27, 28, 29, 30, 31, 32, 33] (by decide +kernel) (by decide +kernel)) (goodIn_sub (fun _ h => List.mem_cons_of_mem _ (List.mem_append_left _ (List.mem_append_right _ h))) (by decide +kernel))) (goodIn_sub (fun _ h => List.mem_cons_of_mem _ (List.mem_append_right _ h)) (by decide +kernel))
set_option maxRecDepth 20000 in
theorem gL_setTide_X0_setTide : GoodIn wsL_setTide (wsV RL 27 RX0 yX0_setTide wsX0_setTide) := goodIn_app (goodIn_of _ (by decide +kernel)) ggL_setTide_X0_setTide
theorem dL_setTide_0 : decode cL_setTide 0 = .ok (.aload_n 3, 1) := by decide +kernel
theorem dL_setTide_1 : decode cL_setTide 1 = .ok (.iconst 0, 1) := by decide +kernel
theorem dL_setTide_2 : decode cL_setTide 2 = .ok (.aload_n 0, 1) := by decide +kernel
theorem dL_setTide_3 : decode cL_setTide 3 = .ok (.iload_n 1, 1) := by decide +kernel
theorem dL_setTide_4 : decode cL_setTide 4 = .ok (.iload_n 2, 1) := by decide +kernel
theorem dL_setTide_5 : decode cL_setTide 5 = .ok (.invokevirtual 27, 3) := by decide +kernel
theorem dL_setTide_8 : decode cL_setTide 8 = .ok (.i2l, 1) := by decide +kernel
theorem dL_setTide_9 : decode cL_setTide 9 = .ok (.lastore, 1) := by decide +kernel
theorem dL_setTide_10 : decode cL_setTide 10 = .ok (.goto 11, 3) := by decide +kernel
theorem dL_setTide_13 : decode cL_setTide 13 = .ok (.astore 4, 2) := by decide +kernel
theorem dL_setTide_15 : decode cL_setTide 15 = .ok (.iconst 1, 1) := by decide +kernel
theorem dL_setTide_16 : decode cL_setTide 16 = .ok (.ireturn, 1) := by decide +kernel
theorem dL_setTide_17 : decode cL_setTide 17 = .ok (.astore 4, 2) := by decide +kernel
theorem dL_setTide_19 : decode cL_setTide 19 = .ok (.iconst 2, 1) := by decide +kernel
theorem dL_setTide_20 : decode cL_setTide 20 = .ok (.ireturn, 1) := by decide +kernel
theorem dL_setTide_21 : decode cL_setTide 21 = .ok (.iconst 0, 1) := by decide +kernel
theorem dL_setTide_22 : decode cL_setTide 22 = .ok (.ireturn, 1) := by decide +kernel
set_option maxRecDepth 20000 in
theorem ggL_setLoad_X0_setLoad : GoodIn wsL_setLoad wsX0_setLoad := goodIn_ca (goodIn_ca (goodIn_r _ [7, 8, 9, 10, 6, 11, 12, 13, 14, 15, 16, 17, 18, 19, 20, 21, 22, 23, 24, 25, 26, 27, 28, 29, 30, 31, 32, 33] (by decide +kernel) (by decide +kernel)) (goodIn_sub (fun _ h => List.mem_cons_of_mem _ (List.mem_append_left _ (List.mem_append_right _ h))) (by decide +kernel))) (goodIn_sub (fun _ h => List.mem_cons_of_mem _ (List.mem_append_right _ h)) (by decide +kernel))
set_option maxRecDepth 20000 in
theorem gL_setLoad_X0_setLoad : GoodIn wsL_setLoad (wsV RL 30 RX0 yX0_setLoad wsX0_setLoad) := goodIn_app (goodIn_of _ (by decide +kernel)) ggL_setLoad_X0_setLoad
theorem dL_setLoad_0 : decode cL_setLoad 0 = .ok (.aload_n 3, 1) := by decide +kernel
theorem dL_setLoad_1 : decode cL_setLoad 1 = .ok (.iconst 0, 1) := by decide +kernel
theorem dL_setLoad_2 : decode cL_setLoad 2 = .ok (.aload_n 0, 1) := by decide +kernel
theorem dL_setLoad_3 : decode cL_setLoad 3 = .ok (.iload_n 1, 1) := by decide +kernel
theorem dL_setLoad_4 : decode cL_setLoad 4 = .ok (.iload_n 2, 1) := by decide +kernel
theorem dL_setLoad_5 : decode cL_setLoad 5 = .ok (.invokevirtual 30, 3) := by decide +kernel
theorem dL_setLoad_8 : decode cL_setLoad 8 = .ok (.i2l, 1) := by decide +kernel
theorem dL_setLoad_9 : decode cL_setLoad 9 = .ok (.lastore, 1) := by decide +kernel
theorem dL_setLoad_10 : decode cL_setLoad 10 = .ok (.goto 11, 3) := by decide +kernel
theorem dL_setLoad_13 : decode cL_setLoad 13 = .ok (.astore 4, 2) := by decide +kernel
theorem dL_setLoad_15 : decode cL_setLoad 15 = .ok (.iconst 1, 1) := by decide +kernel
theorem dL_setLoad_16 : decode cL_setLoad 16 = .ok (.ireturn, 1) := by decide +kernel
theorem dL_setLoad_17 : decode cL_setLoad 17 = .ok (.astore 4, 2) := by decide +kernel
theorem dL_setLoad_19 : decode cL_setLoad 19 = .ok (.iconst 2, 1) := by decide +kernel
theorem dL_setLoad_20 : decode cL_setLoad 20 = .ok (.ireturn, 1) := by decide +kernel
theorem dL_setLoad_21 : decode cL_setLoad 21 = .ok (.iconst 0, 1) := by decide +kernel
theorem dL_setLoad_22 : decode cL_setLoad 22 = .ok (.ireturn, 1) := by decide +kernel
set_option maxRecDepth 20000 in
theorem ggL_setWind_X0_setWind : GoodIn wsL_setWind wsX0_setWind := goodIn_ca (goodIn_r _ [6, 7, 8, 9, 10, 11, 5, 12, 13, 14, 15, 16, 17, 18, 19, 20, 21, 22, 23, 24, 25, 26, 27, 28, 29] (by decide +kernel) (by decide +kernel)) (goodIn_sub (fun _ h => List.mem_cons_of_mem _ (List.mem_append_right _ h)) (by decide +kernel))
set_option maxRecDepth 20000 in
theorem gL_setWind_X0_setWind : GoodIn wsL_setWind (wsV RL 33 RX0 yX0_setWind wsX0_setWind) := goodIn_app (goodIn_of _ (by decide +kernel)) ggL_setWind_X0_setWind
theorem dL_setWind_0 : decode cL_setWind 0 = .ok (.aload_n 2, 1) := by decide +kernel
theorem dL_setWind_1 : decode cL_setWind 1 = .ok (.iconst 0, 1) := by decide +kernel
theorem dL_setWind_2 : decode cL_setWind 2 = .ok (.aload_n 0, 1) := by decide +kernel
theorem dL_setWind_3 : decode cL_setWind 3 = .ok (.iload_n 1, 1) := by decide +kernel
theorem dL_setWind_4 : decode cL_setWind 4 = .ok (.invokevirtual 33, 3) := by decide +kernel
theorem dL_setWind_7 : decode cL_setWind 7 = .ok (.i2l, 1) := by decide +kernel
theorem dL_setWind_8 : decode cL_setWind 8 = .ok (.lastore, 1) := by decide +kernel
theorem dL_setWind_9 : decode cL_setWind 9 = .ok (.goto 6, 3) := by decide +kernel
theorem dL_setWind_12 : decode cL_setWind 12 = .ok (.astore_n 3, 1) := by decide +kernel
theorem dL_setWind_13 : decode cL_setWind 13 = .ok (.iconst 1, 1) := by decide +kernel
theorem dL_setWind_14 : decode cL_setWind 14 = .ok (.ireturn, 1) := by decide +kernel
theorem dL_setWind_15 : decode cL_setWind 15 = .ok (.iconst 0, 1) := by decide +kernel
theorem dL_setWind_16 : decode cL_setWind 16 = .ok (.ireturn, 1) := by decide +kernel
set_option maxRecDepth 20000 in
theorem ggL_setPassing_X0_setPassing : GoodIn wsL_setPassing wsX0_setPassing := goodIn_ca (goodIn_ca (goodIn_r _ [7, 8, 9, 10, 11, 12, 6, 13, 14, 15, 16, 17, 18, 19, 20, 21, 22, 23, 24, 25, 26, 27, 28, 29, 30, 31, 32, 33, 34, 35] (by decide +kernel) (by decide +kernel)) (goodIn_sub (fun _ h => List.mem_cons_of_mem _ (List.mem_append_left _ (List.mem_append_right _ h))) (by decide +kernel))) (goodIn_sub (fun _ h => List.mem_cons_of_mem _ (List.mem_append_right _ h)) (by decide +kernel))
set_option maxRecDepth 20000 in
theorem gL_setPassing_X0_setPassing : GoodIn wsL_setPassing (wsV RL 37 RX0 yX0_setPassing wsX0_setPassing) := goodIn_app (goodIn_of _ (by decide +kernel)) ggL_setPassing_X0_setPassing
theorem dL_setPassing_0 : decode cL_setPassing 0 = .ok (.aload_n 3, 1) := by decide +kernel
theorem dL_setPassing_1 : decode cL_setPassing 1 = .ok (.iconst 0, 1) := by decide +kernel
theorem dL_setPassing_2 : decode cL_setPassing 2 = .ok (.aload_n 0, 1) := by decide +kernel
theorem dL_setPassing_3 : decode cL_setPassing 3 = .ok (.iload_n 1, 1) := by decide +kernel
theorem dL_setPassing_4 : decode cL_setPassing 4 = .ok (.iload_n 2, 1) := by decide +kernel
theorem dL_setPassing_5 : decode cL_setPassing 5 = .ok (.invokevirtual 37, 3) := by decide +kernel
theorem dL_setPassing_8 : decode cL_setPassing 8 = .ok (.i2l, 1) := by decide +kernel
theorem dL_setPassing_9 : decode cL_setPassing 9 = .ok (.lastore, 1) := by decide +kernel
theorem dL_setPassing_10 : decode cL_setPassing 10 = .ok (.goto 11, 3) := by decide +kernel
theorem dL_setPassing_13 : decode cL_setPassing 13 = .ok (.astore 4, 2) := by decide +kernel
theorem dL_setPassing_15 : decode cL_setPassing 15 = .ok (.iconst 1, 1) := by decide +kernel
theorem dL_setPassing_16 : decode cL_setPassing 16 = .ok (.ireturn, 1) := by decide +kernel
theorem dL_setPassing_17 : decode cL_setPassing 17 = .ok (.astore 4, 2) := by decide +kernel
theorem dL_setPassing_19 : decode cL_setPassing 19 = .ok (.iconst 2, 1) := by decide +kernel
theorem dL_setPassing_20 : decode cL_setPassing 20 = .ok (.ireturn, 1) := by decide +kernel
theorem dL_setPassing_21 : decode cL_setPassing 21 = .ok (.iconst 0, 1) := by decide +kernel
theorem dL_setPassing_22 : decode cL_setPassing 22 = .ok (.ireturn, 1) := by decide +kernel
set_option maxRecDepth 20000 in
theorem ggL_force_X0_force : GoodIn wsL_force wsX0_force := goodIn_ca (goodIn_ca (goodIn_r _ [7, 8, 9, 6, 10, 11, 12, 13, 14, 15, 16, 17, 18, 19, 20, 21, 22, 23, 24, 25, 26, 27, 28, 29, 30, 31, 32, 33, 34, 35, 36, 37, 38, 39, 40, 41, 42, 43, 44, 45, 46, 47, 48, 49, 50, 51, 52, 53, 54, 55, 56, 57, 58, 59, 60, 61, 62, 63, 64] (by decide +kernel) (by decide +kernel)) (goodIn_sub (fun _ h => List.mem_cons_of_mem _ (List.mem_append_left _ (List.mem_append_right _ h))) (by decide +kernel))) (goodIn_sub (fun _ h => List.mem_cons_of_mem _ (List.mem_append_right _ h)) (by decide +kernel))
set_option maxRecDepth 20000 in
theorem gL_force_X0_force : GoodIn wsL_force (wsV RL 40 RX0 yX0_force wsX0_force) := goodIn_app (goodIn_of _ (by decide +kernel)) ggL_force_X0_force
theorem dL_force_0 : decode cL_force 0 = .ok (.aload_n 3, 1) := by decide +kernel
theorem dL_force_1 : decode cL_force 1 = .ok (.iconst 0, 1) := by decide +kernel
theorem dL_force_2 : decode cL_force 2 = .ok (.aload_n 0, 1) := by decide +kernel
theorem dL_force_3 : decode cL_force 3 = .ok (.iload_n 1, 1) := by decide +kernel
theorem dL_force_4 : decode cL_force 4 = .ok (.iload_n 2, 1) := by decide +kernel
theorem dL_force_5 : decode cL_force 5 = .ok (.invokevirtual 40, 3) := by decide +kernel
theorem dL_force_8 : decode cL_force 8 = .ok (.i2l, 1) := by decide +kernel
theorem dL_force_9 : decode cL_force 9 = .ok (.lastore, 1) := by decide +kernel
theorem dL_force_10 : decode cL_force 10 = .ok (.goto 11, 3) := by decide +kernel
theorem dL_force_13 : decode cL_force 13 = .ok (.astore 4, 2) := by decide +kernel
theorem dL_force_15 : decode cL_force 15 = .ok (.iconst 1, 1) := by decide +kernel
theorem dL_force_16 : decode cL_force 16 = .ok (.ireturn, 1) := by decide +kernel
theorem dL_force_17 : decode cL_force 17 = .ok (.astore 4, 2) := by decide +kernel
theorem dL_force_19 : decode cL_force 19 = .ok (.iconst 2, 1) := by decide +kernel
theorem dL_force_20 : decode cL_force 20 = .ok (.ireturn, 1) := by decide +kernel
theorem dL_force_21 : decode cL_force 21 = .ok (.iconst 0, 1) := by decide +kernel
theorem dL_force_22 : decode cL_force 22 = .ok (.ireturn, 1) := by decide +kernel
set_option maxRecDepth 20000 in
theorem ggL_shift_X0_shift : GoodIn wsL_shift wsX0_shift := goodIn_ca (goodIn_r _ [6, 7, 8, 5, 9, 10, 11, 12, 13, 14, 15, 16, 17, 18, 19, 20, 21, 22, 23, 24, 25, 26, 27, 28, 29, 30, 31, 32, 33, 34, 35, 36, 37, 38, 39, 40, 41, 42, 43, 44, 45, 46, 47, 48, 49, 50, 51, 52, 53, 54, 55, 56, 57, 58, 59, 60, 61, 62, 63, 64, 65, 66] (by decide +kernel) (by decide +kernel)) (goodIn_sub (fun _ h => List.mem_cons_of_mem _ (List.mem_append_right _ h)) (by decide +kernel))
set_option maxRecDepth 20000 in
theorem gL_shift_X0_shift : GoodIn wsL_shift (wsV RL 43 RX0 yX0_shift wsX0_shift) := goodIn_app (goodIn_of _ (by decide +kernel)) ggL_shift_X0_shift
theorem dL_shift_0 : decode cL_shift 0 = .ok (.aload_n 2, 1) := by decide +kernel
theorem dL_shift_1 : decode cL_shift 1 = .ok (.iconst 0, 1) := by decide +kernel
theorem dL_shift_2 : decode cL_shift 2 = .ok (.aload_n 0, 1) := by decide +kernel
theorem dL_shift_3 : decode cL_shift 3 = .ok (.iload_n 1, 1) := by decide +kernel
theorem dL_shift_4 : decode cL_shift 4 = .ok (.invokevirtual 43, 3) := by decide +kernel
theorem dL_shift_7 : decode cL_shift 7 = .ok (.i2l, 1) := by decide +kernel
theorem dL_shift_8 : decode cL_shift 8 = .ok (.lastore, 1) := by decide +kernel
theorem dL_shift_9 : decode cL_shift 9 = .ok (.goto 6, 3) := by decide +kernel
theorem dL_shift_12 : decode cL_shift 12 = .ok (.astore_n 3, 1) := by decide +kernel
theorem dL_shift_13 : decode cL_shift 13 = .ok (.iconst 1, 1) := by decide +kernel
theorem dL_shift_14 : decode cL_shift 14 = .ok (.ireturn, 1) := by decide +kernel
theorem dL_shift_15 : decode cL_shift 15 = .ok (.iconst 0, 1) := by decide +kernel
theorem dL_shift_16 : decode cL_shift 16 = .ok (.ireturn, 1) := by decide +kernel
set_option maxRecDepth 20000 in
theorem ggL_isAdrift_X0_isAdrift : GoodIn wsL_isAdrift wsX0_isAdrift := goodIn_ca (goodIn_r _ [6, 7, 8, 5, 9, 10, 11, 12, 13, 14, 15, 16, 17, 18, 19, 20, 21, 22, 23, 24, 25, 26, 27, 28, 29, 30, 31, 32, 33, 34, 35, 36, 37, 38, 39, 40, 41, 42, 43, 44, 45, 46, 47, 48, 49, 50, 51, 52, 53, 54, 55, 56, 57, 58, 59, 60, 61, 62, 63, 64, 65, 66, 67, 68, 69, 70] (by decide +kernel) (by decide +kernel)) (goodIn_sub (fun _ h => List.mem_cons_of_mem _ (List.mem_append_right _ h)) (by decide +kernel))
set_option maxRecDepth 20000 in
theorem gL_isAdrift_X0_isAdrift : GoodIn wsL_isAdrift (wsV RL 46 RX0 yX0_isAdrift wsX0_isAdrift) := goodIn_app (goodIn_of _ (by decide +kernel)) ggL_isAdrift_X0_isAdrift
theorem dL_isAdrift_0 : decode cL_isAdrift 0 = .ok (.aload_n 2, 1) := by decide +kernel
theorem dL_isAdrift_1 : decode cL_isAdrift 1 = .ok (.iconst 0, 1) := by decide +kernel
theorem dL_isAdrift_2 : decode cL_isAdrift 2 = .ok (.aload_n 0, 1) := by decide +kernel
theorem dL_isAdrift_3 : decode cL_isAdrift 3 = .ok (.iload_n 1, 1) := by decide +kernel
theorem dL_isAdrift_4 : decode cL_isAdrift 4 = .ok (.invokevirtual 46, 3) := by decide +kernel
theorem dL_isAdrift_7 : decode cL_isAdrift 7 = .ok (.ifCond .eq 7, 3) := by decide +kernel
theorem dL_isAdrift_10 : decode cL_isAdrift 10 = .ok (.lconst 1, 1) := by decide +kernel
theorem dL_isAdrift_11 : decode cL_isAdrift 11 = .ok (.goto 4, 3) := by decide +kernel
theorem dL_isAdrift_14 : decode cL_isAdrift 14 = .ok (.lconst 0, 1) := by decide +kernel
theorem dL_isAdrift_15 : decode cL_isAdrift 15 = .ok (.lastore, 1) := by decide +kernel
theorem dL_isAdrift_16 : decode cL_isAdrift 16 = .ok (.goto 6, 3) := by decide +kernel
theorem dL_isAdrift_19 : decode cL_isAdrift 19 = .ok (.astore_n 3, 1) := by decide +kernel
theorem dL_isAdrift_20 : decode cL_isAdrift 20 = .ok (.iconst 1, 1) := by decide +kernel
theorem dL_isAdrift_21 : decode cL_isAdrift 21 = .ok (.ireturn, 1) := by decide +kernel
theorem dL_isAdrift_22 : decode cL_isAdrift 22 = .ok (.iconst 0, 1) := by decide +kernel
theorem dL_isAdrift_23 : decode cL_isAdrift 23 = .ok (.ireturn, 1) := by decide +kernel
set_option maxRecDepth 20000 in
theorem ggL_length_X0_length : GoodIn wsL_length wsX0_length := goodIn_ca (goodIn_r _ [6, 7, 8, 9, 5, 10, 11, 12, 13, 14, 15, 16, 17, 18, 19, 20, 21, 22, 23, 24, 25, 26, 27, 28, 29, 30, 31, 32, 33, 34, 35, 36, 37, 38, 39, 40, 41, 42, 43, 44, 45, 46, 47, 48, 49, 50, 51, 52, 53, 54, 55, 56, 57, 58, 59, 60, 61, 62, 63, 64, 65, 66, 67, 68, 69, 70, 71, 72, 73, 74] (by decide +kernel) (by decide +kernel)) (goodIn_sub (fun _ h => List.mem_cons_of_mem _ (List.mem_append_right _ h)) (by decide +kernel))
set_option maxRecDepth 20000 in
theorem gL_length_X0_length : GoodIn wsL_length (wsV RL 49 RX0 yX0_length wsX0_length) := goodIn_app (goodIn_of _ (by decide +kernel)) ggL_length_X0_length
theorem dL_length_0 : decode cL_length 0 = .ok (.aload_n 3, 1) := by decide +kernel
theorem dL_length_1 : decode cL_length 1 = .ok (.iconst 0, 1) := by decide +kernel
theorem dL_length_2 : decode cL_length 2 = .ok (.aload_n 0, 1) := by decide +kernel
theorem dL_length_3 : decode cL_length 3 = .ok (.iload_n 1, 1) := by decide +kernel
theorem dL_length_4 : decode cL_length 4 = .ok (.iload_n 2, 1) := by decide +kernel
theorem dL_length_5 : decode cL_length 5 = .ok (.invokevirtual 49, 3) := by decide +kernel
theorem dL_length_8 : decode cL_length 8 = .ok (.i2l, 1) := by decide +kernel
theorem dL_length_9 : decode cL_length 9 = .ok (.lastore, 1) := by decide +kernel
theorem dL_length_10 : decode cL_length 10 = .ok (.goto 7, 3) := by decide +kernel
theorem dL_length_13 : decode cL_length 13 = .ok (.astore 4, 2) := by decide +kernel
theorem dL_length_15 : decode cL_length 15 = .ok (.iconst 1, 1) := by decide +kernel
theorem dL_length_16 : decode cL_length 16 = .ok (.ireturn, 1) := by decide +kernel
theorem dL_length_17 : decode cL_length 17 = .ok (.iconst 0, 1) := by decide +kernel
theorem dL_length_18 : decode cL_length 18 = .ok (.ireturn, 1) := by decide +kernel
set_option maxRecDepth 20000 in
theorem ggL_tension_X0_tension : GoodIn wsL_tension wsX0_tension := goodIn_ca (goodIn_r _ [6, 7, 8, 9, 5, 10, 11, 12, 13, 14, 15, 16, 17, 18, 19, 20, 21, 22, 23, 24, 25, 26, 27, 28, 29, 30, 31, 32, 33, 34, 35, 36, 37, 38, 39, 40, 41, 42, 43, 44, 45, 46, 47, 48, 49, 50, 51, 52, 53, 54, 55, 56, 57, 58, 59, 60, 61, 62, 63, 64, 65, 66, 67, 68, 69, 70, 71, 72, 73, 74] (by decide +kernel) (by decide +kernel)) (goodIn_sub (fun _ h => List.mem_cons_of_mem _ (List.mem_append_right _ h)) (by decide +kernel))
set_option maxRecDepth 20000 in
theorem gL_tension_X0_tension : GoodIn wsL_tension (wsV RL 52 RX0 yX0_tension wsX0_tension) := goodIn_app (goodIn_of _ (by decide +kernel)) ggL_tension_X0_tension
theorem dL_tension_0 : decode cL_tension 0 = .ok (.aload_n 3, 1) := by decide +kernel
theorem dL_tension_1 : decode cL_tension 1 = .ok (.iconst 0, 1) := by decide +kernel
theorem dL_tension_2 : decode cL_tension 2 = .ok (.aload_n 0, 1) := by decide +kernel
theorem dL_tension_3 : decode cL_tension 3 = .ok (.iload_n 1, 1) := by decide +kernel
theorem dL_tension_4 : decode cL_tension 4 = .ok (.iload_n 2, 1) := by decide +kernel
theorem dL_tension_5 : decode cL_tension 5 = .ok (.invokevirtual 52, 3) := by decide +kernel
theorem dL_tension_8 : decode cL_tension 8 = .ok (.i2l, 1) := by decide +kernel
theorem dL_tension_9 : decode cL_tension 9 = .ok (.lastore, 1) := by decide +kernel
theorem dL_tension_10 : decode cL_tension 10 = .ok (.goto 7, 3) := by decide +kernel
theorem dL_tension_13 : decode cL_tension 13 = .ok (.astore 4, 2) := by decide +kernel
theorem dL_tension_15 : decode cL_tension 15 = .ok (.iconst 1, 1) := by decide +kernel
theorem dL_tension_16 : decode cL_tension 16 = .ok (.ireturn, 1) := by decide +kernel
theorem dL_tension_17 : decode cL_tension 17 = .ok (.iconst 0, 1) := by decide +kernel
theorem dL_tension_18 : decode cL_tension 18 = .ok (.ireturn, 1) := by decide +kernel
set_option maxRecDepth 20000 in
theorem ggL_onBollard_X0_onBollard : GoodIn wsL_onBollard wsX0_onBollard := goodIn_ca (goodIn_r _ [6, 7, 8, 9, 5, 10, 11, 12, 13, 14, 15, 16, 17, 18, 19, 20, 21, 22, 23, 24, 25, 26, 27, 28, 29, 30, 31, 32, 33, 34, 35, 36, 37, 38, 39, 40, 41, 42, 43, 44, 45, 46, 47, 48, 49, 50, 51, 52, 53, 54, 55, 56, 57, 58, 59, 60, 61, 62, 63, 64, 65, 66, 67, 68, 69, 70, 71, 72, 73, 74, 75, 76, 77, 78, 79, 80] (by decide +kernel) (by decide +kernel)) (goodIn_sub (fun _ h => List.mem_cons_of_mem _ (List.mem_append_right _ h)) (by decide +kernel))
set_option maxRecDepth 20000 in
theorem gL_onBollard_X0_onBollard : GoodIn wsL_onBollard (wsV RL 55 RX0 yX0_onBollard wsX0_onBollard) := goodIn_app (goodIn_of _ (by decide +kernel)) ggL_onBollard_X0_onBollard
theorem dL_onBollard_0 : decode cL_onBollard 0 = .ok (.aload_n 3, 1) := by decide +kernel
theorem dL_onBollard_1 : decode cL_onBollard 1 = .ok (.iconst 0, 1) := by decide +kernel
theorem dL_onBollard_2 : decode cL_onBollard 2 = .ok (.aload_n 0, 1) := by decide +kernel
theorem dL_onBollard_3 : decode cL_onBollard 3 = .ok (.iload_n 1, 1) := by decide +kernel
theorem dL_onBollard_4 : decode cL_onBollard 4 = .ok (.iload_n 2, 1) := by decide +kernel
theorem dL_onBollard_5 : decode cL_onBollard 5 = .ok (.invokevirtual 55, 3) := by decide +kernel
theorem dL_onBollard_8 : decode cL_onBollard 8 = .ok (.i2l, 1) := by decide +kernel
theorem dL_onBollard_9 : decode cL_onBollard 9 = .ok (.lastore, 1) := by decide +kernel
theorem dL_onBollard_10 : decode cL_onBollard 10 = .ok (.goto 7, 3) := by decide +kernel
theorem dL_onBollard_13 : decode cL_onBollard 13 = .ok (.astore 4, 2) := by decide +kernel
theorem dL_onBollard_15 : decode cL_onBollard 15 = .ok (.iconst 1, 1) := by decide +kernel
theorem dL_onBollard_16 : decode cL_onBollard 16 = .ok (.ireturn, 1) := by decide +kernel
theorem dL_onBollard_17 : decode cL_onBollard 17 = .ok (.iconst 0, 1) := by decide +kernel
theorem dL_onBollard_18 : decode cL_onBollard 18 = .ok (.ireturn, 1) := by decide +kernel
set_option maxRecDepth 20000 in
theorem ggL_isSafe_X0_isSafe : GoodIn wsL_isSafe wsX0_isSafe := goodIn_ca (goodIn_r _ [6, 7, 8, 5, 9, 10, 11, 12, 13, 14, 15, 16, 17, 18, 19, 20, 21, 22, 23, 24, 25, 26, 27, 28, 29, 30, 31, 32, 33, 34, 35, 36, 37, 38, 39, 40, 41, 42, 43, 44, 45, 46, 47, 48, 49, 50, 51, 52, 53, 54, 55, 56, 57, 58, 59, 60, 61, 62, 63, 64, 65, 66, 67, 68, 69, 70, 71, 72, 73, 74, 75, 76, 77, 78, 79, 80, 81, 82, 83, 84, 85, 86, 87, 88, 89, 90, 91, 92, 93, 94] (by decide +kernel) (by decide +kernel)) (goodIn_sub (fun _ h => List.mem_cons_of_mem _ (List.mem_append_right _ h)) (by decide +kernel))
set_option maxRecDepth 20000 in
theorem gL_isSafe_X0_isSafe : GoodIn wsL_isSafe (wsV RL 58 RX0 yX0_isSafe wsX0_isSafe) := goodIn_app (goodIn_of _ (by decide +kernel)) ggL_isSafe_X0_isSafe
theorem dL_isSafe_0 : decode cL_isSafe 0 = .ok (.aload_n 2, 1) := by decide +kernel
theorem dL_isSafe_1 : decode cL_isSafe 1 = .ok (.iconst 0, 1) := by decide +kernel
theorem dL_isSafe_2 : decode cL_isSafe 2 = .ok (.aload_n 0, 1) := by decide +kernel
theorem dL_isSafe_3 : decode cL_isSafe 3 = .ok (.iload_n 1, 1) := by decide +kernel
theorem dL_isSafe_4 : decode cL_isSafe 4 = .ok (.invokevirtual 58, 3) := by decide +kernel
theorem dL_isSafe_7 : decode cL_isSafe 7 = .ok (.ifCond .eq 7, 3) := by decide +kernel
theorem dL_isSafe_10 : decode cL_isSafe 10 = .ok (.lconst 1, 1) := by decide +kernel
theorem dL_isSafe_11 : decode cL_isSafe 11 = .ok (.goto 4, 3) := by decide +kernel
theorem dL_isSafe_14 : decode cL_isSafe 14 = .ok (.lconst 0, 1) := by decide +kernel
theorem dL_isSafe_15 : decode cL_isSafe 15 = .ok (.lastore, 1) := by decide +kernel
theorem dL_isSafe_16 : decode cL_isSafe 16 = .ok (.goto 6, 3) := by decide +kernel
theorem dL_isSafe_19 : decode cL_isSafe 19 = .ok (.astore_n 3, 1) := by decide +kernel
theorem dL_isSafe_20 : decode cL_isSafe 20 = .ok (.iconst 1, 1) := by decide +kernel
theorem dL_isSafe_21 : decode cL_isSafe 21 = .ok (.ireturn, 1) := by decide +kernel
theorem dL_isSafe_22 : decode cL_isSafe 22 = .ok (.iconst 0, 1) := by decide +kernel
theorem dL_isSafe_23 : decode cL_isSafe 23 = .ok (.ireturn, 1) := by decide +kernel
set_option maxRecDepth 20000 in
theorem ggL_firstUnsafe_X0_firstUnsafe : GoodIn wsL_firstUnsafe wsX0_firstUnsafe := goodIn_ca (goodIn_r _ [6, 7, 8, 5, 9, 10, 11, 12, 13, 14, 15, 16, 17, 18, 19, 20, 21, 22, 23, 24, 25, 26, 27, 28, 29, 30, 31, 32, 33, 34, 35, 36, 37, 38, 39, 40, 41, 42, 43, 44, 45, 46, 47, 48, 49, 50, 51, 52, 53, 54, 55, 56, 57, 58, 59, 60, 61, 62, 63, 64, 65, 66, 67, 68, 69, 70, 71, 72, 73, 74, 75, 76, 77, 78, 79, 80, 81, 82, 83, 84, 85, 86, 87, 88, 89, 90, 91, 92, 93, 94] (by decide +kernel) (by decide +kernel)) (goodIn_sub (fun _ h => List.mem_cons_of_mem _ (List.mem_append_right _ h)) (by decide +kernel))
set_option maxRecDepth 20000 in
theorem gL_firstUnsafe_X0_firstUnsafe : GoodIn wsL_firstUnsafe (wsV RL 61 RX0 yX0_firstUnsafe wsX0_firstUnsafe) := goodIn_app (goodIn_of _ (by decide +kernel)) ggL_firstUnsafe_X0_firstUnsafe
theorem dL_firstUnsafe_0 : decode cL_firstUnsafe 0 = .ok (.aload_n 2, 1) := by decide +kernel
theorem dL_firstUnsafe_1 : decode cL_firstUnsafe 1 = .ok (.iconst 0, 1) := by decide +kernel
theorem dL_firstUnsafe_2 : decode cL_firstUnsafe 2 = .ok (.aload_n 0, 1) := by decide +kernel
theorem dL_firstUnsafe_3 : decode cL_firstUnsafe 3 = .ok (.iload_n 1, 1) := by decide +kernel
theorem dL_firstUnsafe_4 : decode cL_firstUnsafe 4 = .ok (.invokevirtual 61, 3) := by decide +kernel
theorem dL_firstUnsafe_7 : decode cL_firstUnsafe 7 = .ok (.i2l, 1) := by decide +kernel
theorem dL_firstUnsafe_8 : decode cL_firstUnsafe 8 = .ok (.lastore, 1) := by decide +kernel
theorem dL_firstUnsafe_9 : decode cL_firstUnsafe 9 = .ok (.goto 6, 3) := by decide +kernel
theorem dL_firstUnsafe_12 : decode cL_firstUnsafe 12 = .ok (.astore_n 3, 1) := by decide +kernel
theorem dL_firstUnsafe_13 : decode cL_firstUnsafe 13 = .ok (.iconst 1, 1) := by decide +kernel
theorem dL_firstUnsafe_14 : decode cL_firstUnsafe 14 = .ok (.ireturn, 1) := by decide +kernel
theorem dL_firstUnsafe_15 : decode cL_firstUnsafe 15 = .ok (.iconst 0, 1) := by decide +kernel
theorem dL_firstUnsafe_16 : decode cL_firstUnsafe 16 = .ok (.ireturn, 1) := by decide +kernel
set_option maxRecDepth 20000 in
theorem ggL_tend_X0_tend : GoodIn wsL_tend wsX0_tend := goodIn_ca (goodIn_ca (goodIn_ca (goodIn_r _ [8, 9, 10, 11, 12, 13, 14, 15, 16, 17, 18, 19, 7, 20, 21, 22, 23, 24, 25, 26, 27, 28, 29, 30, 31, 32, 33, 34, 35, 36, 37, 38, 39, 40, 41, 42, 43, 44, 45, 46, 47, 48, 49, 50, 51, 52, 53, 54, 55, 56, 57, 58, 59, 60, 61, 62, 63, 64, 65, 66, 67, 68, 69, 70, 71, 72, 73, 74, 75, 76, 77, 78, 79, 80, 81, 82, 83] (by decide +kernel) (by decide +kernel)) (goodIn_sub (fun _ h => List.mem_cons_of_mem _ (List.mem_append_left _ (List.mem_append_left _ (List.mem_append_right _ h)))) (by decide +kernel))) (goodIn_sub (fun _ h => List.mem_cons_of_mem _ (List.mem_append_left _ (List.mem_append_right _ h))) (by decide +kernel))) (goodIn_sub (fun _ h => List.mem_cons_of_mem _ (List.mem_append_right _ h)) (by decide +kernel))
set_option maxRecDepth 20000 in
theorem gL_tend_X0_tend : GoodIn wsL_tend (wsV RL 64 RX0 yX0_tend wsX0_tend) := goodIn_app (goodIn_of _ (by decide +kernel)) ggL_tend_X0_tend
theorem dL_tend_0 : decode cL_tend 0 = .ok (.aload 4, 2) := by decide +kernel
theorem dL_tend_2 : decode cL_tend 2 = .ok (.iconst 0, 1) := by decide +kernel
theorem dL_tend_3 : decode cL_tend 3 = .ok (.aload_n 0, 1) := by decide +kernel
theorem dL_tend_4 : decode cL_tend 4 = .ok (.iload_n 1, 1) := by decide +kernel
theorem dL_tend_5 : decode cL_tend 5 = .ok (.iload_n 2, 1) := by decide +kernel
theorem dL_tend_6 : decode cL_tend 6 = .ok (.iload_n 3, 1) := by decide +kernel
theorem dL_tend_7 : decode cL_tend 7 = .ok (.invokevirtual 64, 3) := by decide +kernel
theorem dL_tend_10 : decode cL_tend 10 = .ok (.i2l, 1) := by decide +kernel
theorem dL_tend_11 : decode cL_tend 11 = .ok (.lastore, 1) := by decide +kernel
theorem dL_tend_12 : decode cL_tend 12 = .ok (.goto 15, 3) := by decide +kernel
theorem dL_tend_15 : decode cL_tend 15 = .ok (.astore 5, 2) := by decide +kernel
theorem dL_tend_17 : decode cL_tend 17 = .ok (.iconst 1, 1) := by decide +kernel
theorem dL_tend_18 : decode cL_tend 18 = .ok (.ireturn, 1) := by decide +kernel
theorem dL_tend_19 : decode cL_tend 19 = .ok (.astore 5, 2) := by decide +kernel
theorem dL_tend_21 : decode cL_tend 21 = .ok (.iconst 2, 1) := by decide +kernel
theorem dL_tend_22 : decode cL_tend 22 = .ok (.ireturn, 1) := by decide +kernel
theorem dL_tend_23 : decode cL_tend 23 = .ok (.astore 5, 2) := by decide +kernel
theorem dL_tend_25 : decode cL_tend 25 = .ok (.iconst 3, 1) := by decide +kernel
theorem dL_tend_26 : decode cL_tend 26 = .ok (.ireturn, 1) := by decide +kernel
theorem dL_tend_27 : decode cL_tend 27 = .ok (.iconst 0, 1) := by decide +kernel
theorem dL_tend_28 : decode cL_tend 28 = .ok (.ireturn, 1) := by decide +kernel
set_option maxRecDepth 20000 in
theorem ggL_tendAll_X0_tendAll : GoodIn wsL_tendAll wsX0_tendAll := goodIn_ca (goodIn_r _ [6, 7, 8, 5, 9, 10, 11, 12, 13, 14, 15, 16, 17, 18, 19, 20, 21, 22, 23, 24, 25, 26, 27, 28, 29, 30, 31, 32, 33, 34, 35, 36, 37, 38, 39, 40, 41, 42, 43, 44, 45, 46, 47, 48, 49, 50, 51, 52, 53, 54, 55, 56, 57, 58, 59, 60, 61, 62, 63, 64, 65, 66, 67, 68, 69, 70, 71, 72, 73, 74] (by decide +kernel) (by decide +kernel)) (goodIn_sub (fun _ h => List.mem_cons_of_mem _ (List.mem_append_right _ h)) (by decide +kernel))
set_option maxRecDepth 20000 in
theorem gL_tendAll_X0_tendAll : GoodIn wsL_tendAll (wsV RL 68 RX0 yX0_tendAll wsX0_tendAll) := goodIn_app (goodIn_of _ (by decide +kernel)) ggL_tendAll_X0_tendAll
theorem dL_tendAll_0 : decode cL_tendAll 0 = .ok (.aload_n 2, 1) := by decide +kernel
theorem dL_tendAll_1 : decode cL_tendAll 1 = .ok (.iconst 0, 1) := by decide +kernel
theorem dL_tendAll_2 : decode cL_tendAll 2 = .ok (.aload_n 0, 1) := by decide +kernel
theorem dL_tendAll_3 : decode cL_tendAll 3 = .ok (.iload_n 1, 1) := by decide +kernel
theorem dL_tendAll_4 : decode cL_tendAll 4 = .ok (.invokevirtual 68, 3) := by decide +kernel
theorem dL_tendAll_7 : decode cL_tendAll 7 = .ok (.i2l, 1) := by decide +kernel
theorem dL_tendAll_8 : decode cL_tendAll 8 = .ok (.lastore, 1) := by decide +kernel
theorem dL_tendAll_9 : decode cL_tendAll 9 = .ok (.goto 6, 3) := by decide +kernel
theorem dL_tendAll_12 : decode cL_tendAll 12 = .ok (.astore_n 3, 1) := by decide +kernel
theorem dL_tendAll_13 : decode cL_tendAll 13 = .ok (.iconst 1, 1) := by decide +kernel
theorem dL_tendAll_14 : decode cL_tendAll 14 = .ok (.ireturn, 1) := by decide +kernel
theorem dL_tendAll_15 : decode cL_tendAll 15 = .ok (.iconst 0, 1) := by decide +kernel
theorem dL_tendAll_16 : decode cL_tendAll 16 = .ok (.ireturn, 1) := by decide +kernel
set_option maxRecDepth 20000 in
theorem ggL_plan_X0_plan : GoodIn wsL_plan wsX0_plan := goodIn_ca (goodIn_ca (goodIn_r _ [7, 8, 9, 10, 11, 12, 13, 14, 15, 16, 17, 6, 18, 19, 20, 21, 22, 23, 24, 25, 26, 27, 28, 29, 30, 31, 32, 33, 34, 35, 36, 37, 38, 39, 40, 41, 42, 43, 44, 45, 46, 47, 48, 49, 50, 51, 52, 53, 54, 55, 56, 57, 58, 59, 60, 61, 62, 63, 64, 65, 66, 67, 68, 69, 70, 71, 72, 73, 74, 75, 76, 77, 78, 79, 80, 81, 82, 83, 84, 85, 86, 87, 88, 89, 90, 91, 92, 93, 94, 95, 96, 97, 98, 99, 100, 101, 102, 103, 104, 105, 106, 107, 108, 109, 110] (by decide +kernel) (by decide +kernel)) (goodIn_sub (fun _ h => List.mem_cons_of_mem _ (List.mem_append_left _ (List.mem_append_right _ h))) (by decide +kernel))) (goodIn_sub (fun _ h => List.mem_cons_of_mem _ (List.mem_append_right _ h)) (by decide +kernel))
set_option maxRecDepth 20000 in
theorem gL_plan_X0_plan : GoodIn wsL_plan (wsV RL 71 RX0 yX0_plan wsX0_plan) := goodIn_app (goodIn_of _ (by decide +kernel)) ggL_plan_X0_plan
theorem dL_plan_0 : decode cL_plan 0 = .ok (.aload_n 3, 1) := by decide +kernel
theorem dL_plan_1 : decode cL_plan 1 = .ok (.iconst 0, 1) := by decide +kernel
theorem dL_plan_2 : decode cL_plan 2 = .ok (.aload_n 0, 1) := by decide +kernel
theorem dL_plan_3 : decode cL_plan 3 = .ok (.iload_n 1, 1) := by decide +kernel
theorem dL_plan_4 : decode cL_plan 4 = .ok (.iload_n 2, 1) := by decide +kernel
theorem dL_plan_5 : decode cL_plan 5 = .ok (.invokevirtual 71, 3) := by decide +kernel
theorem dL_plan_8 : decode cL_plan 8 = .ok (.i2l, 1) := by decide +kernel
theorem dL_plan_9 : decode cL_plan 9 = .ok (.lastore, 1) := by decide +kernel
theorem dL_plan_10 : decode cL_plan 10 = .ok (.goto 11, 3) := by decide +kernel
theorem dL_plan_13 : decode cL_plan 13 = .ok (.astore 4, 2) := by decide +kernel
theorem dL_plan_15 : decode cL_plan 15 = .ok (.iconst 1, 1) := by decide +kernel
theorem dL_plan_16 : decode cL_plan 16 = .ok (.ireturn, 1) := by decide +kernel
theorem dL_plan_17 : decode cL_plan 17 = .ok (.astore 4, 2) := by decide +kernel
end
section
theorem dL_plan_19 : decode cL_plan 19 = .ok (.iconst 2, 1) := by decide +kernel
theorem dL_plan_20 : decode cL_plan 20 = .ok (.ireturn, 1) := by decide +kernel
theorem dL_plan_21 : decode cL_plan 21 = .ok (.iconst 0, 1) := by decide +kernel
theorem dL_plan_22 : decode cL_plan 22 = .ok (.ireturn, 1) := by decide +kernel
set_option maxRecDepth 20000 in
theorem ggL_law_X0_init : GoodIn wsL_law wsX0_init := goodIn_r _ [9, 10, 11, 12, 13, 14, 15, 16, 17, 18, 19, 20, 21, 22, 23, 24, 25, 26, 27, 28, 29, 402, 403, 404, 405, 406, 407, 408, 409, 410, 411, 412, 413, 414, 415, 416] (by decide +kernel) (by decide +kernel)
set_option maxRecDepth 20000 in
theorem gL_law_X0_init : GoodIn wsL_law (wsX0_init) := ggL_law_X0_init
set_option maxRecDepth 20000 in
theorem ggL_law_X1_init : GoodIn wsL_law wsX1_init := goodIn_r _ [32, 33, 11, 12, 13, 34, 35, 36, 37, 38, 39, 40, 27, 41, 42, 43, 44, 45, 417, 418, 419, 420, 421, 422, 423, 424, 425, 426, 427, 428, 429, 430, 431, 432] (by decide +kernel) (by decide +kernel)
set_option maxRecDepth 20000 in
theorem gL_law_X1_init : GoodIn wsL_law (wsX1_init) := ggL_law_X1_init
set_option maxRecDepth 20000 in
theorem ggL_law_L_addBollard : GoodIn wsL_law wsL_addBollard := goodIn_ca (goodIn_ca (goodIn_r _ [49, 50, 51, 52, 53, 54, 2, 55, 56, 57, 58, 18, 19, 20, 59, 60, 61, 62, 63, 402, 403, 404, 405, 406, 407, 408, 409, 410, 411, 412, 413, 414, 415, 416] (by decide +kernel) (by decide +kernel)) (goodIn_sub (fun _ h => List.mem_append_left _ (List.mem_append_left _ (List.mem_append_right _ h))) (by decide +kernel))) (goodIn_sub (fun _ h => List.mem_append_left _ (List.mem_append_right _ h)) (by decide +kernel))
set_option maxRecDepth 20000 in
theorem gL_law_L_addBollard : GoodIn wsL_law (va_wsS RL 78 yL_addBollard wsL_addBollard) := goodIn_app (goodIn_of _ (by decide +kernel)) ggL_law_L_addBollard
set_option maxRecDepth 20000 in
theorem ggL_law_X1_addBollard : GoodIn wsL_law wsX1_addBollard := goodIn_r _ [67, 68, 69, 34, 35, 70, 71, 5, 72, 73, 74, 75, 76, 77, 417, 418, 419, 420, 421, 422, 423, 424, 425, 426, 427, 428, 429, 430, 431, 432] (by decide +kernel) (by decide +kernel)
set_option maxRecDepth 20000 in
theorem gL_law_X1_addBollard : GoodIn wsL_law (wsV RL 83 RX1 yX1_addBollard wsX1_addBollard) := goodIn_app (goodIn_of _ (by decide +kernel)) ggL_law_X1_addBollard
set_option maxRecDepth 20000 in
theorem ggL_law_X1_thrown : GoodIn wsL_law wsX1_thrown := goodIn_r _ [81, 77, 417, 418, 419, 420, 421, 422, 423, 424, 425, 426, 427, 428, 429, 430, 431, 432] (by decide +kernel) (by decide +kernel)
set_option maxRecDepth 20000 in
theorem gL_law_X1_thrown : GoodIn wsL_law (wsV RL 84 RX1 yX1_thrown wsX1_thrown) := goodIn_app (goodIn_of _ (by decide +kernel)) ggL_law_X1_thrown
set_option maxRecDepth 20000 in
theorem ggL_law_L_addLine : GoodIn wsL_law wsL_addLine := goodIn_ca (goodIn_ca (goodIn_ca (goodIn_r _ [84, 85, 50, 51, 86, 87, 88, 2, 89, 56, 57, 58, 21, 19, 22, 23, 24, 25, 26, 28, 90, 91, 92, 93, 94, 95, 18, 59, 60, 61, 62, 63, 96, 97, 98, 402, 403, 404, 405, 406, 407, 408, 409, 410, 411, 412, 413, 414, 415, 416] (by decide +kernel) (by decide +kernel)) (goodIn_sub (fun _ h => List.mem_append_left _ (List.mem_append_left _ (List.mem_append_right _ h))) (by decide +kernel))) (goodIn_sub (fun _ h => List.mem_append_right _ h) (by decide +kernel))) (goodIn_sub (fun _ h => List.mem_append_left _ (List.mem_append_right _ h)) (by decide +kernel))
set_option maxRecDepth 20000 in
theorem gL_law_L_addLine : GoodIn wsL_law (va_wsS RL 88 yL_addLine wsL_addLine) := goodIn_app (goodIn_of _ (by decide +kernel)) ggL_law_L_addLine
set_option maxRecDepth 20000 in
theorem ggL_law_X1_addLine : GoodIn wsL_law wsX1_addLine := goodIn_r _ [102, 69, 68, 103, 36, 37, 38, 39, 40, 34, 70, 71, 5, 72, 73, 74, 75, 76, 77, 104, 105, 106, 417, 418, 419, 420, 421, 422, 423, 424, 425, 426, 427, 428, 429, 430, 431, 432] (by decide +kernel) (by decide +kernel)
set_option maxRecDepth 20000 in
theorem gL_law_X1_addLine : GoodIn wsL_law (wsV RL 91 RX1 yX1_addLine wsX1_addLine) := goodIn_app (goodIn_of _ (by decide +kernel)) ggL_law_X1_addLine
set_option maxRecDepth 20000 in
theorem ggL_law_L_toggle : GoodIn wsL_law wsL_toggle := goodIn_ca (goodIn_r _ [109, 85, 110, 111, 112, 2, 113, 28, 114, 115, 116, 117, 94, 95, 21, 402, 403, 404, 405, 406, 407, 408, 409, 410, 411, 412, 413, 414, 415, 416] (by decide +kernel) (by decide +kernel)) (goodIn_sub (fun _ h => List.mem_append_right _ h) (by decide +kernel))
set_option maxRecDepth 20000 in
theorem gL_law_L_toggle : GoodIn wsL_law (va_wsS RL 92 yL_toggle wsL_toggle) := goodIn_app (goodIn_of _ (by decide +kernel)) ggL_law_L_toggle
set_option maxRecDepth 20000 in
theorem ggL_law_X1_toggle : GoodIn wsL_law wsX1_toggle := goodIn_r _ [121, 41, 122, 123, 124, 5, 125, 103, 70, 71, 72, 73, 74, 75, 76, 77, 417, 418, 419, 420, 421, 422, 423, 424, 425, 426, 427, 428, 429, 430, 431, 432] (by decide +kernel) (by decide +kernel)
set_option maxRecDepth 20000 in
theorem gL_law_X1_toggle : GoodIn wsL_law (wsV RL 95 RX1 yX1_toggle wsX1_toggle) := goodIn_app (goodIn_of _ (by decide +kernel)) ggL_law_X1_toggle
set_option maxRecDepth 20000 in
theorem ggL_law_L_setTide : GoodIn wsL_law wsL_setTide := goodIn_ca (goodIn_ca (goodIn_r _ [128, 85, 50, 129, 130, 131, 2, 132, 14, 133, 134, 135, 94, 95, 59, 60, 61, 62, 63, 402, 403, 404, 405, 406, 407, 408, 409, 410, 411, 412, 413, 414, 415, 416] (by decide +kernel) (by decide +kernel)) (goodIn_sub (fun _ h => List.mem_append_right _ h) (by decide +kernel))) (goodIn_sub (fun _ h => List.mem_append_left _ (List.mem_append_right _ h)) (by decide +kernel))
set_option maxRecDepth 20000 in
theorem gL_law_L_setTide : GoodIn wsL_law (va_wsS RL 96 yL_setTide wsL_setTide) := goodIn_app (goodIn_of _ (by decide +kernel)) ggL_law_L_setTide
set_option maxRecDepth 20000 in
theorem ggL_law_X1_setTide : GoodIn wsL_law wsX1_setTide := goodIn_r _ [139, 42, 140, 141, 5, 142, 70, 71, 72, 73, 74, 75, 76, 77, 417, 418, 419, 420, 421, 422, 423, 424, 425, 426, 427, 428, 429, 430, 431, 432] (by decide +kernel) (by decide +kernel)
set_option maxRecDepth 20000 in
theorem gL_law_X1_setTide : GoodIn wsL_law (wsV RL 98 RX1 yX1_setTide wsX1_setTide) := goodIn_app (goodIn_of _ (by decide +kernel)) ggL_law_X1_setTide
set_option maxRecDepth 20000 in
theorem ggL_law_L_setLoad : GoodIn wsL_law wsL_setLoad := goodIn_ca (goodIn_ca (goodIn_r _ [145, 85, 50, 146, 147, 148, 2, 149, 15, 133, 134, 135, 94, 95, 59, 60, 61, 62, 63, 402, 403, 404, 405, 406, 407, 408, 409, 410, 411, 412, 413, 414, 415, 416] (by decide +kernel) (by decide +kernel)) (goodIn_sub (fun _ h => List.mem_append_right _ h) (by decide +kernel))) (goodIn_sub (fun _ h => List.mem_append_left _ (List.mem_append_right _ h)) (by decide +kernel))
set_option maxRecDepth 20000 in
theorem gL_law_L_setLoad : GoodIn wsL_law (va_wsS RL 99 yL_setLoad wsL_setLoad) := goodIn_app (goodIn_of _ (by decide +kernel)) ggL_law_L_setLoad
set_option maxRecDepth 20000 in
theorem ggL_law_X1_setLoad : GoodIn wsL_law wsX1_setLoad := goodIn_r _ [153, 43, 140, 141, 5, 142, 70, 71, 72, 73, 74, 75, 76, 77, 417, 418, 419, 420, 421, 422, 423, 424, 425, 426, 427, 428, 429, 430, 431, 432] (by decide +kernel) (by decide +kernel)
set_option maxRecDepth 20000 in
theorem gL_law_X1_setLoad : GoodIn wsL_law (wsV RL 101 RX1 yX1_setLoad wsX1_setLoad) := goodIn_app (goodIn_of _ (by decide +kernel)) ggL_law_X1_setLoad
set_option maxRecDepth 20000 in
theorem ggL_law_L_setWind : GoodIn wsL_law wsL_setWind := goodIn_ca (goodIn_r _ [156, 50, 157, 158, 159, 2, 160, 161, 58, 17, 59, 60, 61, 62, 63, 402, 403, 404, 405, 406, 407, 408, 409, 410, 411, 412, 413, 414, 415, 416] (by decide +kernel) (by decide +kernel)) (goodIn_sub (fun _ h => List.mem_append_left _ (List.mem_append_right _ h)) (by decide +kernel))
set_option maxRecDepth 20000 in
theorem gL_law_L_setWind : GoodIn wsL_law (va_wsS RL 102 yL_setWind wsL_setWind) := goodIn_app (goodIn_of _ (by decide +kernel)) ggL_law_L_setWind
set_option maxRecDepth 20000 in
theorem ggL_law_X1_setWind : GoodIn wsL_law wsX1_setWind := goodIn_r _ [165, 166, 68, 167, 70, 71, 5, 72, 73, 74, 75, 76, 77, 417, 418, 419, 420, 421, 422, 423, 424, 425, 426, 427, 428, 429, 430, 431, 432] (by decide +kernel) (by decide +kernel)
set_option maxRecDepth 20000 in
theorem gL_law_X1_setWind : GoodIn wsL_law (wsV RL 104 RX1 yX1_setWind wsX1_setWind) := goodIn_app (goodIn_of _ (by decide +kernel)) ggL_law_X1_setWind
set_option maxRecDepth 20000 in
theorem ggL_law_L_setPassing : GoodIn wsL_law wsL_setPassing := goodIn_ca (goodIn_ca (goodIn_r _ [170, 85, 50, 171, 172, 173, 2, 174, 161, 58, 16, 133, 134, 135, 94, 95, 59, 60, 61, 62, 63, 402, 403, 404, 405, 406, 407, 408, 409, 410, 411, 412, 413, 414, 415, 416] (by decide +kernel) (by decide +kernel)) (goodIn_sub (fun _ h => List.mem_append_right _ h) (by decide +kernel))) (goodIn_sub (fun _ h => List.mem_append_left _ (List.mem_append_right _ h)) (by decide +kernel))
set_option maxRecDepth 20000 in
theorem gL_law_L_setPassing : GoodIn wsL_law (va_wsS RL 105 yL_setPassing wsL_setPassing) := goodIn_app (goodIn_of _ (by decide +kernel)) ggL_law_L_setPassing
set_option maxRecDepth 20000 in
theorem ggL_law_X1_setPassing : GoodIn wsL_law wsX1_setPassing := goodIn_r _ [178, 166, 68, 44, 140, 141, 5, 142, 70, 71, 72, 73, 74, 75, 76, 77, 417, 418, 419, 420, 421, 422, 423, 424, 425, 426, 427, 428, 429, 430, 431, 432] (by decide +kernel) (by decide +kernel)
set_option maxRecDepth 20000 in
theorem gL_law_X1_setPassing : GoodIn wsL_law (wsV RL 107 RX1 yX1_setPassing wsX1_setPassing) := goodIn_app (goodIn_of _ (by decide +kernel)) ggL_law_X1_setPassing
set_option maxRecDepth 20000 in
theorem ggL_law_L_force : GoodIn wsL_law wsL_force := goodIn_ca (goodIn_ca (goodIn_r _ [181, 85, 50, 182, 183, 184, 2, 185, 133, 134, 135, 94, 95, 59, 60, 61, 62, 63, 186, 187, 188, 189, 17, 16, 21, 190, 191, 192, 193, 23, 194, 195, 196, 197, 14, 15, 96, 97, 98, 198, 199, 200, 201, 28, 24, 26, 202, 203, 204, 205, 402, 403, 404, 405, 406, 407, 408, 409, 410, 411, 412, 413, 414, 415, 416] (by decide +kernel) (by decide +kernel)) (goodIn_sub (fun _ h => List.mem_append_right _ h) (by decide +kernel))) (goodIn_sub (fun _ h => List.mem_append_left _ (List.mem_append_right _ h)) (by decide +kernel))
set_option maxRecDepth 20000 in
theorem gL_law_L_force : GoodIn wsL_law (va_wsS RL 108 yL_force wsL_force) := goodIn_app (goodIn_of _ (by decide +kernel)) ggL_law_L_force
set_option maxRecDepth 20000 in
theorem ggL_law_X1_force : GoodIn wsL_law wsX1_force := goodIn_r _ [209, 140, 141, 5, 142, 70, 71, 72, 73, 74, 75, 76, 77, 210, 211, 212, 213, 167, 44, 103, 214, 215, 216, 217, 42, 43, 218, 219, 220, 221, 34, 37, 36, 104, 105, 106, 222, 223, 224, 225, 40, 41, 38, 417, 418, 419, 420, 421, 422, 423, 424, 425, 426, 427, 428, 429, 430, 431, 432] (by decide +kernel) (by decide +kernel)
set_option maxRecDepth 20000 in
theorem gL_law_X1_force : GoodIn wsL_law (wsV RL 110 RX1 yX1_force wsX1_force) := goodIn_app (goodIn_of _ (by decide +kernel)) ggL_law_X1_force
set_option maxRecDepth 20000 in
theorem ggL_law_L_shift : GoodIn wsL_law wsL_shift := goodIn_ca (goodIn_r _ [228, 85, 229, 230, 231, 2, 232, 133, 134, 135, 94, 95, 233, 234, 235, 236, 237, 238, 239, 240, 186, 187, 188, 189, 17, 16, 21, 190, 191, 192, 193, 23, 194, 195, 196, 197, 14, 15, 96, 97, 98, 198, 199, 200, 201, 28, 24, 26, 202, 203, 204, 205, 402, 403, 404, 405, 406, 407, 408, 409, 410, 411, 412, 413, 414, 415, 416] (by decide +kernel) (by decide +kernel)) (goodIn_sub (fun _ h => List.mem_append_right _ h) (by decide +kernel))
set_option maxRecDepth 20000 in
theorem gL_law_L_shift : GoodIn wsL_law (va_wsS RL 111 yL_shift wsL_shift) := goodIn_app (goodIn_of _ (by decide +kernel)) ggL_law_L_shift
set_option maxRecDepth 20000 in
theorem ggL_law_X1_shift : GoodIn wsL_law wsX1_shift := goodIn_r _ [244, 140, 141, 5, 142, 70, 71, 72, 73, 74, 75, 76, 77, 245, 246, 247, 248, 210, 211, 212, 213, 167, 44, 103, 214, 215, 216, 217, 42, 43, 218, 219, 220, 221, 34, 37, 36, 104, 105, 106, 222, 223, 224, 225, 40, 41, 38, 417, 418, 419, 420, 421, 422, 423, 424, 425, 426, 427, 428, 429, 430, 431, 432] (by decide +kernel) (by decide +kernel)
set_option maxRecDepth 20000 in
theorem gL_law_X1_shift : GoodIn wsL_law (wsV RL 113 RX1 yX1_shift wsX1_shift) := goodIn_app (goodIn_of _ (by decide +kernel)) ggL_law_X1_shift
set_option maxRecDepth 20000 in
theorem ggL_law_L_isAdrift : GoodIn wsL_law wsL_isAdrift := goodIn_ca (goodIn_r _ [251, 85, 252, 253, 254, 2, 255, 133, 134, 135, 94, 95, 233, 234, 235, 236, 237, 238, 239, 240, 186, 187, 188, 189, 17, 16, 21, 190, 191, 192, 193, 23, 194, 195, 196, 197, 14, 15, 96, 97, 98, 198, 199, 200, 201, 28, 24, 26, 202, 203, 204, 205, 256, 257, 258, 259, 402, 403, 404, 405, 406, 407, 408, 409, 410, 411, 412, 413, 414, 415, 416] (by decide +kernel) (by decide +kernel)) (goodIn_sub (fun _ h => List.mem_append_right _ h) (by decide +kernel))
set_option maxRecDepth 20000 in
theorem gL_law_L_isAdrift : GoodIn wsL_law (va_wsS RL 114 yL_isAdrift wsL_isAdrift) := goodIn_app (goodIn_of _ (by decide +kernel)) ggL_law_L_isAdrift
set_option maxRecDepth 20000 in
theorem ggL_law_X1_isAdrift : GoodIn wsL_law wsX1_isAdrift := goodIn_r _ [263, 140, 141, 5, 142, 70, 71, 72, 73, 74, 75, 76, 77, 264, 265, 266, 267, 245, 246, 247, 248, 210, 211, 212, 213, 167, 44, 103, 214, 215, 216, 217, 42, 43, 218, 219, 220, 221, 34, 37, 36, 104, 105, 106, 222, 223, 224, 225, 40, 41, 38, 417, 418, 419, 420, 421, 422, 423, 424, 425, 426, 427, 428, 429, 430, 431, 432] (by decide +kernel) (by decide +kernel)
set_option maxRecDepth 20000 in
theorem gL_law_X1_isAdrift : GoodIn wsL_law (wsV RL 116 RX1 yX1_isAdrift wsX1_isAdrift) := goodIn_app (goodIn_of _ (by decide +kernel)) ggL_law_X1_isAdrift
set_option maxRecDepth 20000 in
theorem ggL_law_L_length : GoodIn wsL_law wsL_length := goodIn_ca (goodIn_r _ [270, 85, 271, 272, 273, 2, 274, 114, 115, 116, 117, 94, 95, 21, 133, 134, 135, 233, 234, 235, 236, 237, 238, 239, 240, 186, 187, 188, 189, 17, 16, 190, 191, 192, 193, 23, 194, 195, 196, 197, 14, 15, 96, 97, 98, 198, 199, 200, 201, 28, 24, 26, 202, 203, 204, 205, 275, 276, 277, 278, 402, 403, 404, 405, 406, 407, 408, 409, 410, 411, 412, 413, 414, 415, 416] (by decide +kernel) (by decide +kernel)) (goodIn_sub (fun _ h => List.mem_append_right _ h) (by decide +kernel))
set_option maxRecDepth 20000 in
theorem gL_law_L_length : GoodIn wsL_law (va_wsS RL 117 yL_length wsL_length) := goodIn_app (goodIn_of _ (by decide +kernel)) ggL_law_L_length
set_option maxRecDepth 20000 in
theorem ggL_law_X1_length : GoodIn wsL_law wsX1_length := goodIn_r _ [282, 122, 123, 124, 5, 125, 103, 70, 71, 72, 140, 141, 142, 73, 74, 75, 76, 77, 245, 246, 247, 248, 210, 211, 212, 213, 167, 44, 214, 215, 216, 217, 42, 43, 218, 219, 220, 221, 34, 37, 36, 104, 105, 106, 222, 223, 224, 225, 40, 41, 38, 417, 418, 419, 420, 421, 422, 423, 424, 425, 426, 427, 428, 429, 430, 431, 432] (by decide +kernel) (by decide +kernel)
set_option maxRecDepth 20000 in
theorem gL_law_X1_length : GoodIn wsL_law (wsV RL 119 RX1 yX1_length wsX1_length) := goodIn_app (goodIn_of _ (by decide +kernel)) ggL_law_X1_length
set_option maxRecDepth 20000 in
theorem ggL_law_L_tension : GoodIn wsL_law wsL_tension := goodIn_ca (goodIn_r _ [285, 85, 286, 287, 288, 2, 289, 114, 115, 116, 117, 94, 95, 21, 133, 134, 135, 233, 234, 235, 236, 237, 238, 239, 240, 186, 187, 188, 189, 17, 16, 190, 191, 192, 193, 23, 194, 195, 196, 197, 14, 15, 96, 97, 98, 198, 199, 200, 201, 28, 24, 26, 202, 203, 204, 205, 275, 276, 277, 278, 402, 403, 404, 405, 406, 407, 408, 409, 410, 411, 412, 413, 414, 415, 416] (by decide +kernel) (by decide +kernel)) (goodIn_sub (fun _ h => List.mem_append_right _ h) (by decide +kernel))
set_option maxRecDepth 20000 in
theorem gL_law_L_tension : GoodIn wsL_law (va_wsS RL 120 yL_tension wsL_tension) := goodIn_app (goodIn_of _ (by decide +kernel)) ggL_law_L_tension
set_option maxRecDepth 20000 in
theorem ggL_law_X1_tension : GoodIn wsL_law wsX1_tension := goodIn_r _ [293, 122, 123, 124, 5, 125, 103, 70, 71, 72, 140, 141, 142, 73, 74, 75, 76, 77, 245, 246, 247, 248, 210, 211, 212, 213, 167, 44, 214, 215, 216, 217, 42, 43, 218, 219, 220, 221, 34, 37, 36, 104, 105, 106, 222, 223, 224, 225, 40, 41, 38, 417, 418, 419, 420, 421, 422, 423, 424, 425, 426, 427, 428, 429, 430, 431, 432] (by decide +kernel) (by decide +kernel)
set_option maxRecDepth 20000 in
theorem gL_law_X1_tension : GoodIn wsL_law (wsV RL 122 RX1 yX1_tension wsX1_tension) := goodIn_app (goodIn_of _ (by decide +kernel)) ggL_law_X1_tension
set_option maxRecDepth 20000 in
theorem ggL_law_L_onBollard : GoodIn wsL_law wsL_onBollard := goodIn_ca (goodIn_r _ [296, 85, 297, 298, 299, 2, 300, 90, 91, 92, 93, 94, 95, 18, 133, 134, 135, 233, 234, 235, 236, 237, 238, 239, 240, 186, 187, 188, 189, 17, 16, 21, 190, 191, 192, 193, 23, 194, 195, 196, 197, 14, 15, 96, 97, 98, 198, 199, 200, 201, 28, 24, 26, 202, 203, 204, 205, 301, 302, 303, 304, 22, 275, 276, 277, 278, 402, 403, 404, 405, 406, 407, 408, 409, 410, 411, 412, 413, 414, 415, 416] (by decide +kernel) (by decide +kernel)) (goodIn_sub (fun _ h => List.mem_append_right _ h) (by decide +kernel))
set_option maxRecDepth 20000 in
theorem gL_law_L_onBollard : GoodIn wsL_law (va_wsS RL 123 yL_onBollard wsL_onBollard) := goodIn_app (goodIn_of _ (by decide +kernel)) ggL_law_L_onBollard
set_option maxRecDepth 20000 in
theorem ggL_law_X1_onBollard : GoodIn wsL_law wsX1_onBollard := goodIn_r _ [308, 69, 70, 71, 5, 72, 140, 141, 142, 73, 74, 75, 76, 77, 245, 246, 247, 248, 210, 211, 212, 213, 167, 44, 103, 214, 215, 216, 217, 42, 43, 218, 219, 220, 221, 34, 37, 36, 104, 105, 106, 222, 223, 224, 225, 40, 41, 38, 309, 310, 311, 312, 417, 418, 419, 420, 421, 422, 423, 424, 425, 426, 427, 428, 429, 430, 431, 432] (by decide +kernel) (by decide +kernel)
set_option maxRecDepth 20000 in
theorem gL_law_X1_onBollard : GoodIn wsL_law (wsV RL 125 RX1 yX1_onBollard wsX1_onBollard) := goodIn_app (goodIn_of _ (by decide +kernel)) ggL_law_X1_onBollard
set_option maxRecDepth 20000 in
theorem ggL_law_L_isSafe : GoodIn wsL_law wsL_isSafe := goodIn_ca (goodIn_r _ [315, 85, 316, 317, 318, 2, 319, 133, 134, 135, 94, 95, 320, 321, 322, 323, 233, 234, 235, 236, 237, 238, 239, 240, 186, 187, 188, 189, 17, 16, 21, 190, 191, 192, 193, 23, 194, 195, 196, 197, 14, 15, 96, 97, 98, 198, 199, 200, 201, 28, 24, 26, 202, 203, 204, 205, 256, 257, 258, 259, 324, 325, 326, 327, 25, 275, 276, 277, 278, 328, 329, 330, 331, 18, 20, 301, 302, 303, 304, 22, 402, 403, 404, 405, 406, 407, 408, 409, 410, 411, 412, 413, 414, 415, 416] (by decide +kernel) (by decide +kernel)) (goodIn_sub (fun _ h => List.mem_append_right _ h) (by decide +kernel))
set_option maxRecDepth 20000 in
theorem gL_law_L_isSafe : GoodIn wsL_law (va_wsS RL 126 yL_isSafe wsL_isSafe) := goodIn_app (goodIn_of _ (by decide +kernel)) ggL_law_L_isSafe
set_option maxRecDepth 20000 in
theorem ggL_law_X1_isSafe : GoodIn wsL_law wsX1_isSafe := goodIn_r _ [335, 140, 141, 5, 142, 70, 71, 72, 73, 74, 75, 76, 77, 336, 337, 338, 339, 103, 340, 341, 39, 69, 35, 245, 246, 247, 248, 210, 211, 212, 213, 167, 44, 214, 215, 216, 217, 42, 43, 218, 219, 220, 221, 34, 37, 36, 104, 105, 106, 222, 223, 224, 225, 40, 41, 38, 264, 265, 266, 267, 309, 310, 311, 312, 417, 418, 419, 420, 421, 422, 423, 424, 425, 426, 427, 428, 429, 430, 431, 432] (by decide +kernel) (by decide +kernel)
set_option maxRecDepth 20000 in
theorem gL_law_X1_isSafe : GoodIn wsL_law (wsV RL 128 RX1 yX1_isSafe wsX1_isSafe) := goodIn_app (goodIn_of _ (by decide +kernel)) ggL_law_X1_isSafe
set_option maxRecDepth 20000 in
theorem ggL_law_L_firstUnsafe : GoodIn wsL_law wsL_firstUnsafe := goodIn_ca (goodIn_r _ [344, 85, 345, 346, 347, 2, 348, 133, 134, 135, 94, 95, 320, 321, 322, 323, 233, 234, 235, 236, 237, 238, 239, 240, 186, 187, 188, 189, 17, 16, 21, 190, 191, 192, 193, 23, 194, 195, 196, 197, 14, 15, 96, 97, 98, 198, 199, 200, 201, 28, 24, 26, 202, 203, 204, 205, 256, 257, 258, 259, 324, 325, 326, 327, 25, 275, 276, 277, 278, 328, 329, 330, 331, 18, 20, 301, 302, 303, 304, 22, 402, 403, 404, 405, 406, 407, 408, 409, 410, 411, 412, 413, 414, 415, 416] (by decide +kernel) (by decide +kernel)) (goodIn_sub (fun _ h => List.mem_append_right _ h) (by decide +kernel))
set_option maxRecDepth 20000 in
theorem gL_law_L_firstUnsafe : GoodIn wsL_law (va_wsS RL 129 yL_firstUnsafe wsL_firstUnsafe) := goodIn_app (goodIn_of _ (by decide +kernel)) ggL_law_L_firstUnsafe
set_option maxRecDepth 20000 in
theorem ggL_law_X1_firstUnsafe : GoodIn wsL_law wsX1_firstUnsafe := goodIn_r _ [352, 140, 141, 5, 142, 70, 71, 72, 73, 74, 75, 76, 77, 336, 337, 338, 339, 103, 340, 341, 39, 69, 35, 245, 246, 247, 248, 210, 211, 212, 213, 167, 44, 214, 215, 216, 217, 42, 43, 218, 219, 220, 221, 34, 37, 36, 104, 105, 106, 222, 223, 224, 225, 40, 41, 38, 264, 265, 266, 267, 309, 310, 311, 312, 417, 418, 419, 420, 421, 422, 423, 424, 425, 426, 427, 428, 429, 430, 431, 432] (by decide +kernel) (by decide +kernel)
set_option maxRecDepth 20000 in
theorem gL_law_X1_firstUnsafe : GoodIn wsL_law (wsV RL 131 RX1 yX1_firstUnsafe wsX1_firstUnsafe) := goodIn_app (goodIn_of _ (by decide +kernel)) ggL_law_X1_firstUnsafe
set_option maxRecDepth 20000 in
theorem ggL_law_L_tend : GoodIn wsL_law wsL_tend := goodIn_ca (goodIn_ca (goodIn_ca (goodIn_r _ [355, 85, 50, 51, 356, 357, 358, 2, 359, 56, 57, 28, 26, 202, 203, 204, 205, 114, 115, 116, 117, 94, 95, 21, 133, 134, 135, 59, 60, 61, 62, 63, 233, 234, 235, 236, 237, 238, 239, 240, 186, 187, 188, 189, 17, 16, 190, 191, 192, 193, 23, 194, 195, 196, 197, 14, 15, 96, 97, 98, 198, 199, 200, 201, 24, 275, 276, 277, 278, 402, 403, 404, 405, 406, 407, 408, 409, 410, 411, 412, 413, 414, 415, 416] (by decide +kernel) (by decide +kernel)) (goodIn_sub (fun _ h => List.mem_append_left _ (List.mem_append_left _ (List.mem_append_right _ h))) (by decide +kernel))) (goodIn_sub (fun _ h => List.mem_append_right _ h) (by decide +kernel))) (goodIn_sub (fun _ h => List.mem_append_left _ (List.mem_append_right _ h)) (by decide +kernel))
set_option maxRecDepth 20000 in
theorem gL_law_L_tend : GoodIn wsL_law (va_wsS RL 132 yL_tend wsL_tend) := goodIn_app (goodIn_of _ (by decide +kernel)) ggL_law_L_tend
set_option maxRecDepth 20000 in
theorem ggL_law_X1_tend : GoodIn wsL_law wsX1_tend := goodIn_r _ [363, 41, 40, 122, 123, 124, 5, 125, 103, 70, 71, 72, 140, 141, 142, 73, 74, 75, 76, 77, 245, 246, 247, 248, 210, 211, 212, 213, 167, 44, 214, 215, 216, 217, 42, 43, 218, 219, 220, 221, 34, 37, 36, 104, 105, 106, 222, 223, 224, 225, 38, 417, 418, 419, 420, 421, 422, 423, 424, 425, 426, 427, 428, 429, 430, 431, 432] (by decide +kernel) (by decide +kernel)
set_option maxRecDepth 20000 in
theorem gL_law_X1_tend : GoodIn wsL_law (wsV RL 135 RX1 yX1_tend wsX1_tend) := goodIn_app (goodIn_of _ (by decide +kernel)) ggL_law_X1_tend
set_option maxRecDepth 20000 in
theorem ggL_law_L_tendAll : GoodIn wsL_law wsL_tendAll := goodIn_ca (goodIn_r _ [366, 85, 367, 368, 369, 2, 370, 133, 134, 135, 94, 95, 371, 372, 373, 374, 21, 28, 26, 233, 234, 235, 236, 237, 238, 239, 240, 186, 187, 188, 189, 17, 16, 190, 191, 192, 193, 23, 194, 195, 196, 197, 14, 15, 96, 97, 98, 198, 199, 200, 201, 24, 202, 203, 204, 205, 275, 276, 277, 278, 402, 403, 404, 405, 406, 407, 408, 409, 410, 411, 412, 413, 414, 415, 416] (by decide +kernel) (by decide +kernel)) (goodIn_sub (fun _ h => List.mem_append_right _ h) (by decide +kernel))
set_option maxRecDepth 20000 in
theorem gL_law_L_tendAll : GoodIn wsL_law (va_wsS RL 136 yL_tendAll wsL_tendAll) := goodIn_app (goodIn_of _ (by decide +kernel)) ggL_law_L_tendAll
set_option maxRecDepth 20000 in
theorem ggL_law_X1_tendAll : GoodIn wsL_law wsX1_tendAll := goodIn_r _ [378, 140, 141, 5, 142, 70, 71, 72, 73, 74, 75, 76, 77, 379, 380, 381, 382, 103, 41, 40, 245, 246, 247, 248, 210, 211, 212, 213, 167, 44, 214, 215, 216, 217, 42, 43, 218, 219, 220, 221, 34, 37, 36, 104, 105, 106, 222, 223, 224, 225, 38, 417, 418, 419, 420, 421, 422, 423, 424, 425, 426, 427, 428, 429, 430, 431, 432] (by decide +kernel) (by decide +kernel)
set_option maxRecDepth 20000 in
theorem gL_law_X1_tendAll : GoodIn wsL_law (wsV RL 138 RX1 yX1_tendAll wsX1_tendAll) := goodIn_app (goodIn_of _ (by decide +kernel)) ggL_law_X1_tendAll
set_option maxRecDepth 20000 in
theorem ggL_law_L_plan : GoodIn wsL_law wsL_plan := goodIn_ca (goodIn_ca (goodIn_r _ [385, 85, 50, 386, 387, 388, 2, 389, 62, 63, 26, 29, 390, 391, 392, 393, 133, 134, 135, 94, 95, 394, 395, 396, 397, 320, 321, 322, 323, 233, 234, 235, 236, 237, 238, 239, 240, 186, 187, 188, 189, 17, 16, 21, 190, 191, 192, 193, 23, 194, 195, 196, 197, 14, 15, 96, 97, 98, 198, 199, 200, 201, 28, 24, 202, 203, 204, 205, 256, 257, 258, 259, 324, 325, 326, 327, 25, 275, 276, 277, 278, 328, 329, 330, 331, 18, 20, 301, 302, 303, 304, 22, 371, 372, 373, 374, 402, 403, 404, 405, 406, 407, 408, 409, 410, 411, 412, 413, 414, 415, 416] (by decide +kernel) (by decide +kernel)) (goodIn_sub (fun _ h => List.mem_append_left _ (List.mem_append_right _ h)) (by decide +kernel))) (goodIn_sub (fun _ h => List.mem_append_right _ h) (by decide +kernel))
set_option maxRecDepth 20000 in
theorem gL_law_L_plan : GoodIn wsL_law (va_wsS RL 139 yL_plan wsL_plan) := goodIn_app (goodIn_of _ (by decide +kernel)) ggL_law_L_plan
set_option maxRecDepth 20000 in
theorem ggL_law_X1_plan : GoodIn wsL_law wsX1_plan := goodIn_r _ [401, 103, 45, 40, 140, 141, 5, 142, 70, 71, 72, 73, 74, 75, 76, 77, 336, 337, 338, 339, 340, 341, 39, 69, 35, 245, 246, 247, 248, 210, 211, 212, 213, 167, 44, 214, 215, 216, 217, 42, 43, 218, 219, 220, 221, 34, 37, 36, 104, 105, 106, 222, 223, 224, 225, 41, 38, 264, 265, 266, 267, 309, 310, 311, 312, 379, 380, 381, 382, 417, 418, 419, 420, 421, 422, 423, 424, 425, 426, 427, 428, 429, 430, 431, 432] (by decide +kernel) (by decide +kernel)
set_option maxRecDepth 20000 in
theorem gL_law_X1_plan : GoodIn wsL_law (wsV RL 141 RX1 yX1_plan wsX1_plan) := goodIn_app (goodIn_of _ (by decide +kernel)) ggL_law_X1_plan
theorem dL_law_0 : decode cL_law 0 = .ok (.new 8, 3) := by decide +kernel
theorem dL_law_3 : decode cL_law 3 = .ok (.dup, 1) := by decide +kernel
theorem dL_law_4 : decode cL_law 4 = .ok (.invokespecial 74, 3) := by decide +kernel
theorem dL_law_7 : decode cL_law 7 = .ok (.astore_n 1, 1) := by decide +kernel
theorem dL_law_8 : decode cL_law 8 = .ok (.new 75, 3) := by decide +kernel
theorem dL_law_11 : decode cL_law 11 = .ok (.dup, 1) := by decide +kernel
theorem dL_law_12 : decode cL_law 12 = .ok (.invokespecial 77, 3) := by decide +kernel
theorem dL_law_15 : decode cL_law 15 = .ok (.astore_n 2, 1) := by decide +kernel
theorem dL_law_16 : decode cL_law 16 = .ok (.iconst 1, 1) := by decide +kernel
theorem dL_law_17 : decode cL_law 17 = .ok (.newarray .long, 2) := by decide +kernel
theorem dL_law_19 : decode cL_law 19 = .ok (.astore_n 3, 1) := by decide +kernel
theorem dL_law_20 : decode cL_law 20 = .ok (.iconst 0, 1) := by decide +kernel
theorem dL_law_21 : decode cL_law 21 = .ok (.istore 4, 2) := by decide +kernel
theorem dL_law_23 : decode cL_law 23 = .ok (.iload 4, 2) := by decide +kernel
theorem dL_law_25 : decode cL_law 25 = .ok (.aload_n 0, 1) := by decide +kernel
theorem dL_law_26 : decode cL_law 26 = .ok (.arraylength, 1) := by decide +kernel
theorem dL_law_27 : decode cL_law 27 = .ok (.iconst 5, 1) := by decide +kernel
theorem dL_law_28 : decode cL_law 28 = .ok (.isub, 1) := by decide +kernel
theorem dL_law_29 : decode cL_law 29 = .ok (.if_icmp .gt 1298, 3) := by decide +kernel
theorem dL_law_32 : decode cL_law 32 = .ok (.aload_n 0, 1) := by decide +kernel
theorem dL_law_33 : decode cL_law 33 = .ok (.iload 4, 2) := by decide +kernel
theorem dL_law_35 : decode cL_law 35 = .ok (.iaload, 1) := by decide +kernel
theorem dL_law_36 : decode cL_law 36 = .ok (.bipush 31, 2) := by decide +kernel
theorem dL_law_38 : decode cL_law 38 = .ok (.iand, 1) := by decide +kernel
theorem dL_law_39 : decode cL_law 39 = .ok (.tableswitch 1282 0 17 #[85, 153, 245, 308, 376, 444, 500, 568, 636, 692, 755, 823, 891, 959, 1022, 1078, 1158, 1214], 85) := by decide +kernel
theorem dL_law_124 : decode cL_law 124 = .ok (.aload_n 1, 1) := by decide +kernel
theorem dL_law_125 : decode cL_law 125 = .ok (.aload_n 0, 1) := by decide +kernel
theorem dL_law_126 : decode cL_law 126 = .ok (.iload 4, 2) := by decide +kernel
theorem dL_law_128 : decode cL_law 128 = .ok (.iconst 1, 1) := by decide +kernel
theorem dL_law_129 : decode cL_law 129 = .ok (.iadd, 1) := by decide +kernel
theorem dL_law_130 : decode cL_law 130 = .ok (.iaload, 1) := by decide +kernel
theorem dL_law_131 : decode cL_law 131 = .ok (.aload_n 0, 1) := by decide +kernel
theorem dL_law_132 : decode cL_law 132 = .ok (.iload 4, 2) := by decide +kernel
theorem dL_law_134 : decode cL_law 134 = .ok (.iconst 2, 1) := by decide +kernel
theorem dL_law_135 : decode cL_law 135 = .ok (.iadd, 1) := by decide +kernel
theorem dL_law_136 : decode cL_law 136 = .ok (.iaload, 1) := by decide +kernel
theorem dL_law_137 : decode cL_law 137 = .ok (.aload_n 3, 1) := by decide +kernel
theorem dL_law_138 : decode cL_law 138 = .ok (.invokestatic 78, 3) := by decide +kernel
theorem dL_law_141 : decode cL_law 141 = .ok (.istore 5, 2) := by decide +kernel
theorem dL_law_143 : decode cL_law 143 = .ok (.aload_n 2, 1) := by decide +kernel
theorem dL_law_144 : decode cL_law 144 = .ok (.aload_n 0, 1) := by decide +kernel
theorem dL_law_145 : decode cL_law 145 = .ok (.iload 4, 2) := by decide +kernel
theorem dL_law_147 : decode cL_law 147 = .ok (.iconst 1, 1) := by decide +kernel
theorem dL_law_148 : decode cL_law 148 = .ok (.iadd, 1) := by decide +kernel
theorem dL_law_149 : decode cL_law 149 = .ok (.iaload, 1) := by decide +kernel
theorem dL_law_150 : decode cL_law 150 = .ok (.aload_n 0, 1) := by decide +kernel
theorem dL_law_151 : decode cL_law 151 = .ok (.iload 4, 2) := by decide +kernel
theorem dL_law_153 : decode cL_law 153 = .ok (.iconst 2, 1) := by decide +kernel
theorem dL_law_154 : decode cL_law 154 = .ok (.iadd, 1) := by decide +kernel
theorem dL_law_155 : decode cL_law 155 = .ok (.iaload, 1) := by decide +kernel
theorem dL_law_156 : decode cL_law 156 = .ok (.invokevirtual 83, 3) := by decide +kernel
theorem dL_law_159 : decode cL_law 159 = .ok (.istore 6, 2) := by decide +kernel
theorem dL_law_161 : decode cL_law 161 = .ok (.aload_n 2, 1) := by decide +kernel
theorem dL_law_162 : decode cL_law 162 = .ok (.invokevirtual 84, 3) := by decide +kernel
theorem dL_law_165 : decode cL_law 165 = .ok (.iload 5, 2) := by decide +kernel
theorem dL_law_167 : decode cL_law 167 = .ok (.if_icmp .eq 5, 3) := by decide +kernel
theorem dL_law_170 : decode cL_law 170 = .ok (.iconst 0, 1) := by decide +kernel
theorem dL_law_171 : decode cL_law 171 = .ok (.ireturn, 1) := by decide +kernel
theorem dL_law_172 : decode cL_law 172 = .ok (.iload 5, 2) := by decide +kernel
theorem dL_law_174 : decode cL_law 174 = .ok (.ifCond .ne 15, 3) := by decide +kernel
theorem dL_law_177 : decode cL_law 177 = .ok (.aload_n 3, 1) := by decide +kernel
theorem dL_law_178 : decode cL_law 178 = .ok (.iconst 0, 1) := by decide +kernel
theorem dL_law_179 : decode cL_law 179 = .ok (.laload, 1) := by decide +kernel
theorem dL_law_180 : decode cL_law 180 = .ok (.iload 6, 2) := by decide +kernel
theorem dL_law_182 : decode cL_law 182 = .ok (.i2l, 1) := by decide +kernel
theorem dL_law_183 : decode cL_law 183 = .ok (.lcmp, 1) := by decide +kernel
theorem dL_law_184 : decode cL_law 184 = .ok (.ifCond .eq 5, 3) := by decide +kernel
theorem dL_law_187 : decode cL_law 187 = .ok (.iconst 0, 1) := by decide +kernel
theorem dL_law_188 : decode cL_law 188 = .ok (.ireturn, 1) := by decide +kernel
theorem dL_law_189 : decode cL_law 189 = .ok (.goto 1132, 3) := by decide +kernel
theorem dL_law_192 : decode cL_law 192 = .ok (.aload_n 1, 1) := by decide +kernel
theorem dL_law_193 : decode cL_law 193 = .ok (.aload_n 0, 1) := by decide +kernel
theorem dL_law_194 : decode cL_law 194 = .ok (.iload 4, 2) := by decide +kernel
theorem dL_law_196 : decode cL_law 196 = .ok (.iconst 1, 1) := by decide +kernel
theorem dL_law_197 : decode cL_law 197 = .ok (.iadd, 1) := by decide +kernel
theorem dL_law_198 : decode cL_law 198 = .ok (.iaload, 1) := by decide +kernel
theorem dL_law_199 : decode cL_law 199 = .ok (.aload_n 0, 1) := by decide +kernel
theorem dL_law_200 : decode cL_law 200 = .ok (.iload 4, 2) := by decide +kernel
theorem dL_law_202 : decode cL_law 202 = .ok (.iconst 2, 1) := by decide +kernel
theorem dL_law_203 : decode cL_law 203 = .ok (.iadd, 1) := by decide +kernel
theorem dL_law_204 : decode cL_law 204 = .ok (.iaload, 1) := by decide +kernel
theorem dL_law_205 : decode cL_law 205 = .ok (.aload_n 0, 1) := by decide +kernel
theorem dL_law_206 : decode cL_law 206 = .ok (.iload 4, 2) := by decide +kernel
theorem dL_law_208 : decode cL_law 208 = .ok (.iconst 3, 1) := by decide +kernel
theorem dL_law_209 : decode cL_law 209 = .ok (.iadd, 1) := by decide +kernel
theorem dL_law_210 : decode cL_law 210 = .ok (.iaload, 1) := by decide +kernel
theorem dL_law_211 : decode cL_law 211 = .ok (.aload_n 0, 1) := by decide +kernel
theorem dL_law_212 : decode cL_law 212 = .ok (.iload 4, 2) := by decide +kernel
theorem dL_law_214 : decode cL_law 214 = .ok (.iconst 4, 1) := by decide +kernel
theorem dL_law_215 : decode cL_law 215 = .ok (.iadd, 1) := by decide +kernel
theorem dL_law_216 : decode cL_law 216 = .ok (.iaload, 1) := by decide +kernel
theorem dL_law_217 : decode cL_law 217 = .ok (.aload_n 3, 1) := by decide +kernel
theorem dL_law_218 : decode cL_law 218 = .ok (.invokestatic 88, 3) := by decide +kernel
theorem dL_law_221 : decode cL_law 221 = .ok (.istore 5, 2) := by decide +kernel
theorem dL_law_223 : decode cL_law 223 = .ok (.aload_n 2, 1) := by decide +kernel
theorem dL_law_224 : decode cL_law 224 = .ok (.aload_n 0, 1) := by decide +kernel
theorem dL_law_225 : decode cL_law 225 = .ok (.iload 4, 2) := by decide +kernel
theorem dL_law_227 : decode cL_law 227 = .ok (.iconst 1, 1) := by decide +kernel
theorem dL_law_228 : decode cL_law 228 = .ok (.iadd, 1) := by decide +kernel
theorem dL_law_229 : decode cL_law 229 = .ok (.iaload, 1) := by decide +kernel
theorem dL_law_230 : decode cL_law 230 = .ok (.aload_n 0, 1) := by decide +kernel
theorem dL_law_231 : decode cL_law 231 = .ok (.iload 4, 2) := by decide +kernel
theorem dL_law_233 : decode cL_law 233 = .ok (.iconst 2, 1) := by decide +kernel
theorem dL_law_234 : decode cL_law 234 = .ok (.iadd, 1) := by decide +kernel
theorem dL_law_235 : decode cL_law 235 = .ok (.iaload, 1) := by decide +kernel
theorem dL_law_236 : decode cL_law 236 = .ok (.aload_n 0, 1) := by decide +kernel
theorem dL_law_237 : decode cL_law 237 = .ok (.iload 4, 2) := by decide +kernel
theorem dL_law_239 : decode cL_law 239 = .ok (.iconst 3, 1) := by decide +kernel
theorem dL_law_240 : decode cL_law 240 = .ok (.iadd, 1) := by decide +kernel
theorem dL_law_241 : decode cL_law 241 = .ok (.iaload, 1) := by decide +kernel
theorem dL_law_242 : decode cL_law 242 = .ok (.aload_n 0, 1) := by decide +kernel
theorem dL_law_243 : decode cL_law 243 = .ok (.iload 4, 2) := by decide +kernel
theorem dL_law_245 : decode cL_law 245 = .ok (.iconst 4, 1) := by decide +kernel
theorem dL_law_246 : decode cL_law 246 = .ok (.iadd, 1) := by decide +kernel
theorem dL_law_247 : decode cL_law 247 = .ok (.iaload, 1) := by decide +kernel
theorem dL_law_248 : decode cL_law 248 = .ok (.invokevirtual 91, 3) := by decide +kernel
theorem dL_law_251 : decode cL_law 251 = .ok (.istore 6, 2) := by decide +kernel
theorem dL_law_253 : decode cL_law 253 = .ok (.aload_n 2, 1) := by decide +kernel
theorem dL_law_254 : decode cL_law 254 = .ok (.invokevirtual 84, 3) := by decide +kernel
theorem dL_law_257 : decode cL_law 257 = .ok (.iload 5, 2) := by decide +kernel
theorem dL_law_259 : decode cL_law 259 = .ok (.if_icmp .eq 5, 3) := by decide +kernel
theorem dL_law_262 : decode cL_law 262 = .ok (.iconst 0, 1) := by decide +kernel
theorem dL_law_263 : decode cL_law 263 = .ok (.ireturn, 1) := by decide +kernel
theorem dL_law_264 : decode cL_law 264 = .ok (.iload 5, 2) := by decide +kernel
theorem dL_law_266 : decode cL_law 266 = .ok (.ifCond .ne 15, 3) := by decide +kernel
theorem dL_law_269 : decode cL_law 269 = .ok (.aload_n 3, 1) := by decide +kernel
theorem dL_law_270 : decode cL_law 270 = .ok (.iconst 0, 1) := by decide +kernel
theorem dL_law_271 : decode cL_law 271 = .ok (.laload, 1) := by decide +kernel
theorem dL_law_272 : decode cL_law 272 = .ok (.iload 6, 2) := by decide +kernel
theorem dL_law_274 : decode cL_law 274 = .ok (.i2l, 1) := by decide +kernel
theorem dL_law_275 : decode cL_law 275 = .ok (.lcmp, 1) := by decide +kernel
theorem dL_law_276 : decode cL_law 276 = .ok (.ifCond .eq 5, 3) := by decide +kernel
theorem dL_law_279 : decode cL_law 279 = .ok (.iconst 0, 1) := by decide +kernel
theorem dL_law_280 : decode cL_law 280 = .ok (.ireturn, 1) := by decide +kernel
theorem dL_law_281 : decode cL_law 281 = .ok (.goto 1040, 3) := by decide +kernel
theorem dL_law_284 : decode cL_law 284 = .ok (.aload_n 1, 1) := by decide +kernel
theorem dL_law_285 : decode cL_law 285 = .ok (.aload_n 0, 1) := by decide +kernel
theorem dL_law_286 : decode cL_law 286 = .ok (.iload 4, 2) := by decide +kernel
theorem dL_law_288 : decode cL_law 288 = .ok (.iconst 1, 1) := by decide +kernel
theorem dL_law_289 : decode cL_law 289 = .ok (.iadd, 1) := by decide +kernel
theorem dL_law_290 : decode cL_law 290 = .ok (.iaload, 1) := by decide +kernel
theorem dL_law_291 : decode cL_law 291 = .ok (.aload_n 3, 1) := by decide +kernel
theorem dL_law_292 : decode cL_law 292 = .ok (.invokestatic 92, 3) := by decide +kernel
theorem dL_law_295 : decode cL_law 295 = .ok (.istore 5, 2) := by decide +kernel
theorem dL_law_297 : decode cL_law 297 = .ok (.aload_n 2, 1) := by decide +kernel
theorem dL_law_298 : decode cL_law 298 = .ok (.aload_n 0, 1) := by decide +kernel
theorem dL_law_299 : decode cL_law 299 = .ok (.iload 4, 2) := by decide +kernel
theorem dL_law_301 : decode cL_law 301 = .ok (.iconst 1, 1) := by decide +kernel
theorem dL_law_302 : decode cL_law 302 = .ok (.iadd, 1) := by decide +kernel
theorem dL_law_303 : decode cL_law 303 = .ok (.iaload, 1) := by decide +kernel
theorem dL_law_304 : decode cL_law 304 = .ok (.invokevirtual 95, 3) := by decide +kernel
theorem dL_law_307 : decode cL_law 307 = .ok (.istore 6, 2) := by decide +kernel
theorem dL_law_309 : decode cL_law 309 = .ok (.aload_n 2, 1) := by decide +kernel
theorem dL_law_310 : decode cL_law 310 = .ok (.invokevirtual 84, 3) := by decide +kernel
theorem dL_law_313 : decode cL_law 313 = .ok (.iload 5, 2) := by decide +kernel
theorem dL_law_315 : decode cL_law 315 = .ok (.if_icmp .eq 5, 3) := by decide +kernel
theorem dL_law_318 : decode cL_law 318 = .ok (.iconst 0, 1) := by decide +kernel
theorem dL_law_319 : decode cL_law 319 = .ok (.ireturn, 1) := by decide +kernel
theorem dL_law_320 : decode cL_law 320 = .ok (.iload 5, 2) := by decide +kernel
theorem dL_law_322 : decode cL_law 322 = .ok (.ifCond .ne 22, 3) := by decide +kernel
theorem dL_law_325 : decode cL_law 325 = .ok (.aload_n 3, 1) := by decide +kernel
theorem dL_law_326 : decode cL_law 326 = .ok (.iconst 0, 1) := by decide +kernel
theorem dL_law_327 : decode cL_law 327 = .ok (.laload, 1) := by decide +kernel
theorem dL_law_328 : decode cL_law 328 = .ok (.iload 6, 2) := by decide +kernel
theorem dL_law_330 : decode cL_law 330 = .ok (.ifCond .eq 7, 3) := by decide +kernel
theorem dL_law_333 : decode cL_law 333 = .ok (.lconst 1, 1) := by decide +kernel
theorem dL_law_334 : decode cL_law 334 = .ok (.goto 4, 3) := by decide +kernel
theorem dL_law_337 : decode cL_law 337 = .ok (.lconst 0, 1) := by decide +kernel
theorem dL_law_338 : decode cL_law 338 = .ok (.lcmp, 1) := by decide +kernel
theorem dL_law_339 : decode cL_law 339 = .ok (.ifCond .eq 5, 3) := by decide +kernel
theorem dL_law_342 : decode cL_law 342 = .ok (.iconst 0, 1) := by decide +kernel
theorem dL_law_343 : decode cL_law 343 = .ok (.ireturn, 1) := by decide +kernel
theorem dL_law_344 : decode cL_law 344 = .ok (.goto 977, 3) := by decide +kernel
theorem dL_law_347 : decode cL_law 347 = .ok (.aload_n 1, 1) := by decide +kernel
theorem dL_law_348 : decode cL_law 348 = .ok (.aload_n 0, 1) := by decide +kernel
theorem dL_law_349 : decode cL_law 349 = .ok (.iload 4, 2) := by decide +kernel
theorem dL_law_351 : decode cL_law 351 = .ok (.iconst 1, 1) := by decide +kernel
theorem dL_law_352 : decode cL_law 352 = .ok (.iadd, 1) := by decide +kernel
theorem dL_law_353 : decode cL_law 353 = .ok (.iaload, 1) := by decide +kernel
theorem dL_law_354 : decode cL_law 354 = .ok (.aload_n 0, 1) := by decide +kernel
theorem dL_law_355 : decode cL_law 355 = .ok (.iload 4, 2) := by decide +kernel
theorem dL_law_357 : decode cL_law 357 = .ok (.iconst 2, 1) := by decide +kernel
theorem dL_law_358 : decode cL_law 358 = .ok (.iadd, 1) := by decide +kernel
theorem dL_law_359 : decode cL_law 359 = .ok (.iaload, 1) := by decide +kernel
theorem dL_law_360 : decode cL_law 360 = .ok (.aload_n 3, 1) := by decide +kernel
theorem dL_law_361 : decode cL_law 361 = .ok (.invokestatic 96, 3) := by decide +kernel
theorem dL_law_364 : decode cL_law 364 = .ok (.istore 5, 2) := by decide +kernel
theorem dL_law_366 : decode cL_law 366 = .ok (.aload_n 2, 1) := by decide +kernel
theorem dL_law_367 : decode cL_law 367 = .ok (.aload_n 0, 1) := by decide +kernel
theorem dL_law_368 : decode cL_law 368 = .ok (.iload 4, 2) := by decide +kernel
theorem dL_law_370 : decode cL_law 370 = .ok (.iconst 1, 1) := by decide +kernel
theorem dL_law_371 : decode cL_law 371 = .ok (.iadd, 1) := by decide +kernel
theorem dL_law_372 : decode cL_law 372 = .ok (.iaload, 1) := by decide +kernel
theorem dL_law_373 : decode cL_law 373 = .ok (.aload_n 0, 1) := by decide +kernel
theorem dL_law_374 : decode cL_law 374 = .ok (.iload 4, 2) := by decide +kernel
theorem dL_law_376 : decode cL_law 376 = .ok (.iconst 2, 1) := by decide +kernel
theorem dL_law_377 : decode cL_law 377 = .ok (.iadd, 1) := by decide +kernel
theorem dL_law_378 : decode cL_law 378 = .ok (.iaload, 1) := by decide +kernel
theorem dL_law_379 : decode cL_law 379 = .ok (.invokevirtual 98, 3) := by decide +kernel
theorem dL_law_382 : decode cL_law 382 = .ok (.istore 6, 2) := by decide +kernel
theorem dL_law_384 : decode cL_law 384 = .ok (.aload_n 2, 1) := by decide +kernel
theorem dL_law_385 : decode cL_law 385 = .ok (.invokevirtual 84, 3) := by decide +kernel
theorem dL_law_388 : decode cL_law 388 = .ok (.iload 5, 2) := by decide +kernel
theorem dL_law_390 : decode cL_law 390 = .ok (.if_icmp .eq 5, 3) := by decide +kernel
theorem dL_law_393 : decode cL_law 393 = .ok (.iconst 0, 1) := by decide +kernel
theorem dL_law_394 : decode cL_law 394 = .ok (.ireturn, 1) := by decide +kernel
theorem dL_law_395 : decode cL_law 395 = .ok (.iload 5, 2) := by decide +kernel
theorem dL_law_397 : decode cL_law 397 = .ok (.ifCond .ne 15, 3) := by decide +kernel
theorem dL_law_400 : decode cL_law 400 = .ok (.aload_n 3, 1) := by decide +kernel
theorem dL_law_401 : decode cL_law 401 = .ok (.iconst 0, 1) := by decide +kernel
theorem dL_law_402 : decode cL_law 402 = .ok (.laload, 1) := by decide +kernel
theorem dL_law_403 : decode cL_law 403 = .ok (.iload 6, 2) := by decide +kernel
theorem dL_law_405 : decode cL_law 405 = .ok (.i2l, 1) := by decide +kernel
theorem dL_law_406 : decode cL_law 406 = .ok (.lcmp, 1) := by decide +kernel
theorem dL_law_407 : decode cL_law 407 = .ok (.ifCond .eq 5, 3) := by decide +kernel
theorem dL_law_410 : decode cL_law 410 = .ok (.iconst 0, 1) := by decide +kernel
theorem dL_law_411 : decode cL_law 411 = .ok (.ireturn, 1) := by decide +kernel
theorem dL_law_412 : decode cL_law 412 = .ok (.goto 909, 3) := by decide +kernel
theorem dL_law_415 : decode cL_law 415 = .ok (.aload_n 1, 1) := by decide +kernel
theorem dL_law_416 : decode cL_law 416 = .ok (.aload_n 0, 1) := by decide +kernel
theorem dL_law_417 : decode cL_law 417 = .ok (.iload 4, 2) := by decide +kernel
theorem dL_law_419 : decode cL_law 419 = .ok (.iconst 1, 1) := by decide +kernel
theorem dL_law_420 : decode cL_law 420 = .ok (.iadd, 1) := by decide +kernel
theorem dL_law_421 : decode cL_law 421 = .ok (.iaload, 1) := by decide +kernel
theorem dL_law_422 : decode cL_law 422 = .ok (.aload_n 0, 1) := by decide +kernel
theorem dL_law_423 : decode cL_law 423 = .ok (.iload 4, 2) := by decide +kernel
theorem dL_law_425 : decode cL_law 425 = .ok (.iconst 2, 1) := by decide +kernel
theorem dL_law_426 : decode cL_law 426 = .ok (.iadd, 1) := by decide +kernel
theorem dL_law_427 : decode cL_law 427 = .ok (.iaload, 1) := by decide +kernel
theorem dL_law_428 : decode cL_law 428 = .ok (.aload_n 3, 1) := by decide +kernel
theorem dL_law_429 : decode cL_law 429 = .ok (.invokestatic 99, 3) := by decide +kernel
theorem dL_law_432 : decode cL_law 432 = .ok (.istore 5, 2) := by decide +kernel
theorem dL_law_434 : decode cL_law 434 = .ok (.aload_n 2, 1) := by decide +kernel
theorem dL_law_435 : decode cL_law 435 = .ok (.aload_n 0, 1) := by decide +kernel
theorem dL_law_436 : decode cL_law 436 = .ok (.iload 4, 2) := by decide +kernel
theorem dL_law_438 : decode cL_law 438 = .ok (.iconst 1, 1) := by decide +kernel
theorem dL_law_439 : decode cL_law 439 = .ok (.iadd, 1) := by decide +kernel
theorem dL_law_440 : decode cL_law 440 = .ok (.iaload, 1) := by decide +kernel
theorem dL_law_441 : decode cL_law 441 = .ok (.aload_n 0, 1) := by decide +kernel
theorem dL_law_442 : decode cL_law 442 = .ok (.iload 4, 2) := by decide +kernel
theorem dL_law_444 : decode cL_law 444 = .ok (.iconst 2, 1) := by decide +kernel
theorem dL_law_445 : decode cL_law 445 = .ok (.iadd, 1) := by decide +kernel
theorem dL_law_446 : decode cL_law 446 = .ok (.iaload, 1) := by decide +kernel
theorem dL_law_447 : decode cL_law 447 = .ok (.invokevirtual 101, 3) := by decide +kernel
theorem dL_law_450 : decode cL_law 450 = .ok (.istore 6, 2) := by decide +kernel
theorem dL_law_452 : decode cL_law 452 = .ok (.aload_n 2, 1) := by decide +kernel
theorem dL_law_453 : decode cL_law 453 = .ok (.invokevirtual 84, 3) := by decide +kernel
theorem dL_law_456 : decode cL_law 456 = .ok (.iload 5, 2) := by decide +kernel
theorem dL_law_458 : decode cL_law 458 = .ok (.if_icmp .eq 5, 3) := by decide +kernel
theorem dL_law_461 : decode cL_law 461 = .ok (.iconst 0, 1) := by decide +kernel
theorem dL_law_462 : decode cL_law 462 = .ok (.ireturn, 1) := by decide +kernel
theorem dL_law_463 : decode cL_law 463 = .ok (.iload 5, 2) := by decide +kernel
theorem dL_law_465 : decode cL_law 465 = .ok (.ifCond .ne 15, 3) := by decide +kernel
theorem dL_law_468 : decode cL_law 468 = .ok (.aload_n 3, 1) := by decide +kernel
theorem dL_law_469 : decode cL_law 469 = .ok (.iconst 0, 1) := by decide +kernel
theorem dL_law_470 : decode cL_law 470 = .ok (.laload, 1) := by decide +kernel
theorem dL_law_471 : decode cL_law 471 = .ok (.iload 6, 2) := by decide +kernel
theorem dL_law_473 : decode cL_law 473 = .ok (.i2l, 1) := by decide +kernel
theorem dL_law_474 : decode cL_law 474 = .ok (.lcmp, 1) := by decide +kernel
theorem dL_law_475 : decode cL_law 475 = .ok (.ifCond .eq 5, 3) := by decide +kernel
theorem dL_law_478 : decode cL_law 478 = .ok (.iconst 0, 1) := by decide +kernel
theorem dL_law_479 : decode cL_law 479 = .ok (.ireturn, 1) := by decide +kernel
theorem dL_law_480 : decode cL_law 480 = .ok (.goto 841, 3) := by decide +kernel
theorem dL_law_483 : decode cL_law 483 = .ok (.aload_n 1, 1) := by decide +kernel
theorem dL_law_484 : decode cL_law 484 = .ok (.aload_n 0, 1) := by decide +kernel
theorem dL_law_485 : decode cL_law 485 = .ok (.iload 4, 2) := by decide +kernel
theorem dL_law_487 : decode cL_law 487 = .ok (.iconst 1, 1) := by decide +kernel
theorem dL_law_488 : decode cL_law 488 = .ok (.iadd, 1) := by decide +kernel
theorem dL_law_489 : decode cL_law 489 = .ok (.iaload, 1) := by decide +kernel
theorem dL_law_490 : decode cL_law 490 = .ok (.aload_n 3, 1) := by decide +kernel
theorem dL_law_491 : decode cL_law 491 = .ok (.invokestatic 102, 3) := by decide +kernel
theorem dL_law_494 : decode cL_law 494 = .ok (.istore 5, 2) := by decide +kernel
theorem dL_law_496 : decode cL_law 496 = .ok (.aload_n 2, 1) := by decide +kernel
theorem dL_law_497 : decode cL_law 497 = .ok (.aload_n 0, 1) := by decide +kernel
theorem dL_law_498 : decode cL_law 498 = .ok (.iload 4, 2) := by decide +kernel
theorem dL_law_500 : decode cL_law 500 = .ok (.iconst 1, 1) := by decide +kernel
theorem dL_law_501 : decode cL_law 501 = .ok (.iadd, 1) := by decide +kernel
theorem dL_law_502 : decode cL_law 502 = .ok (.iaload, 1) := by decide +kernel
theorem dL_law_503 : decode cL_law 503 = .ok (.invokevirtual 104, 3) := by decide +kernel
theorem dL_law_506 : decode cL_law 506 = .ok (.istore 6, 2) := by decide +kernel
theorem dL_law_508 : decode cL_law 508 = .ok (.aload_n 2, 1) := by decide +kernel
theorem dL_law_509 : decode cL_law 509 = .ok (.invokevirtual 84, 3) := by decide +kernel
theorem dL_law_512 : decode cL_law 512 = .ok (.iload 5, 2) := by decide +kernel
theorem dL_law_514 : decode cL_law 514 = .ok (.if_icmp .eq 5, 3) := by decide +kernel
theorem dL_law_517 : decode cL_law 517 = .ok (.iconst 0, 1) := by decide +kernel
theorem dL_law_518 : decode cL_law 518 = .ok (.ireturn, 1) := by decide +kernel
theorem dL_law_519 : decode cL_law 519 = .ok (.iload 5, 2) := by decide +kernel
theorem dL_law_521 : decode cL_law 521 = .ok (.ifCond .ne 15, 3) := by decide +kernel
theorem dL_law_524 : decode cL_law 524 = .ok (.aload_n 3, 1) := by decide +kernel
theorem dL_law_525 : decode cL_law 525 = .ok (.iconst 0, 1) := by decide +kernel
theorem dL_law_526 : decode cL_law 526 = .ok (.laload, 1) := by decide +kernel
theorem dL_law_527 : decode cL_law 527 = .ok (.iload 6, 2) := by decide +kernel
theorem dL_law_529 : decode cL_law 529 = .ok (.i2l, 1) := by decide +kernel
theorem dL_law_530 : decode cL_law 530 = .ok (.lcmp, 1) := by decide +kernel
theorem dL_law_531 : decode cL_law 531 = .ok (.ifCond .eq 5, 3) := by decide +kernel
theorem dL_law_534 : decode cL_law 534 = .ok (.iconst 0, 1) := by decide +kernel
theorem dL_law_535 : decode cL_law 535 = .ok (.ireturn, 1) := by decide +kernel
theorem dL_law_536 : decode cL_law 536 = .ok (.goto 785, 3) := by decide +kernel
theorem dL_law_539 : decode cL_law 539 = .ok (.aload_n 1, 1) := by decide +kernel
theorem dL_law_540 : decode cL_law 540 = .ok (.aload_n 0, 1) := by decide +kernel
theorem dL_law_541 : decode cL_law 541 = .ok (.iload 4, 2) := by decide +kernel
theorem dL_law_543 : decode cL_law 543 = .ok (.iconst 1, 1) := by decide +kernel
theorem dL_law_544 : decode cL_law 544 = .ok (.iadd, 1) := by decide +kernel
theorem dL_law_545 : decode cL_law 545 = .ok (.iaload, 1) := by decide +kernel
theorem dL_law_546 : decode cL_law 546 = .ok (.aload_n 0, 1) := by decide +kernel
theorem dL_law_547 : decode cL_law 547 = .ok (.iload 4, 2) := by decide +kernel
theorem dL_law_549 : decode cL_law 549 = .ok (.iconst 2, 1) := by decide +kernel
theorem dL_law_550 : decode cL_law 550 = .ok (.iadd, 1) := by decide +kernel
theorem dL_law_551 : decode cL_law 551 = .ok (.iaload, 1) := by decide +kernel
theorem dL_law_552 : decode cL_law 552 = .ok (.aload_n 3, 1) := by decide +kernel
theorem dL_law_553 : decode cL_law 553 = .ok (.invokestatic 105, 3) := by decide +kernel
theorem dL_law_556 : decode cL_law 556 = .ok (.istore 5, 2) := by decide +kernel
theorem dL_law_558 : decode cL_law 558 = .ok (.aload_n 2, 1) := by decide +kernel
theorem dL_law_559 : decode cL_law 559 = .ok (.aload_n 0, 1) := by decide +kernel
theorem dL_law_560 : decode cL_law 560 = .ok (.iload 4, 2) := by decide +kernel
theorem dL_law_562 : decode cL_law 562 = .ok (.iconst 1, 1) := by decide +kernel
theorem dL_law_563 : decode cL_law 563 = .ok (.iadd, 1) := by decide +kernel
theorem dL_law_564 : decode cL_law 564 = .ok (.iaload, 1) := by decide +kernel
theorem dL_law_565 : decode cL_law 565 = .ok (.aload_n 0, 1) := by decide +kernel
theorem dL_law_566 : decode cL_law 566 = .ok (.iload 4, 2) := by decide +kernel
theorem dL_law_568 : decode cL_law 568 = .ok (.iconst 2, 1) := by decide +kernel
theorem dL_law_569 : decode cL_law 569 = .ok (.iadd, 1) := by decide +kernel
theorem dL_law_570 : decode cL_law 570 = .ok (.iaload, 1) := by decide +kernel
theorem dL_law_571 : decode cL_law 571 = .ok (.invokevirtual 107, 3) := by decide +kernel
theorem dL_law_574 : decode cL_law 574 = .ok (.istore 6, 2) := by decide +kernel
theorem dL_law_576 : decode cL_law 576 = .ok (.aload_n 2, 1) := by decide +kernel
theorem dL_law_577 : decode cL_law 577 = .ok (.invokevirtual 84, 3) := by decide +kernel
theorem dL_law_580 : decode cL_law 580 = .ok (.iload 5, 2) := by decide +kernel
theorem dL_law_582 : decode cL_law 582 = .ok (.if_icmp .eq 5, 3) := by decide +kernel
theorem dL_law_585 : decode cL_law 585 = .ok (.iconst 0, 1) := by decide +kernel
theorem dL_law_586 : decode cL_law 586 = .ok (.ireturn, 1) := by decide +kernel
theorem dL_law_587 : decode cL_law 587 = .ok (.iload 5, 2) := by decide +kernel
theorem dL_law_589 : decode cL_law 589 = .ok (.ifCond .ne 15, 3) := by decide +kernel
theorem dL_law_592 : decode cL_law 592 = .ok (.aload_n 3, 1) := by decide +kernel
theorem dL_law_593 : decode cL_law 593 = .ok (.iconst 0, 1) := by decide +kernel
theorem dL_law_594 : decode cL_law 594 = .ok (.laload, 1) := by decide +kernel
theorem dL_law_595 : decode cL_law 595 = .ok (.iload 6, 2) := by decide +kernel
theorem dL_law_597 : decode cL_law 597 = .ok (.i2l, 1) := by decide +kernel
theorem dL_law_598 : decode cL_law 598 = .ok (.lcmp, 1) := by decide +kernel
theorem dL_law_599 : decode cL_law 599 = .ok (.ifCond .eq 5, 3) := by decide +kernel
theorem dL_law_602 : decode cL_law 602 = .ok (.iconst 0, 1) := by decide +kernel
theorem dL_law_603 : decode cL_law 603 = .ok (.ireturn, 1) := by decide +kernel
theorem dL_law_604 : decode cL_law 604 = .ok (.goto 717, 3) := by decide +kernel
theorem dL_law_607 : decode cL_law 607 = .ok (.aload_n 1, 1) := by decide +kernel
theorem dL_law_608 : decode cL_law 608 = .ok (.aload_n 0, 1) := by decide +kernel
theorem dL_law_609 : decode cL_law 609 = .ok (.iload 4, 2) := by decide +kernel
theorem dL_law_611 : decode cL_law 611 = .ok (.iconst 1, 1) := by decide +kernel
theorem dL_law_612 : decode cL_law 612 = .ok (.iadd, 1) := by decide +kernel
theorem dL_law_613 : decode cL_law 613 = .ok (.iaload, 1) := by decide +kernel
theorem dL_law_614 : decode cL_law 614 = .ok (.aload_n 0, 1) := by decide +kernel
theorem dL_law_615 : decode cL_law 615 = .ok (.iload 4, 2) := by decide +kernel
theorem dL_law_617 : decode cL_law 617 = .ok (.iconst 2, 1) := by decide +kernel
theorem dL_law_618 : decode cL_law 618 = .ok (.iadd, 1) := by decide +kernel
theorem dL_law_619 : decode cL_law 619 = .ok (.iaload, 1) := by decide +kernel
theorem dL_law_620 : decode cL_law 620 = .ok (.aload_n 3, 1) := by decide +kernel
theorem dL_law_621 : decode cL_law 621 = .ok (.invokestatic 108, 3) := by decide +kernel
theorem dL_law_624 : decode cL_law 624 = .ok (.istore 5, 2) := by decide +kernel
theorem dL_law_626 : decode cL_law 626 = .ok (.aload_n 2, 1) := by decide +kernel
theorem dL_law_627 : decode cL_law 627 = .ok (.aload_n 0, 1) := by decide +kernel
theorem dL_law_628 : decode cL_law 628 = .ok (.iload 4, 2) := by decide +kernel
theorem dL_law_630 : decode cL_law 630 = .ok (.iconst 1, 1) := by decide +kernel
theorem dL_law_631 : decode cL_law 631 = .ok (.iadd, 1) := by decide +kernel
theorem dL_law_632 : decode cL_law 632 = .ok (.iaload, 1) := by decide +kernel
theorem dL_law_633 : decode cL_law 633 = .ok (.aload_n 0, 1) := by decide +kernel
theorem dL_law_634 : decode cL_law 634 = .ok (.iload 4, 2) := by decide +kernel
theorem dL_law_636 : decode cL_law 636 = .ok (.iconst 2, 1) := by decide +kernel
theorem dL_law_637 : decode cL_law 637 = .ok (.iadd, 1) := by decide +kernel
theorem dL_law_638 : decode cL_law 638 = .ok (.iaload, 1) := by decide +kernel
theorem dL_law_639 : decode cL_law 639 = .ok (.invokevirtual 110, 3) := by decide +kernel
theorem dL_law_642 : decode cL_law 642 = .ok (.istore 6, 2) := by decide +kernel
theorem dL_law_644 : decode cL_law 644 = .ok (.aload_n 2, 1) := by decide +kernel
theorem dL_law_645 : decode cL_law 645 = .ok (.invokevirtual 84, 3) := by decide +kernel
theorem dL_law_648 : decode cL_law 648 = .ok (.iload 5, 2) := by decide +kernel
theorem dL_law_650 : decode cL_law 650 = .ok (.if_icmp .eq 5, 3) := by decide +kernel
theorem dL_law_653 : decode cL_law 653 = .ok (.iconst 0, 1) := by decide +kernel
theorem dL_law_654 : decode cL_law 654 = .ok (.ireturn, 1) := by decide +kernel
theorem dL_law_655 : decode cL_law 655 = .ok (.iload 5, 2) := by decide +kernel
theorem dL_law_657 : decode cL_law 657 = .ok (.ifCond .ne 15, 3) := by decide +kernel
theorem dL_law_660 : decode cL_law 660 = .ok (.aload_n 3, 1) := by decide +kernel
theorem dL_law_661 : decode cL_law 661 = .ok (.iconst 0, 1) := by decide +kernel
theorem dL_law_662 : decode cL_law 662 = .ok (.laload, 1) := by decide +kernel
theorem dL_law_663 : decode cL_law 663 = .ok (.iload 6, 2) := by decide +kernel
theorem dL_law_665 : decode cL_law 665 = .ok (.i2l, 1) := by decide +kernel
theorem dL_law_666 : decode cL_law 666 = .ok (.lcmp, 1) := by decide +kernel
theorem dL_law_667 : decode cL_law 667 = .ok (.ifCond .eq 5, 3) := by decide +kernel
theorem dL_law_670 : decode cL_law 670 = .ok (.iconst 0, 1) := by decide +kernel
theorem dL_law_671 : decode cL_law 671 = .ok (.ireturn, 1) := by decide +kernel
theorem dL_law_672 : decode cL_law 672 = .ok (.goto 649, 3) := by decide +kernel
theorem dL_law_675 : decode cL_law 675 = .ok (.aload_n 1, 1) := by decide +kernel
theorem dL_law_676 : decode cL_law 676 = .ok (.aload_n 0, 1) := by decide +kernel
theorem dL_law_677 : decode cL_law 677 = .ok (.iload 4, 2) := by decide +kernel
theorem dL_law_679 : decode cL_law 679 = .ok (.iconst 1, 1) := by decide +kernel
theorem dL_law_680 : decode cL_law 680 = .ok (.iadd, 1) := by decide +kernel
theorem dL_law_681 : decode cL_law 681 = .ok (.iaload, 1) := by decide +kernel
theorem dL_law_682 : decode cL_law 682 = .ok (.aload_n 3, 1) := by decide +kernel
theorem dL_law_683 : decode cL_law 683 = .ok (.invokestatic 111, 3) := by decide +kernel
theorem dL_law_686 : decode cL_law 686 = .ok (.istore 5, 2) := by decide +kernel
theorem dL_law_688 : decode cL_law 688 = .ok (.aload_n 2, 1) := by decide +kernel
theorem dL_law_689 : decode cL_law 689 = .ok (.aload_n 0, 1) := by decide +kernel
theorem dL_law_690 : decode cL_law 690 = .ok (.iload 4, 2) := by decide +kernel
theorem dL_law_692 : decode cL_law 692 = .ok (.iconst 1, 1) := by decide +kernel
theorem dL_law_693 : decode cL_law 693 = .ok (.iadd, 1) := by decide +kernel
theorem dL_law_694 : decode cL_law 694 = .ok (.iaload, 1) := by decide +kernel
theorem dL_law_695 : decode cL_law 695 = .ok (.invokevirtual 113, 3) := by decide +kernel
theorem dL_law_698 : decode cL_law 698 = .ok (.istore 6, 2) := by decide +kernel
theorem dL_law_700 : decode cL_law 700 = .ok (.aload_n 2, 1) := by decide +kernel
theorem dL_law_701 : decode cL_law 701 = .ok (.invokevirtual 84, 3) := by decide +kernel
theorem dL_law_704 : decode cL_law 704 = .ok (.iload 5, 2) := by decide +kernel
theorem dL_law_706 : decode cL_law 706 = .ok (.if_icmp .eq 5, 3) := by decide +kernel
theorem dL_law_709 : decode cL_law 709 = .ok (.iconst 0, 1) := by decide +kernel
theorem dL_law_710 : decode cL_law 710 = .ok (.ireturn, 1) := by decide +kernel
theorem dL_law_711 : decode cL_law 711 = .ok (.iload 5, 2) := by decide +kernel
theorem dL_law_713 : decode cL_law 713 = .ok (.ifCond .ne 15, 3) := by decide +kernel
theorem dL_law_716 : decode cL_law 716 = .ok (.aload_n 3, 1) := by decide +kernel
theorem dL_law_717 : decode cL_law 717 = .ok (.iconst 0, 1) := by decide +kernel
theorem dL_law_718 : decode cL_law 718 = .ok (.laload, 1) := by decide +kernel
theorem dL_law_719 : decode cL_law 719 = .ok (.iload 6, 2) := by decide +kernel
theorem dL_law_721 : decode cL_law 721 = .ok (.i2l, 1) := by decide +kernel
theorem dL_law_722 : decode cL_law 722 = .ok (.lcmp, 1) := by decide +kernel
theorem dL_law_723 : decode cL_law 723 = .ok (.ifCond .eq 5, 3) := by decide +kernel
theorem dL_law_726 : decode cL_law 726 = .ok (.iconst 0, 1) := by decide +kernel
theorem dL_law_727 : decode cL_law 727 = .ok (.ireturn, 1) := by decide +kernel
theorem dL_law_728 : decode cL_law 728 = .ok (.goto 593, 3) := by decide +kernel
theorem dL_law_731 : decode cL_law 731 = .ok (.aload_n 1, 1) := by decide +kernel
theorem dL_law_732 : decode cL_law 732 = .ok (.aload_n 0, 1) := by decide +kernel
theorem dL_law_733 : decode cL_law 733 = .ok (.iload 4, 2) := by decide +kernel
theorem dL_law_735 : decode cL_law 735 = .ok (.iconst 1, 1) := by decide +kernel
theorem dL_law_736 : decode cL_law 736 = .ok (.iadd, 1) := by decide +kernel
theorem dL_law_737 : decode cL_law 737 = .ok (.iaload, 1) := by decide +kernel
theorem dL_law_738 : decode cL_law 738 = .ok (.aload_n 3, 1) := by decide +kernel
theorem dL_law_739 : decode cL_law 739 = .ok (.invokestatic 114, 3) := by decide +kernel
theorem dL_law_742 : decode cL_law 742 = .ok (.istore 5, 2) := by decide +kernel
theorem dL_law_744 : decode cL_law 744 = .ok (.aload_n 2, 1) := by decide +kernel
theorem dL_law_745 : decode cL_law 745 = .ok (.aload_n 0, 1) := by decide +kernel
theorem dL_law_746 : decode cL_law 746 = .ok (.iload 4, 2) := by decide +kernel
theorem dL_law_748 : decode cL_law 748 = .ok (.iconst 1, 1) := by decide +kernel
theorem dL_law_749 : decode cL_law 749 = .ok (.iadd, 1) := by decide +kernel
theorem dL_law_750 : decode cL_law 750 = .ok (.iaload, 1) := by decide +kernel
theorem dL_law_751 : decode cL_law 751 = .ok (.invokevirtual 116, 3) := by decide +kernel
theorem dL_law_754 : decode cL_law 754 = .ok (.istore 6, 2) := by decide +kernel
theorem dL_law_756 : decode cL_law 756 = .ok (.aload_n 2, 1) := by decide +kernel
theorem dL_law_757 : decode cL_law 757 = .ok (.invokevirtual 84, 3) := by decide +kernel
theorem dL_law_760 : decode cL_law 760 = .ok (.iload 5, 2) := by decide +kernel
theorem dL_law_762 : decode cL_law 762 = .ok (.if_icmp .eq 5, 3) := by decide +kernel
theorem dL_law_765 : decode cL_law 765 = .ok (.iconst 0, 1) := by decide +kernel
theorem dL_law_766 : decode cL_law 766 = .ok (.ireturn, 1) := by decide +kernel
theorem dL_law_767 : decode cL_law 767 = .ok (.iload 5, 2) := by decide +kernel
theorem dL_law_769 : decode cL_law 769 = .ok (.ifCond .ne 22, 3) := by decide +kernel
theorem dL_law_772 : decode cL_law 772 = .ok (.aload_n 3, 1) := by decide +kernel
theorem dL_law_773 : decode cL_law 773 = .ok (.iconst 0, 1) := by decide +kernel
theorem dL_law_774 : decode cL_law 774 = .ok (.laload, 1) := by decide +kernel
theorem dL_law_775 : decode cL_law 775 = .ok (.iload 6, 2) := by decide +kernel
theorem dL_law_777 : decode cL_law 777 = .ok (.ifCond .eq 7, 3) := by decide +kernel
theorem dL_law_780 : decode cL_law 780 = .ok (.lconst 1, 1) := by decide +kernel
theorem dL_law_781 : decode cL_law 781 = .ok (.goto 4, 3) := by decide +kernel
theorem dL_law_784 : decode cL_law 784 = .ok (.lconst 0, 1) := by decide +kernel
theorem dL_law_785 : decode cL_law 785 = .ok (.lcmp, 1) := by decide +kernel
theorem dL_law_786 : decode cL_law 786 = .ok (.ifCond .eq 5, 3) := by decide +kernel
theorem dL_law_789 : decode cL_law 789 = .ok (.iconst 0, 1) := by decide +kernel
theorem dL_law_790 : decode cL_law 790 = .ok (.ireturn, 1) := by decide +kernel
theorem dL_law_791 : decode cL_law 791 = .ok (.goto 530, 3) := by decide +kernel
theorem dL_law_794 : decode cL_law 794 = .ok (.aload_n 1, 1) := by decide +kernel
theorem dL_law_795 : decode cL_law 795 = .ok (.aload_n 0, 1) := by decide +kernel
theorem dL_law_796 : decode cL_law 796 = .ok (.iload 4, 2) := by decide +kernel
theorem dL_law_798 : decode cL_law 798 = .ok (.iconst 1, 1) := by decide +kernel
theorem dL_law_799 : decode cL_law 799 = .ok (.iadd, 1) := by decide +kernel
theorem dL_law_800 : decode cL_law 800 = .ok (.iaload, 1) := by decide +kernel
theorem dL_law_801 : decode cL_law 801 = .ok (.aload_n 0, 1) := by decide +kernel
theorem dL_law_802 : decode cL_law 802 = .ok (.iload 4, 2) := by decide +kernel
theorem dL_law_804 : decode cL_law 804 = .ok (.iconst 2, 1) := by decide +kernel
theorem dL_law_805 : decode cL_law 805 = .ok (.iadd, 1) := by decide +kernel
theorem dL_law_806 : decode cL_law 806 = .ok (.iaload, 1) := by decide +kernel
theorem dL_law_807 : decode cL_law 807 = .ok (.aload_n 3, 1) := by decide +kernel
theorem dL_law_808 : decode cL_law 808 = .ok (.invokestatic 117, 3) := by decide +kernel
theorem dL_law_811 : decode cL_law 811 = .ok (.istore 5, 2) := by decide +kernel
theorem dL_law_813 : decode cL_law 813 = .ok (.aload_n 2, 1) := by decide +kernel
theorem dL_law_814 : decode cL_law 814 = .ok (.aload_n 0, 1) := by decide +kernel
theorem dL_law_815 : decode cL_law 815 = .ok (.iload 4, 2) := by decide +kernel
theorem dL_law_817 : decode cL_law 817 = .ok (.iconst 1, 1) := by decide +kernel
theorem dL_law_818 : decode cL_law 818 = .ok (.iadd, 1) := by decide +kernel
theorem dL_law_819 : decode cL_law 819 = .ok (.iaload, 1) := by decide +kernel
theorem dL_law_820 : decode cL_law 820 = .ok (.aload_n 0, 1) := by decide +kernel
theorem dL_law_821 : decode cL_law 821 = .ok (.iload 4, 2) := by decide +kernel
theorem dL_law_823 : decode cL_law 823 = .ok (.iconst 2, 1) := by decide +kernel
theorem dL_law_824 : decode cL_law 824 = .ok (.iadd, 1) := by decide +kernel
theorem dL_law_825 : decode cL_law 825 = .ok (.iaload, 1) := by decide +kernel
theorem dL_law_826 : decode cL_law 826 = .ok (.invokevirtual 119, 3) := by decide +kernel
theorem dL_law_829 : decode cL_law 829 = .ok (.istore 6, 2) := by decide +kernel
theorem dL_law_831 : decode cL_law 831 = .ok (.aload_n 2, 1) := by decide +kernel
theorem dL_law_832 : decode cL_law 832 = .ok (.invokevirtual 84, 3) := by decide +kernel
theorem dL_law_835 : decode cL_law 835 = .ok (.iload 5, 2) := by decide +kernel
theorem dL_law_837 : decode cL_law 837 = .ok (.if_icmp .eq 5, 3) := by decide +kernel
theorem dL_law_840 : decode cL_law 840 = .ok (.iconst 0, 1) := by decide +kernel
theorem dL_law_841 : decode cL_law 841 = .ok (.ireturn, 1) := by decide +kernel
theorem dL_law_842 : decode cL_law 842 = .ok (.iload 5, 2) := by decide +kernel
theorem dL_law_844 : decode cL_law 844 = .ok (.ifCond .ne 15, 3) := by decide +kernel
theorem dL_law_847 : decode cL_law 847 = .ok (.aload_n 3, 1) := by decide +kernel
theorem dL_law_848 : decode cL_law 848 = .ok (.iconst 0, 1) := by decide +kernel
theorem dL_law_849 : decode cL_law 849 = .ok (.laload, 1) := by decide +kernel
theorem dL_law_850 : decode cL_law 850 = .ok (.iload 6, 2) := by decide +kernel
theorem dL_law_852 : decode cL_law 852 = .ok (.i2l, 1) := by decide +kernel
theorem dL_law_853 : decode cL_law 853 = .ok (.lcmp, 1) := by decide +kernel
theorem dL_law_854 : decode cL_law 854 = .ok (.ifCond .eq 5, 3) := by decide +kernel
theorem dL_law_857 : decode cL_law 857 = .ok (.iconst 0, 1) := by decide +kernel
theorem dL_law_858 : decode cL_law 858 = .ok (.ireturn, 1) := by decide +kernel
theorem dL_law_859 : decode cL_law 859 = .ok (.goto 462, 3) := by decide +kernel
theorem dL_law_862 : decode cL_law 862 = .ok (.aload_n 1, 1) := by decide +kernel
theorem dL_law_863 : decode cL_law 863 = .ok (.aload_n 0, 1) := by decide +kernel
theorem dL_law_864 : decode cL_law 864 = .ok (.iload 4, 2) := by decide +kernel
theorem dL_law_866 : decode cL_law 866 = .ok (.iconst 1, 1) := by decide +kernel
theorem dL_law_867 : decode cL_law 867 = .ok (.iadd, 1) := by decide +kernel
theorem dL_law_868 : decode cL_law 868 = .ok (.iaload, 1) := by decide +kernel
theorem dL_law_869 : decode cL_law 869 = .ok (.aload_n 0, 1) := by decide +kernel
theorem dL_law_870 : decode cL_law 870 = .ok (.iload 4, 2) := by decide +kernel
theorem dL_law_872 : decode cL_law 872 = .ok (.iconst 2, 1) := by decide +kernel
theorem dL_law_873 : decode cL_law 873 = .ok (.iadd, 1) := by decide +kernel
theorem dL_law_874 : decode cL_law 874 = .ok (.iaload, 1) := by decide +kernel
theorem dL_law_875 : decode cL_law 875 = .ok (.aload_n 3, 1) := by decide +kernel
theorem dL_law_876 : decode cL_law 876 = .ok (.invokestatic 120, 3) := by decide +kernel
theorem dL_law_879 : decode cL_law 879 = .ok (.istore 5, 2) := by decide +kernel
theorem dL_law_881 : decode cL_law 881 = .ok (.aload_n 2, 1) := by decide +kernel
theorem dL_law_882 : decode cL_law 882 = .ok (.aload_n 0, 1) := by decide +kernel
theorem dL_law_883 : decode cL_law 883 = .ok (.iload 4, 2) := by decide +kernel
theorem dL_law_885 : decode cL_law 885 = .ok (.iconst 1, 1) := by decide +kernel
theorem dL_law_886 : decode cL_law 886 = .ok (.iadd, 1) := by decide +kernel
theorem dL_law_887 : decode cL_law 887 = .ok (.iaload, 1) := by decide +kernel
theorem dL_law_888 : decode cL_law 888 = .ok (.aload_n 0, 1) := by decide +kernel
theorem dL_law_889 : decode cL_law 889 = .ok (.iload 4, 2) := by decide +kernel
theorem dL_law_891 : decode cL_law 891 = .ok (.iconst 2, 1) := by decide +kernel
theorem dL_law_892 : decode cL_law 892 = .ok (.iadd, 1) := by decide +kernel
theorem dL_law_893 : decode cL_law 893 = .ok (.iaload, 1) := by decide +kernel
theorem dL_law_894 : decode cL_law 894 = .ok (.invokevirtual 122, 3) := by decide +kernel
theorem dL_law_897 : decode cL_law 897 = .ok (.istore 6, 2) := by decide +kernel
theorem dL_law_899 : decode cL_law 899 = .ok (.aload_n 2, 1) := by decide +kernel
theorem dL_law_900 : decode cL_law 900 = .ok (.invokevirtual 84, 3) := by decide +kernel
theorem dL_law_903 : decode cL_law 903 = .ok (.iload 5, 2) := by decide +kernel
theorem dL_law_905 : decode cL_law 905 = .ok (.if_icmp .eq 5, 3) := by decide +kernel
theorem dL_law_908 : decode cL_law 908 = .ok (.iconst 0, 1) := by decide +kernel
theorem dL_law_909 : decode cL_law 909 = .ok (.ireturn, 1) := by decide +kernel
theorem dL_law_910 : decode cL_law 910 = .ok (.iload 5, 2) := by decide +kernel
theorem dL_law_912 : decode cL_law 912 = .ok (.ifCond .ne 15, 3) := by decide +kernel
theorem dL_law_915 : decode cL_law 915 = .ok (.aload_n 3, 1) := by decide +kernel
theorem dL_law_916 : decode cL_law 916 = .ok (.iconst 0, 1) := by decide +kernel
theorem dL_law_917 : decode cL_law 917 = .ok (.laload, 1) := by decide +kernel
theorem dL_law_918 : decode cL_law 918 = .ok (.iload 6, 2) := by decide +kernel
theorem dL_law_920 : decode cL_law 920 = .ok (.i2l, 1) := by decide +kernel
theorem dL_law_921 : decode cL_law 921 = .ok (.lcmp, 1) := by decide +kernel
theorem dL_law_922 : decode cL_law 922 = .ok (.ifCond .eq 5, 3) := by decide +kernel
theorem dL_law_925 : decode cL_law 925 = .ok (.iconst 0, 1) := by decide +kernel
theorem dL_law_926 : decode cL_law 926 = .ok (.ireturn, 1) := by decide +kernel
theorem dL_law_927 : decode cL_law 927 = .ok (.goto 394, 3) := by decide +kernel
theorem dL_law_930 : decode cL_law 930 = .ok (.aload_n 1, 1) := by decide +kernel
theorem dL_law_931 : decode cL_law 931 = .ok (.aload_n 0, 1) := by decide +kernel
theorem dL_law_932 : decode cL_law 932 = .ok (.iload 4, 2) := by decide +kernel
theorem dL_law_934 : decode cL_law 934 = .ok (.iconst 1, 1) := by decide +kernel
theorem dL_law_935 : decode cL_law 935 = .ok (.iadd, 1) := by decide +kernel
theorem dL_law_936 : decode cL_law 936 = .ok (.iaload, 1) := by decide +kernel
theorem dL_law_937 : decode cL_law 937 = .ok (.aload_n 0, 1) := by decide +kernel
theorem dL_law_938 : decode cL_law 938 = .ok (.iload 4, 2) := by decide +kernel
theorem dL_law_940 : decode cL_law 940 = .ok (.iconst 2, 1) := by decide +kernel
theorem dL_law_941 : decode cL_law 941 = .ok (.iadd, 1) := by decide +kernel
theorem dL_law_942 : decode cL_law 942 = .ok (.iaload, 1) := by decide +kernel
theorem dL_law_943 : decode cL_law 943 = .ok (.aload_n 3, 1) := by decide +kernel
theorem dL_law_944 : decode cL_law 944 = .ok (.invokestatic 123, 3) := by decide +kernel
theorem dL_law_947 : decode cL_law 947 = .ok (.istore 5, 2) := by decide +kernel
theorem dL_law_949 : decode cL_law 949 = .ok (.aload_n 2, 1) := by decide +kernel
theorem dL_law_950 : decode cL_law 950 = .ok (.aload_n 0, 1) := by decide +kernel
theorem dL_law_951 : decode cL_law 951 = .ok (.iload 4, 2) := by decide +kernel
theorem dL_law_953 : decode cL_law 953 = .ok (.iconst 1, 1) := by decide +kernel
theorem dL_law_954 : decode cL_law 954 = .ok (.iadd, 1) := by decide +kernel
theorem dL_law_955 : decode cL_law 955 = .ok (.iaload, 1) := by decide +kernel
theorem dL_law_956 : decode cL_law 956 = .ok (.aload_n 0, 1) := by decide +kernel
theorem dL_law_957 : decode cL_law 957 = .ok (.iload 4, 2) := by decide +kernel
theorem dL_law_959 : decode cL_law 959 = .ok (.iconst 2, 1) := by decide +kernel
theorem dL_law_960 : decode cL_law 960 = .ok (.iadd, 1) := by decide +kernel
theorem dL_law_961 : decode cL_law 961 = .ok (.iaload, 1) := by decide +kernel
theorem dL_law_962 : decode cL_law 962 = .ok (.invokevirtual 125, 3) := by decide +kernel
theorem dL_law_965 : decode cL_law 965 = .ok (.istore 6, 2) := by decide +kernel
theorem dL_law_967 : decode cL_law 967 = .ok (.aload_n 2, 1) := by decide +kernel
theorem dL_law_968 : decode cL_law 968 = .ok (.invokevirtual 84, 3) := by decide +kernel
theorem dL_law_971 : decode cL_law 971 = .ok (.iload 5, 2) := by decide +kernel
theorem dL_law_973 : decode cL_law 973 = .ok (.if_icmp .eq 5, 3) := by decide +kernel
theorem dL_law_976 : decode cL_law 976 = .ok (.iconst 0, 1) := by decide +kernel
theorem dL_law_977 : decode cL_law 977 = .ok (.ireturn, 1) := by decide +kernel
theorem dL_law_978 : decode cL_law 978 = .ok (.iload 5, 2) := by decide +kernel
theorem dL_law_980 : decode cL_law 980 = .ok (.ifCond .ne 15, 3) := by decide +kernel
theorem dL_law_983 : decode cL_law 983 = .ok (.aload_n 3, 1) := by decide +kernel
theorem dL_law_984 : decode cL_law 984 = .ok (.iconst 0, 1) := by decide +kernel
theorem dL_law_985 : decode cL_law 985 = .ok (.laload, 1) := by decide +kernel
theorem dL_law_986 : decode cL_law 986 = .ok (.iload 6, 2) := by decide +kernel
theorem dL_law_988 : decode cL_law 988 = .ok (.i2l, 1) := by decide +kernel
theorem dL_law_989 : decode cL_law 989 = .ok (.lcmp, 1) := by decide +kernel
theorem dL_law_990 : decode cL_law 990 = .ok (.ifCond .eq 5, 3) := by decide +kernel
theorem dL_law_993 : decode cL_law 993 = .ok (.iconst 0, 1) := by decide +kernel
theorem dL_law_994 : decode cL_law 994 = .ok (.ireturn, 1) := by decide +kernel
theorem dL_law_995 : decode cL_law 995 = .ok (.goto 326, 3) := by decide +kernel
theorem dL_law_998 : decode cL_law 998 = .ok (.aload_n 1, 1) := by decide +kernel
theorem dL_law_999 : decode cL_law 999 = .ok (.aload_n 0, 1) := by decide +kernel
theorem dL_law_1000 : decode cL_law 1000 = .ok (.iload 4, 2) := by decide +kernel
theorem dL_law_1002 : decode cL_law 1002 = .ok (.iconst 1, 1) := by decide +kernel
theorem dL_law_1003 : decode cL_law 1003 = .ok (.iadd, 1) := by decide +kernel
theorem dL_law_1004 : decode cL_law 1004 = .ok (.iaload, 1) := by decide +kernel
theorem dL_law_1005 : decode cL_law 1005 = .ok (.aload_n 3, 1) := by decide +kernel
theorem dL_law_1006 : decode cL_law 1006 = .ok (.invokestatic 126, 3) := by decide +kernel
theorem dL_law_1009 : decode cL_law 1009 = .ok (.istore 5, 2) := by decide +kernel
theorem dL_law_1011 : decode cL_law 1011 = .ok (.aload_n 2, 1) := by decide +kernel
theorem dL_law_1012 : decode cL_law 1012 = .ok (.aload_n 0, 1) := by decide +kernel
theorem dL_law_1013 : decode cL_law 1013 = .ok (.iload 4, 2) := by decide +kernel
theorem dL_law_1015 : decode cL_law 1015 = .ok (.iconst 1, 1) := by decide +kernel
theorem dL_law_1016 : decode cL_law 1016 = .ok (.iadd, 1) := by decide +kernel
theorem dL_law_1017 : decode cL_law 1017 = .ok (.iaload, 1) := by decide +kernel
theorem dL_law_1018 : decode cL_law 1018 = .ok (.invokevirtual 128, 3) := by decide +kernel
theorem dL_law_1021 : decode cL_law 1021 = .ok (.istore 6, 2) := by decide +kernel
theorem dL_law_1023 : decode cL_law 1023 = .ok (.aload_n 2, 1) := by decide +kernel
theorem dL_law_1024 : decode cL_law 1024 = .ok (.invokevirtual 84, 3) := by decide +kernel
theorem dL_law_1027 : decode cL_law 1027 = .ok (.iload 5, 2) := by decide +kernel
theorem dL_law_1029 : decode cL_law 1029 = .ok (.if_icmp .eq 5, 3) := by decide +kernel
theorem dL_law_1032 : decode cL_law 1032 = .ok (.iconst 0, 1) := by decide +kernel
theorem dL_law_1033 : decode cL_law 1033 = .ok (.ireturn, 1) := by decide +kernel
theorem dL_law_1034 : decode cL_law 1034 = .ok (.iload 5, 2) := by decide +kernel
theorem dL_law_1036 : decode cL_law 1036 = .ok (.ifCond .ne 22, 3) := by decide +kernel
theorem dL_law_1039 : decode cL_law 1039 = .ok (.aload_n 3, 1) := by decide +kernel
theorem dL_law_1040 : decode cL_law 1040 = .ok (.iconst 0, 1) := by decide +kernel
theorem dL_law_1041 : decode cL_law 1041 = .ok (.laload, 1) := by decide +kernel
theorem dL_law_1042 : decode cL_law 1042 = .ok (.iload 6, 2) := by decide +kernel
theorem dL_law_1044 : decode cL_law 1044 = .ok (.ifCond .eq 7, 3) := by decide +kernel
theorem dL_law_1047 : decode cL_law 1047 = .ok (.lconst 1, 1) := by decide +kernel
theorem dL_law_1048 : decode cL_law 1048 = .ok (.goto 4, 3) := by decide +kernel
theorem dL_law_1051 : decode cL_law 1051 = .ok (.lconst 0, 1) := by decide +kernel
theorem dL_law_1052 : decode cL_law 1052 = .ok (.lcmp, 1) := by decide +kernel
theorem dL_law_1053 : decode cL_law 1053 = .ok (.ifCond .eq 5, 3) := by decide +kernel
theorem dL_law_1056 : decode cL_law 1056 = .ok (.iconst 0, 1) := by decide +kernel
theorem dL_law_1057 : decode cL_law 1057 = .ok (.ireturn, 1) := by decide +kernel
theorem dL_law_1058 : decode cL_law 1058 = .ok (.goto 263, 3) := by decide +kernel
theorem dL_law_1061 : decode cL_law 1061 = .ok (.aload_n 1, 1) := by decide +kernel
theorem dL_law_1062 : decode cL_law 1062 = .ok (.aload_n 0, 1) := by decide +kernel
theorem dL_law_1063 : decode cL_law 1063 = .ok (.iload 4, 2) := by decide +kernel
theorem dL_law_1065 : decode cL_law 1065 = .ok (.iconst 1, 1) := by decide +kernel
theorem dL_law_1066 : decode cL_law 1066 = .ok (.iadd, 1) := by decide +kernel
theorem dL_law_1067 : decode cL_law 1067 = .ok (.iaload, 1) := by decide +kernel
theorem dL_law_1068 : decode cL_law 1068 = .ok (.aload_n 3, 1) := by decide +kernel
theorem dL_law_1069 : decode cL_law 1069 = .ok (.invokestatic 129, 3) := by decide +kernel
theorem dL_law_1072 : decode cL_law 1072 = .ok (.istore 5, 2) := by decide +kernel
theorem dL_law_1074 : decode cL_law 1074 = .ok (.aload_n 2, 1) := by decide +kernel
theorem dL_law_1075 : decode cL_law 1075 = .ok (.aload_n 0, 1) := by decide +kernel
theorem dL_law_1076 : decode cL_law 1076 = .ok (.iload 4, 2) := by decide +kernel
theorem dL_law_1078 : decode cL_law 1078 = .ok (.iconst 1, 1) := by decide +kernel
theorem dL_law_1079 : decode cL_law 1079 = .ok (.iadd, 1) := by decide +kernel
theorem dL_law_1080 : decode cL_law 1080 = .ok (.iaload, 1) := by decide +kernel
theorem dL_law_1081 : decode cL_law 1081 = .ok (.invokevirtual 131, 3) := by decide +kernel
theorem dL_law_1084 : decode cL_law 1084 = .ok (.istore 6, 2) := by decide +kernel
theorem dL_law_1086 : decode cL_law 1086 = .ok (.aload_n 2, 1) := by decide +kernel
theorem dL_law_1087 : decode cL_law 1087 = .ok (.invokevirtual 84, 3) := by decide +kernel
theorem dL_law_1090 : decode cL_law 1090 = .ok (.iload 5, 2) := by decide +kernel
theorem dL_law_1092 : decode cL_law 1092 = .ok (.if_icmp .eq 5, 3) := by decide +kernel
theorem dL_law_1095 : decode cL_law 1095 = .ok (.iconst 0, 1) := by decide +kernel
theorem dL_law_1096 : decode cL_law 1096 = .ok (.ireturn, 1) := by decide +kernel
theorem dL_law_1097 : decode cL_law 1097 = .ok (.iload 5, 2) := by decide +kernel
theorem dL_law_1099 : decode cL_law 1099 = .ok (.ifCond .ne 15, 3) := by decide +kernel
theorem dL_law_1102 : decode cL_law 1102 = .ok (.aload_n 3, 1) := by decide +kernel
theorem dL_law_1103 : decode cL_law 1103 = .ok (.iconst 0, 1) := by decide +kernel
theorem dL_law_1104 : decode cL_law 1104 = .ok (.laload, 1) := by decide +kernel
theorem dL_law_1105 : decode cL_law 1105 = .ok (.iload 6, 2) := by decide +kernel
theorem dL_law_1107 : decode cL_law 1107 = .ok (.i2l, 1) := by decide +kernel
theorem dL_law_1108 : decode cL_law 1108 = .ok (.lcmp, 1) := by decide +kernel
theorem dL_law_1109 : decode cL_law 1109 = .ok (.ifCond .eq 5, 3) := by decide +kernel
theorem dL_law_1112 : decode cL_law 1112 = .ok (.iconst 0, 1) := by decide +kernel
theorem dL_law_1113 : decode cL_law 1113 = .ok (.ireturn, 1) := by decide +kernel
theorem dL_law_1114 : decode cL_law 1114 = .ok (.goto 207, 3) := by decide +kernel
theorem dL_law_1117 : decode cL_law 1117 = .ok (.aload_n 1, 1) := by decide +kernel
theorem dL_law_1118 : decode cL_law 1118 = .ok (.aload_n 0, 1) := by decide +kernel
theorem dL_law_1119 : decode cL_law 1119 = .ok (.iload 4, 2) := by decide +kernel
theorem dL_law_1121 : decode cL_law 1121 = .ok (.iconst 1, 1) := by decide +kernel
theorem dL_law_1122 : decode cL_law 1122 = .ok (.iadd, 1) := by decide +kernel
theorem dL_law_1123 : decode cL_law 1123 = .ok (.iaload, 1) := by decide +kernel
theorem dL_law_1124 : decode cL_law 1124 = .ok (.aload_n 0, 1) := by decide +kernel
theorem dL_law_1125 : decode cL_law 1125 = .ok (.iload 4, 2) := by decide +kernel
theorem dL_law_1127 : decode cL_law 1127 = .ok (.iconst 2, 1) := by decide +kernel
theorem dL_law_1128 : decode cL_law 1128 = .ok (.iadd, 1) := by decide +kernel
theorem dL_law_1129 : decode cL_law 1129 = .ok (.iaload, 1) := by decide +kernel
theorem dL_law_1130 : decode cL_law 1130 = .ok (.aload_n 0, 1) := by decide +kernel
theorem dL_law_1131 : decode cL_law 1131 = .ok (.iload 4, 2) := by decide +kernel
theorem dL_law_1133 : decode cL_law 1133 = .ok (.iconst 3, 1) := by decide +kernel
theorem dL_law_1134 : decode cL_law 1134 = .ok (.iadd, 1) := by decide +kernel
theorem dL_law_1135 : decode cL_law 1135 = .ok (.iaload, 1) := by decide +kernel
theorem dL_law_1136 : decode cL_law 1136 = .ok (.aload_n 3, 1) := by decide +kernel
theorem dL_law_1137 : decode cL_law 1137 = .ok (.invokestatic 132, 3) := by decide +kernel
theorem dL_law_1140 : decode cL_law 1140 = .ok (.istore 5, 2) := by decide +kernel
theorem dL_law_1142 : decode cL_law 1142 = .ok (.aload_n 2, 1) := by decide +kernel
theorem dL_law_1143 : decode cL_law 1143 = .ok (.aload_n 0, 1) := by decide +kernel
theorem dL_law_1144 : decode cL_law 1144 = .ok (.iload 4, 2) := by decide +kernel
theorem dL_law_1146 : decode cL_law 1146 = .ok (.iconst 1, 1) := by decide +kernel
theorem dL_law_1147 : decode cL_law 1147 = .ok (.iadd, 1) := by decide +kernel
theorem dL_law_1148 : decode cL_law 1148 = .ok (.iaload, 1) := by decide +kernel
theorem dL_law_1149 : decode cL_law 1149 = .ok (.aload_n 0, 1) := by decide +kernel
theorem dL_law_1150 : decode cL_law 1150 = .ok (.iload 4, 2) := by decide +kernel
theorem dL_law_1152 : decode cL_law 1152 = .ok (.iconst 2, 1) := by decide +kernel
theorem dL_law_1153 : decode cL_law 1153 = .ok (.iadd, 1) := by decide +kernel
theorem dL_law_1154 : decode cL_law 1154 = .ok (.iaload, 1) := by decide +kernel
theorem dL_law_1155 : decode cL_law 1155 = .ok (.aload_n 0, 1) := by decide +kernel
theorem dL_law_1156 : decode cL_law 1156 = .ok (.iload 4, 2) := by decide +kernel
theorem dL_law_1158 : decode cL_law 1158 = .ok (.iconst 3, 1) := by decide +kernel
theorem dL_law_1159 : decode cL_law 1159 = .ok (.iadd, 1) := by decide +kernel
theorem dL_law_1160 : decode cL_law 1160 = .ok (.iaload, 1) := by decide +kernel
theorem dL_law_1161 : decode cL_law 1161 = .ok (.invokevirtual 135, 3) := by decide +kernel
theorem dL_law_1164 : decode cL_law 1164 = .ok (.istore 6, 2) := by decide +kernel
theorem dL_law_1166 : decode cL_law 1166 = .ok (.aload_n 2, 1) := by decide +kernel
theorem dL_law_1167 : decode cL_law 1167 = .ok (.invokevirtual 84, 3) := by decide +kernel
theorem dL_law_1170 : decode cL_law 1170 = .ok (.iload 5, 2) := by decide +kernel
theorem dL_law_1172 : decode cL_law 1172 = .ok (.if_icmp .eq 5, 3) := by decide +kernel
theorem dL_law_1175 : decode cL_law 1175 = .ok (.iconst 0, 1) := by decide +kernel
theorem dL_law_1176 : decode cL_law 1176 = .ok (.ireturn, 1) := by decide +kernel
theorem dL_law_1177 : decode cL_law 1177 = .ok (.iload 5, 2) := by decide +kernel
theorem dL_law_1179 : decode cL_law 1179 = .ok (.ifCond .ne 15, 3) := by decide +kernel
theorem dL_law_1182 : decode cL_law 1182 = .ok (.aload_n 3, 1) := by decide +kernel
theorem dL_law_1183 : decode cL_law 1183 = .ok (.iconst 0, 1) := by decide +kernel
theorem dL_law_1184 : decode cL_law 1184 = .ok (.laload, 1) := by decide +kernel
theorem dL_law_1185 : decode cL_law 1185 = .ok (.iload 6, 2) := by decide +kernel
theorem dL_law_1187 : decode cL_law 1187 = .ok (.i2l, 1) := by decide +kernel
theorem dL_law_1188 : decode cL_law 1188 = .ok (.lcmp, 1) := by decide +kernel
theorem dL_law_1189 : decode cL_law 1189 = .ok (.ifCond .eq 5, 3) := by decide +kernel
theorem dL_law_1192 : decode cL_law 1192 = .ok (.iconst 0, 1) := by decide +kernel
theorem dL_law_1193 : decode cL_law 1193 = .ok (.ireturn, 1) := by decide +kernel
theorem dL_law_1194 : decode cL_law 1194 = .ok (.goto 127, 3) := by decide +kernel
theorem dL_law_1197 : decode cL_law 1197 = .ok (.aload_n 1, 1) := by decide +kernel
theorem dL_law_1198 : decode cL_law 1198 = .ok (.aload_n 0, 1) := by decide +kernel
theorem dL_law_1199 : decode cL_law 1199 = .ok (.iload 4, 2) := by decide +kernel
theorem dL_law_1201 : decode cL_law 1201 = .ok (.iconst 1, 1) := by decide +kernel
theorem dL_law_1202 : decode cL_law 1202 = .ok (.iadd, 1) := by decide +kernel
theorem dL_law_1203 : decode cL_law 1203 = .ok (.iaload, 1) := by decide +kernel
theorem dL_law_1204 : decode cL_law 1204 = .ok (.aload_n 3, 1) := by decide +kernel
theorem dL_law_1205 : decode cL_law 1205 = .ok (.invokestatic 136, 3) := by decide +kernel
theorem dL_law_1208 : decode cL_law 1208 = .ok (.istore 5, 2) := by decide +kernel
theorem dL_law_1210 : decode cL_law 1210 = .ok (.aload_n 2, 1) := by decide +kernel
theorem dL_law_1211 : decode cL_law 1211 = .ok (.aload_n 0, 1) := by decide +kernel
theorem dL_law_1212 : decode cL_law 1212 = .ok (.iload 4, 2) := by decide +kernel
theorem dL_law_1214 : decode cL_law 1214 = .ok (.iconst 1, 1) := by decide +kernel
theorem dL_law_1215 : decode cL_law 1215 = .ok (.iadd, 1) := by decide +kernel
theorem dL_law_1216 : decode cL_law 1216 = .ok (.iaload, 1) := by decide +kernel
theorem dL_law_1217 : decode cL_law 1217 = .ok (.invokevirtual 138, 3) := by decide +kernel
theorem dL_law_1220 : decode cL_law 1220 = .ok (.istore 6, 2) := by decide +kernel
theorem dL_law_1222 : decode cL_law 1222 = .ok (.aload_n 2, 1) := by decide +kernel
theorem dL_law_1223 : decode cL_law 1223 = .ok (.invokevirtual 84, 3) := by decide +kernel
theorem dL_law_1226 : decode cL_law 1226 = .ok (.iload 5, 2) := by decide +kernel
theorem dL_law_1228 : decode cL_law 1228 = .ok (.if_icmp .eq 5, 3) := by decide +kernel
theorem dL_law_1231 : decode cL_law 1231 = .ok (.iconst 0, 1) := by decide +kernel
theorem dL_law_1232 : decode cL_law 1232 = .ok (.ireturn, 1) := by decide +kernel
theorem dL_law_1233 : decode cL_law 1233 = .ok (.iload 5, 2) := by decide +kernel
theorem dL_law_1235 : decode cL_law 1235 = .ok (.ifCond .ne 15, 3) := by decide +kernel
theorem dL_law_1238 : decode cL_law 1238 = .ok (.aload_n 3, 1) := by decide +kernel
theorem dL_law_1239 : decode cL_law 1239 = .ok (.iconst 0, 1) := by decide +kernel
theorem dL_law_1240 : decode cL_law 1240 = .ok (.laload, 1) := by decide +kernel
theorem dL_law_1241 : decode cL_law 1241 = .ok (.iload 6, 2) := by decide +kernel
theorem dL_law_1243 : decode cL_law 1243 = .ok (.i2l, 1) := by decide +kernel
theorem dL_law_1244 : decode cL_law 1244 = .ok (.lcmp, 1) := by decide +kernel
theorem dL_law_1245 : decode cL_law 1245 = .ok (.ifCond .eq 5, 3) := by decide +kernel
theorem dL_law_1248 : decode cL_law 1248 = .ok (.iconst 0, 1) := by decide +kernel
theorem dL_law_1249 : decode cL_law 1249 = .ok (.ireturn, 1) := by decide +kernel
theorem dL_law_1250 : decode cL_law 1250 = .ok (.goto 71, 3) := by decide +kernel
theorem dL_law_1253 : decode cL_law 1253 = .ok (.aload_n 1, 1) := by decide +kernel
theorem dL_law_1254 : decode cL_law 1254 = .ok (.aload_n 0, 1) := by decide +kernel
theorem dL_law_1255 : decode cL_law 1255 = .ok (.iload 4, 2) := by decide +kernel
theorem dL_law_1257 : decode cL_law 1257 = .ok (.iconst 1, 1) := by decide +kernel
theorem dL_law_1258 : decode cL_law 1258 = .ok (.iadd, 1) := by decide +kernel
theorem dL_law_1259 : decode cL_law 1259 = .ok (.iaload, 1) := by decide +kernel
theorem dL_law_1260 : decode cL_law 1260 = .ok (.aload_n 0, 1) := by decide +kernel
theorem dL_law_1261 : decode cL_law 1261 = .ok (.iload 4, 2) := by decide +kernel
theorem dL_law_1263 : decode cL_law 1263 = .ok (.iconst 2, 1) := by decide +kernel
theorem dL_law_1264 : decode cL_law 1264 = .ok (.iadd, 1) := by decide +kernel
theorem dL_law_1265 : decode cL_law 1265 = .ok (.iaload, 1) := by decide +kernel
theorem dL_law_1266 : decode cL_law 1266 = .ok (.aload_n 3, 1) := by decide +kernel
theorem dL_law_1267 : decode cL_law 1267 = .ok (.invokestatic 139, 3) := by decide +kernel
theorem dL_law_1270 : decode cL_law 1270 = .ok (.istore 5, 2) := by decide +kernel
theorem dL_law_1272 : decode cL_law 1272 = .ok (.aload_n 2, 1) := by decide +kernel
theorem dL_law_1273 : decode cL_law 1273 = .ok (.aload_n 0, 1) := by decide +kernel
theorem dL_law_1274 : decode cL_law 1274 = .ok (.iload 4, 2) := by decide +kernel
theorem dL_law_1276 : decode cL_law 1276 = .ok (.iconst 1, 1) := by decide +kernel
theorem dL_law_1277 : decode cL_law 1277 = .ok (.iadd, 1) := by decide +kernel
theorem dL_law_1278 : decode cL_law 1278 = .ok (.iaload, 1) := by decide +kernel
theorem dL_law_1279 : decode cL_law 1279 = .ok (.aload_n 0, 1) := by decide +kernel
theorem dL_law_1280 : decode cL_law 1280 = .ok (.iload 4, 2) := by decide +kernel
theorem dL_law_1282 : decode cL_law 1282 = .ok (.iconst 2, 1) := by decide +kernel
theorem dL_law_1283 : decode cL_law 1283 = .ok (.iadd, 1) := by decide +kernel
theorem dL_law_1284 : decode cL_law 1284 = .ok (.iaload, 1) := by decide +kernel
theorem dL_law_1285 : decode cL_law 1285 = .ok (.invokevirtual 141, 3) := by decide +kernel
theorem dL_law_1288 : decode cL_law 1288 = .ok (.istore 6, 2) := by decide +kernel
theorem dL_law_1290 : decode cL_law 1290 = .ok (.aload_n 2, 1) := by decide +kernel
theorem dL_law_1291 : decode cL_law 1291 = .ok (.invokevirtual 84, 3) := by decide +kernel
theorem dL_law_1294 : decode cL_law 1294 = .ok (.iload 5, 2) := by decide +kernel
theorem dL_law_1296 : decode cL_law 1296 = .ok (.if_icmp .eq 5, 3) := by decide +kernel
theorem dL_law_1299 : decode cL_law 1299 = .ok (.iconst 0, 1) := by decide +kernel
theorem dL_law_1300 : decode cL_law 1300 = .ok (.ireturn, 1) := by decide +kernel
theorem dL_law_1301 : decode cL_law 1301 = .ok (.iload 5, 2) := by decide +kernel
theorem dL_law_1303 : decode cL_law 1303 = .ok (.ifCond .ne 15, 3) := by decide +kernel
theorem dL_law_1306 : decode cL_law 1306 = .ok (.aload_n 3, 1) := by decide +kernel
theorem dL_law_1307 : decode cL_law 1307 = .ok (.iconst 0, 1) := by decide +kernel
theorem dL_law_1308 : decode cL_law 1308 = .ok (.laload, 1) := by decide +kernel
theorem dL_law_1309 : decode cL_law 1309 = .ok (.iload 6, 2) := by decide +kernel
theorem dL_law_1311 : decode cL_law 1311 = .ok (.i2l, 1) := by decide +kernel
theorem dL_law_1312 : decode cL_law 1312 = .ok (.lcmp, 1) := by decide +kernel
theorem dL_law_1313 : decode cL_law 1313 = .ok (.ifCond .eq 5, 3) := by decide +kernel
theorem dL_law_1316 : decode cL_law 1316 = .ok (.iconst 0, 1) := by decide +kernel
theorem dL_law_1317 : decode cL_law 1317 = .ok (.ireturn, 1) := by decide +kernel
theorem dL_law_1318 : decode cL_law 1318 = .ok (.goto 3, 3) := by decide +kernel
theorem dL_law_1321 : decode cL_law 1321 = .ok (.iinc 4 5, 3) := by decide +kernel
theorem dL_law_1324 : decode cL_law 1324 = .ok (.goto (-1301), 3) := by decide +kernel
theorem dL_law_1327 : decode cL_law 1327 = .ok (.iconst 1, 1) := by decide +kernel
theorem dL_law_1328 : decode cL_law 1328 = .ok (.ireturn, 1) := by decide +kernel
abbrev vwCl : List vw_C := [(RX0, TX0, 15), (RX1, TX1, 16)]
end
section
/-! My own layer over the kit: contracts that write nothing (roM), that write (wrM), checks that throw (ckM), face methods (thM). -/
def bI (b : Bool) : Int32 := if b then 1 else 0
/-- what a method has at its entry -/
def roE (p : Program) (s : State) (m : MethodId) (meth : Method) (c : Code) (args : Array Value) (y : MethodName) (cc : ByteArray) (maxL : Nat) (ret : Option FieldType) (ws : List Cond) : Prop :=
  p.tables.exec = Jvm.exec ∧ c.code = cc ∧ meth.sig.returnType = ret ∧ c.maxLocals = maxL ∧ s.vm.findClass y.cls = some m.cls ∧ (∀ w ∈ ws, w.before args s = true) ∧ meth.locks = false
def roP (av : List Value) (D : va_G) (W0 : va_W) (tys : List (ClassId × FieldType)) (H0 : Heap) : Array Value → State → Prop := va_Pc av (fun U => U.heap = H0 ∧ va_P D vwCl W0 H0 ∧ va_K D vwCl tys U)
theorem roP_blind {av : List Value} {D : va_G} {W0 : va_W} {tys : List (ClassId × FieldType)} {H0 : Heap} : FrameBlind (roP av D W0 tys H0) := by
  intro a U g mk h
  obtain ⟨h1, h2, h3, h4⟩ := h
  exact ⟨h1, h2, h3, va_K.moved (u := U) (U := U.calling g mk a) (Vm.Alike.refl U.vm) h4⟩
/-- a method that writes nothing and answers a number -/
def roM (l : Launch) (y : MethodName) (ws : List Cond) (rm : Room) (av : List Value) (D : va_G) (W0 : va_W) (tys : List (ClassId × FieldType)) (H0 : Heap) (post : Int32 → Prop) : Prop :=
  Met l y ws rm (roP av D W0 tys H0) (va_Qi (fun (r : Int32) (_ : Unit) => post r) (fun _ t => t.heap = H0) (fun _ => False)) 0 0 (fun _ => False)
def roQ (below : List Frame) (H0 : Heap) (post : Int32 → Prop) (args : Array Value) (s : State) : State → Prop := MQ below (va_Qi (fun (r : Int32) (_ : Unit) => post r) (fun _ t => t.heap = H0) (fun _ => False)) args s 0 0 (fun _ => False)
/-- a method that writes among the cells of A and answers a number -/
def wrM (l : Launch) (y : MethodName) (ws : List Cond) (rm : Room) (av : List Value) (D : va_G) (W0 : va_W) (tys : List (ClassId × FieldType)) (H0 : Heap) {S : Type} (Wf : S → va_W) (post : Int32 → S → Prop) (A : Nat → Prop) : Prop :=
  Met l y ws rm (roP av D W0 tys H0) (va_Qi post (fun u t => va_P D vwCl (Wf u) t.heap) A) 0 0 A
def wrQ (below : List Frame) (D : va_G) {S : Type} (Wf : S → va_W) (post : Int32 → S → Prop) (A : Nat → Prop) (args : Array Value) (s : State) : State → Prop := MQ below (va_Qi post (fun u t => va_P D vwCl (Wf u) t.heap) A) args s 0 0 A
def xE1 : String := "java/lang/IllegalArgumentException"
def xE2 : String := "java/lang/IllegalStateException"
def xE3 : String := "java/lang/IndexOutOfBoundsException"
def xNs : List String := ["java/lang/RuntimeException", "java/lang/Exception"]
/-- what a throw needs of the tables -/
def tpW (U : State) : Prop := ((∃ a, vk_R RX0 64 "there are 6 bollards" a U) ∧ (∃ a, vk_R RX0 73 "there are 10 lines" a U) ∧ (∃ a, vk_R RX0 111 "the line is let go" a U) ∧ (∃ a, vk_R RX0 123 "the last hour is before the first" a U)) ∧ ((∃ a, vk_R RX0 137 "no such hour" a U) ∧ (∃ a, vk_R RX0 140 "no such bollard" a U) ∧ (∃ a, vk_R RX0 142 "no such line" a U) ∧ (∃ a, vk_R RX0 144 "out of range" a U)) ∧ (va_Nw (.castable xE1 xE1) U ∧ va_Nw (.castable xE2 xE2) U ∧ va_Nw (.castable xE3 xE3) U) ∧ (va_Nw (.declares (Bundle.initS "java/lang/Throwable")) U ∧ va_Nw (.declares (Bundle.initS "java/lang/Exception")) U ∧ va_Nw (.declares (Bundle.initS "java/lang/RuntimeException")) U) ∧ (va_Nc xE2 xE1 U ∧ va_Nc xE3 xE1 U ∧ va_Nc xE1 xE2 U ∧ va_Nc xE3 xE2 U ∧ va_Nc xE1 xE3 U ∧ va_Nc xE2 xE3 U)
theorem tpW_warm {s U : State} (hW : s.WarmedH U.vm) (h : tpW s) : tpW U := by
  obtain ⟨⟨⟨a1, h1⟩, ⟨a2, h2⟩, ⟨a3, h3⟩, ⟨a4, h4⟩⟩, ⟨⟨a5, h5⟩, ⟨a6, h6⟩, ⟨a7, h7⟩, ⟨a8, h8⟩⟩, ⟨c1, c2, c3⟩, ⟨d1, d2, d3⟩, n1, n2, n3, n4, n5, n6⟩ := h
  exact ⟨⟨⟨a1, h1.warm hW⟩, ⟨a2, h2.warm hW⟩, ⟨a3, h3.warm hW⟩, ⟨a4, h4.warm hW⟩⟩, ⟨⟨a5, h5.warm hW⟩, ⟨a6, h6.warm hW⟩, ⟨a7, h7.warm hW⟩, ⟨a8, h8.warm hW⟩⟩, ⟨c1.warmC hW, c2.warmC hW, c3.warmC hW⟩, ⟨d1.warmD hW, d2.warmD hW, d3.warmD hW⟩, n1.moved hW.alike, n2.moved hW.alike, n3.moved hW.alike, n4.moved hW.alike, n5.moved hW.alike, n6.moved hW.alike⟩
theorem tpW_same {s U : State} (hv : s.vm = U.vm) (h : tpW s) : tpW U := by
  obtain ⟨⟨⟨a1, h1⟩, ⟨a2, h2⟩, ⟨a3, h3⟩, ⟨a4, h4⟩⟩, ⟨⟨a5, h5⟩, ⟨a6, h6⟩, ⟨a7, h7⟩, ⟨a8, h8⟩⟩, ⟨c1, c2, c3⟩, ⟨d1, d2, d3⟩, n1, n2, n3, n4, n5, n6⟩ := h
  have hal : s.vm.Alike U.vm := by rw [hv]; exact Vm.Alike.refl _
  exact ⟨⟨⟨a1, h1.same hv.symm⟩, ⟨a2, h2.same hv.symm⟩, ⟨a3, h3.same hv.symm⟩, ⟨a4, h4.same hv.symm⟩⟩, ⟨⟨a5, h5.same hv.symm⟩, ⟨a6, h6.same hv.symm⟩, ⟨a7, h7.same hv.symm⟩, ⟨a8, h8.same hv.symm⟩⟩, ⟨c1.same rfl hv, c2.same rfl hv, c3.same rfl hv⟩, ⟨d1.same rfl hv, d2.same rfl hv, d3.same rfl hv⟩, n1.moved hal, n2.moved hal, n3.moved hal, n4.moved hal, n5.moved hal, n6.moved hal⟩
def tpS (A : Nat → Prop) (H : Heap) (U : State) : Prop := vx_Zq Bundle.tN "UNASSIGNED_STACK" Bundle.steD A U H ∧ vx_Zq Bundle.tN "SUPPRESSED_SENTINEL" Bundle.listD A U H
def tpA (A : Nat → Prop) (H : Heap) (U : State) : Prop := tpS A H U ∧ tpW U
theorem tpA_warm {A : Nat → Prop} {H : Heap} {s U : State} (hW : s.WarmedH U.vm) (h : tpA A H s) : tpA A H U := ⟨⟨vx_Zq.moved hW.alike h.1.1, vx_Zq.moved hW.alike h.1.2⟩, tpW_warm hW h.2⟩
theorem tpA_same {A : Nat → Prop} {H : Heap} {s U : State} (hv : s.vm = U.vm) (h : tpA A H s) : tpA A H U := by
  have hal : s.vm.Alike U.vm := by rw [hv]; exact Vm.Alike.refl _
  exact ⟨⟨vx_Zq.moved hal h.1.1, vx_Zq.moved hal h.1.2⟩, tpW_same hv h.2⟩
def thP (av : List Value) (D : va_G) (W0 : va_W) (tys : List (ClassId × FieldType)) (H0 : Heap) (A : Nat → Prop) : Array Value → State → Prop := va_Pc av (fun U => U.heap = H0 ∧ va_P D vwCl W0 H0 ∧ va_K D vwCl tys U ∧ tpA A H0 U)
theorem thP_blind {av : List Value} {D : va_G} {W0 : va_W} {tys : List (ClassId × FieldType)} {H0 : Heap} {A : Nat → Prop} : FrameBlind (thP av D W0 tys H0 A) := by
  intro a U g mk h
  obtain ⟨h1, h2, h3, h4, h5⟩ := h
  exact ⟨h1, h2, h3, va_K.moved (u := U) (U := U.calling g mk a) (Vm.Alike.refl U.vm) h4, tpA_same (s := U) (U := U.calling g mk a) rfl h5⟩
/-- the heap grew, nothing old changed -/
def grew (H0 H : Heap) : Prop := H0.size ≤ H.size ∧ ∀ q : Nat, q < H0.size → H[q]? = H0[q]?
def ckX (H0 : Heap) (XP : String → Prop) : String → State → State → Prop := fun E _ t => XP E ∧ grew H0 t.heap
/-- a check: returns where cond holds, throws E where it doesn't -/
def ckM (l : Launch) (y : MethodName) (ws : List Cond) (rm : Room) (av : List Value) (D : va_G) (W0 : va_W) (tys : List (ClassId × FieldType)) (H0 : Heap) (A : Nat → Prop) (cond : Prop) (E : String) : Prop :=
  vx_Met l y ws rm (thP av D W0 tys H0 A) (va_Qv (fun (_ : Unit) => cond) (fun _ t => t.heap = H0) (fun _ => False)) (ckX H0 (fun E' => E' = E ∧ ¬ cond)) 1 6 (fun _ => False)
def ckQ (below : List Frame) (H0 : Heap) (cond : Prop) (E : String) (args : Array Value) (s : State) : State → Prop := vx_MQ below (va_Qv (fun (_ : Unit) => cond) (fun _ t => t.heap = H0) (fun _ => False)) (ckX H0 (fun E' => E' = E ∧ ¬ cond)) args s 1 6 (fun _ => False)
/-- a method of the face: answers a number and writes among the cells of A, or throws and writes nothing -/
def thM (l : Launch) (y : MethodName) (ws : List Cond) (rm : Room) (av : List Value) (D : va_G) (W0 : va_W) (tys : List (ClassId × FieldType)) (H0 : Heap) (A : Nat → Prop) {S : Type} (Wf : S → va_W) (post : Int32 → S → Prop) (XP : String → Prop) : Prop :=
  vx_Met l y ws rm (thP av D W0 tys H0 A) (va_Qi post (fun u t => va_P D vwCl (Wf u) t.heap) A) (ckX H0 XP) 1 6 A
def thQ (below : List Frame) (D : va_G) (H0 : Heap) (A : Nat → Prop) {S : Type} (Wf : S → va_W) (post : Int32 → S → Prop) (XP : String → Prop) (args : Array Value) (s : State) : State → Prop := vx_MQ below (va_Qi post (fun u t => va_P D vwCl (Wf u) t.heap) A) (ckX H0 XP) args s 1 6 A
section
variable {l : Launch} {y : MethodName} {cc : ByteArray} {maxL : Nat} {ret : Option FieldType} {ws ws' : List Cond} {rm : Room} {av : List Value} {D : va_G} {W0 : va_W} {tys : List (ClassId × FieldType)} {H0 : Heap}
theorem ro_of {post : Int32 → Prop} (hy : plainName y.cls = true) (hw : ws = Cond.code y cc maxL ret :: ws') (hn : (lg_sl av).length ≤ maxL)
    (body : ∀ (p : Program) (e : Env) (s : State) (m : MethodId) (args : Array Value) (below : List Frame) (meth : Method) (c : Code), roE p s m meth c args y cc maxL ret ws → s.heap = H0 → va_P D vwCl W0 H0 → va_K D vwCl tys s → ∀ ls : Array Slot, lv_has ls maxL (lv_args 0 av) → W p l e rm s m args below meth c H0 [] 0 0 (roQ below H0 post args s) (F0 m 0 ls [])) : roM l y ws rm av D W0 tys H0 post := by
  refine Met.ofW (cc := cc) (maxL := maxL) (ret := ret) hy hw ?_
  intro p e s m args below meth c s₁ B hml hv
  obtain ⟨rfl, hH, hP, hK⟩ := hv
  rw [hH, lg_entry_eq]
  exact body p e s m _ below meth c ⟨B.exec, B.bytes, B.returns, hml, findClass_of_methodNamed B.named, atoms_spec (ws := ws) B.pre, B.notSynchronized⟩ hH hP hK _ (lv_entry av hn)
theorem wr_of {S : Type} {Wf : S → va_W} {post : Int32 → S → Prop} {A : Nat → Prop} (hy : plainName y.cls = true) (hw : ws = Cond.code y cc maxL ret :: ws') (hn : (lg_sl av).length ≤ maxL)
    (body : ∀ (p : Program) (e : Env) (s : State) (m : MethodId) (args : Array Value) (below : List Frame) (meth : Method) (c : Code), roE p s m meth c args y cc maxL ret ws → s.heap = H0 → va_P D vwCl W0 H0 → va_K D vwCl tys s → ∀ ls : Array Slot, lv_has ls maxL (lv_args 0 av) → W p l e rm s m args below meth c H0 [] 0 0 (wrQ below D Wf post A args s) (F0 m 0 ls [])) : wrM l y ws rm av D W0 tys H0 Wf post A := by
  refine Met.ofW (cc := cc) (maxL := maxL) (ret := ret) hy hw ?_
  intro p e s m args below meth c s₁ B hml hv
  obtain ⟨rfl, hH, hP, hK⟩ := hv
  rw [hH, lg_entry_eq]
  exact body p e s m _ below meth c ⟨B.exec, B.bytes, B.returns, hml, findClass_of_methodNamed B.named, atoms_spec (ws := ws) B.pre, B.notSynchronized⟩ hH hP hK _ (lv_entry av hn)
theorem ck_of {A : Nat → Prop} {cond : Prop} {E : String} (hy : plainName y.cls = true) (hw : ws = Cond.code y cc maxL ret :: ws') (hn : (lg_sl av).length ≤ maxL)
    (body : ∀ (p : Program) (e : Env) (s : State) (m : MethodId) (args : Array Value) (below : List Frame) (meth : Method) (c : Code), roE p s m meth c args y cc maxL ret ws → (∀ x ∈ c.exceptionTable.toList, False) → s.heap = H0 → va_P D vwCl W0 H0 → va_K D vwCl tys s → tpA A H0 s → ∀ ls : Array Slot, lv_has ls maxL (lv_args 0 av) → W p l e rm s m args below meth c H0 [] 0 0 (ckQ below H0 cond E args s) (F0 m 0 ls [])) : ckM l y ws rm av D W0 tys H0 A cond E := by
  refine vx_ofW (cc := cc) (maxL := maxL) (ret := ret) hy hw ?_
  intro p e s m args below meth c s₁ B hml hout hv
  obtain ⟨rfl, hH, hP, hK, hT⟩ := hv
  rw [hH, lg_entry_eq]
  exact body p e s m _ below meth c ⟨B.exec, B.bytes, B.returns, hml, findClass_of_methodNamed B.named, atoms_spec (ws := ws) B.pre, B.notSynchronized⟩ hout hH hP hK hT _ (lv_entry av hn)
theorem th_of {S : Type} {Wf : S → va_W} {post : Int32 → S → Prop} {XP : String → Prop} {A : Nat → Prop} (hy : plainName y.cls = true) (hw : ws = Cond.code y cc maxL ret :: ws') (hn : (lg_sl av).length ≤ maxL)
    (body : ∀ (p : Program) (e : Env) (s : State) (m : MethodId) (args : Array Value) (below : List Frame) (meth : Method) (c : Code), roE p s m meth c args y cc maxL ret ws → (∀ x ∈ c.exceptionTable.toList, False) → s.heap = H0 → va_P D vwCl W0 H0 → va_K D vwCl tys s → tpA A H0 s → ∀ ls : Array Slot, lv_has ls maxL (lv_args 0 av) → W p l e rm s m args below meth c H0 [] 0 0 (thQ below D H0 A Wf post XP args s) (F0 m 0 ls [])) : thM l y ws rm av D W0 tys H0 A Wf post XP := by
  refine vx_ofW (cc := cc) (maxL := maxL) (ret := ret) hy hw ?_
  intro p e s m args below meth c s₁ B hml hout hv
  obtain ⟨rfl, hH, hP, hK, hT⟩ := hv
  rw [hH, lg_entry_eq]
  exact body p e s m _ below meth c ⟨B.exec, B.bytes, B.returns, hml, findClass_of_methodNamed B.named, atoms_spec (ws := ws) B.pre, B.notSynchronized⟩ hout hH hP hK hT _ (lv_entry av hn)
end
section
variable {p : Program} {l : Launch} {e : Env} {R : Room} {s : State} {m : MethodId} {args : Array Value} {below : List Frame} {meth : Method} {c : Code} {H : Heap} {locs : List Loc} {cells slots : Nat} {Q : State → Prop}
variable {y : MethodName} {bytes cc : ByteArray} {maxL nL n index : Nat} {ret : Option FieldType} {ws ws' : List Cond} {rm : Room} {Ts : List Cond} {own C : String} {b : Addr} {As av rest st0 : List Value} {pc : Nat} {ls : Array Slot} {D : va_G} {W0 : va_W} {tys : List (ClassId × FieldType)} {H0 : Heap}
theorem va_F_rf {s t : State} {H : Heap} (hs : s.heap = H) (ht : t.heap = H) : va_F (fun _ => False) s t := ⟨by rw [hs, ht]; exact Nat.le_refl _, fun q _ _ => by rw [hs, ht]⟩
theorem bI_narrow (b : Bool) : narrow .boolean (.int (bI b)) = .int (bI b) := by cases b <;> rfl
theorem ro_ret {post : Int32 → Prop} {v : Int32} (hexec : p.tables.exec = Jvm.exec) (hb : c.code = cc) (hr : meth.sig.returnType = some .int) (hlocks : meth.locks = false) (hH : s.heap = H) (hp : post v) (hdg : decode cc pc = .ok (.ireturn, 1)) : W p l e R s m args below meth c H [] 0 0 (roQ below H post args s) (F0 m pc ls [.int v]) :=
  W.iret (v := v) hexec hb hr (fun t ht _ => ⟨⟨v, (), rfl, hp, ht⟩, va_F_rf hH ht⟩) (fun _ h => nomatch h) hdg hlocks
theorem ro_zret {post : Int32 → Prop} {v : Int32} (hexec : p.tables.exec = Jvm.exec) (hb : c.code = cc) (hr : meth.sig.returnType = some .boolean) (hlocks : meth.locks = false) (hH : s.heap = H) (hv : ∃ z : Bool, v = bI z) (hp : post v) (hdg : decode cc pc = .ok (.ireturn, 1)) : W p l e R s m args below meth c H [] 0 0 (roQ below H post args s) (F0 m pc ls [.int v]) :=
  W.zret (v := v) hexec hb hr (by obtain ⟨z, rfl⟩ := hv; exact bI_narrow z) (fun t ht _ => ⟨⟨v, (), rfl, hp, ht⟩, va_F_rf hH ht⟩) (fun _ h => nomatch h) hdg hlocks
theorem wr_ret {S : Type} {Wf : S → va_W} {post : Int32 → S → Prop} {A : Nat → Prop} {v : Int32} (u : S) (hexec : p.tables.exec = Jvm.exec) (hb : c.code = cc) (hr : meth.sig.returnType = some .int) (hlocks : meth.locks = false) (hH : s.heap = H0) (hS : va_S A H0 H locs) (hP : va_P D vwCl (Wf u) H) (hp : post v u) (hdg : decode cc pc = .ok (.ireturn, 1)) : W p l e R s m args below meth c H locs 0 0 (wrQ below D Wf post A args s) (F0 m pc ls [.int v]) :=
  W.iret (v := v) hexec hb hr (fun t ht _ => ⟨⟨v, u, rfl, hp, (by subst ht; exact hP)⟩, va_S.F (by rw [hH]; exact hS) ht⟩) hS.2.2 hdg hlocks
theorem wr_zret {S : Type} {Wf : S → va_W} {post : Int32 → S → Prop} {A : Nat → Prop} {v : Int32} (u : S) (hexec : p.tables.exec = Jvm.exec) (hb : c.code = cc) (hr : meth.sig.returnType = some .boolean) (hlocks : meth.locks = false) (hH : s.heap = H0) (hS : va_S A H0 H locs) (hP : va_P D vwCl (Wf u) H) (hv : ∃ z : Bool, v = bI z) (hp : post v u) (hdg : decode cc pc = .ok (.ireturn, 1)) : W p l e R s m args below meth c H locs 0 0 (wrQ below D Wf post A args s) (F0 m pc ls [.int v]) :=
  W.zret (v := v) hexec hb hr (by obtain ⟨z, rfl⟩ := hv; exact bI_narrow z) (fun t ht _ => ⟨⟨v, u, rfl, hp, (by subst ht; exact hP)⟩, va_S.F (by rw [hH]; exact hS) ht⟩) hS.2.2 hdg hlocks
theorem th_ret {S : Type} {Wf : S → va_W} {post : Int32 → S → Prop} {XP : String → Prop} {A : Nat → Prop} {v : Int32} (u : S) (hexec : p.tables.exec = Jvm.exec) (hb : c.code = cc) (hr : meth.sig.returnType = some .int) (hlocks : meth.locks = false) (hH : s.heap = H0) (hS : va_S A H0 H locs) (hP : va_P D vwCl (Wf u) H) (hp : post v u) (hdg : decode cc pc = .ok (.ireturn, 1)) : W p l e R s m args below meth c H locs 0 0 (thQ below D H0 A Wf post XP args s) (F0 m pc ls [.int v]) :=
  W.widen (k := 1) (n := 6) (Nat.zero_le _) (Nat.zero_le _) (vx_ret (W.iret (v := v) hexec hb hr (fun t ht _ => ⟨⟨v, u, rfl, hp, (by subst ht; exact hP)⟩, va_S.F (by rw [hH]; exact hS) ht⟩) hS.2.2 hdg hlocks))
theorem th_zret {S : Type} {Wf : S → va_W} {post : Int32 → S → Prop} {XP : String → Prop} {A : Nat → Prop} {v : Int32} (u : S) (hexec : p.tables.exec = Jvm.exec) (hb : c.code = cc) (hr : meth.sig.returnType = some .boolean) (hlocks : meth.locks = false) (hH : s.heap = H0) (hS : va_S A H0 H locs) (hP : va_P D vwCl (Wf u) H) (hv : ∃ z : Bool, v = bI z) (hp : post v u) (hdg : decode cc pc = .ok (.ireturn, 1)) : W p l e R s m args below meth c H locs 0 0 (thQ below D H0 A Wf post XP args s) (F0 m pc ls [.int v]) :=
  W.widen (k := 1) (n := 6) (Nat.zero_le _) (Nat.zero_le _) (vx_ret (W.zret (v := v) hexec hb hr (by obtain ⟨z, rfl⟩ := hv; exact bI_narrow z) (fun t ht _ => ⟨⟨v, u, rfl, hp, (by subst ht; exact hP)⟩, va_S.F (by rw [hH]; exact hS) ht⟩) hS.2.2 hdg hlocks))
theorem ck_ret {cond : Prop} {E : String} (hexec : p.tables.exec = Jvm.exec) (hb : c.code = cc) (hr : meth.sig.returnType = none) (hlocks : meth.locks = false) (hH : s.heap = H) (hp : cond) (hdg : decode cc pc = .ok (.return_, 1)) : W p l e R s m args below meth c H [] 0 0 (ckQ below H cond E args s) (F0 m pc ls []) :=
  W.widen (k := 1) (n := 6) (Nat.zero_le _) (Nat.zero_le _) (vx_ret (W.vret hexec hb hr (fun t ht _ => ⟨⟨(), rfl, hp, ht⟩, va_F_rf hH ht⟩) (fun _ h => nomatch h) hdg hlocks))
/-- a call of a method that writes nothing -/
theorem ro_go {post : Int32 → Prop} {a : Array Value} (hr : va_Run p l e R s m args below meth c H locs cells slots 0 0 (F0 m pc ls st0) rest (va_Qi (fun (r : Int32) (_ : Unit) => post r) (fun _ t => t.heap = H) (fun _ => False) a) (fun _ => False))
    (kk : ∀ r : Int32, post r → W p l e R s m args below meth c H locs cells slots Q (F0 m (pc + 3) ls (.int r :: rest))) : W p l e R s m args below meth c H locs cells slots Q (F0 m pc ls st0) := by
  intro T hT X
  obtain ⟨v, st₀, t, T', L, h0, X', hL, e1, e2, ⟨⟨r, u, hv, hp, hb⟩, hF⟩, st⟩ := hr T hT X
  cases hv
  have hL0 : L = [] := by
    cases L with
    | nil => rfl
    | cons q r => exact (hL q List.mem_cons_self).elim
  subst hL0
  rw [List.append_nil] at X'
  obtain ⟨t2, a1, b1⟩ := kk r hp T' (e1.trans hb) X'
  exact ⟨t2, st t2 a1, b1⟩
theorem ro_callV {post : Int32 → Prop} (n : Nat) (hx : p.tables.exec = Jvm.exec) (hb : c.code = cc) (hml : c.maxLocals = nL) (hown : s.vm.findClass own = some m.cls) (hts : ∀ w ∈ Ts, w.before args s = true) (hsize : ls.size = nL)
    (hP : va_P D vwCl W0 H) (hK : va_K D vwCl tys s) (q0 ci : Nat) {q : vw_C} {fs : List Value} (hc : vwCl[ci]? = some q) (he : W0[q0]? = some (b, .inr (ci, fs))) (hM : roM l y ws rm (.ref b :: As) D W0 tys H post) (hG : GoodIn Ts (wsV own index q.1 y ws)) (hw : ws = Cond.code y bytes maxL ret :: ws') (hrc : rm.cells = 0) (hrs : rm.slots = 0)
    (hd : y.cls = q.1 ∧ y.cls ≠ "java/lang/invoke/MethodHandle" ∧ y.cls ≠ "java/lang/invoke/VarHandle" ∧ (parseMethodDescriptor y.desc).map (fun d => d.parameters.length) = some n) (hR : rm.frames + 1 ≤ R.frames ∧ 8 + (maxL + 11) + rm.locals ≤ R.locals) (hn : As.length = n) (hst : st0 = As.reverse ++ .ref b :: rest) (hW : (rest.map fun v => v.category).sum ≤ 8)
    (hdg : decode cc pc = .ok (.invokevirtual index, 3)) (hf : cells ≤ R.cells ∧ slots ≤ R.slots) (kk : ∀ r : Int32, post r → W p l e R s m args below meth c H locs cells slots Q (F0 m (pc + 3) ls (.int r :: rest))) : W p l e R s m args below meth c H locs cells slots Q (F0 m pc ls st0) :=
  ro_go (va_runV ⟨hx, hb, hml, hown, hts⟩ hM (cwV n hts hG hw hrc hrs hd hR) ⟨roP_blind, va_recv hK hP hc he, fun U hU hWm => ⟨rfl, hU, hP, va_K.moved hWm.alike hK⟩⟩ rfl hn hsize hst (lv_room hW) hdg hf) kk
theorem ro_callS {post : Int32 → Prop} (n : Nat) (hx : p.tables.exec = Jvm.exec) (hb : c.code = cc) (hml : c.maxLocals = nL) (hown : s.vm.findClass own = some m.cls) (hts : ∀ w ∈ Ts, w.before args s = true) (hsize : ls.size = nL)
    (hP : va_P D vwCl W0 H) (hK : va_K D vwCl tys s) (hM : roM l y ws rm As D W0 tys H post) (hG : GoodIn Ts (va_wsS own index y ws)) (hw : ws = Cond.code y bytes maxL ret :: ws') (hrc : rm.cells = 0) (hrs : rm.slots = 0)
    (hd : y.cls ≠ "java/lang/invoke/MethodHandle" ∧ y.cls ≠ "java/lang/invoke/VarHandle" ∧ (parseMethodDescriptor y.desc).map (fun d => d.parameters.length) = some n) (hR : rm.frames + 1 ≤ R.frames ∧ 8 + (maxL + 11) + rm.locals ≤ R.locals) (hn : As.length = n) (hst : st0 = As.reverse ++ rest) (hW : (rest.map fun v => v.category).sum ≤ 8)
    (hdg : decode cc pc = .ok (.invokestatic index, 3)) (hf : cells ≤ R.cells ∧ slots ≤ R.slots) (kk : ∀ r : Int32, post r → W p l e R s m args below meth c H locs cells slots Q (F0 m (pc + 3) ls (.int r :: rest))) : W p l e R s m args below meth c H locs cells slots Q (F0 m pc ls st0) :=
  ro_go (va_runS ⟨hx, hb, hml, hown, hts⟩ hM (va_cwS n hts hG hw hrc hrs hd hR) ⟨roP_blind, fun U hU hWm => ⟨rfl, hU, hP, va_K.moved hWm.alike hK⟩⟩ rfl hn hsize hst (lv_room hW) hdg hf) kk
/-- a call of a method that writes, its cells A among the caller's A0 -/
theorem wr_callV {S : Type} {Wf : S → va_W} {post : Int32 → S → Prop} {A A0 : Nat → Prop} (n : Nat) (hx : p.tables.exec = Jvm.exec) (hb : c.code = cc) (hml : c.maxLocals = nL) (hown : s.vm.findClass own = some m.cls) (hts : ∀ w ∈ Ts, w.before args s = true) (hsize : ls.size = nL)
    (hP : va_P D vwCl W0 H) (hK : va_K D vwCl tys s) (hS : va_S A0 H0 H locs) (hAA : ∀ q, A q → A0 q) (q0 ci : Nat) {q : vw_C} {fs : List Value} (hc : vwCl[ci]? = some q) (he : W0[q0]? = some (b, .inr (ci, fs))) (hM : wrM l y ws rm (.ref b :: As) D W0 tys H Wf post A) (hG : GoodIn Ts (wsV own index q.1 y ws)) (hw : ws = Cond.code y bytes maxL ret :: ws') (hrc : rm.cells = 0) (hrs : rm.slots = 0)
    (hd : y.cls = q.1 ∧ y.cls ≠ "java/lang/invoke/MethodHandle" ∧ y.cls ≠ "java/lang/invoke/VarHandle" ∧ (parseMethodDescriptor y.desc).map (fun d => d.parameters.length) = some n) (hR : rm.frames + 1 ≤ R.frames ∧ 8 + (maxL + 11) + rm.locals ≤ R.locals) (hn : As.length = n) (hst : st0 = As.reverse ++ .ref b :: rest) (hW : (rest.map fun v => v.category).sum ≤ 8)
    (hdg : decode cc pc = .ok (.invokevirtual index, 3)) (hf : cells ≤ R.cells ∧ slots ≤ R.slots) (kk : ∀ (r : Int32) (u : S) (H1 : Heap) (locs1 : List Loc), post r u → va_P D vwCl (Wf u) H1 → va_S A0 H0 H1 locs1 → H.size ≤ H1.size → (∀ q : Nat, q < H.size → ¬ A q → H1[q]? = H[q]?) → W p l e R s m args below meth c H1 locs1 cells slots Q (F0 m (pc + 3) ls (.int r :: rest))) : W p l e R s m args below meth c H locs cells slots Q (F0 m pc ls st0) :=
  va_calli (va_runV ⟨hx, hb, hml, hown, hts⟩ hM (cwV n hts hG hw hrc hrs hd hR) ⟨roP_blind, va_recv hK hP hc he, fun U hU hWm => ⟨rfl, hU, hP, va_K.moved hWm.alike hK⟩⟩ rfl hn hsize hst (lv_room hW) hdg hf) hS (fun q _ h => hAA q h) hAA (fun r u t H1 locs1 ht _ hp hB hz hk hS1 => kk r u H1 locs1 hp (by rw [← ht]; exact hB) hS1 hz hk)
/-- what a check's call leaves: the heap as it was, or thrown on to the caller's caller -/
theorem ck_go {S : Type} {Wf : S → va_W} {post : Int32 → S → Prop} {XP : String → Prop} {A : Nat → Prop} {cond : Prop} {E : String} {a : Array Value} (hlocks : meth.locks = false) (hout : ∀ x ∈ c.exceptionTable.toList, False)
    (hr : vx_Run p l e R s m args below meth c H [] 0 0 1 6 (F0 m pc ls st0) rest (va_Qv (fun (_ : Unit) => cond) (fun _ t => t.heap = H) (fun _ => False) a) (ckX H (fun E' => E' = E ∧ ¬ cond)) (fun _ => False))
    (hfail : ¬ cond → XP E) (kk : cond → W p l e R s m args below meth c H [] 0 0 (thQ below D H A Wf post XP args s) (F0 m (pc + 3) ls rest)) : W p l e R s m args below meth c H [] 0 0 (thQ below D H A Wf post XP args s) (F0 m pc ls st0) := by
  intro T hT X
  rcases hr T hT X with ⟨v, st₀, t, T', L, h0, X', hL, e1, e2, ⟨⟨u, hv, hp, hb⟩, hF⟩, st⟩ | ⟨q, st₀, t, T', L, E', ce, h0, X', hL, e1, e2, ⟨⟨hE, hnc⟩, hg⟩, hce, hcv, hcl, st⟩
  · cases hv
    have hL0 : L = [] := by
      cases L with
      | nil => rfl
      | cons q r => exact (hL q List.mem_cons_self).elim
    subst hL0
    have hh : T'.heap = T.heap := (e1.trans hb).trans hT.symm
    have hsame : s.sameButNew (T'.setVm s.vm) [] 0 0 := by
      have h1 : (T'.setVm s.vm).heap = (T.setVm s.vm).heap := hh
      obtain ⟨a1, a2, a3, a4, a5, a6⟩ := X'.same
      obtain ⟨b1, b2, b3, b4, b5, b6⟩ := X.same
      exact ⟨a1, a2, by rw [h1]; exact b3, a4, by rw [h1]; exact b5, a6⟩
    have X2 : Stand p l e R s m args below meth c T' [] 0 0 := { X' with same := hsame }
    obtain ⟨t2, a1, b1⟩ := kk hp T' (hh.trans hT) X2
    exact ⟨t2, st t2 a1, b1⟩
  · have hL0 : L = [] := by
      cases L with
      | nil => rfl
      | cons q r => exact (hL q List.mem_cons_self).elim
    subst hL0
    subst hE
    have hg2 : grew H T'.heap := by rw [e1]; exact hg
    obtain ⟨t2, a1, b1⟩ := vx_out (rest := rest) (ls := ls) (pc := pc) (E := E') (Qc := va_Qi post (fun u t => va_P D vwCl (Wf u) t.heap) A) (XC := ckX H XP) (mc := 1) (ms := 6) (free := A) (fun x hx => (hout x hx).elim) hlocks (by rw [e1]; exact hce) hcv hcl (fun t9 ht9 _ => ⟨hfail hnc, by rw [ht9]; exact hg2⟩) (fun z h => by simp at h) (Nat.le_refl _) (Nat.le_refl _) T' rfl X'
    exact ⟨t2, st.trans a1, b1⟩
end
end
section
/-! Numbers and what the berth answers, as functions of its state (no machine here). -/
def zI (z : Int) : Int32 := Int32.ofInt z
theorem zI_ti {z : Int} (h1 : -2147483648 ≤ z) (h2 : z < 2147483648) : (zI z).toInt = z := Int32.toInt_ofInt_of_le (by omega) (by omega)
theorem zI_of {x : Int32} {z : Int} (h : x.toInt = z) : x = zI z := by
  have h1 := Int32.toInt_lt x
  have h2 := Int32.le_toInt x
  apply Int32.toInt_inj.mp
  rw [zI_ti (by omega) (by omega)]
  exact h
theorem nI_zI (n : Nat) : nI n = zI (n : Int) := (Int32.ofInt_eq_ofNat).symm
theorem nI_ti {n : Nat} (h : n < 2147483648) : (nI n).toInt = (n : Int) := nI_toInt (by omega)
theorem ti_nI {x : Int32} {n : Nat} (h : x.toInt = (n : Int)) : x = nI n := by
  rw [nI_zI]; exact zI_of h
theorem i_lt {x y : Int32} : x < y ↔ x.toInt < y.toInt := Int32.lt_iff_toInt_lt
theorem i_le {x y : Int32} : x ≤ y ↔ x.toInt ≤ y.toInt := Int32.le_iff_toInt_le
theorem i_eq {x y : Int32} : x = y ↔ x.toInt = y.toInt := Int32.toInt_inj.symm
theorem zI_add (a b : Int) : zI a + zI b = zI (a + b) := by
  apply Int32.toInt_inj.mp
  simp [zI]
theorem zI_sub (a b : Int) : zI a - zI b = zI (a - b) := by
  apply Int32.toInt_inj.mp
  simp [zI]
theorem zI_lt {a b : Int} (h1 : -2147483648 ≤ a) (h2 : a < 2147483648) (h3 : -2147483648 ≤ b) (h4 : b < 2147483648) : zI a < zI b ↔ a < b := by
  rw [i_lt, zI_ti h1 h2, zI_ti h3 h4]
theorem zI_le {a b : Int} (h1 : -2147483648 ≤ a) (h2 : a < 2147483648) (h3 : -2147483648 ≤ b) (h4 : b < 2147483648) : zI a ≤ zI b ↔ a ≤ b := by
  rw [i_le, zI_ti h1 h2, zI_ti h3 h4]
/-- the greatest whole number whose square is at most N -/
def isq : Nat → Nat
  | 0 => 0
  | n + 1 => if (isq n + 1) * (isq n + 1) ≤ n + 1 then isq n + 1 else isq n
theorem isq_spec : ∀ n : Nat, isq n * isq n ≤ n ∧ n < (isq n + 1) * (isq n + 1) := by
  intro n
  induction n with
  | zero => exact ⟨Nat.le_refl 0, Nat.zero_lt_one⟩
  | succ n ih =>
    obtain ⟨h1, h2⟩ := ih
    unfold isq
    by_cases h : (isq n + 1) * (isq n + 1) ≤ n + 1
    · rw [if_pos h]
      refine ⟨h, ?_⟩
      have e : (isq n + 1 + 1) * (isq n + 1 + 1) = (isq n + 1) * (isq n + 1) + 2 * (isq n + 1) + 1 := by
        rw [Nat.add_mul, Nat.mul_add]; omega
      omega
    · rw [if_neg h]
      exact ⟨by omega, by omega⟩
theorem isq_uniq {n r : Nat} (h1 : r * r ≤ n) (h2 : n < (r + 1) * (r + 1)) : isq n = r := by
  obtain ⟨a1, a2⟩ := isq_spec n
  rcases Nat.lt_trichotomy (isq n) r with h | h | h
  · have := Nat.mul_le_mul (show isq n + 1 ≤ r from h) (show isq n + 1 ≤ r from h)
    omega
  · exact h
  · have := Nat.mul_le_mul (show r + 1 ≤ isq n from h) (show r + 1 ≤ isq n from h)
    omega
theorem isq_le {n k : Nat} (h : n < (k + 1) * (k + 1)) : isq n ≤ k := by
  obtain ⟨a1, a2⟩ := isq_spec n
  rcases Nat.lt_or_ge k (isq n) with q | q
  · have := Nat.mul_le_mul (show k + 1 ≤ isq n from q) (show k + 1 ≤ isq n from q)
    omega
  · exact q
def sq2 (x y : Int32) : Nat := (x.toInt * x.toInt + y.toInt * y.toInt).toNat
def LENs (x y : Int32) : Int32 := nI (isq (sq2 x y))
theorem sq_le {a b : Int} (h1 : -b ≤ a) (h2 : a ≤ b) : 0 ≤ a * a ∧ a * a ≤ b * b := by
  have h3 := Int.mul_nonneg (show 0 ≤ b - a by omega) (show 0 ≤ b + a by omega)
  have e : (b - a) * (b + a) = b * b - a * a := by
    rw [Int.sub_mul, Int.mul_add, Int.mul_add, Int.mul_comm a b]; omega
  have h4 : 0 ≤ a * a := by
    rcases Int.le_total 0 a with q | q
    · exact Int.mul_nonneg q q
    · have := Int.mul_nonneg (show 0 ≤ -a by omega) (show 0 ≤ -a by omega)
      rwa [Int.neg_mul_neg] at this
  omega
/-- along and height as far as they can be -/
def inA (x : Int32) : Prop := -10200 ≤ x.toInt ∧ x.toInt ≤ 10200
def inH (y : Int32) : Prop := -700 ≤ y.toInt ∧ y.toInt ≤ 700
theorem sq2_le {x y : Int32} (hx : inA x) (hy : inH y) : sq2 x y ≤ 104530000 ∧ (sq2 x y : Int) = x.toInt * x.toInt + y.toInt * y.toInt := by
  obtain ⟨a1, a2⟩ := sq_le hx.1 hx.2
  obtain ⟨b1, b2⟩ := sq_le hy.1 hy.2
  unfold sq2
  omega
theorem sq2_eq {x y : Int32} (hx : inA x) (hy : inH y) : x * x + y * y = nI (sq2 x y) := by
  obtain ⟨a1, a2⟩ := sq_le hx.1 hx.2
  obtain ⟨b1, b2⟩ := sq_le hy.1 hy.2
  obtain ⟨c1, c2⟩ := sq2_le hx hy
  apply ti_nI
  have e1 : (x * x).toInt = x.toInt * x.toInt := Jvm.Kit.i32_mul (by omega) (by omega)
  have e2 : (y * y).toInt = y.toInt * y.toInt := Jvm.Kit.i32_mul (by omega) (by omega)
  rw [Jvm.Kit.i32_add (by omega) (by omega), e1, e2, c2]
theorem LENs_le {x y : Int32} (hx : inA x) (hy : inH y) : ∃ n : Nat, LENs x y = nI n ∧ n ≤ 10224 := by
  obtain ⟨c1, c2⟩ := sq2_le hx hy
  exact ⟨_, rfl, isq_le (by omega)⟩
/-- sums from left to right -/
def acc (f : Nat → Int32) (b : Int32) : Nat → Int32
  | 0 => b
  | n + 1 => acc f b n + f n
theorem acc_congr {f g : Nat → Int32} {b : Int32} : ∀ n : Nat, (∀ j, j < n → f j = g j) → acc f b n = acc g b n := by
  intro n
  induction n with
  | zero => intro _; rfl
  | succ n ih =>
    intro h
    show acc f b n + f n = acc g b n + g n
    rw [ih (fun j hj => h j (by omega)), h n (by omega)]
def allB (f : Nat → Bool) : Nat → Bool
  | 0 => true
  | n + 1 => allB f n && f n
theorem allB_congr {f g : Nat → Bool} : ∀ n : Nat, (∀ j, j < n → f j = g j) → allB f n = allB g n := by
  intro n
  induction n with
  | zero => intro _; rfl
  | succ n ih =>
    intro h
    show (allB f n && f n) = (allB g n && g n)
    rw [ih (fun j hj => h j (by omega)), h n (by omega)]
theorem allB_false {f : Nat → Bool} {j : Nat} (hj : f j = false) : ∀ n : Nat, j < n → allB f n = false := by
  intro n
  induction n with
  | zero => intro h; exact absurd h (Nat.not_lt_zero j)
  | succ n ih =>
    intro h
    show (allB f n && f n) = false
    rcases Nat.lt_or_ge j n with q | q
    · rw [ih q]; rfl
    · have e : j = n := by omega
      rw [← e, hj, Bool.and_false]
/-- halving -/
def bis (F : Int → Bool) : Nat → Int → Int → Int
  | 0, lo, _ => lo
  | n + 1, lo, hi => if lo < hi then (if F ((lo + hi) / 2) then bis F n ((lo + hi) / 2 + 1) hi else bis F n lo ((lo + hi) / 2)) else lo
theorem bis_in {F : Int → Bool} : ∀ (n : Nat) (lo hi : Int), lo ≤ hi → lo ≤ bis F n lo hi ∧ bis F n lo hi ≤ hi := by
  intro n
  induction n with
  | zero => intro lo hi h; exact ⟨Int.le_refl _, h⟩
  | succ n ih =>
    intro lo hi h
    unfold bis
    by_cases q : lo < hi
    · rw [if_pos q]
      by_cases w : F ((lo + hi) / 2) = true
      · rw [if_pos w]
        have := ih ((lo + hi) / 2 + 1) hi (by omega)
        omega
      · rw [if_neg w]
        have := ih lo ((lo + hi) / 2) (by omega)
        omega
    · rw [if_neg q]
      omega
theorem bis_end {F : Int → Bool} {n : Nat} {lo hi : Int} (h : ¬ lo < hi) : bis F n lo hi = lo := by
  cases n with
  | zero => rfl
  | succ n => unfold bis; rw [if_neg h]
theorem bis_up {F : Int → Bool} {n : Nat} {lo hi : Int} (h : lo < hi) (w : F ((lo + hi) / 2) = true) : bis F (n + 1) lo hi = bis F n ((lo + hi) / 2 + 1) hi := by
  show (if lo < hi then (if F ((lo + hi) / 2) then bis F n ((lo + hi) / 2 + 1) hi else bis F n lo ((lo + hi) / 2)) else lo) = _
  rw [if_pos h, if_pos w]
theorem bis_dn {F : Int → Bool} {n : Nat} {lo hi : Int} (h : lo < hi) (w : ¬ F ((lo + hi) / 2) = true) : bis F (n + 1) lo hi = bis F n lo ((lo + hi) / 2) := by
  show (if lo < hi then (if F ((lo + hi) / 2) then bis F n ((lo + hi) / 2 + 1) hi else bis F n lo ((lo + hi) / 2)) else lo) = _
  rw [if_pos h, if_neg w]
/-- a state: each field of MoorWatch by its number; a number stands at place 0 -/
abbrev St : Type := Nat → Nat → Int32
def st (σ : St) (k : Nat) (f : Nat → Int32) : St := fun j => cond (Nat.beq j k) f (σ j)
def ht (σ : St) (t : Nat) : Int32 := 300 + σ 0 t + σ 1 t
def len_ (σ : St) (j t : Nat) (s : Int32) : Int32 := LENs (σ 9 j - s) (ht σ t)
def tens_ (σ : St) (j : Nat) (L : Int32) : Int32 := if σ 13 j = 0 then 0 else σ 10 j * (if 0 < L - σ 12 j then L - σ 12 j else 0)
def tn_ (σ : St) (j t : Nat) (s : Int32) : Int32 := tens_ σ j (len_ σ j t s)
def pull_ (σ : St) (j t : Nat) (s : Int32) : Int32 := if len_ σ j t s ≤ 0 then 0 else ((tn_ σ j t s).toInt64 * (σ 9 j - s).toInt64 / (len_ σ j t s).toInt64).toInt32
def nL_ (σ : St) : Nat := (σ 7 0).toNatClampNeg
def nB_ (σ : St) : Nat := (σ 4 0).toNatClampNeg
def frc (σ : St) (t : Nat) (s : Int32) : Int32 := acc (fun j => pull_ σ j t s) (σ 3 0 + σ 2 t) (nL_ σ)
def balZ (σ : St) (t : Nat) : Int := bis (fun z => decide (0 < frc σ t (zI z))) 401 (-200) 200
def bal (σ : St) (t : Nat) : Int32 := zI (balZ σ t)
def drfW (σ : St) (t : Nat) (s : Int32) : Bool := (decide (s = 200) && decide (0 < frc σ t s)) || (decide (s = -200) && decide (frc σ t s < 0))
def lnH (σ : St) (t : Nat) (s : Int32) : Bool := allB (fun j => decide (tn_ σ j t s * 100 ≤ σ 11 j * 55)) (nL_ σ)
def sumOn_ (σ : St) (b : Int32) (t : Nat) (s : Int32) : Int32 := acc (fun j => if σ 8 j = b then tn_ σ j t s else 0) 0 (nL_ σ)
def blH (σ : St) (t : Nat) (s : Int32) : Bool := allB (fun k => decide (sumOn_ σ (nI k) t s ≤ σ 6 k)) (nB_ σ)
def safeW (σ : St) (t : Nat) (s : Int32) : Bool := !drfW σ t s && (lnH σ t s && blH σ t s)
def safe_ (σ : St) (t : Nat) : Bool := safeW σ t (bal σ t)
/-- the set lengths when n lines have been tended -/
def tdS (σ : St) (t : Nat) (s : Int32) : Nat → Nat → Int32
  | 0 => σ 12
  | n + 1 => if σ 13 n = 0 then tdS σ t s n else upd (tdS σ t s n) n (len_ σ n t s)
def tdC (σ : St) (t : Nat) (s : Int32) : Nat → Int32 := acc (fun j => if σ 13 j = 0 then 0 else if len_ σ j t s = σ 12 j then 0 else 1) 0
def tnd (σ : St) (t : Nat) : St := st σ 12 (tdS σ t (bal σ t) (nL_ σ))
def plR : Nat → St → Nat → Nat → Int32
  | 0, _, _, c => nI c
  | n + 1, σ, t, c => if safe_ σ t then plR n σ (t + 1) c else if safe_ (tnd σ t) t then plR n (tnd σ t) (t + 1) (c + 1) else -1
theorem bal_in (σ : St) (t : Nat) : -200 ≤ balZ σ t ∧ balZ σ t ≤ 200 := bis_in 401 (-200) 200 (by omega)
theorem bal_ti (σ : St) (t : Nat) : (bal σ t).toInt = balZ σ t := zI_ti (by have := bal_in σ t; omega) (by have := bal_in σ t; omega)
theorem tdS_hi {σ : St} {t : Nat} {s : Int32} : ∀ (n j : Nat), n ≤ j → tdS σ t s n j = σ 12 j := by
  intro n
  induction n with
  | zero => intro j _; rfl
  | succ n ih =>
    intro j hj
    unfold tdS
    by_cases q : σ 13 n = 0
    · rw [if_pos q]; exact ih j (by omega)
    · rw [if_neg q]
      show upd (tdS σ t s n) n (len_ σ n t s) j = σ 12 j
      unfold upd
      rw [if_neg (by omega)]
      exact ih j (by omega)
theorem tdS_lo {σ : St} {t : Nat} {s : Int32} : ∀ (n j : Nat), j < n → tdS σ t s n j = if σ 13 j = 0 then σ 12 j else len_ σ j t s := by
  intro n
  induction n with
  | zero => intro j h; exact absurd h (Nat.not_lt_zero j)
  | succ n ih =>
    intro j hj
    unfold tdS
    rcases Nat.lt_or_ge j n with q | q
    · by_cases w : σ 13 n = 0
      · rw [if_pos w]; exact ih j q
      · rw [if_neg w]
        show upd (tdS σ t s n) n (len_ σ n t s) j = _
        unfold upd
        rw [if_neg (by omega)]
        exact ih j q
    · have e : j = n := by omega
      subst e
      by_cases w : σ 13 j = 0
      · rw [if_pos w, if_pos w]; exact tdS_hi j j (Nat.le_refl j)
      · rw [if_neg w, if_neg w]
        show upd (tdS σ t s j) j (len_ σ j t s) j = _
        unfold upd
        rw [if_pos rfl]
/-- what holds of every state that calls can make; nL lines, nB bollards -/
def inv (σ : St) (nL nB : Nat) : Prop := σ 7 0 = nI nL ∧ nL ≤ 10 ∧ σ 4 0 = nI nB ∧ nB ≤ 6 ∧ (∀ t, t < 48 → -200 ≤ (σ 0 t).toInt ∧ (σ 0 t).toInt ≤ 200 ∧ -200 ≤ (σ 1 t).toInt ∧ (σ 1 t).toInt ≤ 200) ∧ (∀ b, b < nB → -5000 ≤ (σ 5 b).toInt ∧ (σ 5 b).toInt ≤ 5000) ∧ (∀ j, j < nL → (∃ b, b < nB ∧ σ 8 j = nI b) ∧ (-10000 ≤ (σ 9 j).toInt ∧ (σ 9 j).toInt ≤ 10000) ∧ (1 ≤ (σ 10 j).toInt ∧ (σ 10 j).toInt ≤ 100) ∧ (1 ≤ (σ 11 j).toInt ∧ (σ 11 j).toInt ≤ 1000000) ∧ (0 ≤ (σ 12 j).toInt ∧ (σ 12 j).toInt ≤ 20000) ∧ (σ 13 j = 0 ∨ σ 13 j = 1))
def inS (s : Int32) : Prop := -200 ≤ s.toInt ∧ s.toInt ≤ 200
theorem inv_nL {σ : St} {nL nB : Nat} (h : inv σ nL nB) : nL_ σ = nL := by unfold nL_; rw [h.1]; exact nI_clamp (by have := h.2.1; omega)
theorem inv_nB {σ : St} {nL nB : Nat} (h : inv σ nL nB) : nB_ σ = nB := by unfold nB_; rw [h.2.2.1]; exact nI_clamp (by have := h.2.2.2.1; omega)
theorem inv_ht {σ : St} {nL nB : Nat} (h : inv σ nL nB) {t : Nat} (ht48 : t < 48) : inH (ht σ t) := by
  obtain ⟨a1, a2, a3, a4⟩ := h.2.2.2.2.1 t ht48
  have e0 : (300 : Int32).toInt = 300 := rfl
  have e1 : ((300 : Int32) + σ 0 t).toInt = 300 + (σ 0 t).toInt := by rw [Jvm.Kit.i32_add (by omega) (by omega), e0]
  have e2 : (ht σ t).toInt = 300 + (σ 0 t).toInt + (σ 1 t).toInt := by unfold ht; rw [Jvm.Kit.i32_add (by omega) (by omega), e1]
  exact ⟨by omega, by omega⟩
theorem inv_al {σ : St} {nL nB : Nat} (h : inv σ nL nB) {j : Nat} (hj : j < nL) {s : Int32} (hs : inS s) : inA (σ 9 j - s) := by
  obtain ⟨-, ⟨a1, a2⟩, -⟩ := h.2.2.2.2.2.2 j hj
  obtain ⟨b1, b2⟩ := hs
  have e : (σ 9 j - s).toInt = (σ 9 j).toInt - s.toInt := Jvm.Kit.i32_sub (by omega) (by omega)
  exact ⟨by omega, by omega⟩
theorem inv_len {σ : St} {nL nB : Nat} (h : inv σ nL nB) {j : Nat} (hj : j < nL) {t : Nat} (ht48 : t < 48) {s : Int32} (hs : inS s) : ∃ n : Nat, len_ σ j t s = nI n ∧ n ≤ 10224 := LENs_le (inv_al h hj hs) (inv_ht h ht48)
theorem bal_inS (σ : St) (t : Nat) : inS (bal σ t) := by
  have := bal_in σ t
  have e := bal_ti σ t
  exact ⟨by omega, by omega⟩
/-- a tension is from 0 to 1022400 -/
theorem inv_tn {σ : St} {nL nB : Nat} (h : inv σ nL nB) {j : Nat} (hj : j < nL) {t : Nat} (ht48 : t < 48) {s : Int32} (hs : inS s) : 0 ≤ (tn_ σ j t s).toInt ∧ (tn_ σ j t s).toInt ≤ 1022400 := by
  obtain ⟨n, e, hn⟩ := inv_len h hj ht48 hs
  obtain ⟨-, -, ⟨k1, k2⟩, -, ⟨z1, z2⟩, -⟩ := h.2.2.2.2.2.2 j hj
  have en : (nI n).toInt = (n : Int) := nI_ti (by omega)
  unfold tn_ tens_
  rw [e]
  have e0 : (0 : Int32).toInt = 0 := rfl
  by_cases q : σ 13 j = 0
  · rw [if_pos q, e0]; omega
  · rw [if_neg q]
    have ed : (nI n - σ 12 j).toInt = (n : Int) - (σ 12 j).toInt := by rw [Jvm.Kit.i32_sub (by omega) (by omega), en]
    by_cases w : 0 < nI n - σ 12 j
    · rw [if_pos w]
      have w1 : 0 < (nI n - σ 12 j).toInt := by have := i_lt.mp w; rwa [e0] at this
      have m1 : 0 ≤ (σ 10 j).toInt * (nI n - σ 12 j).toInt := Int.mul_nonneg (by omega) (by omega)
      have m2 : (σ 10 j).toInt * (nI n - σ 12 j).toInt ≤ 100 * 10224 := Int.mul_le_mul k2 (by omega) (by omega) (by omega)
      rw [Jvm.Kit.i32_mul (by omega) (by omega)]
      omega
    · rw [if_neg w]
      have em : (σ 10 j * 0).toInt = (σ 10 j).toInt * (0 : Int32).toInt := Jvm.Kit.i32_mul (by rw [e0]; omega) (by rw [e0]; omega)
      rw [em, e0]
      omega
end
section
/-! The cells of a MoorWatch (xw) and of the reference (mw), read off a state by field number; rows over them. -/
abbrev tyX (cI cZ : ClassId) : List (ClassId × FieldType) := [(cI, .int), (cZ, .boolean)]
abbrev xfs (a : Nat → Nat) (σ : St) : List Value := [.ref (a 0), .ref (a 1), .ref (a 2), .int (σ 3 0), .int (σ 4 0), .ref (a 5), .ref (a 6), .int (σ 7 0), .ref (a 8), .ref (a 9), .ref (a 10), .ref (a 11), .ref (a 12), .ref (a 13), .ref (a 14)]
abbrev xw (cI cZ : ClassId) (h : Nat) (a : Nat → Nat) (σ : St) : va_W := [(h, .inr (0, xfs a σ)), (a 0, .inl (cI, 48, .inl (σ 0))), (a 1, .inl (cI, 48, .inl (σ 1))), (a 2, .inl (cI, 48, .inl (σ 2))), (a 5, .inl (cI, 6, .inl (σ 5))), (a 6, .inl (cI, 6, .inl (σ 6))), (a 8, .inl (cI, 10, .inl (σ 8))), (a 9, .inl (cI, 10, .inl (σ 9))), (a 10, .inl (cI, 10, .inl (σ 10))), (a 11, .inl (cI, 10, .inl (σ 11))), (a 12, .inl (cI, 10, .inl (σ 12))), (a 13, .inl (cZ, 10, .inl (σ 13))), (a 14, .inl (cI, 10, .inl (σ 14)))]
abbrev mfs (a : Nat → Nat) (σ : St) : List Value := [.ref (a 0), .ref (a 1), .int (σ 2 0), .ref (a 3), .ref (a 4), .ref (a 5), .ref (a 6), .ref (a 7), .ref (a 8), .int (σ 9 0), .ref (a 10), .ref (a 11), .ref (a 12), .int (σ 13 0), .ref (a 14), .int (σ 15 0)]
abbrev mw (cI cZ : ClassId) (h : Nat) (a : Nat → Nat) (σ : St) : va_W := [(h, .inr (1, mfs a σ)), (a 0, .inl (cI, 6, .inl (σ 0))), (a 1, .inl (cI, 6, .inl (σ 1))), (a 3, .inl (cI, 10, .inl (σ 3))), (a 4, .inl (cI, 10, .inl (σ 4))), (a 5, .inl (cI, 10, .inl (σ 5))), (a 6, .inl (cI, 10, .inl (σ 6))), (a 7, .inl (cI, 10, .inl (σ 7))), (a 8, .inl (cZ, 10, .inl (σ 8))), (a 10, .inl (cI, 48, .inl (σ 10))), (a 11, .inl (cI, 48, .inl (σ 11))), (a 12, .inl (cI, 48, .inl (σ 12))), (a 14, .inl (cI, 10, .inl (σ 14)))]
section
variable {p : Program} {l : Launch} {e : Env} {R : Room} {s : State} {m : MethodId} {args : Array Value} {below : List Frame} {meth : Method} {c : Code} {H : Heap} {locs : List Loc} {cells slots : Nat} {Q : State → Prop}
variable {cc : ByteArray} {index : Nat} {Ts : List Cond} {b : Addr} {rest : List Value} {pc : Nat} {ls : Array Slot} {D : va_G} {W0 : va_W} {tys : List (ClassId × FieldType)} {H0 : Heap} {A : Nat → Prop} {cI cZ : ClassId} {h : Nat} {a : Nat → Nat} {σ : St}
theorem xa_ld (hx : p.tables.exec = Jvm.exec) (hb : c.code = cc) (hK : va_K D vwCl tys s) (hP : va_P D vwCl W0 H) (q0 t0 : Nat) {cA : ClassId} {n : Nat} {f : Nat → Int32} (ha : W0[q0]? = some (b, .inl (cA, n, .inl f))) (ht : tys[t0]? = some (cA, .int)) {j : Nat} (hj : j < n) (hn : n < 2147483648) (hdg : decode cc pc = .ok (.iaload, 1))
    (kk : W p l e R s m args below meth c H locs cells slots Q (F0 m (pc + 1) ls (.int (f j) :: rest))) : W p l e R s m args below meth c H locs cells slots Q (F0 m pc ls (.int (nI j) :: .ref b :: rest)) :=
  va_iald hx hb hK hP q0 t0 ha ht (vp_in_nI hj (by omega)) hdg (by rw [nI_clamp (by omega)]; exact kk)
theorem xa_zld (hx : p.tables.exec = Jvm.exec) (hb : c.code = cc) (hK : va_K D vwCl tys s) (hP : va_P D vwCl W0 H) (q0 t0 : Nat) {cA : ClassId} {n : Nat} {f : Nat → Int32} (ha : W0[q0]? = some (b, .inl (cA, n, .inl f))) (ht : tys[t0]? = some (cA, .boolean)) {j : Nat} (hj : j < n) (hn : n < 2147483648) (hdg : decode cc pc = .ok (.baload, 1))
    (kk : W p l e R s m args below meth c H locs cells slots Q (F0 m (pc + 1) ls (.int (f j) :: rest))) : W p l e R s m args below meth c H locs cells slots Q (F0 m pc ls (.int (nI j) :: .ref b :: rest)) :=
  va_zald hx hb hK hP q0 t0 ha ht (vp_in_nI hj (by omega)) hdg (by rw [nI_clamp (by omega)]; exact kk)
theorem xa_st (hx : p.tables.exec = Jvm.exec) (hb : c.code = cc) (hK : va_K D vwCl tys s) (hP : va_P D vwCl W0 H) (hD : va_D A W0) (hS : va_S A H0 H locs) (q0 t0 : Nat) {cA : ClassId} {n : Nat} {f : Nat → Int32} (ha : W0[q0]? = some (b, .inl (cA, n, .inl f))) (ht : tys[t0]? = some (cA, .int)) {j : Nat} {x : Int32} (hj : j < n) (hn : n < 2147483648) (hdg : decode cc pc = .ok (.iastore, 1))
    (kk : ∀ (H1 : Heap) (locs1 : List Loc), va_P D vwCl (W0.set q0 (b, .inl (cA, n, .inl (upd f j x)))) H1 → va_D A (W0.set q0 (b, .inl (cA, n, .inl (upd f j x)))) → va_S A H0 H1 locs1 → W p l e R s m args below meth c H1 locs1 cells slots Q (F0 m (pc + 1) ls rest)) : W p l e R s m args below meth c H locs cells slots Q (F0 m pc ls (.int x :: .int (nI j) :: .ref b :: rest)) :=
  va_iast hx hb hK hP hD hS q0 t0 ha ht (vp_in_nI hj (by omega)) hdg (by rw [nI_clamp (by omega)]; exact kk)
theorem xa_zst (hx : p.tables.exec = Jvm.exec) (hb : c.code = cc) (hK : va_K D vwCl tys s) (hP : va_P D vwCl W0 H) (hD : va_D A W0) (hS : va_S A H0 H locs) (q0 t0 : Nat) {cA : ClassId} {n : Nat} {f : Nat → Int32} (ha : W0[q0]? = some (b, .inl (cA, n, .inl f))) (ht : tys[t0]? = some (cA, .boolean)) {j : Nat} {x : Int32} (hx0 : vp_nar .boolean x = x) (hj : j < n) (hn : n < 2147483648) (hdg : decode cc pc = .ok (.bastore, 1))
    (kk : ∀ (H1 : Heap) (locs1 : List Loc), va_P D vwCl (W0.set q0 (b, .inl (cA, n, .inl (upd f j x)))) H1 → va_D A (W0.set q0 (b, .inl (cA, n, .inl (upd f j x)))) → va_S A H0 H1 locs1 → W p l e R s m args below meth c H1 locs1 cells slots Q (F0 m (pc + 1) ls rest)) : W p l e R s m args below meth c H locs cells slots Q (F0 m pc ls (.int x :: .int (nI j) :: .ref b :: rest)) :=
  va_zast hx hb hK hP hD hS q0 t0 ha ht (vp_in_nI hj (by omega)) hdg (by rw [nI_clamp (by omega), hx0]; exact kk)
theorem x_own : ∀ k : Nat, (TX0 k).1 = "MoorWatch" := by
  intro k
  unfold TX0
  split <;> rfl
theorem x_get (hin : ∀ w ∈ u_ws RX0 TX0 15, w ∈ Ts) (hx : p.tables.exec = Jvm.exec) (hb : c.code = cc) (hts : ∀ w ∈ Ts, w.before args s = true) (hown : s.vm.findClass RX0 = some m.cls) (hK : va_K D vwCl tys s) (hP : va_P D vwCl W0 H) {fs : List Value} (he : W0[0]? = some (b, .inr (0, fs))) (k : Nat) (hk : k < 15) {v : Value} (hv : fs[k]? = some v) (hlink : (Cond.fieldLink RX0 index "MoorWatch" (TX0 k).2.1 (TX0 k).2.2.1) ∈ Ts) (hdg : decode cc pc = .ok (.getfield index, 3))
    (kk : W p l e R s m args below meth c H locs cells slots Q (F0 m (pc + 3) ls (v :: rest))) : W p l e R s m args below meth c H locs cells slots Q (F0 m pc ls (.ref b :: rest)) :=
  va_get (D := D) (ci := 0) (C := RX0) (T := TX0) (N := 15) hx hb hts hin hown hK hP 0 he rfl k hk (hts _ hlink) (by rw [x_own k]; exact fun _ h9 => h9) hv hdg kk
theorem x_put (hin : ∀ w ∈ u_ws RX0 TX0 15, w ∈ Ts) (hx : p.tables.exec = Jvm.exec) (hb : c.code = cc) (hts : ∀ w ∈ Ts, w.before args s = true) (hown : s.vm.findClass RX0 = some m.cls) (hK : va_K D vwCl tys s) (hP : va_P D vwCl W0 H) (hD : va_D A W0) (hS : va_S A H0 H locs) {fs : List Value} (he : W0[0]? = some (b, .inr (0, fs))) (k : Nat) (hk : k < 15) {v : Int32} (hlink : (Cond.fieldLink RX0 index "MoorWatch" (TX0 k).2.1 (TX0 k).2.2.1) ∈ Ts) (hfin : (TX0 k).2.2.2 = false) (hd : parseFieldDescriptor (TX0 k).2.2.1 = some .int) (hl : k < fs.length) (hdg : decode cc pc = .ok (.putfield index, 3))
    (kk : ∀ (H1 : Heap) (locs1 : List Loc), va_P D vwCl (W0.set 0 (b, .inr (0, fs.set k (.int v)))) H1 → va_D A (W0.set 0 (b, .inr (0, fs.set k (.int v)))) → va_S A H0 H1 locs1 → W p l e R s m args below meth c H1 locs1 cells slots Q (F0 m (pc + 3) ls rest)) : W p l e R s m args below meth c H locs cells slots Q (F0 m pc ls (.int v :: .ref b :: rest)) :=
  va_put (D := D) (ci := 0) (v := .int v) (ty := .int) (C := RX0) (T := TX0) (N := 15) hx hb hts hin tyX0 tyX0_ok nmX0 hown hK hP hD hS 0 he rfl k hk (hts _ hlink) (by rw [x_own k]; exact fun _ h9 => h9) hfin hd rfl rfl hl hdg kk
theorem m_own : ∀ k : Nat, (TX1 k).1 = "MoorWatchModel" := by
  intro k
  unfold TX1
  split <;> rfl
theorem m_get (hin : ∀ w ∈ u_ws RX1 TX1 16, w ∈ Ts) (hx : p.tables.exec = Jvm.exec) (hb : c.code = cc) (hts : ∀ w ∈ Ts, w.before args s = true) (hown : s.vm.findClass RX1 = some m.cls) (hK : va_K D vwCl tys s) (hP : va_P D vwCl W0 H) {fs : List Value} (he : W0[0]? = some (b, .inr (1, fs))) (k : Nat) (hk : k < 16) {v : Value} (hv : fs[k]? = some v) (hlink : (Cond.fieldLink RX1 index "MoorWatchModel" (TX1 k).2.1 (TX1 k).2.2.1) ∈ Ts) (hdg : decode cc pc = .ok (.getfield index, 3))
    (kk : W p l e R s m args below meth c H locs cells slots Q (F0 m (pc + 3) ls (v :: rest))) : W p l e R s m args below meth c H locs cells slots Q (F0 m pc ls (.ref b :: rest)) :=
  va_get (D := D) (ci := 1) (C := RX1) (T := TX1) (N := 16) hx hb hts hin hown hK hP 0 he rfl k hk (hts _ hlink) (by rw [m_own k]; exact fun _ h9 => h9) hv hdg kk
theorem m_put (hin : ∀ w ∈ u_ws RX1 TX1 16, w ∈ Ts) (hx : p.tables.exec = Jvm.exec) (hb : c.code = cc) (hts : ∀ w ∈ Ts, w.before args s = true) (hown : s.vm.findClass RX1 = some m.cls) (hK : va_K D vwCl tys s) (hP : va_P D vwCl W0 H) (hD : va_D A W0) (hS : va_S A H0 H locs) {fs : List Value} (he : W0[0]? = some (b, .inr (1, fs))) (k : Nat) (hk : k < 16) {v : Int32} (hlink : (Cond.fieldLink RX1 index "MoorWatchModel" (TX1 k).2.1 (TX1 k).2.2.1) ∈ Ts) (hfin : (TX1 k).2.2.2 = false) (hd : parseFieldDescriptor (TX1 k).2.2.1 = some .int) (hl : k < fs.length) (hdg : decode cc pc = .ok (.putfield index, 3))
    (kk : ∀ (H1 : Heap) (locs1 : List Loc), va_P D vwCl (W0.set 0 (b, .inr (1, fs.set k (.int v)))) H1 → va_D A (W0.set 0 (b, .inr (1, fs.set k (.int v)))) → va_S A H0 H1 locs1 → W p l e R s m args below meth c H1 locs1 cells slots Q (F0 m (pc + 3) ls rest)) : W p l e R s m args below meth c H locs cells slots Q (F0 m pc ls (.int v :: .ref b :: rest)) :=
  va_put (D := D) (ci := 1) (v := .int v) (ty := .int) (C := RX1) (T := TX1) (N := 16) hx hb hts hin tyX1 tyX1_ok nmX1 hown hK hP hD hS 0 he rfl k hk (hts _ hlink) (by rw [m_own k]; exact fun _ h9 => h9) hfin hd rfl rfl hl hdg kk
end
end
section
/-! MoorWatch: lengths, tensions, pulls. -/
set_option maxHeartbeats 4000000 in
set_option maxRecDepth 100000 in
/-- heightIn: 300, tide and load -/
theorem c_X0_heightIn (l : Launch) (D : va_G) (cI cZ : ClassId) (h : Nat) (a : Nat → Nat) (σ : St) (H : Heap) (t : Nat) (ht48 : t < 48) : roM l yX0_heightIn wsX0_heightIn ({ frames := 0, cells := 0, slots := 0, locals := 0 }) [.ref h, .int (nI t)] D (xw cI cZ h a σ) (tyX cI cZ) H (fun r => r = ht σ t) := by
  refine ro_of (cc := cX0_heightIn) (maxL := 2) (ret := some .int) (by decide) rfl (Nat.le_of_ble_eq_true rfl) ?_
  intro p e s m args below meth c he hH hP hK ls hl
  obtain ⟨hx, hb, hr, hml, hown, hts, hlocks⟩ := he
  have hown : s.vm.findClass RX0 = some m.cls := hown
  have hl : lv_has ls 2 [(0, .ref h), (1, .int (nI t))] := hl
  have hin : ∀ w ∈ u_ws RX0 TX0 15, w ∈ wsX0_heightIn := by decide +kernel
  refine lv_sipush (v := 300) hx hb dX0_heightIn_0 (by decide) ?_
  refine lv_aload_n hx hb dX0_heightIn_3 rfl (lv_at hl 0 rfl) ?_
  refine x_get hin hx hb hts hown hK hP rfl 0 (by decide) (v := .ref (a 0)) rfl (by decide +kernel) dX0_heightIn_4 ?_
  refine lv_iload_n hx hb dX0_heightIn_7 rfl (lv_at hl 1 rfl) ?_
  refine xa_ld hx hb hK hP 1 0 rfl rfl (j := t) ht48 (by decide) dX0_heightIn_8 ?_
  refine lv_iadd hx hb dX0_heightIn_9 ?_
  refine lv_aload_n hx hb dX0_heightIn_10 rfl (lv_at hl 0 rfl) ?_
  refine x_get hin hx hb hts hown hK hP rfl 1 (by decide) (v := .ref (a 1)) rfl (by decide +kernel) dX0_heightIn_11 ?_
  refine lv_iload_n hx hb dX0_heightIn_14 rfl (lv_at hl 1 rfl) ?_
  refine xa_ld hx hb hK hP 2 0 rfl rfl (j := t) ht48 (by decide) dX0_heightIn_15 ?_
  refine lv_iadd hx hb dX0_heightIn_16 ?_
  exact ro_ret (v := ((300 + (σ 0 t)) + (σ 1 t))) hx hb hr hlocks hH rfl dX0_heightIn_17
set_option maxHeartbeats 4000000 in
set_option maxRecDepth 100000 in
/-- lengthOver: the root, bit by bit -/
theorem c_X0_lengthOver (l : Launch) (D : va_G) (W0 : va_W) (tys : List (ClassId × FieldType)) (H : Heap) (x y : Int32) (hxA : inA x) (hyH : inH y) : roM l yX0_lengthOver wsX0_lengthOver ({ frames := 0, cells := 0, slots := 0, locals := 0 }) [.int x, .int y] D W0 tys H (fun r => r = LENs x y) := by
  refine ro_of (cc := cX0_lengthOver) (maxL := 6) (ret := some .int) (by decide) rfl (Nat.le_of_ble_eq_true rfl) ?_
  intro p e s m args below meth c he hH hP hK ls hl
  obtain ⟨hx, hb, hr, hml, hown, hts, hlocks⟩ := he
  have hown : s.vm.findClass RX0 = some m.cls := hown
  have hl : lv_has ls 6 [(0, .int x), (1, .int y)] := hl
  refine lv_iload_n hx hb dX0_lengthOver_0 rfl (lv_at hl 0 rfl) ?_
  refine lv_iload_n hx hb dX0_lengthOver_1 rfl (lv_at hl 0 rfl) ?_
  refine lv_imul hx hb dX0_lengthOver_2 ?_
  refine lv_iload_n hx hb dX0_lengthOver_3 rfl (lv_at hl 1 rfl) ?_
  refine lv_iload_n hx hb dX0_lengthOver_4 rfl (lv_at hl 1 rfl) ?_
  refine lv_imul hx hb dX0_lengthOver_5 ?_
  refine lv_iadd hx hb dX0_lengthOver_6 ?_
  rw [sq2_eq hxA hyH]
  refine lv_istore_n (lv' := [(2, .int (nI (sq2 x y))), (0, .int x), (1, .int y)]) hx hb dX0_lengthOver_7 rfl hl (by decide) rfl (fun ls hl => ?_)
  refine lv_iconst (v := 0) hx hb dX0_lengthOver_8 (by decide) ?_
  refine lv_istore_n (lv' := [(3, .int 0), (2, .int (nI (sq2 x y))), (0, .int x), (1, .int y)]) hx hb dX0_lengthOver_9 rfl hl (by decide) rfl (fun ls hl => ?_)
  refine lv_sipush (v := 8192) hx hb dX0_lengthOver_10 (by decide) ?_
  refine lv_istore (lv' := [(4, .int 8192), (3, .int 0), (2, .int (nI (sq2 x y))), (0, .int x), (1, .int y)]) hx hb dX0_lengthOver_13 hl (by decide) rfl (fun ls hl => ?_)
  have hsq := (sq2_le hxA hyH).1
  suffices K : ∀ (n r : Nat) (ls : Array Slot), r + 2 ^ n ≤ 16384 → r * r ≤ sq2 x y → sq2 x y < (r + 2 ^ n) * (r + 2 ^ n) → lv_has ls 6 [(4, .int (nI (2 ^ n / 2))), (3, .int (nI r)), (2, .int (nI (sq2 x y))), (0, .int x), (1, .int y)] → W p l e _ s m args below meth c H [] 0 0 (roQ below H (fun r => r = LENs x y) args s) (F0 m 15 ls []) by
    exact K 14 0 ls (by decide) (Nat.zero_le _) (by have : (0 + 2 ^ 14) * (0 + 2 ^ 14) = 268435456 := rfl; omega) (lv_sub hl [0, 1, 2, 3, 4] rfl)
  intro n
  induction n with
  | zero =>
    intro r ls h1 h2 h3 hl
    refine lv_iload hx hb dX0_lengthOver_15 (lv_at hl 0 rfl) ?_
    refine lv_if_le (tgt := 47) hx hb dX0_lengthOver_17 (by decide) (fun c17 => ?_) (fun c17 => ?_)
    · refine lv_iload_n hx hb dX0_lengthOver_47 rfl (lv_at hl 1 rfl) ?_
      exact ro_ret (v := (nI r)) hx hb hr hlocks hH (by unfold LENs; rw [isq_uniq h2 h3]) dX0_lengthOver_48
    · exact absurd (show nI (2 ^ 0 / 2) ≤ 0 by decide) c17
  | succ n ih =>
    intro r ls h1 h2 h3 hl
    have e2 : 2 ^ (n + 1) = 2 * 2 ^ n := by rw [Nat.pow_succ]; omega
    have ed : 2 ^ (n + 1) / 2 = 2 ^ n := by omega
    have hp : 0 < 2 ^ n := Nat.pow_pos (by decide)
    rw [ed] at hl
    refine lv_iload hx hb dX0_lengthOver_15 (lv_at hl 0 rfl) ?_
    refine lv_if_le (tgt := 47) hx hb dX0_lengthOver_17 (by decide) (fun c17 => ?_) (fun c17 => ?_)
    · exact absurd c17 (nI_nle hp (by omega))
    · refine lv_iload_n hx hb dX0_lengthOver_20 rfl (lv_at hl 1 rfl) ?_
      refine lv_iload hx hb dX0_lengthOver_21 (lv_at hl 0 rfl) ?_
      refine lv_iadd hx hb dX0_lengthOver_23 ?_
      rw [nI_add]
      refine lv_istore (lv' := [(5, .int (nI (r + 2 ^ n))), (4, .int (nI (2 ^ n))), (3, .int (nI r)), (2, .int (nI (sq2 x y))), (0, .int x), (1, .int y)]) hx hb dX0_lengthOver_24 hl (by decide) rfl (fun ls hl => ?_)
      refine lv_iload hx hb dX0_lengthOver_26 (lv_at hl 0 rfl) ?_
      refine lv_iload hx hb dX0_lengthOver_28 (lv_at hl 0 rfl) ?_
      refine lv_imul hx hb dX0_lengthOver_30 ?_
      rw [pk_mul]
      have hm : (r + 2 ^ n) * (r + 2 ^ n) ≤ 16384 * 16384 := Nat.mul_le_mul (by omega) (by omega)
      refine lv_iload_n hx hb dX0_lengthOver_31 rfl (lv_at hl 3 rfl) ?_
      refine lv_icmp_gt (tgt := 38) hx hb dX0_lengthOver_32 (by decide) (fun c32 => ?_) (fun c32 => ?_)
      · have hgt : sq2 x y < (r + 2 ^ n) * (r + 2 ^ n) := (nI_ltI (by omega) (by omega)).mp c32
        refine lv_iload hx hb dX0_lengthOver_38 (lv_at hl 1 rfl) ?_
        refine lv_iconst (v := 2) hx hb dX0_lengthOver_40 (by decide) ?_
        refine lv_idiv hx hb dX0_lengthOver_41 (by decide) ?_
        rw [show (nI (2 ^ n) / 2 : Int32) = nI (2 ^ n / 2) from pk_div (a := 2 ^ n) (d := 2) (by omega) (by decide) (by decide)]
        refine lv_istore (lv' := [(4, .int (nI (2 ^ n / 2))), (5, .int (nI (r + 2 ^ n))), (3, .int (nI r)), (2, .int (nI (sq2 x y))), (0, .int x), (1, .int y)]) hx hb dX0_lengthOver_42 hl (by decide) rfl (fun ls hl => ?_)
        refine lv_goto (tgt := 15) hx hb dX0_lengthOver_44 (by decide) ?_
        exact ih r ls (by omega) h2 hgt (lv_sub hl [0, 2, 3, 4, 5] rfl)
      · have hle : (r + 2 ^ n) * (r + 2 ^ n) ≤ sq2 x y := Nat.not_lt.mp (fun q => c32 ((nI_ltI (by omega) (by omega)).mpr q))
        refine lv_iload hx hb dX0_lengthOver_35 (lv_at hl 0 rfl) ?_
        refine lv_istore_n (lv' := [(3, .int (nI (r + 2 ^ n))), (5, .int (nI (r + 2 ^ n))), (4, .int (nI (2 ^ n))), (2, .int (nI (sq2 x y))), (0, .int x), (1, .int y)]) hx hb dX0_lengthOver_37 rfl hl (by decide) rfl (fun ls hl => ?_)
        refine lv_iload hx hb dX0_lengthOver_38 (lv_at hl 2 rfl) ?_
        refine lv_iconst (v := 2) hx hb dX0_lengthOver_40 (by decide) ?_
        refine lv_idiv hx hb dX0_lengthOver_41 (by decide) ?_
        rw [show (nI (2 ^ n) / 2 : Int32) = nI (2 ^ n / 2) from pk_div (a := 2 ^ n) (d := 2) (by omega) (by decide) (by decide)]
        refine lv_istore (lv' := [(4, .int (nI (2 ^ n / 2))), (3, .int (nI (r + 2 ^ n))), (5, .int (nI (r + 2 ^ n))), (2, .int (nI (sq2 x y))), (0, .int x), (1, .int y)]) hx hb dX0_lengthOver_42 hl (by decide) rfl (fun ls hl => ?_)
        refine lv_goto (tgt := 15) hx hb dX0_lengthOver_44 (by decide) ?_
        exact ih (r + 2 ^ n) ls (by omega) hle (by rw [show r + 2 ^ n + 2 ^ n = r + 2 ^ (n + 1) by omega]; exact h3) (lv_sub hl [0, 1, 3, 4, 5] rfl)
set_option maxHeartbeats 4000000 in
set_option maxRecDepth 100000 in
/-- lengthWith -/
theorem c_X0_lengthWith (l : Launch) (D : va_G) (cI cZ : ClassId) (h : Nat) (a : Nat → Nat) (σ : St) (H : Heap) {nL nB : Nat} (hI : inv σ nL nB) (j t : Nat) (hj : j < nL) (ht48 : t < 48) (s9 : Int32) (hs9 : inS s9) : roM l yX0_lengthWith wsX0_lengthWith ({ frames := 1, cells := 0, slots := 0, locals := 25 }) [.ref h, .int (nI j), .int (nI t), .int s9] D (xw cI cZ h a σ) (tyX cI cZ) H (fun r => r = len_ σ j t s9) := by
  refine ro_of (cc := cX0_lengthWith) (maxL := 4) (ret := some .int) (by decide) rfl (Nat.le_of_ble_eq_true rfl) ?_
  intro p e s m args below meth c he hH hP hK ls hl
  obtain ⟨hx, hb, hr, hml, hown, hts, hlocks⟩ := he
  have hown : s.vm.findClass RX0 = some m.cls := hown
  have hl : lv_has ls 4 [(0, .ref h), (1, .int (nI j)), (2, .int (nI t)), (3, .int s9)] := hl
  have hin : ∀ w ∈ u_ws RX0 TX0 15, w ∈ wsX0_lengthWith := by decide +kernel
  have hj10 : j < 10 := Nat.lt_of_lt_of_le hj hI.2.1
  refine lv_aload_n hx hb dX0_lengthWith_0 rfl (lv_at hl 0 rfl) ?_
  refine x_get hin hx hb hts hown hK hP rfl 9 (by decide) (v := .ref (a 9)) rfl (by decide +kernel) dX0_lengthWith_1 ?_
  refine lv_iload_n hx hb dX0_lengthWith_4 rfl (lv_at hl 1 rfl) ?_
  refine xa_ld hx hb hK hP 7 0 rfl rfl (j := j) hj10 (by decide) dX0_lengthWith_5 ?_
  refine lv_iload_n hx hb dX0_lengthWith_6 rfl (lv_at hl 3 rfl) ?_
  refine lv_isub hx hb dX0_lengthWith_7 ?_
  refine lv_aload_n hx hb dX0_lengthWith_8 rfl (lv_at hl 0 rfl) ?_
  refine lv_iload_n hx hb dX0_lengthWith_9 rfl (lv_at hl 2 rfl) ?_
  refine ro_callV 1 hx hb hml hown hts hl.1 hP hK 0 0 rfl rfl (As := [.int (nI t)]) (rest := [.int ((σ 9 j) - s9)]) (c_X0_heightIn l D cI cZ h a σ H t ht48) gX0_lengthWith_X0_heightIn rfl rfl rfl (by decide +kernel) ⟨Nat.le_of_ble_eq_true rfl, Nat.le_of_ble_eq_true rfl⟩ rfl rfl (Nat.le_of_ble_eq_true rfl) dX0_lengthWith_10 ⟨Nat.zero_le _, Nat.zero_le _⟩ (fun r1 hr1 => ?_)
  subst hr1
  refine ro_callS 2 hx hb hml hown hts hl.1 hP hK (As := [.int ((σ 9 j) - s9), .int (ht σ t)]) (rest := []) (c_X0_lengthOver l D (xw cI cZ h a σ) (tyX cI cZ) H (σ 9 j - s9) (ht σ t) (inv_al hI hj hs9) (inv_ht hI ht48)) gX0_lengthWith_X0_lengthOver rfl rfl rfl (by decide +kernel) ⟨Nat.le_of_ble_eq_true rfl, Nat.le_of_ble_eq_true rfl⟩ rfl rfl (Nat.le_of_ble_eq_true rfl) dX0_lengthWith_13 ⟨Nat.zero_le _, Nat.zero_le _⟩ (fun r2 hr2 => ?_)
  subst hr2
  exact ro_ret (v := (LENs (σ 9 j - s9) (ht σ t))) hx hb hr hlocks hH rfl dX0_lengthWith_16
set_option maxHeartbeats 4000000 in
set_option maxRecDepth 100000 in
/-- tensionAtLength -/
theorem c_X0_tensionAtLength (l : Launch) (D : va_G) (cI cZ : ClassId) (h : Nat) (a : Nat → Nat) (σ : St) (H : Heap) (j : Nat) (hj10 : j < 10) (z : Int32) : roM l yX0_tensionAtLength wsX0_tensionAtLength ({ frames := 1, cells := 0, slots := 0, locals := 20 }) [.ref h, .int (nI j), .int z] D (xw cI cZ h a σ) (tyX cI cZ) H (fun r => r = tens_ σ j z) := by
  refine ro_of (cc := cX0_tensionAtLength) (maxL := 3) (ret := some .int) (by decide) rfl (Nat.le_of_ble_eq_true rfl) ?_
  intro p e s m args below meth c he hH hP hK ls hl
  obtain ⟨hx, hb, hr, hml, hown, hts, hlocks⟩ := he
  have hown : s.vm.findClass RX0 = some m.cls := hown
  have hl : lv_has ls 3 [(0, .ref h), (1, .int (nI j)), (2, .int z)] := hl
  have hin : ∀ w ∈ u_ws RX0 TX0 15, w ∈ wsX0_tensionAtLength := by decide +kernel
  refine lv_aload_n hx hb dX0_tensionAtLength_0 rfl (lv_at hl 0 rfl) ?_
  refine x_get hin hx hb hts hown hK hP rfl 13 (by decide) (v := .ref (a 13)) rfl (by decide +kernel) dX0_tensionAtLength_1 ?_
  refine lv_iload_n hx hb dX0_tensionAtLength_4 rfl (lv_at hl 1 rfl) ?_
  refine xa_zld hx hb hK hP 11 1 rfl rfl (j := j) hj10 (by decide) dX0_tensionAtLength_5 ?_
  refine lv_if_ne (tgt := 11) hx hb dX0_tensionAtLength_6 (by decide) (fun c6 => ?_) (fun c6 => ?_)
  · refine lv_aload_n hx hb dX0_tensionAtLength_11 rfl (lv_at hl 0 rfl) ?_
    refine x_get hin hx hb hts hown hK hP rfl 10 (by decide) (v := .ref (a 10)) rfl (by decide +kernel) dX0_tensionAtLength_12 ?_
    refine lv_iload_n hx hb dX0_tensionAtLength_15 rfl (lv_at hl 1 rfl) ?_
    refine xa_ld hx hb hK hP 8 0 rfl rfl (j := j) hj10 (by decide) dX0_tensionAtLength_16 ?_
    refine lv_iconst (v := 0) hx hb dX0_tensionAtLength_17 (by decide) ?_
    refine lv_iload_n hx hb dX0_tensionAtLength_18 rfl (lv_at hl 2 rfl) ?_
    refine lv_aload_n hx hb dX0_tensionAtLength_19 rfl (lv_at hl 0 rfl) ?_
    refine x_get hin hx hb hts hown hK hP rfl 12 (by decide) (v := .ref (a 12)) rfl (by decide +kernel) dX0_tensionAtLength_20 ?_
    refine lv_iload_n hx hb dX0_tensionAtLength_23 rfl (lv_at hl 1 rfl) ?_
    refine xa_ld hx hb hK hP 10 0 rfl rfl (j := j) hj10 (by decide) dX0_tensionAtLength_24 ?_
    refine lv_isub hx hb dX0_tensionAtLength_25 ?_
    refine va_mmax hx hb (by rw [hml]; exact hl.1.symm) hown (hts (.methodLink RX0 113 Lib.Math.max.name) (by decide +kernel)) (hts (.static Lib.Math.max.name) (by decide +kernel)) (hts (.initialized "java/lang/Math") (by decide +kernel)) (hts (.code Lib.Math.max.name Lib.Math.max.code 2 (some .int)) (by decide +kernel)) (Nat.le_of_ble_eq_true rfl) (Nat.le_of_ble_eq_true rfl) (Nat.zero_le _) (Nat.zero_le _) dX0_tensionAtLength_26 ?_
    refine lv_imul hx hb dX0_tensionAtLength_29 ?_
    exact ro_ret (v := ((σ 10 j) * (if 0 < z - σ 12 j then z - σ 12 j else 0))) hx hb hr hlocks hH (by show _ = tens_ σ j z; unfold tens_; rw [if_neg c6]) dX0_tensionAtLength_30
  · refine lv_iconst (v := 0) hx hb dX0_tensionAtLength_9 (by decide) ?_
    exact ro_ret (v := 0) hx hb hr hlocks hH (by show _ = tens_ σ j z; unfold tens_; rw [if_pos c6]) dX0_tensionAtLength_10
set_option maxHeartbeats 4000000 in
set_option maxRecDepth 100000 in
/-- pullWith -/
theorem c_X0_pullWith (l : Launch) (D : va_G) (cI cZ : ClassId) (h : Nat) (a : Nat → Nat) (σ : St) (H : Heap) {nL nB : Nat} (hI : inv σ nL nB) (j t : Nat) (hj : j < nL) (ht48 : t < 48) (s9 : Int32) (hs9 : inS s9) : roM l yX0_pullWith wsX0_pullWith ({ frames := 2, cells := 0, slots := 0, locals := 42 }) [.ref h, .int (nI j), .int (nI t), .int s9] D (xw cI cZ h a σ) (tyX cI cZ) H (fun r => r = pull_ σ j t s9) := by
  refine ro_of (cc := cX0_pullWith) (maxL := 8) (ret := some .int) (by decide) rfl (Nat.le_of_ble_eq_true rfl) ?_
  intro p e s m args below meth c he hH hP hK ls hl
  obtain ⟨hx, hb, hr, hml, hown, hts, hlocks⟩ := he
  have hown : s.vm.findClass RX0 = some m.cls := hown
  have hl : lv_has ls 8 [(0, .ref h), (1, .int (nI j)), (2, .int (nI t)), (3, .int s9)] := hl
  have hin : ∀ w ∈ u_ws RX0 TX0 15, w ∈ wsX0_pullWith := by decide +kernel
  have hj10 : j < 10 := Nat.lt_of_lt_of_le hj hI.2.1
  refine lv_aload_n hx hb dX0_pullWith_0 rfl (lv_at hl 0 rfl) ?_
  refine x_get hin hx hb hts hown hK hP rfl 9 (by decide) (v := .ref (a 9)) rfl (by decide +kernel) dX0_pullWith_1 ?_
  refine lv_iload_n hx hb dX0_pullWith_4 rfl (lv_at hl 1 rfl) ?_
  refine xa_ld hx hb hK hP 7 0 rfl rfl (j := j) hj10 (by decide) dX0_pullWith_5 ?_
  refine lv_iload_n hx hb dX0_pullWith_6 rfl (lv_at hl 3 rfl) ?_
  refine lv_isub hx hb dX0_pullWith_7 ?_
  refine lv_istore (lv' := [(4, .int ((σ 9 j) - s9)), (0, .ref h), (1, .int (nI j)), (2, .int (nI t)), (3, .int s9)]) hx hb dX0_pullWith_8 hl (by decide) rfl (fun ls hl => ?_)
  refine lv_iload hx hb dX0_pullWith_10 (lv_at hl 0 rfl) ?_
  refine lv_aload_n hx hb dX0_pullWith_12 rfl (lv_at hl 1 rfl) ?_
  refine lv_iload_n hx hb dX0_pullWith_13 rfl (lv_at hl 3 rfl) ?_
  refine ro_callV 1 hx hb hml hown hts hl.1 hP hK 0 0 rfl rfl (As := [.int (nI t)]) (rest := [.int ((σ 9 j) - s9)]) (c_X0_heightIn l D cI cZ h a σ H t ht48) gX0_pullWith_X0_heightIn rfl rfl rfl (by decide +kernel) ⟨Nat.le_of_ble_eq_true rfl, Nat.le_of_ble_eq_true rfl⟩ rfl rfl (Nat.le_of_ble_eq_true rfl) dX0_pullWith_14 ⟨Nat.zero_le _, Nat.zero_le _⟩ (fun r1 hr1 => ?_)
  subst hr1
  refine ro_callS 2 hx hb hml hown hts hl.1 hP hK (As := [.int ((σ 9 j) - s9), .int (ht σ t)]) (rest := []) (c_X0_lengthOver l D (xw cI cZ h a σ) (tyX cI cZ) H (σ 9 j - s9) (ht σ t) (inv_al hI hj hs9) (inv_ht hI ht48)) gX0_pullWith_X0_lengthOver rfl rfl rfl (by decide +kernel) ⟨Nat.le_of_ble_eq_true rfl, Nat.le_of_ble_eq_true rfl⟩ rfl rfl (Nat.le_of_ble_eq_true rfl) dX0_pullWith_17 ⟨Nat.zero_le _, Nat.zero_le _⟩ (fun r2 hr2 => ?_)
  subst hr2
  rw [show LENs (σ 9 j - s9) (ht σ t) = len_ σ j t s9 from rfl]
  refine lv_istore (lv' := [(5, .int (len_ σ j t s9)), (4, .int ((σ 9 j) - s9)), (0, .ref h), (1, .int (nI j)), (2, .int (nI t)), (3, .int s9)]) hx hb dX0_pullWith_20 hl (by decide) rfl (fun ls hl => ?_)
  refine lv_iload hx hb dX0_pullWith_22 (lv_at hl 0 rfl) ?_
  refine lv_if_gt (tgt := 29) hx hb dX0_pullWith_24 (by decide) (fun c24 => ?_) (fun c24 => ?_)
  · have hn0 : ¬ len_ σ j t s9 ≤ 0 := fun q => absurd c24 (Int32.not_lt.mpr q)
    refine lv_aload_n hx hb dX0_pullWith_29 rfl (lv_at hl 2 rfl) ?_
    refine lv_iload_n hx hb dX0_pullWith_30 rfl (lv_at hl 3 rfl) ?_
    refine lv_iload hx hb dX0_pullWith_31 (lv_at hl 0 rfl) ?_
    refine ro_callV 2 hx hb hml hown hts hl.1 hP hK 0 0 rfl rfl (As := [.int (nI j), .int (len_ σ j t s9)]) (rest := []) (c_X0_tensionAtLength l D cI cZ h a σ H j hj10 (len_ σ j t s9)) gX0_pullWith_X0_tensionAtLength rfl rfl rfl (by decide +kernel) ⟨Nat.le_of_ble_eq_true rfl, Nat.le_of_ble_eq_true rfl⟩ rfl rfl (Nat.le_of_ble_eq_true rfl) dX0_pullWith_33 ⟨Nat.zero_le _, Nat.zero_le _⟩ (fun r3 hr3 => ?_)
    subst hr3
    refine lv_i2l hx hb dX0_pullWith_36 rfl ?_
    refine lv_iload hx hb dX0_pullWith_37 (lv_at hl 1 rfl) ?_
    refine lv_i2l hx hb dX0_pullWith_39 rfl ?_
    refine lv_lmul hx hb dX0_pullWith_40 ?_
    refine lv_lstore (lv' := [(6, .long ((tens_ σ j (len_ σ j t s9)).toInt64 * ((σ 9 j) - s9).toInt64)), (5, .int (len_ σ j t s9)), (4, .int ((σ 9 j) - s9)), (0, .ref h), (1, .int (nI j)), (2, .int (nI t)), (3, .int s9)]) hx hb dX0_pullWith_41 hl (by decide) rfl (fun ls hl => ?_)
    refine lv_lload hx hb dX0_pullWith_43 (lv_at hl 0 rfl) ?_
    refine lv_iload hx hb dX0_pullWith_45 (lv_at hl 1 rfl) ?_
    refine lv_i2l hx hb dX0_pullWith_47 rfl ?_
    have hne : ¬ (len_ σ j t s9).toInt64 = 0 := by
      obtain ⟨n, en, hn⟩ := inv_len hI hj ht48 hs9
      rw [en] at hn0 ⊢
      rw [nI_l (by omega)]
      intro q
      have q2 := congrArg Int64.toInt q
      rw [lN_toInt (by omega)] at q2
      have q3 : n = 0 := by have : (0 : Int64).toInt = 0 := rfl; omega
      subst q3; exact hn0 (by decide)
    refine lv_ldiv hx hb dX0_pullWith_48 hne ?_
    refine lv_l2i hx hb dX0_pullWith_49 rfl ?_
    exact ro_ret (v := (((tens_ σ j (len_ σ j t s9)).toInt64 * ((σ 9 j) - s9).toInt64) / (len_ σ j t s9).toInt64).toInt32) hx hb hr hlocks hH (by show _ = pull_ σ j t s9; unfold pull_; rw [if_neg hn0]; rfl) dX0_pullWith_50
  · refine lv_iconst (v := 0) hx hb dX0_pullWith_27 (by decide) ?_
    exact ro_ret (v := 0) hx hb hr hlocks hH (by show _ = pull_ σ j t s9; unfold pull_; rw [if_pos (Int32.not_lt.mp c24)]) dX0_pullWith_28
end
section
/-! MoorWatch: the balance, drifting, safety. -/
theorem xor2_nn (x : Int32) : (0 ≤ x ^^^ 2) ↔ 0 ≤ x := by
  have h : ∀ y : Int32, (0 : Int32) ≤ y ↔ y.toBitVec.msb = false := fun y => by
    rw [i_le]
    show (0 : Int) ≤ y.toBitVec.toInt ↔ _
    rw [BitVec.msb_eq_toInt]
    simp
  rw [h, h, Int32.toBitVec_xor, BitVec.msb_xor]
  have e : (2 : Int32).toBitVec.msb = false := rfl
  rw [e, Bool.xor_false]
theorem ro_ofF {l : Launch} {y : MethodName} {cc : ByteArray} {maxL : Nat} {ret : Option FieldType} {ws ws' : List Cond} {rm : Room} {av : List Value} {D : va_G} {W0 : va_W} {tys : List (ClassId × FieldType)} {H0 : Heap} {post : Int32 → Prop} (hy : plainFor y = true) (hw : ws = Cond.code y cc maxL ret :: ws') (hn : (lg_sl av).length ≤ maxL)
    (body : ∀ (p : Program) (e : Env) (s : State) (m : MethodId) (args : Array Value) (below : List Frame) (meth : Method) (c : Code), roE p s m meth c args y cc maxL ret ws → s.heap = H0 → va_P D vwCl W0 H0 → va_K D vwCl tys s → ∀ ls : Array Slot, lv_has ls maxL (lv_args 0 av) → W p l e rm s m args below meth c H0 [] 0 0 (roQ below H0 post args s) (F0 m 0 ls [])) : roM l y ws rm av D W0 tys H0 post := by
  unfold roM Met
  refine MetFree.of_bodySF (code := cc) (maxLocals := maxL) (ret := ret) hy ?_ ?_
  · intro args s m h hn
    obtain ⟨meth, c, h1, h2, h3, h4, h5, h6, -, -⟩ := Cond.code_spec hn (atoms_spec (ws := ws) h _ (by rw [hw]; exact List.mem_cons_self))
    exact ⟨meth, c, h1, h2, h3, h4, h5, h6⟩
  · intro p e s m args below meth c s₁ B hml hv _
    have hh0 : s₁.heap = s.heap := by rw [B.state]; rfl
    obtain ⟨rfl, hH, hP, hK⟩ := hv
    have K : W p l e rm s m av.toArray below meth c H0 [] 0 0 (roQ below H0 post av.toArray s) (entryFrame m av.toArray maxL) := by
      rw [lg_entry_eq]
      exact body p e s m _ below meth c ⟨B.exec, B.bytes, B.returns, hml, findClass_of_methodNamed B.named, atoms_spec (ws := ws) B.pre, B.notSynchronized⟩ hH hP hK _ (lv_entry av hn)
    obtain ⟨t, a1, o, b1, b2, b3⟩ := K s₁ (hh0.trans hH) (Stand.of_body B)
    exact ⟨t, o, a1, b1, b2, ⟨b3.1, b3.2⟩⟩
theorem td2 {z : Int} : z.tdiv 2 = if 0 ≤ z then z / 2 else -((-z) / 2) := by
  by_cases h : 0 ≤ z
  · rw [if_pos h, Int.tdiv_eq_ediv_of_nonneg h]
  · rw [if_neg h]
    have e : z = -(-z) := by omega
    rw [e, Int.neg_tdiv, Int.tdiv_eq_ediv_of_nonneg (by omega)]
    simp
theorem bI_f {b : Bool} (h : bI b = 0) : b = false := by
  cases b
  · rfl
  · exact absurd h (by decide)
theorem bI_t {b : Bool} (h : ¬ bI b = 0) : b = true := by
  cases b
  · exact absurd rfl h
  · rfl
set_option maxHeartbeats 4000000 in
set_option maxRecDepth 100000 in
/-- Math.floorDiv by 2 -/
theorem c_J9_floorDiv_7cf53 (l : Launch) (D : va_G) (W0 : va_W) (tys : List (ClassId × FieldType)) (H : Heap) (z : Int) (hz : -1000 ≤ z ∧ z ≤ 1000) : roM l yJ9_floorDiv_7cf53 wsJ9_floorDiv_7cf53 ({ frames := 0, cells := 0, slots := 0, locals := 0 }) [.int (zI z), .int 2] D W0 tys H (fun r => r = zI (z / 2)) := by
  refine ro_ofF (cc := cJ9_floorDiv_7cf53) (maxL := 3) (ret := some .int) (by decide +kernel) rfl (Nat.le_of_ble_eq_true rfl) ?_
  intro p e s m args below meth c he hH hP hK ls hl
  obtain ⟨hx, hb, hr, hml, hown, hts, hlocks⟩ := he
  have hown : s.vm.findClass RJ9 = some m.cls := hown
  have hl : lv_has ls 3 [(0, .int (zI z)), (1, .int 2)] := hl
  have ez : (zI z).toInt = z := zI_ti (by omega) (by omega)
  have eq : (zI z / 2 : Int32).toInt = z.tdiv 2 := by rw [Jvm.Kit.i32_div (by rw [ez]; omega), ez]; rfl
  rw [td2] at eq
  have e0 : (0 : Int32).toInt = 0 := rfl
  have e1 : (1 : Int32).toInt = 1 := rfl
  have e2 : (2 : Int32).toInt = 2 := rfl
  refine lv_iload_n hx hb dJ9_floorDiv_7cf53_0 rfl (lv_at hl 0 rfl) ?_
  refine lv_iload_n hx hb dJ9_floorDiv_7cf53_1 rfl (lv_at hl 1 rfl) ?_
  refine lv_idiv hx hb dJ9_floorDiv_7cf53_2 (by decide) ?_
  refine lv_istore_n (lv' := [(2, .int ((zI z) / 2)), (0, .int (zI z)), (1, .int 2)]) hx hb dJ9_floorDiv_7cf53_3 rfl hl (by decide) rfl (fun ls hl => ?_)
  refine lv_iload_n hx hb dJ9_floorDiv_7cf53_4 rfl (lv_at hl 1 rfl) ?_
  refine lv_iload_n hx hb dJ9_floorDiv_7cf53_5 rfl (lv_at hl 2 rfl) ?_
  refine lv_ixor hx hb dJ9_floorDiv_7cf53_6 ?_
  refine lv_if_ge (tgt := 21) hx hb dJ9_floorDiv_7cf53_7 (by decide) (fun c7 => ?_) (fun c7 => ?_)
  · refine lv_iload_n hx hb dJ9_floorDiv_7cf53_21 rfl (lv_at hl 0 rfl) ?_
    have hp : 0 ≤ z := by have q := i_le.mp ((xor2_nn _).mp c7); rw [ez, e0] at q; exact q
    rw [if_pos hp] at eq
    exact ro_ret (v := ((zI z) / 2)) hx hb hr hlocks hH (zI_of eq) dJ9_floorDiv_7cf53_22
  · have hp : ¬ 0 ≤ z := fun q => c7 ((xor2_nn _).mpr (i_le.mpr (by rw [ez, e0]; exact q)))
    rw [if_neg hp] at eq
    have em : (zI z / 2 * 2 : Int32).toInt = -((-z) / 2) * 2 := by rw [Jvm.Kit.i32_mul (by rw [eq, e2]; omega) (by rw [eq, e2]; omega), eq, e2]
    refine lv_iload_n hx hb dJ9_floorDiv_7cf53_10 rfl (lv_at hl 0 rfl) ?_
    refine lv_iload_n hx hb dJ9_floorDiv_7cf53_11 rfl (lv_at hl 2 rfl) ?_
    refine lv_imul hx hb dJ9_floorDiv_7cf53_12 ?_
    refine lv_iload_n hx hb dJ9_floorDiv_7cf53_13 rfl (lv_at hl 1 rfl) ?_
    refine lv_icmp_eq (tgt := 21) hx hb dJ9_floorDiv_7cf53_14 (by decide) (fun c14 => ?_) (fun c14 => ?_)
    · refine lv_iload_n hx hb dJ9_floorDiv_7cf53_21 rfl (lv_at hl 0 rfl) ?_
      have h2 := i_eq.mp c14
      rw [em, ez] at h2
      exact ro_ret (v := ((zI z) / 2)) hx hb hr hlocks hH (zI_of (by rw [eq]; omega)) dJ9_floorDiv_7cf53_22
    · refine lv_iload_n hx hb dJ9_floorDiv_7cf53_17 rfl (lv_at hl 0 rfl) ?_
      refine lv_iconst (v := 1) hx hb dJ9_floorDiv_7cf53_18 (by decide) ?_
      refine lv_isub hx hb dJ9_floorDiv_7cf53_19 ?_
      have h2 : ¬ -((-z) / 2) * 2 = z := fun w => c14 (i_eq.mpr (by rw [em, ez]; exact w))
      exact ro_ret (v := (((zI z) / 2) - 1)) hx hb hr hlocks hH (zI_of (by rw [Jvm.Kit.i32_sub (by rw [eq, e1]; omega) (by rw [eq, e1]; omega), eq, e1]; omega)) dJ9_floorDiv_7cf53_20
set_option maxHeartbeats 4000000 in
set_option maxRecDepth 100000 in
/-- forceWith -/
theorem c_X0_forceWith (l : Launch) (D : va_G) (cI cZ : ClassId) (h : Nat) (a : Nat → Nat) (σ : St) (H : Heap) {nL nB : Nat} (hI : inv σ nL nB) (t : Nat) (ht48 : t < 48) (s9 : Int32) (hs9 : inS s9) : roM l yX0_forceWith wsX0_forceWith ({ frames := 3, cells := 0, slots := 0, locals := 69 }) [.ref h, .int (nI t), .int s9] D (xw cI cZ h a σ) (tyX cI cZ) H (fun r => r = frc σ t s9) := by
  refine ro_of (cc := cX0_forceWith) (maxL := 5) (ret := some .int) (by decide) rfl (Nat.le_of_ble_eq_true rfl) ?_
  intro p e s m args below meth c he hH hP hK ls hl
  obtain ⟨hx, hb, hr, hml, hown, hts, hlocks⟩ := he
  have hown : s.vm.findClass RX0 = some m.cls := hown
  have hl : lv_has ls 5 [(0, .ref h), (1, .int (nI t)), (2, .int s9)] := hl
  have hin : ∀ w ∈ u_ws RX0 TX0 15, w ∈ wsX0_forceWith := by decide +kernel
  have hL : σ 7 0 = nI nL := hI.1
  have hL10 : nL ≤ 10 := hI.2.1
  refine lv_aload_n hx hb dX0_forceWith_0 rfl (lv_at hl 0 rfl) ?_
  refine x_get hin hx hb hts hown hK hP rfl 3 (by decide) (v := .int (σ 3 0)) rfl (by decide +kernel) dX0_forceWith_1 ?_
  refine lv_aload_n hx hb dX0_forceWith_4 rfl (lv_at hl 0 rfl) ?_
  refine x_get hin hx hb hts hown hK hP rfl 2 (by decide) (v := .ref (a 2)) rfl (by decide +kernel) dX0_forceWith_5 ?_
  refine lv_iload_n hx hb dX0_forceWith_8 rfl (lv_at hl 1 rfl) ?_
  refine xa_ld hx hb hK hP 3 0 rfl rfl (j := t) ht48 (by decide) dX0_forceWith_9 ?_
  refine lv_iadd hx hb dX0_forceWith_10 ?_
  refine lv_istore_n (lv' := [(3, .int ((σ 3 0) + (σ 2 t))), (0, .ref h), (1, .int (nI t)), (2, .int s9)]) hx hb dX0_forceWith_11 rfl hl (by decide) rfl (fun ls hl => ?_)
  refine lv_iconst (v := 0) hx hb dX0_forceWith_12 (by decide) ?_
  refine lv_istore (lv' := [(4, .int 0), (3, .int ((σ 3 0) + (σ 2 t))), (0, .ref h), (1, .int (nI t)), (2, .int s9)]) hx hb dX0_forceWith_13 hl (by decide) rfl (fun ls hl => ?_)
  suffices K : ∀ (n k : Nat) (ls : Array Slot), k + n = nL → lv_has ls 5 [(4, .int (nI k)), (3, .int (acc (fun j => pull_ σ j t s9) (σ 3 0 + σ 2 t) k)), (0, .ref h), (1, .int (nI t)), (2, .int s9)] → W p l e _ s m args below meth c H [] 0 0 (roQ below H (fun r => r = frc σ t s9) args s) (F0 m 15 ls []) by
    exact K nL 0 ls (by omega) (lv_sub hl [0, 1, 2, 3, 4] rfl)
  intro n
  induction n with
  | zero =>
      intro k ls hk hl
      refine lv_iload hx hb dX0_forceWith_15 (lv_at hl 0 rfl) ?_
      refine lv_aload_n hx hb dX0_forceWith_17 rfl (lv_at hl 2 rfl) ?_
      refine x_get hin hx hb hts hown hK hP rfl 7 (by decide) (v := .int (nI nL)) (congrArg (fun z => some (Value.int z)) hL) (by decide +kernel) dX0_forceWith_18 ?_
      refine lv_icmp_ge (tgt := 41) hx hb dX0_forceWith_21 (by decide) (fun c21 => ?_) (fun c21 => ?_)
      · refine lv_iload_n hx hb dX0_forceWith_41 rfl (lv_at hl 1 rfl) ?_
        exact ro_ret (v := (acc (fun j => pull_ σ j t s9) (σ 3 0 + σ 2 t) k)) hx hb hr hlocks hH (by show acc _ _ k = frc σ t s9; unfold frc; rw [inv_nL hI, show k = nL by omega]) dX0_forceWith_42
      · exact absurd (nI_le (by omega) (by omega)) c21
  | succ n ih =>
      intro k ls hk hl
      refine lv_iload hx hb dX0_forceWith_15 (lv_at hl 0 rfl) ?_
      refine lv_aload_n hx hb dX0_forceWith_17 rfl (lv_at hl 2 rfl) ?_
      refine x_get hin hx hb hts hown hK hP rfl 7 (by decide) (v := .int (nI nL)) (congrArg (fun z => some (Value.int z)) hL) (by decide +kernel) dX0_forceWith_18 ?_
      refine lv_icmp_ge (tgt := 41) hx hb dX0_forceWith_21 (by decide) (fun c21 => ?_) (fun c21 => ?_)
      · exact absurd c21 (nI_ge (by omega) (by omega))
      · refine lv_iload_n hx hb dX0_forceWith_24 rfl (lv_at hl 1 rfl) ?_
        refine lv_aload_n hx hb dX0_forceWith_25 rfl (lv_at hl 2 rfl) ?_
        refine lv_iload hx hb dX0_forceWith_26 (lv_at hl 0 rfl) ?_
        refine lv_iload_n hx hb dX0_forceWith_28 rfl (lv_at hl 3 rfl) ?_
        refine lv_iload_n hx hb dX0_forceWith_29 rfl (lv_at hl 4 rfl) ?_
        refine ro_callV 3 hx hb hml hown hts hl.1 hP hK 0 0 rfl rfl (As := [.int (nI k), .int (nI t), .int s9]) (rest := [.int (acc (fun j => pull_ σ j t s9) (σ 3 0 + σ 2 t) k)]) (c_X0_pullWith l D cI cZ h a σ H hI k t (by omega) ht48 s9 hs9) gX0_forceWith_X0_pullWith rfl rfl rfl (by decide +kernel) ⟨Nat.le_of_ble_eq_true rfl, Nat.le_of_ble_eq_true rfl⟩ rfl rfl (Nat.le_of_ble_eq_true rfl) dX0_forceWith_30 ⟨Nat.zero_le _, Nat.zero_le _⟩ (fun r1 hr1 => ?_)
        subst hr1
        refine lv_iadd hx hb dX0_forceWith_33 ?_
        refine lv_istore_n (lv' := [(3, .int ((acc (fun j => pull_ σ j t s9) (σ 3 0 + σ 2 t) k) + (pull_ σ k t s9))), (4, .int (nI k)), (0, .ref h), (1, .int (nI t)), (2, .int s9)]) hx hb dX0_forceWith_34 rfl hl (by decide) rfl (fun ls hl => ?_)
        refine lv_iinc (v := (nI (k + 1))) (lv' := [(4, .int (nI (k + 1))), (3, .int ((acc (fun j => pull_ σ j t s9) (σ 3 0 + σ 2 t) k) + (pull_ σ k t s9))), (0, .ref h), (1, .int (nI t)), (2, .int s9)]) hx hb dX0_forceWith_35 hl (k := 1) rfl (by exact nI_add _ 1) (by decide) rfl (fun ls hl => ?_)
        refine lv_goto (tgt := 15) hx hb dX0_forceWith_38 (by decide) ?_
        exact ih (k + 1) ls (by omega) (lv_sub hl [0, 1, 2, 3, 4] rfl)
set_option maxHeartbeats 4000000 in
set_option maxRecDepth 100000 in
/-- balanceOf: halving -/
theorem c_X0_balanceOf (l : Launch) (D : va_G) (cI cZ : ClassId) (h : Nat) (a : Nat → Nat) (σ : St) (H : Heap) {nL nB : Nat} (hI : inv σ nL nB) (t : Nat) (ht48 : t < 48) : roM l yX0_balanceOf wsX0_balanceOf ({ frames := 4, cells := 0, slots := 0, locals := 93 }) [.ref h, .int (nI t)] D (xw cI cZ h a σ) (tyX cI cZ) H (fun r => r = bal σ t) := by
  refine ro_of (cc := cX0_balanceOf) (maxL := 6) (ret := some .int) (by decide) rfl (Nat.le_of_ble_eq_true rfl) ?_
  intro p e s m args below meth c he hH hP hK ls hl
  obtain ⟨hx, hb, hr, hml, hown, hts, hlocks⟩ := he
  have hown : s.vm.findClass RX0 = some m.cls := hown
  have hl : lv_has ls 6 [(0, .ref h), (1, .int (nI t))] := hl
  refine lv_sipush (v := (-200)) hx hb dX0_balanceOf_0 (by decide) ?_
  refine lv_istore_n (lv' := [(2, .int (-200)), (0, .ref h), (1, .int (nI t))]) hx hb dX0_balanceOf_3 rfl hl (by decide) rfl (fun ls hl => ?_)
  refine lv_sipush (v := 200) hx hb dX0_balanceOf_4 (by decide) ?_
  refine lv_istore_n (lv' := [(3, .int 200), (2, .int (-200)), (0, .ref h), (1, .int (nI t))]) hx hb dX0_balanceOf_7 rfl hl (by decide) rfl (fun ls hl => ?_)
  refine lv_iconst (v := 0) hx hb dX0_balanceOf_8 (by decide) ?_
  refine lv_istore (lv' := [(4, .int 0), (3, .int 200), (2, .int (-200)), (0, .ref h), (1, .int (nI t))]) hx hb dX0_balanceOf_9 hl (by decide) rfl (fun ls hl => ?_)
  suffices K : ∀ (n k : Nat) (lo hi : Int) (ls : Array Slot), k + n = 401 → -200 ≤ lo → lo ≤ hi → hi ≤ 200 → hi - lo < n → bis (fun z => decide (0 < frc σ t (zI z))) n lo hi = balZ σ t → lv_has ls 6 [(4, .int (nI k)), (3, .int (zI hi)), (2, .int (zI lo)), (0, .ref h), (1, .int (nI t))] → W p l e _ s m args below meth c H [] 0 0 (roQ below H (fun r => r = bal σ t) args s) (F0 m 11 ls []) by
    exact K 401 0 (-200) 200 ls (by omega) (by omega) (by omega) (by omega) (by omega) rfl (lv_sub hl [0, 1, 2, 3, 4] rfl)
  intro n
  induction n with
  | zero =>
      intro k lo hi ls hk h1 h2 h3 h4; exact absurd h4 (by omega)
  | succ n ih =>
      intro k lo hi ls hk h1 h2 h3 h4 h5 hl
      refine lv_iload_n hx hb dX0_balanceOf_11 rfl (lv_at hl 2 rfl) ?_
      refine lv_iload_n hx hb dX0_balanceOf_12 rfl (lv_at hl 1 rfl) ?_
      refine lv_icmp_ge (tgt := 60) hx hb dX0_balanceOf_13 (by decide) (fun c13 => ?_) (fun c13 => ?_)
      · have hge : ¬ lo < hi := fun w => absurd ((zI_le (by omega) (by omega) (by omega) (by omega)).mp c13) (by omega)
        refine lv_iload_n hx hb dX0_balanceOf_60 rfl (lv_at hl 2 rfl) ?_
        exact ro_ret (v := (zI lo)) hx hb hr hlocks hH (by show zI lo = bal σ t; unfold bal; rw [← h5, bis_end hge]) dX0_balanceOf_61
      · have hlt : lo < hi := Int.not_le.mp (fun w => c13 ((zI_le (by omega) (by omega) (by omega) (by omega)).mpr w))
        refine lv_iload hx hb dX0_balanceOf_16 (lv_at hl 0 rfl) ?_
        refine lv_sipush (v := 401) hx hb dX0_balanceOf_18 (by decide) ?_
        refine lv_icmp_ge (tgt := 60) hx hb dX0_balanceOf_21 (by decide) (fun c21 => ?_) (fun c21 => ?_)
        · exact absurd c21 (nI_ge (a := k) (b := 401) (by omega) (by omega))
        · refine lv_iload_n hx hb dX0_balanceOf_24 rfl (lv_at hl 2 rfl) ?_
          refine lv_iload_n hx hb dX0_balanceOf_25 rfl (lv_at hl 1 rfl) ?_
          refine lv_iadd hx hb dX0_balanceOf_26 ?_
          rw [zI_add]
          refine lv_iconst (v := 2) hx hb dX0_balanceOf_27 (by decide) ?_
          refine ro_callS 2 hx hb hml hown hts hl.1 hP hK (As := [.int (zI (lo + hi)), .int 2]) (rest := []) (c_J9_floorDiv_7cf53 l D (xw cI cZ h a σ) (tyX cI cZ) H (lo + hi) ⟨by omega, by omega⟩) gX0_balanceOf_J9_floorDiv_7cf53 rfl rfl rfl (by decide +kernel) ⟨Nat.le_of_ble_eq_true rfl, Nat.le_of_ble_eq_true rfl⟩ rfl rfl (Nat.le_of_ble_eq_true rfl) dX0_balanceOf_28 ⟨Nat.zero_le _, Nat.zero_le _⟩ (fun r1 hr1 => ?_)
          subst hr1
          have hm1 : lo ≤ (lo + hi) / 2 := by omega
          have hm2 : (lo + hi) / 2 < hi := by omega
          have hsm : inS (zI ((lo + hi) / 2)) := by unfold inS; rw [zI_ti (by omega) (by omega)]; omega
          refine lv_istore (lv' := [(5, .int (zI ((lo + hi) / 2))), (4, .int (nI k)), (3, .int (zI hi)), (2, .int (zI lo)), (0, .ref h), (1, .int (nI t))]) hx hb dX0_balanceOf_31 hl (by decide) rfl (fun ls hl => ?_)
          refine lv_aload_n hx hb dX0_balanceOf_33 rfl (lv_at hl 4 rfl) ?_
          refine lv_iload_n hx hb dX0_balanceOf_34 rfl (lv_at hl 5 rfl) ?_
          refine lv_iload hx hb dX0_balanceOf_35 (lv_at hl 0 rfl) ?_
          refine ro_callV 2 hx hb hml hown hts hl.1 hP hK 0 0 rfl rfl (As := [.int (nI t), .int (zI ((lo + hi) / 2))]) (rest := []) (c_X0_forceWith l D cI cZ h a σ H hI t ht48 (zI ((lo + hi) / 2)) hsm) gX0_balanceOf_X0_forceWith rfl rfl rfl (by decide +kernel) ⟨Nat.le_of_ble_eq_true rfl, Nat.le_of_ble_eq_true rfl⟩ rfl rfl (Nat.le_of_ble_eq_true rfl) dX0_balanceOf_37 ⟨Nat.zero_le _, Nat.zero_le _⟩ (fun r2 hr2 => ?_)
          subst hr2
          refine lv_if_le (tgt := 51) hx hb dX0_balanceOf_40 (by decide) (fun c40 => ?_) (fun c40 => ?_)
          · refine lv_iload hx hb dX0_balanceOf_51 (lv_at hl 0 rfl) ?_
            refine lv_istore_n (lv' := [(3, .int (zI ((lo + hi) / 2))), (5, .int (zI ((lo + hi) / 2))), (4, .int (nI k)), (2, .int (zI lo)), (0, .ref h), (1, .int (nI t))]) hx hb dX0_balanceOf_53 rfl hl (by decide) rfl (fun ls hl => ?_)
            refine lv_iinc (v := (nI (k + 1))) (lv' := [(4, .int (nI (k + 1))), (3, .int (zI ((lo + hi) / 2))), (5, .int (zI ((lo + hi) / 2))), (2, .int (zI lo)), (0, .ref h), (1, .int (nI t))]) hx hb dX0_balanceOf_54 hl (k := 2) rfl (by exact nI_add _ 1) (by decide) rfl (fun ls hl => ?_)
            refine lv_goto (tgt := 11) hx hb dX0_balanceOf_57 (by decide) ?_
            have hn : ¬ (fun z => decide (0 < frc σ t (zI z))) ((lo + hi) / 2) = true := fun v => absurd c40 (Int32.not_le.mpr (of_decide_eq_true v))
            exact ih (k + 1) lo ((lo + hi) / 2) ls (by omega) h1 hm1 (by omega) (by omega) (by rw [← h5]; exact (bis_dn hlt hn).symm) (lv_sub hl [0, 1, 3, 4, 5] rfl)
          · refine lv_iload hx hb dX0_balanceOf_43 (lv_at hl 0 rfl) ?_
            refine lv_iconst (v := 1) hx hb dX0_balanceOf_45 (by decide) ?_
            refine lv_iadd hx hb dX0_balanceOf_46 ?_
            rw [show zI ((lo + hi) / 2) + 1 = zI ((lo + hi) / 2 + 1) from zI_add _ 1]
            refine lv_istore_n (lv' := [(2, .int (zI ((lo + hi) / 2 + 1))), (5, .int (zI ((lo + hi) / 2))), (4, .int (nI k)), (3, .int (zI hi)), (0, .ref h), (1, .int (nI t))]) hx hb dX0_balanceOf_47 rfl hl (by decide) rfl (fun ls hl => ?_)
            refine lv_goto (tgt := 54) hx hb dX0_balanceOf_48 (by decide) ?_
            refine lv_iinc (v := (nI (k + 1))) (lv' := [(4, .int (nI (k + 1))), (2, .int (zI ((lo + hi) / 2 + 1))), (5, .int (zI ((lo + hi) / 2))), (3, .int (zI hi)), (0, .ref h), (1, .int (nI t))]) hx hb dX0_balanceOf_54 hl (k := 2) rfl (by exact nI_add _ 1) (by decide) rfl (fun ls hl => ?_)
            refine lv_goto (tgt := 11) hx hb dX0_balanceOf_57 (by decide) ?_
            have hn : (fun z => decide (0 < frc σ t (zI z))) ((lo + hi) / 2) = true := decide_eq_true (Int32.not_le.mp c40)
            exact ih (k + 1) ((lo + hi) / 2 + 1) hi ls (by omega) (by omega) (by omega) h3 (by omega) (by rw [← h5]; exact (bis_up hlt hn).symm) (lv_sub hl [0, 3, 1, 4, 5] rfl)
set_option maxHeartbeats 4000000 in
set_option maxRecDepth 100000 in
/-- driftsWith -/
theorem c_X0_driftsWith (l : Launch) (D : va_G) (cI cZ : ClassId) (h : Nat) (a : Nat → Nat) (σ : St) (H : Heap) {nL nB : Nat} (hI : inv σ nL nB) (t : Nat) (ht48 : t < 48) (s9 : Int32) (hs9 : inS s9) : roM l yX0_driftsWith wsX0_driftsWith ({ frames := 4, cells := 0, slots := 0, locals := 93 }) [.ref h, .int (nI t), .int s9] D (xw cI cZ h a σ) (tyX cI cZ) H (fun r => r = bI (drfW σ t s9)) := by
  refine ro_of (cc := cX0_driftsWith) (maxL := 3) (ret := some .boolean) (by decide) rfl (Nat.le_of_ble_eq_true rfl) ?_
  intro p e s m args below meth c he hH hP hK ls hl
  obtain ⟨hx, hb, hr, hml, hown, hts, hlocks⟩ := he
  have hown : s.vm.findClass RX0 = some m.cls := hown
  have hl : lv_has ls 3 [(0, .ref h), (1, .int (nI t)), (2, .int s9)] := hl
  refine lv_iload_n hx hb dX0_driftsWith_0 rfl (lv_at hl 2 rfl) ?_
  refine lv_sipush (v := 200) hx hb dX0_driftsWith_1 (by decide) ?_
  refine lv_icmp_ne (tgt := 22) hx hb dX0_driftsWith_4 (by decide) (fun c4 => ?_) (fun c4 => ?_)
  · refine lv_iload_n hx hb dX0_driftsWith_22 rfl (lv_at hl 2 rfl) ?_
    refine lv_sipush (v := (-200)) hx hb dX0_driftsWith_23 (by decide) ?_
    refine lv_icmp_ne (tgt := 44) hx hb dX0_driftsWith_26 (by decide) (fun c26 => ?_) (fun c26 => ?_)
    · refine lv_iconst (v := 0) hx hb dX0_driftsWith_44 (by decide) ?_
      exact ro_zret (v := 0) hx hb hr hlocks hH ⟨false, rfl⟩ (by show _ = bI (drfW σ t s9); unfold drfW; rw [decide_eq_false c4, decide_eq_false c26]; rfl) dX0_driftsWith_45
    · refine lv_aload_n hx hb dX0_driftsWith_29 rfl (lv_at hl 0 rfl) ?_
      refine lv_iload_n hx hb dX0_driftsWith_30 rfl (lv_at hl 1 rfl) ?_
      refine lv_iload_n hx hb dX0_driftsWith_31 rfl (lv_at hl 2 rfl) ?_
      refine ro_callV 2 hx hb hml hown hts hl.1 hP hK 0 0 rfl rfl (As := [.int (nI t), .int s9]) (rest := []) (c_X0_forceWith l D cI cZ h a σ H hI t ht48 s9 hs9) gX0_driftsWith_X0_forceWith rfl rfl rfl (by decide +kernel) ⟨Nat.le_of_ble_eq_true rfl, Nat.le_of_ble_eq_true rfl⟩ rfl rfl (Nat.le_of_ble_eq_true rfl) dX0_driftsWith_32 ⟨Nat.zero_le _, Nat.zero_le _⟩ (fun r1 hr1 => ?_)
      subst hr1
      refine lv_if_ge (tgt := 42) hx hb dX0_driftsWith_35 (by decide) (fun c35 => ?_) (fun c35 => ?_)
      · refine lv_iconst (v := 0) hx hb dX0_driftsWith_42 (by decide) ?_
        exact ro_zret (v := 0) hx hb hr hlocks hH ⟨false, rfl⟩ (by show _ = bI (drfW σ t s9); unfold drfW; rw [decide_eq_false c4, decide_eq_true c26, decide_eq_false (Int32.not_lt.mpr c35)]; rfl) dX0_driftsWith_43
      · refine lv_iconst (v := 1) hx hb dX0_driftsWith_38 (by decide) ?_
        refine lv_goto (tgt := 43) hx hb dX0_driftsWith_39 (by decide) ?_
        exact ro_zret (v := 1) hx hb hr hlocks hH ⟨true, rfl⟩ (by show _ = bI (drfW σ t s9); unfold drfW; rw [decide_eq_false c4, decide_eq_true c26, decide_eq_true (Int32.not_le.mp c35)]; rfl) dX0_driftsWith_43
  · have hne : ¬ s9 = -200 := fun q => absurd (c4.symm.trans q) (by decide)
    refine lv_aload_n hx hb dX0_driftsWith_7 rfl (lv_at hl 0 rfl) ?_
    refine lv_iload_n hx hb dX0_driftsWith_8 rfl (lv_at hl 1 rfl) ?_
    refine lv_iload_n hx hb dX0_driftsWith_9 rfl (lv_at hl 2 rfl) ?_
    refine ro_callV 2 hx hb hml hown hts hl.1 hP hK 0 0 rfl rfl (As := [.int (nI t), .int s9]) (rest := []) (c_X0_forceWith l D cI cZ h a σ H hI t ht48 s9 hs9) gX0_driftsWith_X0_forceWith rfl rfl rfl (by decide +kernel) ⟨Nat.le_of_ble_eq_true rfl, Nat.le_of_ble_eq_true rfl⟩ rfl rfl (Nat.le_of_ble_eq_true rfl) dX0_driftsWith_10 ⟨Nat.zero_le _, Nat.zero_le _⟩ (fun r1 hr1 => ?_)
    subst hr1
    refine lv_if_le (tgt := 20) hx hb dX0_driftsWith_13 (by decide) (fun c13 => ?_) (fun c13 => ?_)
    · refine lv_iconst (v := 0) hx hb dX0_driftsWith_20 (by decide) ?_
      exact ro_zret (v := 0) hx hb hr hlocks hH ⟨false, rfl⟩ (by show _ = bI (drfW σ t s9); unfold drfW; rw [decide_eq_true c4, decide_eq_false hne, decide_eq_false (Int32.not_lt.mpr c13)]; rfl) dX0_driftsWith_21
    · refine lv_iconst (v := 1) hx hb dX0_driftsWith_16 (by decide) ?_
      refine lv_goto (tgt := 21) hx hb dX0_driftsWith_17 (by decide) ?_
      exact ro_zret (v := 1) hx hb hr hlocks hH ⟨true, rfl⟩ (by show _ = bI (drfW σ t s9); unfold drfW; rw [decide_eq_true c4, decide_eq_false hne, decide_eq_true (Int32.not_le.mp c13)]; rfl) dX0_driftsWith_21
set_option maxHeartbeats 4000000 in
set_option maxRecDepth 100000 in
/-- bollardTension -/
theorem c_X0_bollardTension (l : Launch) (D : va_G) (cI cZ : ClassId) (h : Nat) (a : Nat → Nat) (σ : St) (H : Heap) {nL nB : Nat} (hI : inv σ nL nB) (b9 : Int32) (t : Nat) (ht48 : t < 48) (s9 : Int32) (hs9 : inS s9) : roM l yX0_bollardTension wsX0_bollardTension ({ frames := 2, cells := 0, slots := 0, locals := 48 }) [.ref h, .int b9, .int (nI t), .int s9] D (xw cI cZ h a σ) (tyX cI cZ) H (fun r => r = sumOn_ σ b9 t s9) := by
  refine ro_of (cc := cX0_bollardTension) (maxL := 6) (ret := some .int) (by decide) rfl (Nat.le_of_ble_eq_true rfl) ?_
  intro p e s m args below meth c he hH hP hK ls hl
  obtain ⟨hx, hb, hr, hml, hown, hts, hlocks⟩ := he
  have hown : s.vm.findClass RX0 = some m.cls := hown
  have hl : lv_has ls 6 [(0, .ref h), (1, .int b9), (2, .int (nI t)), (3, .int s9)] := hl
  have hin : ∀ w ∈ u_ws RX0 TX0 15, w ∈ wsX0_bollardTension := by decide +kernel
  have hL : σ 7 0 = nI nL := hI.1
  have hL10 : nL ≤ 10 := hI.2.1
  refine lv_iconst (v := 0) hx hb dX0_bollardTension_0 (by decide) ?_
  refine lv_istore (lv' := [(4, .int 0), (0, .ref h), (1, .int b9), (2, .int (nI t)), (3, .int s9)]) hx hb dX0_bollardTension_1 hl (by decide) rfl (fun ls hl => ?_)
  refine lv_iconst (v := 0) hx hb dX0_bollardTension_3 (by decide) ?_
  refine lv_istore (lv' := [(5, .int 0), (4, .int 0), (0, .ref h), (1, .int b9), (2, .int (nI t)), (3, .int s9)]) hx hb dX0_bollardTension_4 hl (by decide) rfl (fun ls hl => ?_)
  suffices K : ∀ (n k : Nat) (ls : Array Slot), k + n = nL → lv_has ls 6 [(5, .int (nI k)), (4, .int (acc (fun j => if σ 8 j = b9 then tn_ σ j t s9 else 0) 0 k)), (0, .ref h), (1, .int b9), (2, .int (nI t)), (3, .int s9)] → W p l e _ s m args below meth c H [] 0 0 (roQ below H (fun r => r = sumOn_ σ b9 t s9) args s) (F0 m 6 ls []) by
    exact K nL 0 ls (by omega) (lv_sub hl [0, 1, 2, 3, 4, 5] rfl)
  intro n
  induction n with
  | zero =>
      intro k ls hk hl
      refine lv_iload hx hb dX0_bollardTension_6 (lv_at hl 0 rfl) ?_
      refine lv_aload_n hx hb dX0_bollardTension_8 rfl (lv_at hl 2 rfl) ?_
      refine x_get hin hx hb hts hown hK hP rfl 7 (by decide) (v := .int (nI nL)) (congrArg (fun z => some (Value.int z)) hL) (by decide +kernel) dX0_bollardTension_9 ?_
      refine lv_icmp_ge (tgt := 51) hx hb dX0_bollardTension_12 (by decide) (fun c12 => ?_) (fun c12 => ?_)
      · refine lv_iload hx hb dX0_bollardTension_51 (lv_at hl 1 rfl) ?_
        exact ro_ret (v := (acc (fun j => if σ 8 j = b9 then tn_ σ j t s9 else 0) 0 k)) hx hb hr hlocks hH (by show acc _ _ k = sumOn_ σ b9 t s9; unfold sumOn_; rw [inv_nL hI, show k = nL by omega]) dX0_bollardTension_53
      · exact absurd (nI_le (by omega) (by omega)) c12
  | succ n ih =>
      intro k ls hk hl
      refine lv_iload hx hb dX0_bollardTension_6 (lv_at hl 0 rfl) ?_
      refine lv_aload_n hx hb dX0_bollardTension_8 rfl (lv_at hl 2 rfl) ?_
      refine x_get hin hx hb hts hown hK hP rfl 7 (by decide) (v := .int (nI nL)) (congrArg (fun z => some (Value.int z)) hL) (by decide +kernel) dX0_bollardTension_9 ?_
      refine lv_icmp_ge (tgt := 51) hx hb dX0_bollardTension_12 (by decide) (fun c12 => ?_) (fun c12 => ?_)
      · exact absurd c12 (nI_ge (by omega) (by omega))
      · refine lv_aload_n hx hb dX0_bollardTension_15 rfl (lv_at hl 2 rfl) ?_
        refine x_get hin hx hb hts hown hK hP rfl 8 (by decide) (v := .ref (a 8)) rfl (by decide +kernel) dX0_bollardTension_16 ?_
        refine lv_iload hx hb dX0_bollardTension_19 (lv_at hl 0 rfl) ?_
        refine xa_ld hx hb hK hP 6 0 rfl rfl (j := k) (by omega) (by decide) dX0_bollardTension_21 ?_
        refine lv_iload_n hx hb dX0_bollardTension_22 rfl (lv_at hl 3 rfl) ?_
        refine lv_icmp_ne (tgt := 45) hx hb dX0_bollardTension_23 (by decide) (fun c23 => ?_) (fun c23 => ?_)
        · refine lv_iinc (v := (nI (k + 1))) (lv' := [(5, .int (nI (k + 1))), (4, .int (acc (fun j => if σ 8 j = b9 then tn_ σ j t s9 else 0) 0 k)), (0, .ref h), (1, .int b9), (2, .int (nI t)), (3, .int s9)]) hx hb dX0_bollardTension_45 hl (k := 0) rfl (by exact nI_add _ 1) (by decide) rfl (fun ls hl => ?_)
          refine lv_goto (tgt := 6) hx hb dX0_bollardTension_48 (by decide) ?_
          refine ih (k + 1) ls (by omega) (lv_sub hl [0, 1, 2, 3, 4, 5] ?_)
          have e9 : acc (fun j => if σ 8 j = b9 then tn_ σ j t s9 else 0) 0 (k + 1) = acc (fun j => if σ 8 j = b9 then tn_ σ j t s9 else 0) 0 k := by show acc (fun j => if σ 8 j = b9 then tn_ σ j t s9 else 0) 0 k + (if σ 8 k = b9 then tn_ σ k t s9 else 0) = _; rw [if_neg c23, Int32.add_zero]
          rw [e9]; rfl
        · refine lv_iload hx hb dX0_bollardTension_26 (lv_at hl 1 rfl) ?_
          refine lv_aload_n hx hb dX0_bollardTension_28 rfl (lv_at hl 2 rfl) ?_
          refine lv_iload hx hb dX0_bollardTension_29 (lv_at hl 0 rfl) ?_
          refine lv_aload_n hx hb dX0_bollardTension_31 rfl (lv_at hl 2 rfl) ?_
          refine lv_iload hx hb dX0_bollardTension_32 (lv_at hl 0 rfl) ?_
          refine lv_iload_n hx hb dX0_bollardTension_34 rfl (lv_at hl 4 rfl) ?_
          refine lv_iload_n hx hb dX0_bollardTension_35 rfl (lv_at hl 5 rfl) ?_
          refine ro_callV 3 hx hb hml hown hts hl.1 hP hK 0 0 rfl rfl (As := [.int (nI k), .int (nI t), .int s9]) (rest := [.int (nI k), .ref h, .int (acc (fun j => if σ 8 j = b9 then tn_ σ j t s9 else 0) 0 k)]) (c_X0_lengthWith l D cI cZ h a σ H hI k t (by omega) ht48 s9 hs9) gX0_bollardTension_X0_lengthWith rfl rfl rfl (by decide +kernel) ⟨Nat.le_of_ble_eq_true rfl, Nat.le_of_ble_eq_true rfl⟩ rfl rfl (Nat.le_of_ble_eq_true rfl) dX0_bollardTension_36 ⟨Nat.zero_le _, Nat.zero_le _⟩ (fun r1 hr1 => ?_)
          subst hr1
          refine ro_callV 2 hx hb hml hown hts hl.1 hP hK 0 0 rfl rfl (As := [.int (nI k), .int (len_ σ k t s9)]) (rest := [.int (acc (fun j => if σ 8 j = b9 then tn_ σ j t s9 else 0) 0 k)]) (c_X0_tensionAtLength l D cI cZ h a σ H k (by omega) (len_ σ k t s9)) gX0_bollardTension_X0_tensionAtLength rfl rfl rfl (by decide +kernel) ⟨Nat.le_of_ble_eq_true rfl, Nat.le_of_ble_eq_true rfl⟩ rfl rfl (Nat.le_of_ble_eq_true rfl) dX0_bollardTension_39 ⟨Nat.zero_le _, Nat.zero_le _⟩ (fun r2 hr2 => ?_)
          subst hr2
          refine lv_iadd hx hb dX0_bollardTension_42 ?_
          refine lv_istore (lv' := [(4, .int ((acc (fun j => if σ 8 j = b9 then tn_ σ j t s9 else 0) 0 k) + (tens_ σ k (len_ σ k t s9)))), (5, .int (nI k)), (0, .ref h), (1, .int b9), (2, .int (nI t)), (3, .int s9)]) hx hb dX0_bollardTension_43 hl (by decide) rfl (fun ls hl => ?_)
          refine lv_iinc (v := (nI (k + 1))) (lv' := [(5, .int (nI (k + 1))), (4, .int ((acc (fun j => if σ 8 j = b9 then tn_ σ j t s9 else 0) 0 k) + (tens_ σ k (len_ σ k t s9)))), (0, .ref h), (1, .int b9), (2, .int (nI t)), (3, .int s9)]) hx hb dX0_bollardTension_45 hl (k := 1) rfl (by exact nI_add _ 1) (by decide) rfl (fun ls hl => ?_)
          refine lv_goto (tgt := 6) hx hb dX0_bollardTension_48 (by decide) ?_
          refine ih (k + 1) ls (by omega) (lv_sub hl [0, 1, 2, 3, 4, 5] ?_)
          have e9 : acc (fun j => if σ 8 j = b9 then tn_ σ j t s9 else 0) 0 (k + 1) = acc (fun j => if σ 8 j = b9 then tn_ σ j t s9 else 0) 0 k + tens_ σ k (len_ σ k t s9) := by show acc (fun j => if σ 8 j = b9 then tn_ σ j t s9 else 0) 0 k + (if σ 8 k = b9 then tn_ σ k t s9 else 0) = _; rw [if_pos c23]; rfl
          rw [e9]; rfl
set_option maxHeartbeats 4000000 in
set_option maxRecDepth 100000 in
/-- linesHold -/
theorem c_X0_linesHold (l : Launch) (D : va_G) (cI cZ : ClassId) (h : Nat) (a : Nat → Nat) (σ : St) (H : Heap) {nL nB : Nat} (hI : inv σ nL nB) (t : Nat) (ht48 : t < 48) (s9 : Int32) (hs9 : inS s9) : roM l yX0_linesHold wsX0_linesHold ({ frames := 2, cells := 0, slots := 0, locals := 48 }) [.ref h, .int (nI t), .int s9] D (xw cI cZ h a σ) (tyX cI cZ) H (fun r => r = bI (lnH σ t s9)) := by
  refine ro_of (cc := cX0_linesHold) (maxL := 5) (ret := some .boolean) (by decide) rfl (Nat.le_of_ble_eq_true rfl) ?_
  intro p e s m args below meth c he hH hP hK ls hl
  obtain ⟨hx, hb, hr, hml, hown, hts, hlocks⟩ := he
  have hown : s.vm.findClass RX0 = some m.cls := hown
  have hl : lv_has ls 5 [(0, .ref h), (1, .int (nI t)), (2, .int s9)] := hl
  have hin : ∀ w ∈ u_ws RX0 TX0 15, w ∈ wsX0_linesHold := by decide +kernel
  have hL : σ 7 0 = nI nL := hI.1
  have hL10 : nL ≤ 10 := hI.2.1
  refine lv_iconst (v := 0) hx hb dX0_linesHold_0 (by decide) ?_
  refine lv_istore_n (lv' := [(3, .int 0), (0, .ref h), (1, .int (nI t)), (2, .int s9)]) hx hb dX0_linesHold_1 rfl hl (by decide) rfl (fun ls hl => ?_)
  suffices K : ∀ (n k : Nat) (ls : Array Slot), k + n = nL → allB (fun j => decide (tn_ σ j t s9 * 100 ≤ σ 11 j * 55)) k = true → lv_has ls 5 [(3, .int (nI k)), (0, .ref h), (1, .int (nI t)), (2, .int s9)] → W p l e _ s m args below meth c H [] 0 0 (roQ below H (fun r => r = bI (lnH σ t s9)) args s) (F0 m 2 ls []) by
    exact K nL 0 ls (by omega) rfl (lv_sub hl [0, 1, 2, 3] rfl)
  intro n
  induction n with
  | zero =>
      intro k ls hk hp hl
      refine lv_iload_n hx hb dX0_linesHold_2 rfl (lv_at hl 0 rfl) ?_
      refine lv_aload_n hx hb dX0_linesHold_3 rfl (lv_at hl 1 rfl) ?_
      refine x_get hin hx hb hts hown hK hP rfl 7 (by decide) (v := .int (nI nL)) (congrArg (fun z => some (Value.int z)) hL) (by decide +kernel) dX0_linesHold_4 ?_
      refine lv_icmp_ge (tgt := 49) hx hb dX0_linesHold_7 (by decide) (fun c7 => ?_) (fun c7 => ?_)
      · refine lv_iconst (v := 1) hx hb dX0_linesHold_49 (by decide) ?_
        exact ro_zret (v := 1) hx hb hr hlocks hH ⟨true, rfl⟩ (by show _ = bI (lnH σ t s9); unfold lnH; rw [inv_nL hI, ← show k = nL by omega, hp]; rfl) dX0_linesHold_50
      · exact absurd (nI_le (by omega) (by omega)) c7
  | succ n ih =>
      intro k ls hk hp hl
      refine lv_iload_n hx hb dX0_linesHold_2 rfl (lv_at hl 0 rfl) ?_
      refine lv_aload_n hx hb dX0_linesHold_3 rfl (lv_at hl 1 rfl) ?_
      refine x_get hin hx hb hts hown hK hP rfl 7 (by decide) (v := .int (nI nL)) (congrArg (fun z => some (Value.int z)) hL) (by decide +kernel) dX0_linesHold_4 ?_
      refine lv_icmp_ge (tgt := 49) hx hb dX0_linesHold_7 (by decide) (fun c7 => ?_) (fun c7 => ?_)
      · exact absurd c7 (nI_ge (by omega) (by omega))
      · refine lv_aload_n hx hb dX0_linesHold_10 rfl (lv_at hl 1 rfl) ?_
        refine lv_iload_n hx hb dX0_linesHold_11 rfl (lv_at hl 0 rfl) ?_
        refine lv_aload_n hx hb dX0_linesHold_12 rfl (lv_at hl 1 rfl) ?_
        refine lv_iload_n hx hb dX0_linesHold_13 rfl (lv_at hl 0 rfl) ?_
        refine lv_iload_n hx hb dX0_linesHold_14 rfl (lv_at hl 2 rfl) ?_
        refine lv_iload_n hx hb dX0_linesHold_15 rfl (lv_at hl 3 rfl) ?_
        refine ro_callV 3 hx hb hml hown hts hl.1 hP hK 0 0 rfl rfl (As := [.int (nI k), .int (nI t), .int s9]) (rest := [.int (nI k), .ref h]) (c_X0_lengthWith l D cI cZ h a σ H hI k t (by omega) ht48 s9 hs9) gX0_linesHold_X0_lengthWith rfl rfl rfl (by decide +kernel) ⟨Nat.le_of_ble_eq_true rfl, Nat.le_of_ble_eq_true rfl⟩ rfl rfl (Nat.le_of_ble_eq_true rfl) dX0_linesHold_16 ⟨Nat.zero_le _, Nat.zero_le _⟩ (fun r1 hr1 => ?_)
        subst hr1
        refine ro_callV 2 hx hb hml hown hts hl.1 hP hK 0 0 rfl rfl (As := [.int (nI k), .int (len_ σ k t s9)]) (rest := []) (c_X0_tensionAtLength l D cI cZ h a σ H k (by omega) (len_ σ k t s9)) gX0_linesHold_X0_tensionAtLength rfl rfl rfl (by decide +kernel) ⟨Nat.le_of_ble_eq_true rfl, Nat.le_of_ble_eq_true rfl⟩ rfl rfl (Nat.le_of_ble_eq_true rfl) dX0_linesHold_19 ⟨Nat.zero_le _, Nat.zero_le _⟩ (fun r2 hr2 => ?_)
        subst hr2
        refine lv_istore (lv' := [(4, .int (tens_ σ k (len_ σ k t s9))), (3, .int (nI k)), (0, .ref h), (1, .int (nI t)), (2, .int s9)]) hx hb dX0_linesHold_22 hl (by decide) rfl (fun ls hl => ?_)
        refine lv_iload hx hb dX0_linesHold_24 (lv_at hl 0 rfl) ?_
        refine lv_bipush (v := 100) hx hb dX0_linesHold_26 (by decide) ?_
        refine lv_imul hx hb dX0_linesHold_28 ?_
        refine lv_aload_n hx hb dX0_linesHold_29 rfl (lv_at hl 2 rfl) ?_
        refine x_get hin hx hb hts hown hK hP rfl 11 (by decide) (v := .ref (a 11)) rfl (by decide +kernel) dX0_linesHold_30 ?_
        refine lv_iload_n hx hb dX0_linesHold_33 rfl (lv_at hl 1 rfl) ?_
        refine xa_ld hx hb hK hP 9 0 rfl rfl (j := k) (by omega) (by decide) dX0_linesHold_34 ?_
        refine lv_bipush (v := 55) hx hb dX0_linesHold_35 (by decide) ?_
        refine lv_imul hx hb dX0_linesHold_37 ?_
        refine lv_icmp_le (tgt := 43) hx hb dX0_linesHold_38 (by decide) (fun c38 => ?_) (fun c38 => ?_)
        · refine lv_iinc (v := (nI (k + 1))) (lv' := [(3, .int (nI (k + 1))), (4, .int (tens_ σ k (len_ σ k t s9))), (0, .ref h), (1, .int (nI t)), (2, .int s9)]) hx hb dX0_linesHold_43 hl (k := 1) rfl (by exact nI_add _ 1) (by decide) rfl (fun ls hl => ?_)
          refine lv_goto (tgt := 2) hx hb dX0_linesHold_46 (by decide) ?_
          exact ih (k + 1) ls (by omega) (by show (allB (fun j => decide (tn_ σ j t s9 * 100 ≤ σ 11 j * 55)) k && decide (tn_ σ k t s9 * 100 ≤ σ 11 k * 55)) = true; rw [hp, decide_eq_true (show tn_ σ k t s9 * 100 ≤ σ 11 k * 55 from c38)]; rfl) (lv_sub hl [0, 2, 3, 4] rfl)
        · refine lv_iconst (v := 0) hx hb dX0_linesHold_41 (by decide) ?_
          exact ro_zret (v := 0) hx hb hr hlocks hH ⟨false, rfl⟩ (by show _ = bI (lnH σ t s9); unfold lnH; rw [inv_nL hI, allB_false (j := k) (decide_eq_false (show ¬ tn_ σ k t s9 * 100 ≤ σ 11 k * 55 from c38)) nL (by omega)]; rfl) dX0_linesHold_42
set_option maxHeartbeats 4000000 in
set_option maxRecDepth 100000 in
/-- bollardsHold -/
theorem c_X0_bollardsHold (l : Launch) (D : va_G) (cI cZ : ClassId) (h : Nat) (a : Nat → Nat) (σ : St) (H : Heap) {nL nB : Nat} (hI : inv σ nL nB) (t : Nat) (ht48 : t < 48) (s9 : Int32) (hs9 : inS s9) : roM l yX0_bollardsHold wsX0_bollardsHold ({ frames := 3, cells := 0, slots := 0, locals := 73 }) [.ref h, .int (nI t), .int s9] D (xw cI cZ h a σ) (tyX cI cZ) H (fun r => r = bI (blH σ t s9)) := by
  refine ro_of (cc := cX0_bollardsHold) (maxL := 4) (ret := some .boolean) (by decide) rfl (Nat.le_of_ble_eq_true rfl) ?_
  intro p e s m args below meth c he hH hP hK ls hl
  obtain ⟨hx, hb, hr, hml, hown, hts, hlocks⟩ := he
  have hown : s.vm.findClass RX0 = some m.cls := hown
  have hl : lv_has ls 4 [(0, .ref h), (1, .int (nI t)), (2, .int s9)] := hl
  have hin : ∀ w ∈ u_ws RX0 TX0 15, w ∈ wsX0_bollardsHold := by decide +kernel
  have hB : σ 4 0 = nI nB := hI.2.2.1
  have hB6 : nB ≤ 6 := hI.2.2.2.1
  refine lv_iconst (v := 0) hx hb dX0_bollardsHold_0 (by decide) ?_
  refine lv_istore_n (lv' := [(3, .int 0), (0, .ref h), (1, .int (nI t)), (2, .int s9)]) hx hb dX0_bollardsHold_1 rfl hl (by decide) rfl (fun ls hl => ?_)
  suffices K : ∀ (n k : Nat) (ls : Array Slot), k + n = nB → allB (fun k => decide (sumOn_ σ (nI k) t s9 ≤ σ 6 k)) k = true → lv_has ls 4 [(3, .int (nI k)), (0, .ref h), (1, .int (nI t)), (2, .int s9)] → W p l e _ s m args below meth c H [] 0 0 (roQ below H (fun r => r = bI (blH σ t s9)) args s) (F0 m 2 ls []) by
    exact K nB 0 ls (by omega) rfl (lv_sub hl [0, 1, 2, 3] rfl)
  intro n
  induction n with
  | zero =>
      intro k ls hk hp hl
      refine lv_iload_n hx hb dX0_bollardsHold_2 rfl (lv_at hl 0 rfl) ?_
      refine lv_aload_n hx hb dX0_bollardsHold_3 rfl (lv_at hl 1 rfl) ?_
      refine x_get hin hx hb hts hown hK hP rfl 4 (by decide) (v := .int (nI nB)) (congrArg (fun z => some (Value.int z)) hB) (by decide +kernel) dX0_bollardsHold_4 ?_
      refine lv_icmp_ge (tgt := 34) hx hb dX0_bollardsHold_7 (by decide) (fun c7 => ?_) (fun c7 => ?_)
      · refine lv_iconst (v := 1) hx hb dX0_bollardsHold_34 (by decide) ?_
        exact ro_zret (v := 1) hx hb hr hlocks hH ⟨true, rfl⟩ (by show _ = bI (blH σ t s9); unfold blH; rw [inv_nB hI, ← show k = nB by omega, hp]; rfl) dX0_bollardsHold_35
      · exact absurd (nI_le (by omega) (by omega)) c7
  | succ n ih =>
      intro k ls hk hp hl
      refine lv_iload_n hx hb dX0_bollardsHold_2 rfl (lv_at hl 0 rfl) ?_
      refine lv_aload_n hx hb dX0_bollardsHold_3 rfl (lv_at hl 1 rfl) ?_
      refine x_get hin hx hb hts hown hK hP rfl 4 (by decide) (v := .int (nI nB)) (congrArg (fun z => some (Value.int z)) hB) (by decide +kernel) dX0_bollardsHold_4 ?_
      refine lv_icmp_ge (tgt := 34) hx hb dX0_bollardsHold_7 (by decide) (fun c7 => ?_) (fun c7 => ?_)
      · exact absurd c7 (nI_ge (by omega) (by omega))
      · refine lv_aload_n hx hb dX0_bollardsHold_10 rfl (lv_at hl 1 rfl) ?_
        refine lv_iload_n hx hb dX0_bollardsHold_11 rfl (lv_at hl 0 rfl) ?_
        refine lv_iload_n hx hb dX0_bollardsHold_12 rfl (lv_at hl 2 rfl) ?_
        refine lv_iload_n hx hb dX0_bollardsHold_13 rfl (lv_at hl 3 rfl) ?_
        refine ro_callV 3 hx hb hml hown hts hl.1 hP hK 0 0 rfl rfl (As := [.int (nI k), .int (nI t), .int s9]) (rest := []) (c_X0_bollardTension l D cI cZ h a σ H hI (nI k) t ht48 s9 hs9) gX0_bollardsHold_X0_bollardTension rfl rfl rfl (by decide +kernel) ⟨Nat.le_of_ble_eq_true rfl, Nat.le_of_ble_eq_true rfl⟩ rfl rfl (Nat.le_of_ble_eq_true rfl) dX0_bollardsHold_14 ⟨Nat.zero_le _, Nat.zero_le _⟩ (fun r1 hr1 => ?_)
        subst hr1
        refine lv_aload_n hx hb dX0_bollardsHold_17 rfl (lv_at hl 1 rfl) ?_
        refine x_get hin hx hb hts hown hK hP rfl 6 (by decide) (v := .ref (a 6)) rfl (by decide +kernel) dX0_bollardsHold_18 ?_
        refine lv_iload_n hx hb dX0_bollardsHold_21 rfl (lv_at hl 0 rfl) ?_
        refine xa_ld hx hb hK hP 5 0 rfl rfl (j := k) (by omega) (by decide) dX0_bollardsHold_22 ?_
        refine lv_icmp_le (tgt := 28) hx hb dX0_bollardsHold_23 (by decide) (fun c23 => ?_) (fun c23 => ?_)
        · refine lv_iinc (v := (nI (k + 1))) (lv' := [(3, .int (nI (k + 1))), (0, .ref h), (1, .int (nI t)), (2, .int s9)]) hx hb dX0_bollardsHold_28 hl (k := 0) rfl (by exact nI_add _ 1) (by decide) rfl (fun ls hl => ?_)
          refine lv_goto (tgt := 2) hx hb dX0_bollardsHold_31 (by decide) ?_
          exact ih (k + 1) ls (by omega) (by show (allB (fun k => decide (sumOn_ σ (nI k) t s9 ≤ σ 6 k)) k && decide (sumOn_ σ (nI k) t s9 ≤ σ 6 k)) = true; rw [hp, decide_eq_true c23]; rfl) (lv_sub hl [0, 1, 2, 3] rfl)
        · refine lv_iconst (v := 0) hx hb dX0_bollardsHold_26 (by decide) ?_
          exact ro_zret (v := 0) hx hb hr hlocks hH ⟨false, rfl⟩ (by show _ = bI (blH σ t s9); unfold blH; rw [inv_nB hI, allB_false (j := k) (decide_eq_false c23) nB (by omega)]; rfl) dX0_bollardsHold_27
set_option maxHeartbeats 4000000 in
set_option maxRecDepth 100000 in
/-- holdsIn -/
theorem c_X0_holdsIn (l : Launch) (D : va_G) (cI cZ : ClassId) (h : Nat) (a : Nat → Nat) (σ : St) (H : Heap) {nL nB : Nat} (hI : inv σ nL nB) (t : Nat) (ht48 : t < 48) : roM l yX0_holdsIn wsX0_holdsIn ({ frames := 5, cells := 0, slots := 0, locals := 118 }) [.ref h, .int (nI t)] D (xw cI cZ h a σ) (tyX cI cZ) H (fun r => r = bI (safe_ σ t)) := by
  refine ro_of (cc := cX0_holdsIn) (maxL := 3) (ret := some .boolean) (by decide) rfl (Nat.le_of_ble_eq_true rfl) ?_
  intro p e s m args below meth c he hH hP hK ls hl
  obtain ⟨hx, hb, hr, hml, hown, hts, hlocks⟩ := he
  have hown : s.vm.findClass RX0 = some m.cls := hown
  have hl : lv_has ls 3 [(0, .ref h), (1, .int (nI t))] := hl
  refine lv_aload_n hx hb dX0_holdsIn_0 rfl (lv_at hl 0 rfl) ?_
  refine lv_iload_n hx hb dX0_holdsIn_1 rfl (lv_at hl 1 rfl) ?_
  refine ro_callV 1 hx hb hml hown hts hl.1 hP hK 0 0 rfl rfl (As := [.int (nI t)]) (rest := []) (c_X0_balanceOf l D cI cZ h a σ H hI t ht48) gX0_holdsIn_X0_balanceOf rfl rfl rfl (by decide +kernel) ⟨Nat.le_of_ble_eq_true rfl, Nat.le_of_ble_eq_true rfl⟩ rfl rfl (Nat.le_of_ble_eq_true rfl) dX0_holdsIn_2 ⟨Nat.zero_le _, Nat.zero_le _⟩ (fun r1 hr1 => ?_)
  subst hr1
  refine lv_istore_n (lv' := [(2, .int (bal σ t)), (0, .ref h), (1, .int (nI t))]) hx hb dX0_holdsIn_5 rfl hl (by decide) rfl (fun ls hl => ?_)
  refine lv_aload_n hx hb dX0_holdsIn_6 rfl (lv_at hl 1 rfl) ?_
  refine lv_iload_n hx hb dX0_holdsIn_7 rfl (lv_at hl 2 rfl) ?_
  refine lv_iload_n hx hb dX0_holdsIn_8 rfl (lv_at hl 0 rfl) ?_
  refine ro_callV 2 hx hb hml hown hts hl.1 hP hK 0 0 rfl rfl (As := [.int (nI t), .int (bal σ t)]) (rest := []) (c_X0_driftsWith l D cI cZ h a σ H hI t ht48 (bal σ t) (bal_inS σ t)) gX0_holdsIn_X0_driftsWith rfl rfl rfl (by decide +kernel) ⟨Nat.le_of_ble_eq_true rfl, Nat.le_of_ble_eq_true rfl⟩ rfl rfl (Nat.le_of_ble_eq_true rfl) dX0_holdsIn_9 ⟨Nat.zero_le _, Nat.zero_le _⟩ (fun r2 hr2 => ?_)
  subst hr2
  refine lv_if_ne (tgt := 37) hx hb dX0_holdsIn_12 (by decide) (fun c12 => ?_) (fun c12 => ?_)
  · refine lv_iconst (v := 0) hx hb dX0_holdsIn_37 (by decide) ?_
    exact ro_zret (v := 0) hx hb hr hlocks hH ⟨false, rfl⟩ (by show _ = bI (safe_ σ t); unfold safe_ safeW; rw [bI_t c12]; rfl) dX0_holdsIn_38
  · refine lv_aload_n hx hb dX0_holdsIn_15 rfl (lv_at hl 1 rfl) ?_
    refine lv_iload_n hx hb dX0_holdsIn_16 rfl (lv_at hl 2 rfl) ?_
    refine lv_iload_n hx hb dX0_holdsIn_17 rfl (lv_at hl 0 rfl) ?_
    refine ro_callV 2 hx hb hml hown hts hl.1 hP hK 0 0 rfl rfl (As := [.int (nI t), .int (bal σ t)]) (rest := []) (c_X0_linesHold l D cI cZ h a σ H hI t ht48 (bal σ t) (bal_inS σ t)) gX0_holdsIn_X0_linesHold rfl rfl rfl (by decide +kernel) ⟨Nat.le_of_ble_eq_true rfl, Nat.le_of_ble_eq_true rfl⟩ rfl rfl (Nat.le_of_ble_eq_true rfl) dX0_holdsIn_18 ⟨Nat.zero_le _, Nat.zero_le _⟩ (fun r3 hr3 => ?_)
    subst hr3
    refine lv_if_eq (tgt := 37) hx hb dX0_holdsIn_21 (by decide) (fun c21 => ?_) (fun c21 => ?_)
    · refine lv_iconst (v := 0) hx hb dX0_holdsIn_37 (by decide) ?_
      exact ro_zret (v := 0) hx hb hr hlocks hH ⟨false, rfl⟩ (by show _ = bI (safe_ σ t); unfold safe_ safeW; rw [bI_f c12, bI_f c21]; rfl) dX0_holdsIn_38
    · refine lv_aload_n hx hb dX0_holdsIn_24 rfl (lv_at hl 1 rfl) ?_
      refine lv_iload_n hx hb dX0_holdsIn_25 rfl (lv_at hl 2 rfl) ?_
      refine lv_iload_n hx hb dX0_holdsIn_26 rfl (lv_at hl 0 rfl) ?_
      refine ro_callV 2 hx hb hml hown hts hl.1 hP hK 0 0 rfl rfl (As := [.int (nI t), .int (bal σ t)]) (rest := []) (c_X0_bollardsHold l D cI cZ h a σ H hI t ht48 (bal σ t) (bal_inS σ t)) gX0_holdsIn_X0_bollardsHold rfl rfl rfl (by decide +kernel) ⟨Nat.le_of_ble_eq_true rfl, Nat.le_of_ble_eq_true rfl⟩ rfl rfl (Nat.le_of_ble_eq_true rfl) dX0_holdsIn_27 ⟨Nat.zero_le _, Nat.zero_le _⟩ (fun r4 hr4 => ?_)
      subst hr4
      refine lv_if_eq (tgt := 37) hx hb dX0_holdsIn_30 (by decide) (fun c30 => ?_) (fun c30 => ?_)
      · refine lv_iconst (v := 0) hx hb dX0_holdsIn_37 (by decide) ?_
        exact ro_zret (v := 0) hx hb hr hlocks hH ⟨false, rfl⟩ (by show _ = bI (safe_ σ t); unfold safe_ safeW; rw [bI_f c12, bI_t c21, bI_f c30]; rfl) dX0_holdsIn_38
      · refine lv_iconst (v := 1) hx hb dX0_holdsIn_33 (by decide) ?_
        refine lv_goto (tgt := 38) hx hb dX0_holdsIn_34 (by decide) ?_
        exact ro_zret (v := 1) hx hb hr hlocks hH ⟨true, rfl⟩ (by show _ = bI (safe_ σ t); unfold safe_ safeW; rw [bI_f c12, bI_t c21, bI_t c30]; rfl) dX0_holdsIn_38
end
section
/-! The reference: it answers as a state says that stands beside its own. -/
/-- a MoorWatch's state σ and the reference's state τ -/
def rel (σ τ : St) (nL : Nat) : Prop := (τ 10 = σ 0 ∧ τ 11 = σ 1 ∧ τ 12 = σ 2 ∧ τ 13 0 = σ 3 0 ∧ τ 2 0 = σ 4 0 ∧ τ 0 = σ 5 ∧ τ 1 = σ 6 ∧ τ 9 0 = σ 7 0) ∧ (τ 4 = σ 8 ∧ τ 5 = σ 10 ∧ τ 6 = σ 11 ∧ τ 7 = σ 12) ∧ (∀ j, j < nL → σ 9 j = σ 5 (σ 8 j).toNatClampNeg - τ 3 j) ∧ (∀ j, j < nL → (τ 8 j = 0 ∧ σ 13 j = 1) ∨ (τ 8 j = 1 ∧ σ 13 j = 0)) ∧ (∀ j, nL ≤ j → τ 8 j = 0)
def inR (v lo hi : Int32) : Bool := decide (lo ≤ v) && decide (v ≤ hi)
theorem inR_f1 {v lo hi : Int32} (h : v < lo) : inR v lo hi = false := by unfold inR; rw [decide_eq_false (Int32.not_le.mpr h)]; rfl
theorem inR_f2 {v lo hi : Int32} (h : hi < v) : inR v lo hi = false := by unfold inR; rw [decide_eq_false (Int32.not_le.mpr h)]; exact Bool.and_false _
theorem inR_t {v lo hi : Int32} (h1 : ¬ v < lo) (h2 : ¬ hi < v) : inR v lo hi = true := by unfold inR; rw [decide_eq_true (Int32.not_lt.mp h1), decide_eq_true (Int32.not_lt.mp h2)]; rfl
/-- which answer goes() keeps: 0 none thrown, 1 to 3 the first that does not hold -/
def goK (b1 b2 b3 : Bool) : Int32 := if b1 then (if b2 then (if b3 then 0 else 3) else 2) else 1
set_option maxHeartbeats 4000000 in
set_option maxRecDepth 100000 in
/-- in -/
theorem c_X1_in (l : Launch) (D : va_G) (W0 : va_W) (tys : List (ClassId × FieldType)) (H : Heap) (v lo hi : Int32) : roM l yX1_in wsX1_in ({ frames := 0, cells := 0, slots := 0, locals := 0 }) [.int v, .int lo, .int hi] D W0 tys H (fun r => r = bI (inR v lo hi)) := by
  refine ro_of (cc := cX1_in) (maxL := 3) (ret := some .boolean) (by decide) rfl (Nat.le_of_ble_eq_true rfl) ?_
  intro p e s m args below meth c he hH hP hK ls hl
  obtain ⟨hx, hb, hr, hml, hown, hts, hlocks⟩ := he
  have hown : s.vm.findClass RX1 = some m.cls := hown
  have hl : lv_has ls 3 [(0, .int v), (1, .int lo), (2, .int hi)] := hl
  refine lv_iload_n hx hb dX1_in_0 rfl (lv_at hl 0 rfl) ?_
  refine lv_iload_n hx hb dX1_in_1 rfl (lv_at hl 1 rfl) ?_
  refine lv_icmp_lt (tgt := 14) hx hb dX1_in_2 (by decide) (fun c2 => ?_) (fun c2 => ?_)
  · refine lv_iconst (v := 0) hx hb dX1_in_14 (by decide) ?_
    exact ro_zret (v := 0) hx hb hr hlocks hH ⟨false, rfl⟩ (by rw [inR_f1 c2]; rfl) dX1_in_15
  · refine lv_iload_n hx hb dX1_in_5 rfl (lv_at hl 0 rfl) ?_
    refine lv_iload_n hx hb dX1_in_6 rfl (lv_at hl 2 rfl) ?_
    refine lv_icmp_gt (tgt := 14) hx hb dX1_in_7 (by decide) (fun c7 => ?_) (fun c7 => ?_)
    · refine lv_iconst (v := 0) hx hb dX1_in_14 (by decide) ?_
      exact ro_zret (v := 0) hx hb hr hlocks hH ⟨false, rfl⟩ (by rw [inR_f2 c7]; rfl) dX1_in_15
    · refine lv_iconst (v := 1) hx hb dX1_in_10 (by decide) ?_
      refine lv_goto (tgt := 15) hx hb dX1_in_11 (by decide) ?_
      exact ro_zret (v := 1) hx hb hr hlocks hH ⟨true, rfl⟩ (by rw [inR_t c2 c7]; rfl) dX1_in_15
set_option maxHeartbeats 4000000 in
set_option maxRecDepth 100000 in
/-- isHour -/
theorem c_X1_isHour (l : Launch) (D : va_G) (W0 : va_W) (tys : List (ClassId × FieldType)) (H : Heap) (v : Int32) : roM l yX1_isHour wsX1_isHour ({ frames := 1, cells := 0, slots := 0, locals := 22 }) [.int v] D W0 tys H (fun r => r = bI (inR v 0 47)) := by
  refine ro_of (cc := cX1_isHour) (maxL := 1) (ret := some .boolean) (by decide) rfl (Nat.le_of_ble_eq_true rfl) ?_
  intro p e s m args below meth c he hH hP hK ls hl
  obtain ⟨hx, hb, hr, hml, hown, hts, hlocks⟩ := he
  have hown : s.vm.findClass RX1 = some m.cls := hown
  have hl : lv_has ls 1 [(0, .int v)] := hl
  refine lv_iload_n hx hb dX1_isHour_0 rfl (lv_at hl 0 rfl) ?_
  refine lv_iconst (v := 0) hx hb dX1_isHour_1 (by decide) ?_
  refine lv_bipush (v := 47) hx hb dX1_isHour_2 (by decide) ?_
  refine ro_callS 3 hx hb hml hown hts hl.1 hP hK (As := [.int v, .int 0, .int 47]) (rest := []) (c_X1_in l D W0 tys H v 0 47) gX1_isHour_X1_in rfl rfl rfl (by decide +kernel) ⟨Nat.le_of_ble_eq_true rfl, Nat.le_of_ble_eq_true rfl⟩ rfl rfl (Nat.le_of_ble_eq_true rfl) dX1_isHour_4 ⟨Nat.zero_le _, Nat.zero_le _⟩ (fun r1 hr1 => ?_)
  subst hr1
  exact ro_zret (v := (bI (inR v 0 47))) hx hb hr hlocks hH ⟨_, rfl⟩ rfl dX1_isHour_7
set_option maxHeartbeats 4000000 in
set_option maxRecDepth 100000 in
/-- isLine -/
theorem c_X1_isLine (l : Launch) (D : va_G) (cI cZ : ClassId) (h : Nat) (a : Nat → Nat) (σ τ : St) (H : Heap) {nL nB : Nat} (hI : inv σ nL nB) (hR : rel σ τ nL) (v : Int32) : roM l yX1_isLine wsX1_isLine ({ frames := 1, cells := 0, slots := 0, locals := 22 }) [.ref h, .int v] D (mw cI cZ h a τ) (tyX cI cZ) H (fun r => r = bI (inR v 0 (nI nL - 1))) := by
  refine ro_of (cc := cX1_isLine) (maxL := 2) (ret := some .boolean) (by decide) rfl (Nat.le_of_ble_eq_true rfl) ?_
  intro p e s m args below meth c he hH hP hK ls hl
  obtain ⟨hx, hb, hr, hml, hown, hts, hlocks⟩ := he
  have hown : s.vm.findClass RX1 = some m.cls := hown
  obtain ⟨⟨r10, r11, r12, r13, r2, r0, r1, r9⟩, ⟨r4, r5, r6, r7⟩, r3, r8, r8z⟩ := id hR
  have hL : σ 7 0 = nI nL := hI.1
  have hL10 : nL ≤ 10 := hI.2.1
  have hl : lv_has ls 2 [(0, .ref h), (1, .int v)] := hl
  have hin : ∀ w ∈ u_ws RX1 TX1 16, w ∈ wsX1_isLine := by decide +kernel
  refine lv_iload_n hx hb dX1_isLine_0 rfl (lv_at hl 1 rfl) ?_
  refine lv_iconst (v := 0) hx hb dX1_isLine_1 (by decide) ?_
  refine lv_aload_n hx hb dX1_isLine_2 rfl (lv_at hl 0 rfl) ?_
  refine m_get hin hx hb hts hown hK hP rfl 9 (by decide) (v := .int (nI nL)) (congrArg (fun z => some (Value.int z)) (r9.trans hL)) (by decide +kernel) dX1_isLine_3 ?_
  refine lv_iconst (v := 1) hx hb dX1_isLine_6 (by decide) ?_
  refine lv_isub hx hb dX1_isLine_7 ?_
  refine ro_callS 3 hx hb hml hown hts hl.1 hP hK (As := [.int v, .int 0, .int ((nI nL) - 1)]) (rest := []) (c_X1_in l D (mw cI cZ h a τ) (tyX cI cZ) H v 0 (nI nL - 1)) gX1_isLine_X1_in rfl rfl rfl (by decide +kernel) ⟨Nat.le_of_ble_eq_true rfl, Nat.le_of_ble_eq_true rfl⟩ rfl rfl (Nat.le_of_ble_eq_true rfl) dX1_isLine_8 ⟨Nat.zero_le _, Nat.zero_le _⟩ (fun r1 hr1 => ?_)
  subst hr1
  exact ro_zret (v := (bI (inR v 0 (nI nL - 1)))) hx hb hr hlocks hH ⟨_, rfl⟩ rfl dX1_isLine_11
set_option maxHeartbeats 4000000 in
set_option maxRecDepth 100000 in
/-- root: by halving -/
theorem c_X1_root (l : Launch) (D : va_G) (W0 : va_W) (tys : List (ClassId × FieldType)) (H : Heap) (x y : Int32) (hxA : inA x) (hyH : inH y) : roM l yX1_root wsX1_root ({ frames := 0, cells := 0, slots := 0, locals := 0 }) [.int x, .int y] D W0 tys H (fun r => r = LENs x y) := by
  refine ro_of (cc := cX1_root) (maxL := 6) (ret := some .int) (by decide) rfl (Nat.le_of_ble_eq_true rfl) ?_
  intro p e s m args below meth c he hH hP hK ls hl
  obtain ⟨hx, hb, hr, hml, hown, hts, hlocks⟩ := he
  have hown : s.vm.findClass RX1 = some m.cls := hown
  have hl : lv_has ls 6 [(0, .int x), (1, .int y)] := hl
  refine lv_iload_n hx hb dX1_root_0 rfl (lv_at hl 0 rfl) ?_
  refine lv_iload_n hx hb dX1_root_1 rfl (lv_at hl 0 rfl) ?_
  refine lv_imul hx hb dX1_root_2 ?_
  refine lv_iload_n hx hb dX1_root_3 rfl (lv_at hl 1 rfl) ?_
  refine lv_iload_n hx hb dX1_root_4 rfl (lv_at hl 1 rfl) ?_
  refine lv_imul hx hb dX1_root_5 ?_
  refine lv_iadd hx hb dX1_root_6 ?_
  rw [sq2_eq hxA hyH]
  refine lv_istore_n (lv' := [(2, .int (nI (sq2 x y))), (0, .int x), (1, .int y)]) hx hb dX1_root_7 rfl hl (by decide) rfl (fun ls hl => ?_)
  refine lv_iconst (v := 0) hx hb dX1_root_8 (by decide) ?_
  refine lv_istore_n (lv' := [(3, .int 0), (2, .int (nI (sq2 x y))), (0, .int x), (1, .int y)]) hx hb dX1_root_9 rfl hl (by decide) rfl (fun ls hl => ?_)
  refine lv_sipush (v := 20000) hx hb dX1_root_10 (by decide) ?_
  refine lv_istore (lv' := [(4, .int 20000), (3, .int 0), (2, .int (nI (sq2 x y))), (0, .int x), (1, .int y)]) hx hb dX1_root_13 hl (by decide) rfl (fun ls hl => ?_)
  have hsq := (sq2_le hxA hyH).1
  suffices K : ∀ (n lo hi : Nat) (ls : Array Slot), lo ≤ hi → hi ≤ 20000 → lo * lo ≤ sq2 x y → sq2 x y < (hi + 1) * (hi + 1) → hi - lo < n → lv_has ls 6 [(4, .int (nI hi)), (3, .int (nI lo)), (2, .int (nI (sq2 x y))), (0, .int x), (1, .int y)] → W p l e _ s m args below meth c H [] 0 0 (roQ below H (fun r => r = LENs x y) args s) (F0 m 15 ls []) by
    exact K 20001 0 20000 ls (by omega) (by omega) (Nat.zero_le _) (by have : (20000 + 1) * (20000 + 1) = 400040001 := rfl; omega) (by omega) (lv_sub hl [0, 1, 2, 3, 4] rfl)
  intro n
  induction n with
  | zero =>
      intro lo hi ls h1 h2 h3 h4 h5 hl; exact absurd h5 (by omega)
  | succ n ih =>
      intro lo hi ls h1 h2 h3 h4 h5 hl
      refine lv_iload_n hx hb dX1_root_15 rfl (lv_at hl 1 rfl) ?_
      refine lv_iload hx hb dX1_root_16 (lv_at hl 0 rfl) ?_
      refine lv_icmp_ge (tgt := 55) hx hb dX1_root_18 (by decide) (fun c18 => ?_) (fun c18 => ?_)
      · have hge : lo = hi := by have := (nI_leI (by omega) (by omega)).mp c18; omega
        refine lv_iload_n hx hb dX1_root_55 rfl (lv_at hl 1 rfl) ?_
        exact ro_ret (v := (nI lo)) hx hb hr hlocks hH (by show nI lo = LENs x y; unfold LENs; rw [isq_uniq h3 (by rw [hge]; exact h4)]) dX1_root_56
      · have hlt : lo < hi := Nat.not_le.mp (fun w => c18 ((nI_leI (by omega) (by omega)).mpr w))
        refine lv_iload_n hx hb dX1_root_21 rfl (lv_at hl 1 rfl) ?_
        refine lv_iload hx hb dX1_root_22 (lv_at hl 0 rfl) ?_
        refine lv_iadd hx hb dX1_root_24 ?_
        refine lv_iconst (v := 1) hx hb dX1_root_25 (by decide) ?_
        refine lv_iadd hx hb dX1_root_26 ?_
        refine lv_iconst (v := 2) hx hb dX1_root_27 (by decide) ?_
        rw [nI_add, nI_1]
        refine lv_idiv hx hb dX1_root_28 (by decide) ?_
        rw [show (nI (lo + hi + 1) / 2 : Int32) = nI ((lo + hi + 1) / 2) from pk_div (a := lo + hi + 1) (d := 2) (by omega) (by decide) (by decide)]
        obtain ⟨md, hmd⟩ : ∃ z : Nat, z = (lo + hi + 1) / 2 := ⟨_, rfl⟩
        rw [← hmd]
        refine lv_istore (lv' := [(5, .int (nI md)), (4, .int (nI hi)), (3, .int (nI lo)), (2, .int (nI (sq2 x y))), (0, .int x), (1, .int y)]) hx hb dX1_root_29 hl (by decide) rfl (fun ls hl => ?_)
        refine lv_iload hx hb dX1_root_31 (lv_at hl 0 rfl) ?_
        refine lv_iload hx hb dX1_root_33 (lv_at hl 0 rfl) ?_
        refine lv_imul hx hb dX1_root_35 ?_
        rw [pk_mul]
        have hm : md * md ≤ 20000 * 20000 := Nat.mul_le_mul (by omega) (by omega)
        refine lv_iload_n hx hb dX1_root_36 rfl (lv_at hl 3 rfl) ?_
        refine lv_icmp_gt (tgt := 46) hx hb dX1_root_37 (by decide) (fun c37 => ?_) (fun c37 => ?_)
        · have hgt : sq2 x y < md * md := (nI_ltI (by omega) (by omega)).mp c37
          refine lv_iload hx hb dX1_root_46 (lv_at hl 0 rfl) ?_
          refine lv_iconst (v := 1) hx hb dX1_root_48 (by decide) ?_
          refine lv_isub hx hb dX1_root_49 ?_
          rw [show nI md - 1 = nI (md - 1) from pk_sub (a := md) (b := 1) (by omega)]
          refine lv_istore (lv' := [(4, .int (nI (md - 1))), (5, .int (nI md)), (3, .int (nI lo)), (2, .int (nI (sq2 x y))), (0, .int x), (1, .int y)]) hx hb dX1_root_50 hl (by decide) rfl (fun ls hl => ?_)
          refine lv_goto (tgt := 15) hx hb dX1_root_52 (by decide) ?_
          exact ih lo (md - 1) ls (by omega) (by omega) h3 (by rw [show md - 1 + 1 = md by omega]; exact hgt) (by omega) (lv_sub hl [0, 2, 3, 4, 5] rfl)
        · have hle : md * md ≤ sq2 x y := Nat.not_lt.mp (fun v => c37 ((nI_ltI (by omega) (by omega)).mpr v))
          refine lv_iload hx hb dX1_root_40 (lv_at hl 0 rfl) ?_
          refine lv_istore_n (lv' := [(3, .int (nI md)), (5, .int (nI md)), (4, .int (nI hi)), (2, .int (nI (sq2 x y))), (0, .int x), (1, .int y)]) hx hb dX1_root_42 rfl hl (by decide) rfl (fun ls hl => ?_)
          refine lv_goto (tgt := 52) hx hb dX1_root_43 (by decide) ?_
          refine lv_goto (tgt := 15) hx hb dX1_root_52 (by decide) ?_
          exact ih md hi ls (by omega) h2 hle h4 (by omega) (lv_sub hl [2, 0, 3, 4, 5] rfl)
set_option maxHeartbeats 4000000 in
set_option maxRecDepth 100000 in
/-- away -/
theorem c_X1_away (l : Launch) (D : va_G) (cI cZ : ClassId) (h : Nat) (a : Nat → Nat) (σ τ : St) (H : Heap) {nL nB : Nat} (hI : inv σ nL nB) (hR : rel σ τ nL) (j : Nat) (hj : j < nL) (s9 : Int32) : roM l yX1_away wsX1_away ({ frames := 0, cells := 0, slots := 0, locals := 0 }) [.ref h, .int (nI j), .int s9] D (mw cI cZ h a τ) (tyX cI cZ) H (fun r => r = (σ 9 j - s9)) := by
  refine ro_of (cc := cX1_away) (maxL := 3) (ret := some .int) (by decide) rfl (Nat.le_of_ble_eq_true rfl) ?_
  intro p e s m args below meth c he hH hP hK ls hl
  obtain ⟨hx, hb, hr, hml, hown, hts, hlocks⟩ := he
  have hown : s.vm.findClass RX1 = some m.cls := hown
  obtain ⟨⟨r10, r11, r12, r13, r2, r0, r1, r9⟩, ⟨r4, r5, r6, r7⟩, r3, r8, r8z⟩ := id hR
  have hL : σ 7 0 = nI nL := hI.1
  have hL10 : nL ≤ 10 := hI.2.1
  have hl : lv_has ls 3 [(0, .ref h), (1, .int (nI j)), (2, .int s9)] := hl
  have hin : ∀ w ∈ u_ws RX1 TX1 16, w ∈ wsX1_away := by decide +kernel
  obtain ⟨⟨b, hb6, eb⟩, -⟩ := hI.2.2.2.2.2.2 j hj
  have hB6 : nB ≤ 6 := hI.2.2.2.1
  refine lv_aload_n hx hb dX1_away_0 rfl (lv_at hl 0 rfl) ?_
  refine m_get hin hx hb hts hown hK hP rfl 0 (by decide) (v := .ref (a 0)) rfl (by decide +kernel) dX1_away_1 ?_
  refine lv_aload_n hx hb dX1_away_4 rfl (lv_at hl 0 rfl) ?_
  refine m_get hin hx hb hts hown hK hP rfl 4 (by decide) (v := .ref (a 4)) rfl (by decide +kernel) dX1_away_5 ?_
  refine lv_iload_n hx hb dX1_away_8 rfl (lv_at hl 1 rfl) ?_
  refine xa_ld hx hb hK hP 4 0 rfl rfl (j := j) (by omega) (by decide) dX1_away_9 ?_
  rw [show τ 4 j = (σ 8 j) from congrFun r4 j]
  rw [eb]
  refine xa_ld hx hb hK hP 1 0 rfl rfl (j := b) (by omega) (by decide) dX1_away_10 ?_
  rw [show τ 0 b = (σ 5 b) from congrFun r0 b]
  refine lv_aload_n hx hb dX1_away_11 rfl (lv_at hl 0 rfl) ?_
  refine m_get hin hx hb hts hown hK hP rfl 3 (by decide) (v := .ref (a 3)) rfl (by decide +kernel) dX1_away_12 ?_
  refine lv_iload_n hx hb dX1_away_15 rfl (lv_at hl 1 rfl) ?_
  refine xa_ld hx hb hK hP 3 0 rfl rfl (j := j) (by omega) (by decide) dX1_away_16 ?_
  refine lv_isub hx hb dX1_away_17 ?_
  rw [show σ 5 b - τ 3 j = σ 9 j by rw [r3 j hj, eb, nI_clamp (by omega)]]
  refine lv_iload_n hx hb dX1_away_18 rfl (lv_at hl 2 rfl) ?_
  refine lv_isub hx hb dX1_away_19 ?_
  exact ro_ret (v := ((σ 9 j) - s9)) hx hb hr hlocks hH rfl dX1_away_20
set_option maxHeartbeats 4000000 in
set_option maxRecDepth 100000 in
/-- lengthAt -/
theorem c_X1_lengthAt (l : Launch) (D : va_G) (cI cZ : ClassId) (h : Nat) (a : Nat → Nat) (σ τ : St) (H : Heap) {nL nB : Nat} (hI : inv σ nL nB) (hR : rel σ τ nL) (j t : Nat) (hj : j < nL) (ht48 : t < 48) (s9 : Int32) (hs9 : inS s9) : roM l yX1_lengthAt wsX1_lengthAt ({ frames := 1, cells := 0, slots := 0, locals := 25 }) [.ref h, .int (nI j), .int (nI t), .int s9] D (mw cI cZ h a τ) (tyX cI cZ) H (fun r => r = len_ σ j t s9) := by
  refine ro_of (cc := cX1_lengthAt) (maxL := 4) (ret := some .int) (by decide) rfl (Nat.le_of_ble_eq_true rfl) ?_
  intro p e s m args below meth c he hH hP hK ls hl
  obtain ⟨hx, hb, hr, hml, hown, hts, hlocks⟩ := he
  have hown : s.vm.findClass RX1 = some m.cls := hown
  obtain ⟨⟨r10, r11, r12, r13, r2, r0, r1, r9⟩, ⟨r4, r5, r6, r7⟩, r3, r8, r8z⟩ := id hR
  have hL : σ 7 0 = nI nL := hI.1
  have hL10 : nL ≤ 10 := hI.2.1
  have hl : lv_has ls 4 [(0, .ref h), (1, .int (nI j)), (2, .int (nI t)), (3, .int s9)] := hl
  have hin : ∀ w ∈ u_ws RX1 TX1 16, w ∈ wsX1_lengthAt := by decide +kernel
  refine lv_aload_n hx hb dX1_lengthAt_0 rfl (lv_at hl 0 rfl) ?_
  refine lv_iload_n hx hb dX1_lengthAt_1 rfl (lv_at hl 1 rfl) ?_
  refine lv_iload_n hx hb dX1_lengthAt_2 rfl (lv_at hl 3 rfl) ?_
  refine ro_callV 2 hx hb hml hown hts hl.1 hP hK 0 1 rfl rfl (As := [.int (nI j), .int s9]) (rest := []) (c_X1_away l D cI cZ h a σ τ H hI hR j hj s9) gX1_lengthAt_X1_away rfl rfl rfl (by decide +kernel) ⟨Nat.le_of_ble_eq_true rfl, Nat.le_of_ble_eq_true rfl⟩ rfl rfl (Nat.le_of_ble_eq_true rfl) dX1_lengthAt_3 ⟨Nat.zero_le _, Nat.zero_le _⟩ (fun r1 hr1 => ?_)
  subst hr1
  refine lv_sipush (v := 300) hx hb dX1_lengthAt_6 (by decide) ?_
  refine lv_aload_n hx hb dX1_lengthAt_9 rfl (lv_at hl 0 rfl) ?_
  refine m_get hin hx hb hts hown hK hP rfl 10 (by decide) (v := .ref (a 10)) rfl (by decide +kernel) dX1_lengthAt_10 ?_
  refine lv_iload_n hx hb dX1_lengthAt_13 rfl (lv_at hl 2 rfl) ?_
  refine xa_ld hx hb hK hP 9 0 rfl rfl (j := t) ht48 (by decide) dX1_lengthAt_14 ?_
  rw [show τ 10 t = (σ 0 t) from congrFun r10 t]
  refine lv_iadd hx hb dX1_lengthAt_15 ?_
  refine lv_aload_n hx hb dX1_lengthAt_16 rfl (lv_at hl 0 rfl) ?_
  refine m_get hin hx hb hts hown hK hP rfl 11 (by decide) (v := .ref (a 11)) rfl (by decide +kernel) dX1_lengthAt_17 ?_
  refine lv_iload_n hx hb dX1_lengthAt_20 rfl (lv_at hl 2 rfl) ?_
  refine xa_ld hx hb hK hP 10 0 rfl rfl (j := t) ht48 (by decide) dX1_lengthAt_21 ?_
  rw [show τ 11 t = (σ 1 t) from congrFun r11 t]
  refine lv_iadd hx hb dX1_lengthAt_22 ?_
  rw [show 300 + σ 0 t + σ 1 t = ht σ t from rfl]
  refine ro_callS 2 hx hb hml hown hts hl.1 hP hK (As := [.int (σ 9 j - s9), .int (ht σ t)]) (rest := []) (c_X1_root l D (mw cI cZ h a τ) (tyX cI cZ) H (σ 9 j - s9) (ht σ t) (inv_al hI hj hs9) (inv_ht hI ht48)) gX1_lengthAt_X1_root rfl rfl rfl (by decide +kernel) ⟨Nat.le_of_ble_eq_true rfl, Nat.le_of_ble_eq_true rfl⟩ rfl rfl (Nat.le_of_ble_eq_true rfl) dX1_lengthAt_23 ⟨Nat.zero_le _, Nat.zero_le _⟩ (fun r2 hr2 => ?_)
  subst hr2
  exact ro_ret (v := (LENs (σ 9 j - s9) (ht σ t))) hx hb hr hlocks hH rfl dX1_lengthAt_26
set_option maxHeartbeats 4000000 in
set_option maxRecDepth 100000 in
/-- tensionAt -/
theorem c_X1_tensionAt (l : Launch) (D : va_G) (cI cZ : ClassId) (h : Nat) (a : Nat → Nat) (σ τ : St) (H : Heap) {nL nB : Nat} (hI : inv σ nL nB) (hR : rel σ τ nL) (j t : Nat) (hj : j < nL) (ht48 : t < 48) (s9 : Int32) (hs9 : inS s9) : roM l yX1_tensionAt wsX1_tensionAt ({ frames := 2, cells := 0, slots := 0, locals := 48 }) [.ref h, .int (nI j), .int (nI t), .int s9] D (mw cI cZ h a τ) (tyX cI cZ) H (fun r => r = tn_ σ j t s9) := by
  refine ro_of (cc := cX1_tensionAt) (maxL := 5) (ret := some .int) (by decide) rfl (Nat.le_of_ble_eq_true rfl) ?_
  intro p e s m args below meth c he hH hP hK ls hl
  obtain ⟨hx, hb, hr, hml, hown, hts, hlocks⟩ := he
  have hown : s.vm.findClass RX1 = some m.cls := hown
  obtain ⟨⟨r10, r11, r12, r13, r2, r0, r1, r9⟩, ⟨r4, r5, r6, r7⟩, r3, r8, r8z⟩ := id hR
  have hL : σ 7 0 = nI nL := hI.1
  have hL10 : nL ≤ 10 := hI.2.1
  have hl : lv_has ls 5 [(0, .ref h), (1, .int (nI j)), (2, .int (nI t)), (3, .int s9)] := hl
  have hin : ∀ w ∈ u_ws RX1 TX1 16, w ∈ wsX1_tensionAt := by decide +kernel
  refine lv_aload_n hx hb dX1_tensionAt_0 rfl (lv_at hl 0 rfl) ?_
  refine lv_iload_n hx hb dX1_tensionAt_1 rfl (lv_at hl 1 rfl) ?_
  refine lv_iload_n hx hb dX1_tensionAt_2 rfl (lv_at hl 2 rfl) ?_
  refine lv_iload_n hx hb dX1_tensionAt_3 rfl (lv_at hl 3 rfl) ?_
  refine ro_callV 3 hx hb hml hown hts hl.1 hP hK 0 1 rfl rfl (As := [.int (nI j), .int (nI t), .int s9]) (rest := []) (c_X1_lengthAt l D cI cZ h a σ τ H hI hR j t hj ht48 s9 hs9) gX1_tensionAt_X1_lengthAt rfl rfl rfl (by decide +kernel) ⟨Nat.le_of_ble_eq_true rfl, Nat.le_of_ble_eq_true rfl⟩ rfl rfl (Nat.le_of_ble_eq_true rfl) dX1_tensionAt_4 ⟨Nat.zero_le _, Nat.zero_le _⟩ (fun r1 hr1 => ?_)
  subst hr1
  refine lv_aload_n hx hb dX1_tensionAt_7 rfl (lv_at hl 0 rfl) ?_
  refine m_get hin hx hb hts hown hK hP rfl 7 (by decide) (v := .ref (a 7)) rfl (by decide +kernel) dX1_tensionAt_8 ?_
  refine lv_iload_n hx hb dX1_tensionAt_11 rfl (lv_at hl 1 rfl) ?_
  refine xa_ld hx hb hK hP 7 0 rfl rfl (j := j) (by omega) (by decide) dX1_tensionAt_12 ?_
  rw [show τ 7 j = (σ 12 j) from congrFun r7 j]
  refine lv_isub hx hb dX1_tensionAt_13 ?_
  refine lv_istore (lv' := [(4, .int ((len_ σ j t s9) - (σ 12 j))), (0, .ref h), (1, .int (nI j)), (2, .int (nI t)), (3, .int s9)]) hx hb dX1_tensionAt_14 hl (by decide) rfl (fun ls hl => ?_)
  refine lv_aload_n hx hb dX1_tensionAt_16 rfl (lv_at hl 1 rfl) ?_
  refine m_get hin hx hb hts hown hK hP rfl 8 (by decide) (v := .ref (a 8)) rfl (by decide +kernel) dX1_tensionAt_17 ?_
  refine lv_iload_n hx hb dX1_tensionAt_20 rfl (lv_at hl 2 rfl) ?_
  refine xa_zld hx hb hK hP 8 1 rfl rfl (j := j) (by omega) (by decide) dX1_tensionAt_21 ?_
  refine lv_if_ne (tgt := 30) hx hb dX1_tensionAt_22 (by decide) (fun c22 => ?_) (fun c22 => ?_)
  · have hg : σ 13 j = 0 := by rcases r8 j hj with ⟨q1, _⟩ | ⟨_, q2⟩; exact absurd q1 c22; exact q2
    refine lv_iconst (v := 0) hx hb dX1_tensionAt_30 (by decide) ?_
    refine lv_goto (tgt := 43) hx hb dX1_tensionAt_31 (by decide) ?_
    exact ro_ret (v := 0) hx hb hr hlocks hH (by show _ = tn_ σ j t s9; unfold tn_ tens_; rw [if_pos hg]) dX1_tensionAt_43
  · have hg : ¬ σ 13 j = 0 := by rcases r8 j hj with ⟨_, q2⟩ | ⟨q1, _⟩; rw [q2]; decide; rw [q1] at c22; exact absurd c22 (by decide)
    refine lv_iload hx hb dX1_tensionAt_25 (lv_at hl 0 rfl) ?_
    refine lv_if_ge (tgt := 34) hx hb dX1_tensionAt_27 (by decide) (fun c27 => ?_) (fun c27 => ?_)
    · refine lv_aload_n hx hb dX1_tensionAt_34 rfl (lv_at hl 1 rfl) ?_
      refine m_get hin hx hb hts hown hK hP rfl 5 (by decide) (v := .ref (a 5)) rfl (by decide +kernel) dX1_tensionAt_35 ?_
      refine lv_iload_n hx hb dX1_tensionAt_38 rfl (lv_at hl 2 rfl) ?_
      refine xa_ld hx hb hK hP 5 0 rfl rfl (j := j) (by omega) (by decide) dX1_tensionAt_39 ?_
      rw [show τ 5 j = (σ 10 j) from congrFun r5 j]
      refine lv_iload hx hb dX1_tensionAt_40 (lv_at hl 0 rfl) ?_
      refine lv_imul hx hb dX1_tensionAt_42 ?_
      exact ro_ret (v := ((σ 10 j) * ((len_ σ j t s9) - (σ 12 j)))) hx hb hr hlocks hH (by show _ = tn_ σ j t s9; unfold tn_ tens_; rw [if_neg hg]; by_cases w : 0 < len_ σ j t s9 - σ 12 j; rw [if_pos w]; rw [if_neg w, Int32.le_antisymm (Int32.not_lt.mp w) c27]) dX1_tensionAt_43
    · refine lv_iconst (v := 0) hx hb dX1_tensionAt_30 (by decide) ?_
      refine lv_goto (tgt := 43) hx hb dX1_tensionAt_31 (by decide) ?_
      exact ro_ret (v := 0) hx hb hr hlocks hH (by show _ = tn_ σ j t s9; unfold tn_ tens_; rw [if_neg hg, if_neg (fun w => c27 (Int32.le_of_lt w)), Int32.mul_zero]) dX1_tensionAt_43
set_option maxHeartbeats 4000000 in
set_option maxRecDepth 100000 in
/-- forceAt -/
theorem c_X1_forceAt (l : Launch) (D : va_G) (cI cZ : ClassId) (h : Nat) (a : Nat → Nat) (σ τ : St) (H : Heap) {nL nB : Nat} (hI : inv σ nL nB) (hR : rel σ τ nL) (t : Nat) (ht48 : t < 48) (s9 : Int32) (hs9 : inS s9) : roM l yX1_forceAt wsX1_forceAt ({ frames := 3, cells := 0, slots := 0, locals := 72 }) [.ref h, .int (nI t), .int s9] D (mw cI cZ h a τ) (tyX cI cZ) H (fun r => r = frc σ t s9) := by
  refine ro_of (cc := cX1_forceAt) (maxL := 8) (ret := some .int) (by decide) rfl (Nat.le_of_ble_eq_true rfl) ?_
  intro p e s m args below meth c he hH hP hK ls hl
  obtain ⟨hx, hb, hr, hml, hown, hts, hlocks⟩ := he
  have hown : s.vm.findClass RX1 = some m.cls := hown
  obtain ⟨⟨r10, r11, r12, r13, r2, r0, r1, r9⟩, ⟨r4, r5, r6, r7⟩, r3, r8, r8z⟩ := id hR
  have hL : σ 7 0 = nI nL := hI.1
  have hL10 : nL ≤ 10 := hI.2.1
  have hl : lv_has ls 8 [(0, .ref h), (1, .int (nI t)), (2, .int s9)] := hl
  have hin : ∀ w ∈ u_ws RX1 TX1 16, w ∈ wsX1_forceAt := by decide +kernel
  refine lv_aload_n hx hb dX1_forceAt_0 rfl (lv_at hl 0 rfl) ?_
  refine m_get hin hx hb hts hown hK hP rfl 13 (by decide) (v := .int (σ 3 0)) (congrArg (fun z => some (Value.int z)) r13) (by decide +kernel) dX1_forceAt_1 ?_
  refine lv_aload_n hx hb dX1_forceAt_4 rfl (lv_at hl 0 rfl) ?_
  refine m_get hin hx hb hts hown hK hP rfl 12 (by decide) (v := .ref (a 12)) rfl (by decide +kernel) dX1_forceAt_5 ?_
  refine lv_iload_n hx hb dX1_forceAt_8 rfl (lv_at hl 1 rfl) ?_
  refine xa_ld hx hb hK hP 11 0 rfl rfl (j := t) ht48 (by decide) dX1_forceAt_9 ?_
  rw [show τ 12 t = (σ 2 t) from congrFun r12 t]
  refine lv_iadd hx hb dX1_forceAt_10 ?_
  refine lv_istore_n (lv' := [(3, .int ((σ 3 0) + (σ 2 t))), (0, .ref h), (1, .int (nI t)), (2, .int s9)]) hx hb dX1_forceAt_11 rfl hl (by decide) rfl (fun ls hl => ?_)
  refine lv_iconst (v := 0) hx hb dX1_forceAt_12 (by decide) ?_
  refine lv_istore (lv' := [(4, .int 0), (3, .int ((σ 3 0) + (σ 2 t))), (0, .ref h), (1, .int (nI t)), (2, .int s9)]) hx hb dX1_forceAt_13 hl (by decide) rfl (fun ls hl => ?_)
  suffices K : ∀ (n k : Nat) (ls : Array Slot), k + n = nL → lv_has ls 8 [(4, .int (nI k)), (3, .int (acc (fun j => pull_ σ j t s9) (σ 3 0 + σ 2 t) k)), (0, .ref h), (1, .int (nI t)), (2, .int s9)] → W p l e _ s m args below meth c H [] 0 0 (roQ below H (fun r => r = frc σ t s9) args s) (F0 m 15 ls []) by
    exact K nL 0 ls (by omega) (lv_sub hl [0, 1, 2, 3, 4] rfl)
  intro n
  induction n with
  | zero =>
      intro k ls hk hl
      refine lv_iload hx hb dX1_forceAt_15 (lv_at hl 0 rfl) ?_
      refine lv_aload_n hx hb dX1_forceAt_17 rfl (lv_at hl 2 rfl) ?_
      refine m_get hin hx hb hts hown hK hP rfl 9 (by decide) (v := .int (nI nL)) (congrArg (fun z => some (Value.int z)) (r9.trans hL)) (by decide +kernel) dX1_forceAt_18 ?_
      refine lv_icmp_ge (tgt := 79) hx hb dX1_forceAt_21 (by decide) (fun c21 => ?_) (fun c21 => ?_)
      · refine lv_iload_n hx hb dX1_forceAt_79 rfl (lv_at hl 1 rfl) ?_
        exact ro_ret (v := (acc (fun j => pull_ σ j t s9) (σ 3 0 + σ 2 t) k)) hx hb hr hlocks hH (by show acc _ _ k = frc σ t s9; unfold frc; rw [inv_nL hI, show k = nL by omega]) dX1_forceAt_80
      · exact absurd (nI_le (by omega) (by omega)) c21
  | succ n ih =>
      intro k ls hk hl
      refine lv_iload hx hb dX1_forceAt_15 (lv_at hl 0 rfl) ?_
      refine lv_aload_n hx hb dX1_forceAt_17 rfl (lv_at hl 2 rfl) ?_
      refine m_get hin hx hb hts hown hK hP rfl 9 (by decide) (v := .int (nI nL)) (congrArg (fun z => some (Value.int z)) (r9.trans hL)) (by decide +kernel) dX1_forceAt_18 ?_
      refine lv_icmp_ge (tgt := 79) hx hb dX1_forceAt_21 (by decide) (fun c21 => ?_) (fun c21 => ?_)
      · exact absurd c21 (nI_ge (by omega) (by omega))
      · have hk1 : k < nL := by omega
        refine lv_aload_n hx hb dX1_forceAt_24 rfl (lv_at hl 2 rfl) ?_
        refine lv_iload hx hb dX1_forceAt_25 (lv_at hl 0 rfl) ?_
        refine lv_iload_n hx hb dX1_forceAt_27 rfl (lv_at hl 3 rfl) ?_
        refine lv_iload_n hx hb dX1_forceAt_28 rfl (lv_at hl 4 rfl) ?_
        refine ro_callV 3 hx hb hml hown hts hl.1 hP hK 0 1 rfl rfl (As := [.int (nI k), .int (nI t), .int s9]) (rest := []) (c_X1_lengthAt l D cI cZ h a σ τ H hI hR k t hk1 ht48 s9 hs9) gX1_forceAt_X1_lengthAt rfl rfl rfl (by decide +kernel) ⟨Nat.le_of_ble_eq_true rfl, Nat.le_of_ble_eq_true rfl⟩ rfl rfl (Nat.le_of_ble_eq_true rfl) dX1_forceAt_29 ⟨Nat.zero_le _, Nat.zero_le _⟩ (fun r1 hr1 => ?_)
        subst hr1
        refine lv_istore (lv' := [(5, .int (len_ σ k t s9)), (4, .int (nI k)), (3, .int (acc (fun j => pull_ σ j t s9) (σ 3 0 + σ 2 t) k)), (0, .ref h), (1, .int (nI t)), (2, .int s9)]) hx hb dX1_forceAt_32 hl (by decide) rfl (fun ls hl => ?_)
        refine lv_aload_n hx hb dX1_forceAt_34 rfl (lv_at hl 3 rfl) ?_
        refine lv_iload hx hb dX1_forceAt_35 (lv_at hl 1 rfl) ?_
        refine lv_iload_n hx hb dX1_forceAt_37 rfl (lv_at hl 4 rfl) ?_
        refine lv_iload_n hx hb dX1_forceAt_38 rfl (lv_at hl 5 rfl) ?_
        refine ro_callV 3 hx hb hml hown hts hl.1 hP hK 0 1 rfl rfl (As := [.int (nI k), .int (nI t), .int s9]) (rest := []) (c_X1_tensionAt l D cI cZ h a σ τ H hI hR k t hk1 ht48 s9 hs9) gX1_forceAt_X1_tensionAt rfl rfl rfl (by decide +kernel) ⟨Nat.le_of_ble_eq_true rfl, Nat.le_of_ble_eq_true rfl⟩ rfl rfl (Nat.le_of_ble_eq_true rfl) dX1_forceAt_39 ⟨Nat.zero_le _, Nat.zero_le _⟩ (fun r2 hr2 => ?_)
        subst hr2
        refine lv_i2l hx hb dX1_forceAt_42 rfl ?_
        refine lv_aload_n hx hb dX1_forceAt_43 rfl (lv_at hl 3 rfl) ?_
        refine lv_iload hx hb dX1_forceAt_44 (lv_at hl 1 rfl) ?_
        refine lv_iload_n hx hb dX1_forceAt_46 rfl (lv_at hl 5 rfl) ?_
        refine ro_callV 2 hx hb hml hown hts hl.1 hP hK 0 1 rfl rfl (As := [.int (nI k), .int s9]) (rest := [.long (tn_ σ k t s9).toInt64]) (c_X1_away l D cI cZ h a σ τ H hI hR k hk1 s9) gX1_forceAt_X1_away rfl rfl rfl (by decide +kernel) ⟨Nat.le_of_ble_eq_true rfl, Nat.le_of_ble_eq_true rfl⟩ rfl rfl (Nat.le_of_ble_eq_true rfl) dX1_forceAt_47 ⟨Nat.zero_le _, Nat.zero_le _⟩ (fun r3 hr3 => ?_)
        subst hr3
        refine lv_i2l hx hb dX1_forceAt_50 rfl ?_
        refine lv_lmul hx hb dX1_forceAt_51 ?_
        refine lv_lstore (lv' := [(6, .long ((tn_ σ k t s9).toInt64 * (σ 9 k - s9).toInt64)), (5, .int (len_ σ k t s9)), (4, .int (nI k)), (3, .int (acc (fun j => pull_ σ j t s9) (σ 3 0 + σ 2 t) k)), (0, .ref h), (1, .int (nI t)), (2, .int s9)]) hx hb dX1_forceAt_52 hl (by decide) rfl (fun ls hl => ?_)
        refine lv_iload_n hx hb dX1_forceAt_54 rfl (lv_at hl 3 rfl) ?_
        refine lv_iload hx hb dX1_forceAt_55 (lv_at hl 1 rfl) ?_
        obtain ⟨n9, en, hn9⟩ := inv_len hI hk1 ht48 hs9
        refine lv_if_ne (tgt := 64) hx hb dX1_forceAt_57 (by decide) (fun c57 => ?_) (fun c57 => ?_)
        · have hn0 : ¬ len_ σ k t s9 ≤ 0 := by rw [en] at c57 ⊢; intro v; exact c57 (by have := (nI_leI (a := n9) (b := 0) (by omega) (by omega)).mp v; rw [show n9 = 0 by omega]; rfl)
          have hne : ¬ (len_ σ k t s9).toInt64 = 0 := by
            rw [en] at hn0 ⊢
            rw [nI_l (by omega)]
            intro q
            have q2 := congrArg Int64.toInt q
            rw [lN_toInt (by omega)] at q2
            have q3 : n9 = 0 := by have : (0 : Int64).toInt = 0 := rfl; omega
            subst q3; exact hn0 (by decide)
          refine lv_lload hx hb dX1_forceAt_64 (lv_at hl 0 rfl) ?_
          refine lv_iload hx hb dX1_forceAt_66 (lv_at hl 1 rfl) ?_
          refine lv_i2l hx hb dX1_forceAt_68 rfl ?_
          refine lv_ldiv hx hb dX1_forceAt_69 hne ?_
          refine lv_l2i hx hb dX1_forceAt_70 rfl ?_
          rw [show ((tn_ σ k t s9).toInt64 * (σ 9 k - s9).toInt64 / (len_ σ k t s9).toInt64).toInt32 = pull_ σ k t s9 by unfold pull_; rw [if_neg hn0]]
          refine lv_iadd hx hb dX1_forceAt_71 ?_
          refine lv_istore_n (lv' := [(3, .int ((acc (fun j => pull_ σ j t s9) (σ 3 0 + σ 2 t) k) + (pull_ σ k t s9))), (6, .long ((tn_ σ k t s9).toInt64 * (σ 9 k - s9).toInt64)), (5, .int (len_ σ k t s9)), (4, .int (nI k)), (0, .ref h), (1, .int (nI t)), (2, .int s9)]) hx hb dX1_forceAt_72 rfl hl (by decide) rfl (fun ls hl => ?_)
          refine lv_iinc (v := (nI (k + 1))) (lv' := [(4, .int (nI (k + 1))), (3, .int ((acc (fun j => pull_ σ j t s9) (σ 3 0 + σ 2 t) k) + (pull_ σ k t s9))), (6, .long ((tn_ σ k t s9).toInt64 * (σ 9 k - s9).toInt64)), (5, .int (len_ σ k t s9)), (0, .ref h), (1, .int (nI t)), (2, .int s9)]) hx hb dX1_forceAt_73 hl (k := 3) rfl (by exact nI_add _ 1) (by decide) rfl (fun ls hl => ?_)
          refine lv_goto (tgt := 15) hx hb dX1_forceAt_76 (by decide) ?_
          exact ih (k + 1) ls (by omega) (lv_sub hl [0, 1, 4, 5, 6] rfl)
        · refine lv_iconst (v := 0) hx hb dX1_forceAt_60 (by decide) ?_
          refine lv_goto (tgt := 71) hx hb dX1_forceAt_61 (by decide) ?_
          rw [show (0 : Int32) = pull_ σ k t s9 by unfold pull_; rw [if_pos (by rw [c57]; decide)]]
          refine lv_iadd hx hb dX1_forceAt_71 ?_
          refine lv_istore_n (lv' := [(3, .int ((acc (fun j => pull_ σ j t s9) (σ 3 0 + σ 2 t) k) + (pull_ σ k t s9))), (6, .long ((tn_ σ k t s9).toInt64 * (σ 9 k - s9).toInt64)), (5, .int (len_ σ k t s9)), (4, .int (nI k)), (0, .ref h), (1, .int (nI t)), (2, .int s9)]) hx hb dX1_forceAt_72 rfl hl (by decide) rfl (fun ls hl => ?_)
          refine lv_iinc (v := (nI (k + 1))) (lv' := [(4, .int (nI (k + 1))), (3, .int ((acc (fun j => pull_ σ j t s9) (σ 3 0 + σ 2 t) k) + (pull_ σ k t s9))), (6, .long ((tn_ σ k t s9).toInt64 * (σ 9 k - s9).toInt64)), (5, .int (len_ σ k t s9)), (0, .ref h), (1, .int (nI t)), (2, .int s9)]) hx hb dX1_forceAt_73 hl (k := 3) rfl (by exact nI_add _ 1) (by decide) rfl (fun ls hl => ?_)
          refine lv_goto (tgt := 15) hx hb dX1_forceAt_76 (by decide) ?_
          exact ih (k + 1) ls (by omega) (lv_sub hl [0, 1, 4, 5, 6] rfl)
set_option maxHeartbeats 4000000 in
set_option maxRecDepth 100000 in
/-- shiftAt: halving -/
theorem c_X1_shiftAt (l : Launch) (D : va_G) (cI cZ : ClassId) (h : Nat) (a : Nat → Nat) (σ τ : St) (H : Heap) {nL nB : Nat} (hI : inv σ nL nB) (hR : rel σ τ nL) (t : Nat) (ht48 : t < 48) : roM l yX1_shiftAt wsX1_shiftAt ({ frames := 4, cells := 0, slots := 0, locals := 99 }) [.ref h, .int (nI t)] D (mw cI cZ h a τ) (tyX cI cZ) H (fun r => r = bal σ t) := by
  refine ro_of (cc := cX1_shiftAt) (maxL := 5) (ret := some .int) (by decide) rfl (Nat.le_of_ble_eq_true rfl) ?_
  intro p e s m args below meth c he hH hP hK ls hl
  obtain ⟨hx, hb, hr, hml, hown, hts, hlocks⟩ := he
  have hown : s.vm.findClass RX1 = some m.cls := hown
  obtain ⟨⟨r10, r11, r12, r13, r2, r0, r1, r9⟩, ⟨r4, r5, r6, r7⟩, r3, r8, r8z⟩ := id hR
  have hL : σ 7 0 = nI nL := hI.1
  have hL10 : nL ≤ 10 := hI.2.1
  have hl : lv_has ls 5 [(0, .ref h), (1, .int (nI t))] := hl
  refine lv_sipush (v := (-200)) hx hb dX1_shiftAt_0 (by decide) ?_
  refine lv_istore_n (lv' := [(2, .int (-200)), (0, .ref h), (1, .int (nI t))]) hx hb dX1_shiftAt_3 rfl hl (by decide) rfl (fun ls hl => ?_)
  refine lv_sipush (v := 200) hx hb dX1_shiftAt_4 (by decide) ?_
  refine lv_istore_n (lv' := [(3, .int 200), (2, .int (-200)), (0, .ref h), (1, .int (nI t))]) hx hb dX1_shiftAt_7 rfl hl (by decide) rfl (fun ls hl => ?_)
  suffices K : ∀ (n : Nat) (lo hi : Int) (ls : Array Slot), -200 ≤ lo → lo ≤ hi → hi ≤ 200 → hi - lo < n → bis (fun z => decide (0 < frc σ t (zI z))) n lo hi = balZ σ t → lv_has ls 5 [(3, .int (zI hi)), (2, .int (zI lo)), (0, .ref h), (1, .int (nI t))] → W p l e _ s m args below meth c H [] 0 0 (roQ below H (fun r => r = bal σ t) args s) (F0 m 8 ls []) by
    exact K 401 (-200) 200 ls (by omega) (by omega) (by omega) (by omega) rfl (lv_sub hl [0, 1, 2, 3] rfl)
  intro n
  induction n with
  | zero =>
      intro lo hi ls h1 h2 h3 h4; exact absurd h4 (by omega)
  | succ n ih =>
      intro lo hi ls h1 h2 h3 h4 h5 hl
      refine lv_iload_n hx hb dX1_shiftAt_8 rfl (lv_at hl 1 rfl) ?_
      refine lv_iload_n hx hb dX1_shiftAt_9 rfl (lv_at hl 0 rfl) ?_
      refine lv_icmp_ge (tgt := 52) hx hb dX1_shiftAt_10 (by decide) (fun c10 => ?_) (fun c10 => ?_)
      · have hge : ¬ lo < hi := fun w => absurd ((zI_le (by omega) (by omega) (by omega) (by omega)).mp c10) (by omega)
        refine lv_iload_n hx hb dX1_shiftAt_52 rfl (lv_at hl 1 rfl) ?_
        exact ro_ret (v := (zI lo)) hx hb hr hlocks hH (by show zI lo = bal σ t; unfold bal; rw [← h5, bis_end hge]) dX1_shiftAt_53
      · have hlt : lo < hi := Int.not_le.mp (fun w => c10 ((zI_le (by omega) (by omega) (by omega) (by omega)).mpr w))
        refine lv_iload_n hx hb dX1_shiftAt_13 rfl (lv_at hl 1 rfl) ?_
        refine lv_iload_n hx hb dX1_shiftAt_14 rfl (lv_at hl 0 rfl) ?_
        refine lv_iadd hx hb dX1_shiftAt_15 ?_
        refine lv_sipush (v := 400) hx hb dX1_shiftAt_16 (by decide) ?_
        refine lv_iadd hx hb dX1_shiftAt_19 ?_
        refine lv_iconst (v := 2) hx hb dX1_shiftAt_20 (by decide) ?_
        refine lv_idiv hx hb dX1_shiftAt_21 (by decide) ?_
        refine lv_sipush (v := 200) hx hb dX1_shiftAt_22 (by decide) ?_
        refine lv_isub hx hb dX1_shiftAt_25 ?_
        have hmid : (zI lo + zI hi + 400) / 2 - 200 = zI ((lo + hi) / 2) := by
          have e1 : zI lo + zI hi + 400 = zI (lo + hi + 400) := by rw [zI_add]; exact zI_add _ 400
          have e2 : (zI (lo + hi + 400)).toInt = lo + hi + 400 := zI_ti (by omega) (by omega)
          have e3 : (zI (lo + hi + 400) / 2 : Int32).toInt = (lo + hi + 400).tdiv 2 := by rw [Jvm.Kit.i32_div (by rw [e2]; omega), e2]; rfl
          rw [td2, if_pos (by omega)] at e3
          rw [e1]; apply zI_of
          have e4 : (200 : Int32).toInt = 200 := rfl
          rw [Jvm.Kit.i32_sub (by rw [e3, e4]; omega) (by rw [e3, e4]; omega), e3, e4]; omega
        rw [hmid]
        have hm1 : lo ≤ (lo + hi) / 2 := by omega
        have hm2 : (lo + hi) / 2 < hi := by omega
        have hsm : inS (zI ((lo + hi) / 2)) := by unfold inS; rw [zI_ti (by omega) (by omega)]; omega
        refine lv_istore (lv' := [(4, .int (zI ((lo + hi) / 2))), (3, .int (zI hi)), (2, .int (zI lo)), (0, .ref h), (1, .int (nI t))]) hx hb dX1_shiftAt_26 hl (by decide) rfl (fun ls hl => ?_)
        refine lv_aload_n hx hb dX1_shiftAt_28 rfl (lv_at hl 3 rfl) ?_
        refine lv_iload_n hx hb dX1_shiftAt_29 rfl (lv_at hl 4 rfl) ?_
        refine lv_iload hx hb dX1_shiftAt_30 (lv_at hl 0 rfl) ?_
        refine ro_callV 2 hx hb hml hown hts hl.1 hP hK 0 1 rfl rfl (As := [.int (nI t), .int (zI ((lo + hi) / 2))]) (rest := []) (c_X1_forceAt l D cI cZ h a σ τ H hI hR t ht48 (zI ((lo + hi) / 2)) hsm) gX1_shiftAt_X1_forceAt rfl rfl rfl (by decide +kernel) ⟨Nat.le_of_ble_eq_true rfl, Nat.le_of_ble_eq_true rfl⟩ rfl rfl (Nat.le_of_ble_eq_true rfl) dX1_shiftAt_32 ⟨Nat.zero_le _, Nat.zero_le _⟩ (fun r2 hr2 => ?_)
        subst hr2
        refine lv_if_le (tgt := 46) hx hb dX1_shiftAt_35 (by decide) (fun c35 => ?_) (fun c35 => ?_)
        · refine lv_iload hx hb dX1_shiftAt_46 (lv_at hl 0 rfl) ?_
          refine lv_istore_n (lv' := [(3, .int (zI ((lo + hi) / 2))), (4, .int (zI ((lo + hi) / 2))), (2, .int (zI lo)), (0, .ref h), (1, .int (nI t))]) hx hb dX1_shiftAt_48 rfl hl (by decide) rfl (fun ls hl => ?_)
          refine lv_goto (tgt := 8) hx hb dX1_shiftAt_49 (by decide) ?_
          have hn : ¬ (fun z => decide (0 < frc σ t (zI z))) ((lo + hi) / 2) = true := fun v => absurd c35 (Int32.not_le.mpr (of_decide_eq_true v))
          exact ih lo ((lo + hi) / 2) ls h1 hm1 (by omega) (by omega) (by rw [← h5]; exact (bis_dn hlt hn).symm) (lv_sub hl [0, 2, 3, 4] rfl)
        · refine lv_iload hx hb dX1_shiftAt_38 (lv_at hl 0 rfl) ?_
          refine lv_iconst (v := 1) hx hb dX1_shiftAt_40 (by decide) ?_
          refine lv_iadd hx hb dX1_shiftAt_41 ?_
          rw [show zI ((lo + hi) / 2) + 1 = zI ((lo + hi) / 2 + 1) from zI_add _ 1]
          refine lv_istore_n (lv' := [(2, .int (zI ((lo + hi) / 2 + 1))), (4, .int (zI ((lo + hi) / 2))), (3, .int (zI hi)), (0, .ref h), (1, .int (nI t))]) hx hb dX1_shiftAt_42 rfl hl (by decide) rfl (fun ls hl => ?_)
          refine lv_goto (tgt := 49) hx hb dX1_shiftAt_43 (by decide) ?_
          refine lv_goto (tgt := 8) hx hb dX1_shiftAt_49 (by decide) ?_
          have hn : (fun z => decide (0 < frc σ t (zI z))) ((lo + hi) / 2) = true := decide_eq_true (Int32.not_le.mp c35)
          exact ih ((lo + hi) / 2 + 1) hi ls (by omega) (by omega) h3 (by omega) (by rw [← h5]; exact (bis_up hlt hn).symm) (lv_sub hl [2, 0, 3, 4] rfl)
set_option maxHeartbeats 4000000 in
set_option maxRecDepth 100000 in
/-- drifts -/
theorem c_X1_drifts (l : Launch) (D : va_G) (cI cZ : ClassId) (h : Nat) (a : Nat → Nat) (σ τ : St) (H : Heap) {nL nB : Nat} (hI : inv σ nL nB) (hR : rel σ τ nL) (t : Nat) (ht48 : t < 48) : roM l yX1_drifts wsX1_drifts ({ frames := 5, cells := 0, slots := 0, locals := 123 }) [.ref h, .int (nI t)] D (mw cI cZ h a τ) (tyX cI cZ) H (fun r => r = bI (drfW σ t (bal σ t))) := by
  refine ro_of (cc := cX1_drifts) (maxL := 4) (ret := some .boolean) (by decide) rfl (Nat.le_of_ble_eq_true rfl) ?_
  intro p e s m args below meth c he hH hP hK ls hl
  obtain ⟨hx, hb, hr, hml, hown, hts, hlocks⟩ := he
  have hown : s.vm.findClass RX1 = some m.cls := hown
  obtain ⟨⟨r10, r11, r12, r13, r2, r0, r1, r9⟩, ⟨r4, r5, r6, r7⟩, r3, r8, r8z⟩ := id hR
  have hL : σ 7 0 = nI nL := hI.1
  have hL10 : nL ≤ 10 := hI.2.1
  have hl : lv_has ls 4 [(0, .ref h), (1, .int (nI t))] := hl
  refine lv_aload_n hx hb dX1_drifts_0 rfl (lv_at hl 0 rfl) ?_
  refine lv_iload_n hx hb dX1_drifts_1 rfl (lv_at hl 1 rfl) ?_
  refine ro_callV 1 hx hb hml hown hts hl.1 hP hK 0 1 rfl rfl (As := [.int (nI t)]) (rest := []) (c_X1_shiftAt l D cI cZ h a σ τ H hI hR t ht48) gX1_drifts_X1_shiftAt rfl rfl rfl (by decide +kernel) ⟨Nat.le_of_ble_eq_true rfl, Nat.le_of_ble_eq_true rfl⟩ rfl rfl (Nat.le_of_ble_eq_true rfl) dX1_drifts_2 ⟨Nat.zero_le _, Nat.zero_le _⟩ (fun r1 hr1 => ?_)
  subst hr1
  refine lv_istore_n (lv' := [(2, .int (bal σ t)), (0, .ref h), (1, .int (nI t))]) hx hb dX1_drifts_5 rfl hl (by decide) rfl (fun ls hl => ?_)
  refine lv_aload_n hx hb dX1_drifts_6 rfl (lv_at hl 1 rfl) ?_
  refine lv_iload_n hx hb dX1_drifts_7 rfl (lv_at hl 2 rfl) ?_
  refine lv_iload_n hx hb dX1_drifts_8 rfl (lv_at hl 0 rfl) ?_
  refine ro_callV 2 hx hb hml hown hts hl.1 hP hK 0 1 rfl rfl (As := [.int (nI t), .int (bal σ t)]) (rest := []) (c_X1_forceAt l D cI cZ h a σ τ H hI hR t ht48 (bal σ t) (bal_inS σ t)) gX1_drifts_X1_forceAt rfl rfl rfl (by decide +kernel) ⟨Nat.le_of_ble_eq_true rfl, Nat.le_of_ble_eq_true rfl⟩ rfl rfl (Nat.le_of_ble_eq_true rfl) dX1_drifts_9 ⟨Nat.zero_le _, Nat.zero_le _⟩ (fun r2 hr2 => ?_)
  subst hr2
  refine lv_istore_n (lv' := [(3, .int (frc σ t (bal σ t))), (2, .int (bal σ t)), (0, .ref h), (1, .int (nI t))]) hx hb dX1_drifts_12 rfl hl (by decide) rfl (fun ls hl => ?_)
  refine lv_iload_n hx hb dX1_drifts_13 rfl (lv_at hl 1 rfl) ?_
  refine lv_sipush (v := 200) hx hb dX1_drifts_14 (by decide) ?_
  refine lv_icmp_ne (tgt := 24) hx hb dX1_drifts_17 (by decide) (fun c17 => ?_) (fun c17 => ?_)
  · refine lv_iload_n hx hb dX1_drifts_24 rfl (lv_at hl 1 rfl) ?_
    refine lv_sipush (v := (-200)) hx hb dX1_drifts_25 (by decide) ?_
    refine lv_icmp_ne (tgt := 39) hx hb dX1_drifts_28 (by decide) (fun c28 => ?_) (fun c28 => ?_)
    · refine lv_iconst (v := 0) hx hb dX1_drifts_39 (by decide) ?_
      exact ro_zret (v := 0) hx hb hr hlocks hH ⟨false, rfl⟩ (by show _ = bI (drfW σ t (bal σ t)); unfold drfW; rw [decide_eq_false c17, decide_eq_false c28]; rfl) dX1_drifts_40
    · refine lv_iload_n hx hb dX1_drifts_31 rfl (lv_at hl 0 rfl) ?_
      refine lv_if_ge (tgt := 39) hx hb dX1_drifts_32 (by decide) (fun c32 => ?_) (fun c32 => ?_)
      · refine lv_iconst (v := 0) hx hb dX1_drifts_39 (by decide) ?_
        exact ro_zret (v := 0) hx hb hr hlocks hH ⟨false, rfl⟩ (by show _ = bI (drfW σ t (bal σ t)); unfold drfW; rw [decide_eq_false c17, decide_eq_true c28, decide_eq_false (Int32.not_lt.mpr c32)]; rfl) dX1_drifts_40
      · refine lv_iconst (v := 1) hx hb dX1_drifts_35 (by decide) ?_
        refine lv_goto (tgt := 40) hx hb dX1_drifts_36 (by decide) ?_
        exact ro_zret (v := 1) hx hb hr hlocks hH ⟨true, rfl⟩ (by show _ = bI (drfW σ t (bal σ t)); unfold drfW; rw [decide_eq_false c17, decide_eq_true c28, decide_eq_true (Int32.not_le.mp c32)]; rfl) dX1_drifts_40
  · have hne : ¬ bal σ t = -200 := fun q => absurd (c17.symm.trans q) (by decide)
    refine lv_iload_n hx hb dX1_drifts_20 rfl (lv_at hl 0 rfl) ?_
    refine lv_if_gt (tgt := 35) hx hb dX1_drifts_21 (by decide) (fun c21 => ?_) (fun c21 => ?_)
    · refine lv_iconst (v := 1) hx hb dX1_drifts_35 (by decide) ?_
      refine lv_goto (tgt := 40) hx hb dX1_drifts_36 (by decide) ?_
      exact ro_zret (v := 1) hx hb hr hlocks hH ⟨true, rfl⟩ (by show _ = bI (drfW σ t (bal σ t)); unfold drfW; rw [decide_eq_true c17, decide_eq_true c21]; rfl) dX1_drifts_40
    · refine lv_iload_n hx hb dX1_drifts_24 rfl (lv_at hl 1 rfl) ?_
      refine lv_sipush (v := (-200)) hx hb dX1_drifts_25 (by decide) ?_
      refine lv_icmp_ne (tgt := 39) hx hb dX1_drifts_28 (by decide) (fun c28 => ?_) (fun c28 => ?_)
      · refine lv_iconst (v := 0) hx hb dX1_drifts_39 (by decide) ?_
        exact ro_zret (v := 0) hx hb hr hlocks hH ⟨false, rfl⟩ (by show _ = bI (drfW σ t (bal σ t)); unfold drfW; rw [decide_eq_true c17, decide_eq_false c21, decide_eq_false hne]; rfl) dX1_drifts_40
      · exact absurd c28 hne
set_option maxHeartbeats 4000000 in
set_option maxRecDepth 100000 in
/-- sumOn -/
theorem c_X1_sumOn (l : Launch) (D : va_G) (cI cZ : ClassId) (h : Nat) (a : Nat → Nat) (σ τ : St) (H : Heap) {nL nB : Nat} (hI : inv σ nL nB) (hR : rel σ τ nL) (b9 : Int32) (t : Nat) (ht48 : t < 48) (s9 : Int32) (hs9 : inS s9) : roM l yX1_sumOn wsX1_sumOn ({ frames := 3, cells := 0, slots := 0, locals := 72 }) [.ref h, .int b9, .int (nI t), .int s9] D (mw cI cZ h a τ) (tyX cI cZ) H (fun r => r = sumOn_ σ b9 t s9) := by
  refine ro_of (cc := cX1_sumOn) (maxL := 6) (ret := some .int) (by decide) rfl (Nat.le_of_ble_eq_true rfl) ?_
  intro p e s m args below meth c he hH hP hK ls hl
  obtain ⟨hx, hb, hr, hml, hown, hts, hlocks⟩ := he
  have hown : s.vm.findClass RX1 = some m.cls := hown
  obtain ⟨⟨r10, r11, r12, r13, r2, r0, r1, r9⟩, ⟨r4, r5, r6, r7⟩, r3, r8, r8z⟩ := id hR
  have hL : σ 7 0 = nI nL := hI.1
  have hL10 : nL ≤ 10 := hI.2.1
  have hl : lv_has ls 6 [(0, .ref h), (1, .int b9), (2, .int (nI t)), (3, .int s9)] := hl
  have hin : ∀ w ∈ u_ws RX1 TX1 16, w ∈ wsX1_sumOn := by decide +kernel
  refine lv_iconst (v := 0) hx hb dX1_sumOn_0 (by decide) ?_
  refine lv_istore (lv' := [(4, .int 0), (0, .ref h), (1, .int b9), (2, .int (nI t)), (3, .int s9)]) hx hb dX1_sumOn_1 hl (by decide) rfl (fun ls hl => ?_)
  refine lv_iconst (v := 0) hx hb dX1_sumOn_3 (by decide) ?_
  refine lv_istore (lv' := [(5, .int 0), (4, .int 0), (0, .ref h), (1, .int b9), (2, .int (nI t)), (3, .int s9)]) hx hb dX1_sumOn_4 hl (by decide) rfl (fun ls hl => ?_)
  suffices K : ∀ (n k : Nat) (ls : Array Slot), k + n = nL → lv_has ls 6 [(5, .int (nI k)), (4, .int (acc (fun j => if σ 8 j = b9 then tn_ σ j t s9 else 0) 0 k)), (0, .ref h), (1, .int b9), (2, .int (nI t)), (3, .int s9)] → W p l e _ s m args below meth c H [] 0 0 (roQ below H (fun r => r = sumOn_ σ b9 t s9) args s) (F0 m 6 ls []) by
    exact K nL 0 ls (by omega) (lv_sub hl [0, 1, 2, 3, 4, 5] rfl)
  intro n
  induction n with
  | zero =>
      intro k ls hk hl
      refine lv_iload hx hb dX1_sumOn_6 (lv_at hl 0 rfl) ?_
      refine lv_aload_n hx hb dX1_sumOn_8 rfl (lv_at hl 2 rfl) ?_
      refine m_get hin hx hb hts hown hK hP rfl 9 (by decide) (v := .int (nI nL)) (congrArg (fun z => some (Value.int z)) (r9.trans hL)) (by decide +kernel) dX1_sumOn_9 ?_
      refine lv_icmp_ge (tgt := 49) hx hb dX1_sumOn_12 (by decide) (fun c12 => ?_) (fun c12 => ?_)
      · refine lv_iload hx hb dX1_sumOn_49 (lv_at hl 1 rfl) ?_
        exact ro_ret (v := (acc (fun j => if σ 8 j = b9 then tn_ σ j t s9 else 0) 0 k)) hx hb hr hlocks hH (by show acc _ _ k = sumOn_ σ b9 t s9; unfold sumOn_; rw [inv_nL hI, show k = nL by omega]) dX1_sumOn_51
      · exact absurd (nI_le (by omega) (by omega)) c12
  | succ n ih =>
      intro k ls hk hl
      refine lv_iload hx hb dX1_sumOn_6 (lv_at hl 0 rfl) ?_
      refine lv_aload_n hx hb dX1_sumOn_8 rfl (lv_at hl 2 rfl) ?_
      refine m_get hin hx hb hts hown hK hP rfl 9 (by decide) (v := .int (nI nL)) (congrArg (fun z => some (Value.int z)) (r9.trans hL)) (by decide +kernel) dX1_sumOn_9 ?_
      refine lv_icmp_ge (tgt := 49) hx hb dX1_sumOn_12 (by decide) (fun c12 => ?_) (fun c12 => ?_)
      · exact absurd c12 (nI_ge (by omega) (by omega))
      · refine lv_iload hx hb dX1_sumOn_15 (lv_at hl 1 rfl) ?_
        refine lv_aload_n hx hb dX1_sumOn_17 rfl (lv_at hl 2 rfl) ?_
        refine m_get hin hx hb hts hown hK hP rfl 4 (by decide) (v := .ref (a 4)) rfl (by decide +kernel) dX1_sumOn_18 ?_
        refine lv_iload hx hb dX1_sumOn_21 (lv_at hl 0 rfl) ?_
        refine xa_ld hx hb hK hP 4 0 rfl rfl (j := k) (by omega) (by decide) dX1_sumOn_23 ?_
        rw [show τ 4 k = (σ 8 k) from congrFun r4 k]
        refine lv_iload_n hx hb dX1_sumOn_24 rfl (lv_at hl 3 rfl) ?_
        refine lv_icmp_ne (tgt := 39) hx hb dX1_sumOn_25 (by decide) (fun c25 => ?_) (fun c25 => ?_)
        · refine lv_iconst (v := 0) hx hb dX1_sumOn_39 (by decide) ?_
          refine lv_iadd hx hb dX1_sumOn_40 ?_
          refine lv_istore (lv' := [(4, .int ((acc (fun j => if σ 8 j = b9 then tn_ σ j t s9 else 0) 0 k) + 0)), (5, .int (nI k)), (0, .ref h), (1, .int b9), (2, .int (nI t)), (3, .int s9)]) hx hb dX1_sumOn_41 hl (by decide) rfl (fun ls hl => ?_)
          refine lv_iinc (v := (nI (k + 1))) (lv' := [(5, .int (nI (k + 1))), (4, .int ((acc (fun j => if σ 8 j = b9 then tn_ σ j t s9 else 0) 0 k) + 0)), (0, .ref h), (1, .int b9), (2, .int (nI t)), (3, .int s9)]) hx hb dX1_sumOn_43 hl (k := 1) rfl (by exact nI_add _ 1) (by decide) rfl (fun ls hl => ?_)
          refine lv_goto (tgt := 6) hx hb dX1_sumOn_46 (by decide) ?_
          refine ih (k + 1) ls (by omega) (lv_sub hl [0, 1, 2, 3, 4, 5] ?_)
          have e9 : acc (fun j => if σ 8 j = b9 then tn_ σ j t s9 else 0) 0 (k + 1) = acc (fun j => if σ 8 j = b9 then tn_ σ j t s9 else 0) 0 k + 0 := by show acc (fun j => if σ 8 j = b9 then tn_ σ j t s9 else 0) 0 k + (if σ 8 k = b9 then tn_ σ k t s9 else 0) = _; rw [if_neg c25]
          rw [e9]; rfl
        · refine lv_aload_n hx hb dX1_sumOn_28 rfl (lv_at hl 2 rfl) ?_
          refine lv_iload hx hb dX1_sumOn_29 (lv_at hl 0 rfl) ?_
          refine lv_iload_n hx hb dX1_sumOn_31 rfl (lv_at hl 4 rfl) ?_
          refine lv_iload_n hx hb dX1_sumOn_32 rfl (lv_at hl 5 rfl) ?_
          refine ro_callV 3 hx hb hml hown hts hl.1 hP hK 0 1 rfl rfl (As := [.int (nI k), .int (nI t), .int s9]) (rest := [.int (acc (fun j => if σ 8 j = b9 then tn_ σ j t s9 else 0) 0 k)]) (c_X1_tensionAt l D cI cZ h a σ τ H hI hR k t (by omega) ht48 s9 hs9) gX1_sumOn_X1_tensionAt rfl rfl rfl (by decide +kernel) ⟨Nat.le_of_ble_eq_true rfl, Nat.le_of_ble_eq_true rfl⟩ rfl rfl (Nat.le_of_ble_eq_true rfl) dX1_sumOn_33 ⟨Nat.zero_le _, Nat.zero_le _⟩ (fun r1 hr1 => ?_)
          subst hr1
          refine lv_goto (tgt := 40) hx hb dX1_sumOn_36 (by decide) ?_
          refine lv_iadd hx hb dX1_sumOn_40 ?_
          refine lv_istore (lv' := [(4, .int ((acc (fun j => if σ 8 j = b9 then tn_ σ j t s9 else 0) 0 k) + (tn_ σ k t s9))), (5, .int (nI k)), (0, .ref h), (1, .int b9), (2, .int (nI t)), (3, .int s9)]) hx hb dX1_sumOn_41 hl (by decide) rfl (fun ls hl => ?_)
          refine lv_iinc (v := (nI (k + 1))) (lv' := [(5, .int (nI (k + 1))), (4, .int ((acc (fun j => if σ 8 j = b9 then tn_ σ j t s9 else 0) 0 k) + (tn_ σ k t s9))), (0, .ref h), (1, .int b9), (2, .int (nI t)), (3, .int s9)]) hx hb dX1_sumOn_43 hl (k := 1) rfl (by exact nI_add _ 1) (by decide) rfl (fun ls hl => ?_)
          refine lv_goto (tgt := 6) hx hb dX1_sumOn_46 (by decide) ?_
          refine ih (k + 1) ls (by omega) (lv_sub hl [0, 1, 2, 3, 4, 5] ?_)
          have e9 : acc (fun j => if σ 8 j = b9 then tn_ σ j t s9 else 0) 0 (k + 1) = acc (fun j => if σ 8 j = b9 then tn_ σ j t s9 else 0) 0 k + tn_ σ k t s9 := by show acc (fun j => if σ 8 j = b9 then tn_ σ j t s9 else 0) 0 k + (if σ 8 k = b9 then tn_ σ k t s9 else 0) = _; rw [if_pos c25]
          rw [e9]; rfl
end
section
/-! What writes inside: tending; the reference's goes() and its holds(). -/
theorem va_D_ad {A : Nat → Prop} {W W' : va_W} (h : W.map (fun q => q.1) = W'.map (fun q => q.1)) (hD : va_D A W) : va_D A W' := by
  have key : ∀ (i : Nat) (p : Nat × va_E), W'[i]? = some p → ∃ q, W[i]? = some q ∧ q.1 = p.1 := by
    intro i p hp
    have e := congrArg (fun L => L[i]?) h
    simp only [List.getElem?_map, hp, Option.map_some] at e
    cases hw : W[i]? with
    | none => rw [hw] at e; cases e
    | some q => rw [hw] at e; exact ⟨q, rfl, Option.some.inj e⟩
  refine ⟨fun i j p q hp hq e => ?_, fun k q hk => ?_⟩
  · obtain ⟨p', h1, e1⟩ := key i p hp
    obtain ⟨q', h2, e2⟩ := key j q hq
    exact hD.1 i j p' q' h1 h2 (by rw [e1, e2, e])
  · obtain ⟨q', h1, e1⟩ := key k q hk
    rw [← e1]
    exact hD.2 k q' h1
theorem xD {A : Nat → Prop} {cI cZ : ClassId} {h : Nat} {a : Nat → Nat} {σ σ' : St} (hD : va_D A (xw cI cZ h a σ)) : va_D A (xw cI cZ h a σ') := va_D_ad (W := xw cI cZ h a σ) (W' := xw cI cZ h a σ') rfl hD
theorem mD {A : Nat → Prop} {cI cZ : ClassId} {h : Nat} {a : Nat → Nat} {σ σ' : St} (hD : va_D A (mw cI cZ h a σ)) : va_D A (mw cI cZ h a σ') := va_D_ad (W := mw cI cZ h a σ) (W' := mw cI cZ h a σ') rfl hD
theorem inv_st12 {σ : St} {nL nB : Nat} {f : Nat → Int32} (h : inv σ nL nB) (hf : ∀ j, j < nL → 0 ≤ (f j).toInt ∧ (f j).toInt ≤ 20000) : inv (st σ 12 f) nL nB := by
  obtain ⟨h1, h2, h3, h4, h5, h6, h7⟩ := h
  refine ⟨h1, h2, h3, h4, h5, h6, fun j hj => ?_⟩
  obtain ⟨a1, a2, a3, a4, a5, a6⟩ := h7 j hj
  exact ⟨a1, a2, a3, a4, hf j hj, a6⟩
theorem td_in {σ : St} {nL nB : Nat} (h : inv σ nL nB) {t : Nat} (ht48 : t < 48) {s : Int32} (hs : inS s) (n : Nat) : ∀ j, j < nL → 0 ≤ (tdS σ t s n j).toInt ∧ (tdS σ t s n j).toInt ≤ 20000 := by
  intro j hj
  obtain ⟨-, -, -, -, ⟨z1, z2⟩, -⟩ := h.2.2.2.2.2.2 j hj
  rcases Nat.lt_or_ge j n with q | q
  · rw [tdS_lo n j q]
    by_cases w : σ 13 j = 0
    · rw [if_pos w]; exact ⟨z1, z2⟩
    · rw [if_neg w]
      obtain ⟨k, ek, hk⟩ := inv_len h hj ht48 hs
      rw [ek, nI_ti (by omega)]
      omega
  · rw [tdS_hi n j q]; exact ⟨z1, z2⟩
theorem inv_td {σ : St} {nL nB : Nat} (h : inv σ nL nB) {t : Nat} (ht48 : t < 48) {s : Int32} (hs : inS s) (n : Nat) : inv (st σ 12 (tdS σ t s n)) nL nB := inv_st12 h (td_in h ht48 hs n)
theorem inv_tnd {σ : St} {nL nB : Nat} (h : inv σ nL nB) {t : Nat} (ht48 : t < 48) : inv (tnd σ t) nL nB := inv_td h ht48 (bal_inS σ t) _
theorem rel_st12 {σ τ : St} {nL : Nat} (f : Nat → Int32) (h : rel σ τ nL) : rel (st σ 12 f) (st τ 7 f) nL := by
  obtain ⟨h1, ⟨r4, r5, r6, r7⟩, r3, r8, r8z⟩ := h
  exact ⟨h1, ⟨r4, r5, r6, rfl⟩, r3, r8, r8z⟩
theorem rel_15 {σ τ : St} {nL : Nat} (f : Nat → Int32) (h : rel σ τ nL) : rel σ (st τ 15 f) nL := h
theorem long_le {x y : Int32} (h1 : 0 ≤ x.toInt ∧ x.toInt ≤ 1022400) (h2 : 1 ≤ y.toInt ∧ y.toInt ≤ 1000000) : ((55 : Int64) * y.toInt64 < (100 : Int64) * x.toInt64) ↔ ¬ x * 100 ≤ y * 55 := by
  have e1 : (55 : Int64).toInt = 55 := rfl
  have e2 : (100 : Int64).toInt = 100 := rfl
  have e3 : (55 : Int32).toInt = 55 := rfl
  have e4 : (100 : Int32).toInt = 100 := rfl
  have a1 : ((55 : Int64) * y.toInt64).toInt = 55 * y.toInt := by rw [Jvm.Kit.i64_mul (by rw [e1, Int32.toInt_toInt64]; omega) (by rw [e1, Int32.toInt_toInt64]; omega), e1, Int32.toInt_toInt64]
  have a2 : ((100 : Int64) * x.toInt64).toInt = 100 * x.toInt := by rw [Jvm.Kit.i64_mul (by rw [e2, Int32.toInt_toInt64]; omega) (by rw [e2, Int32.toInt_toInt64]; omega), e2, Int32.toInt_toInt64]
  have a3 : (y * 55).toInt = y.toInt * 55 := by rw [Jvm.Kit.i32_mul (by rw [e3]; omega) (by rw [e3]; omega), e3]
  have a4 : (x * 100).toInt = x.toInt * 100 := by rw [Jvm.Kit.i32_mul (by rw [e4]; omega) (by rw [e4]; omega), e4]
  rw [Int64.lt_iff_toInt_lt, i_le, a1, a2, a3, a4]
  omega
set_option maxHeartbeats 4000000 in
set_option maxRecDepth 100000 in
/-- holds -/
theorem c_X1_holds (l : Launch) (D : va_G) (cI cZ : ClassId) (h : Nat) (a : Nat → Nat) (σ τ : St) (H : Heap) {nL nB : Nat} (hI : inv σ nL nB) (hR : rel σ τ nL) (t : Nat) (ht48 : t < 48) : roM l yX1_holds wsX1_holds ({ frames := 6, cells := 0, slots := 0, locals := 146 }) [.ref h, .int (nI t)] D (mw cI cZ h a τ) (tyX cI cZ) H (fun r => r = bI (safe_ σ t)) := by
  refine ro_of (cc := cX1_holds) (maxL := 5) (ret := some .boolean) (by decide) rfl (Nat.le_of_ble_eq_true rfl) ?_
  intro p e s m args below meth c he hH hP hK ls hl
  obtain ⟨hx, hb, hr, hml, hown, hts, hlocks⟩ := he
  have hown : s.vm.findClass RX1 = some m.cls := hown
  obtain ⟨⟨r10, r11, r12, r13, r2, r0, r1, r9⟩, ⟨r4, r5, r6, r7⟩, r3, r8, r8z⟩ := id hR
  have hL : σ 7 0 = nI nL := hI.1
  have hL10 : nL ≤ 10 := hI.2.1
  have hl : lv_has ls 5 [(0, .ref h), (1, .int (nI t))] := hl
  have hin : ∀ w ∈ u_ws RX1 TX1 16, w ∈ wsX1_holds := by decide +kernel
  have hs9 := bal_inS σ t
  have hB6 : nB ≤ 6 := hI.2.2.2.1
  refine lv_aload_n hx hb dX1_holds_0 rfl (lv_at hl 0 rfl) ?_
  refine lv_iload_n hx hb dX1_holds_1 rfl (lv_at hl 1 rfl) ?_
  refine ro_callV 1 hx hb hml hown hts hl.1 hP hK 0 1 rfl rfl (As := [.int (nI t)]) (rest := []) (c_X1_shiftAt l D cI cZ h a σ τ H hI hR t ht48) gX1_holds_X1_shiftAt rfl rfl rfl (by decide +kernel) ⟨Nat.le_of_ble_eq_true rfl, Nat.le_of_ble_eq_true rfl⟩ rfl rfl (Nat.le_of_ble_eq_true rfl) dX1_holds_2 ⟨Nat.zero_le _, Nat.zero_le _⟩ (fun r1 hr1 => ?_)
  subst hr1
  refine lv_istore_n (lv' := [(2, .int (bal σ t)), (0, .ref h), (1, .int (nI t))]) hx hb dX1_holds_5 rfl hl (by decide) rfl (fun ls hl => ?_)
  refine lv_aload_n hx hb dX1_holds_6 rfl (lv_at hl 1 rfl) ?_
  refine lv_iload_n hx hb dX1_holds_7 rfl (lv_at hl 2 rfl) ?_
  refine ro_callV 1 hx hb hml hown hts hl.1 hP hK 0 1 rfl rfl (As := [.int (nI t)]) (rest := []) (c_X1_drifts l D cI cZ h a σ τ H hI hR t ht48) gX1_holds_X1_drifts rfl rfl rfl (by decide +kernel) ⟨Nat.le_of_ble_eq_true rfl, Nat.le_of_ble_eq_true rfl⟩ rfl rfl (Nat.le_of_ble_eq_true rfl) dX1_holds_8 ⟨Nat.zero_le _, Nat.zero_le _⟩ (fun r2 hr2 => ?_)
  subst hr2
  have K2 : ∀ (n k : Nat) (ls : Array Slot), k + n = nB → lv_has ls 5 [(4, .int (nI k)), (3, .int (bI (!drfW σ t (bal σ t) && (allB (fun j => decide (tn_ σ j t (bal σ t) * 100 ≤ σ 11 j * 55)) nL && allB (fun k => decide (sumOn_ σ (nI k) t (bal σ t) ≤ σ 6 k)) k)))), (2, .int (bal σ t)), (0, .ref h), (1, .int (nI t))] → W p l e ({ frames := 6, cells := 0, slots := 0, locals := 146 } : Room) s m args below meth c H [] 0 0 (roQ below H (fun r => r = bI (safe_ σ t)) args s) (F0 m 80 ls []) := by
    intro n
    induction n with
    | zero =>
      intro k ls hk hl
      refine lv_iload hx hb dX1_holds_80 (lv_at hl 0 rfl) ?_
      refine lv_aload_n hx hb dX1_holds_82 rfl (lv_at hl 3 rfl) ?_
      refine m_get hin hx hb hts hown hK hP rfl 2 (by decide) (v := .int (nI nB)) (congrArg (fun z => some (Value.int z)) (r2.trans hI.2.2.1)) (by decide +kernel) dX1_holds_83 ?_
      refine lv_icmp_ge (tgt := 123) hx hb dX1_holds_86 (by decide) (fun c86 => ?_) (fun c86 => ?_)
      · refine lv_iload_n hx hb dX1_holds_123 rfl (lv_at hl 1 rfl) ?_
        exact ro_zret (v := (bI (!drfW σ t (bal σ t) && (allB (fun j => decide (tn_ σ j t (bal σ t) * 100 ≤ σ 11 j * 55)) nL && allB (fun k => decide (sumOn_ σ (nI k) t (bal σ t) ≤ σ 6 k)) k)))) hx hb hr hlocks hH ⟨_, rfl⟩ (by show _ = bI (safe_ σ t); unfold safe_ safeW lnH blH; rw [inv_nL hI, inv_nB hI, show k = nB by omega]) dX1_holds_124
      · exact absurd (nI_le (by omega) (by omega)) c86
    | succ n ih =>
      intro k ls hk hl
      refine lv_iload hx hb dX1_holds_80 (lv_at hl 0 rfl) ?_
      refine lv_aload_n hx hb dX1_holds_82 rfl (lv_at hl 3 rfl) ?_
      refine m_get hin hx hb hts hown hK hP rfl 2 (by decide) (v := .int (nI nB)) (congrArg (fun z => some (Value.int z)) (r2.trans hI.2.2.1)) (by decide +kernel) dX1_holds_83 ?_
      refine lv_icmp_ge (tgt := 123) hx hb dX1_holds_86 (by decide) (fun c86 => ?_) (fun c86 => ?_)
      · exact absurd c86 (nI_ge (by omega) (by omega))
      · refine lv_iload_n hx hb dX1_holds_89 rfl (lv_at hl 1 rfl) ?_
        refine lv_if_eq (tgt := 115) hx hb dX1_holds_90 (by decide) (fun c90 => ?_) (fun c90 => ?_)
        · refine lv_iconst (v := 0) hx hb dX1_holds_115 (by decide) ?_
          rw [show (0 : Int32) = bI (!drfW σ t (bal σ t) && (allB (fun j => decide (tn_ σ j t (bal σ t) * 100 ≤ σ 11 j * 55)) nL && allB (fun k => decide (sumOn_ σ (nI k) t (bal σ t) ≤ σ 6 k)) (k + 1))) by
            show _ = bI (!drfW σ t (bal σ t) && (allB (fun j => decide (tn_ σ j t (bal σ t) * 100 ≤ σ 11 j * 55)) nL && (allB (fun k => decide (sumOn_ σ (nI k) t (bal σ t) ≤ σ 6 k)) k && decide (sumOn_ σ (nI k) t (bal σ t) ≤ σ 6 k))))
            rw [← Bool.and_assoc (allB _ _) (allB _ _), ← Bool.and_assoc, bI_f c90]; rfl]
          refine lv_istore_n (lv' := [(3, .int (bI (!drfW σ t (bal σ t) && (allB (fun j => decide (tn_ σ j t (bal σ t) * 100 ≤ σ 11 j * 55)) nL && allB (fun k => decide (sumOn_ σ (nI k) t (bal σ t) ≤ σ 6 k)) (k + 1))))), (4, .int (nI k)), (2, .int (bal σ t)), (0, .ref h), (1, .int (nI t))]) hx hb dX1_holds_116 rfl hl (by decide) rfl (fun ls hl => ?_)
          refine lv_iinc (v := (nI (k + 1))) (lv' := [(4, .int (nI (k + 1))), (3, .int (bI (!drfW σ t (bal σ t) && (allB (fun j => decide (tn_ σ j t (bal σ t) * 100 ≤ σ 11 j * 55)) nL && allB (fun k => decide (sumOn_ σ (nI k) t (bal σ t) ≤ σ 6 k)) (k + 1))))), (2, .int (bal σ t)), (0, .ref h), (1, .int (nI t))]) hx hb dX1_holds_117 hl (k := 1) rfl (by exact nI_add _ 1) (by decide) rfl (fun ls hl => ?_)
          refine lv_goto (tgt := 80) hx hb dX1_holds_120 (by decide) ?_
          exact ih (k + 1) ls (by omega) (lv_sub hl [0, 1, 2, 3, 4] rfl)
        · refine lv_aload_n hx hb dX1_holds_93 rfl (lv_at hl 3 rfl) ?_
          refine lv_iload hx hb dX1_holds_94 (lv_at hl 0 rfl) ?_
          refine lv_iload_n hx hb dX1_holds_96 rfl (lv_at hl 4 rfl) ?_
          refine lv_iload_n hx hb dX1_holds_97 rfl (lv_at hl 2 rfl) ?_
          refine ro_callV 3 hx hb hml hown hts hl.1 hP hK 0 1 rfl rfl (As := [.int (nI k), .int (nI t), .int (bal σ t)]) (rest := []) (c_X1_sumOn l D cI cZ h a σ τ H hI hR (nI k) t ht48 (bal σ t) hs9) gX1_holds_X1_sumOn rfl rfl rfl (by decide +kernel) ⟨Nat.le_of_ble_eq_true rfl, Nat.le_of_ble_eq_true rfl⟩ rfl rfl (Nat.le_of_ble_eq_true rfl) dX1_holds_98 ⟨Nat.zero_le _, Nat.zero_le _⟩ (fun r3 hr3 => ?_)
          subst hr3
          refine lv_aload_n hx hb dX1_holds_101 rfl (lv_at hl 3 rfl) ?_
          refine m_get hin hx hb hts hown hK hP rfl 1 (by decide) (v := .ref (a 1)) rfl (by decide +kernel) dX1_holds_102 ?_
          refine lv_iload hx hb dX1_holds_105 (lv_at hl 0 rfl) ?_
          refine xa_ld hx hb hK hP 2 0 rfl rfl (j := k) (by omega) (by decide) dX1_holds_107 ?_
          rw [show τ 1 k = (σ 6 k) from congrFun r1 k]
          refine lv_icmp_gt (tgt := 115) hx hb dX1_holds_108 (by decide) (fun c108 => ?_) (fun c108 => ?_)
          · refine lv_iconst (v := 0) hx hb dX1_holds_115 (by decide) ?_
            rw [show (0 : Int32) = bI (!drfW σ t (bal σ t) && (allB (fun j => decide (tn_ σ j t (bal σ t) * 100 ≤ σ 11 j * 55)) nL && allB (fun k => decide (sumOn_ σ (nI k) t (bal σ t) ≤ σ 6 k)) (k + 1))) by
              show _ = bI (!drfW σ t (bal σ t) && (allB (fun j => decide (tn_ σ j t (bal σ t) * 100 ≤ σ 11 j * 55)) nL && (allB (fun k => decide (sumOn_ σ (nI k) t (bal σ t) ≤ σ 6 k)) k && decide (sumOn_ σ (nI k) t (bal σ t) ≤ σ 6 k))))
              rw [decide_eq_false (Int32.not_le.mpr c108), Bool.and_false, Bool.and_false, Bool.and_false]; rfl]
            refine lv_istore_n (lv' := [(3, .int (bI (!drfW σ t (bal σ t) && (allB (fun j => decide (tn_ σ j t (bal σ t) * 100 ≤ σ 11 j * 55)) nL && allB (fun k => decide (sumOn_ σ (nI k) t (bal σ t) ≤ σ 6 k)) (k + 1))))), (4, .int (nI k)), (2, .int (bal σ t)), (0, .ref h), (1, .int (nI t))]) hx hb dX1_holds_116 rfl hl (by decide) rfl (fun ls hl => ?_)
            refine lv_iinc (v := (nI (k + 1))) (lv' := [(4, .int (nI (k + 1))), (3, .int (bI (!drfW σ t (bal σ t) && (allB (fun j => decide (tn_ σ j t (bal σ t) * 100 ≤ σ 11 j * 55)) nL && allB (fun k => decide (sumOn_ σ (nI k) t (bal σ t) ≤ σ 6 k)) (k + 1))))), (2, .int (bal σ t)), (0, .ref h), (1, .int (nI t))]) hx hb dX1_holds_117 hl (k := 1) rfl (by exact nI_add _ 1) (by decide) rfl (fun ls hl => ?_)
            refine lv_goto (tgt := 80) hx hb dX1_holds_120 (by decide) ?_
            exact ih (k + 1) ls (by omega) (lv_sub hl [0, 1, 2, 3, 4] rfl)
          · refine lv_iconst (v := 1) hx hb dX1_holds_111 (by decide) ?_
            refine lv_goto (tgt := 116) hx hb dX1_holds_112 (by decide) ?_
            rw [show (1 : Int32) = bI (!drfW σ t (bal σ t) && (allB (fun j => decide (tn_ σ j t (bal σ t) * 100 ≤ σ 11 j * 55)) nL && allB (fun k => decide (sumOn_ σ (nI k) t (bal σ t) ≤ σ 6 k)) (k + 1))) by
              show _ = bI (!drfW σ t (bal σ t) && (allB (fun j => decide (tn_ σ j t (bal σ t) * 100 ≤ σ 11 j * 55)) nL && (allB (fun k => decide (sumOn_ σ (nI k) t (bal σ t) ≤ σ 6 k)) k && decide (sumOn_ σ (nI k) t (bal σ t) ≤ σ 6 k))))
              rw [← Bool.and_assoc (allB _ _) (allB _ _), ← Bool.and_assoc, bI_t c90, decide_eq_true (Int32.not_lt.mp c108)]; rfl]
            refine lv_istore_n (lv' := [(3, .int (bI (!drfW σ t (bal σ t) && (allB (fun j => decide (tn_ σ j t (bal σ t) * 100 ≤ σ 11 j * 55)) nL && allB (fun k => decide (sumOn_ σ (nI k) t (bal σ t) ≤ σ 6 k)) (k + 1))))), (4, .int (nI k)), (2, .int (bal σ t)), (0, .ref h), (1, .int (nI t))]) hx hb dX1_holds_116 rfl hl (by decide) rfl (fun ls hl => ?_)
            refine lv_iinc (v := (nI (k + 1))) (lv' := [(4, .int (nI (k + 1))), (3, .int (bI (!drfW σ t (bal σ t) && (allB (fun j => decide (tn_ σ j t (bal σ t) * 100 ≤ σ 11 j * 55)) nL && allB (fun k => decide (sumOn_ σ (nI k) t (bal σ t) ≤ σ 6 k)) (k + 1))))), (2, .int (bal σ t)), (0, .ref h), (1, .int (nI t))]) hx hb dX1_holds_117 hl (k := 1) rfl (by exact nI_add _ 1) (by decide) rfl (fun ls hl => ?_)
            refine lv_goto (tgt := 80) hx hb dX1_holds_120 (by decide) ?_
            exact ih (k + 1) ls (by omega) (lv_sub hl [0, 1, 2, 3, 4] rfl)
  have K1 : ∀ (n k : Nat) (ls : Array Slot), k + n = nL → lv_has ls 5 [(4, .int (nI k)), (3, .int (bI (!drfW σ t (bal σ t) && allB (fun j => decide (tn_ σ j t (bal σ t) * 100 ≤ σ 11 j * 55)) k))), (2, .int (bal σ t)), (0, .ref h), (1, .int (nI t))] → W p l e ({ frames := 6, cells := 0, slots := 0, locals := 146 } : Room) s m args below meth c H [] 0 0 (roQ below H (fun r => r = bI (safe_ σ t)) args s) (F0 m 23 ls []) := by
    intro n
    induction n with
    | zero =>
      intro k ls hk hl
      refine lv_iload hx hb dX1_holds_23 (lv_at hl 0 rfl) ?_
      refine lv_aload_n hx hb dX1_holds_25 rfl (lv_at hl 3 rfl) ?_
      refine m_get hin hx hb hts hown hK hP rfl 9 (by decide) (v := .int (nI nL)) (congrArg (fun z => some (Value.int z)) (r9.trans hL)) (by decide +kernel) dX1_holds_26 ?_
      refine lv_icmp_ge (tgt := 77) hx hb dX1_holds_29 (by decide) (fun c29 => ?_) (fun c29 => ?_)
      · rw [show k = nL by omega] at hl
        refine lv_iconst (v := 0) hx hb dX1_holds_77 (by decide) ?_
        refine lv_istore (lv' := [(4, .int 0), (3, .int (bI (!drfW σ t (bal σ t) && allB (fun j => decide (tn_ σ j t (bal σ t) * 100 ≤ σ 11 j * 55)) nL))), (2, .int (bal σ t)), (0, .ref h), (1, .int (nI t))]) hx hb dX1_holds_78 hl (by decide) rfl (fun ls hl => ?_)
        exact K2 nB 0 ls (by omega) (lv_sub hl [0, 1, 2, 3, 4] (by show _ = [(4, Value.int (nI 0)), (3, Value.int (bI (!drfW σ t (bal σ t) && (allB (fun j => decide (tn_ σ j t (bal σ t) * 100 ≤ σ 11 j * 55)) nL && true)))), (2, .int (bal σ t)), (0, .ref h), (1, .int (nI t))]; rw [Bool.and_true]; rfl))
      · exact absurd (nI_le (by omega) (by omega)) c29
    | succ n ih =>
      intro k ls hk hl
      refine lv_iload hx hb dX1_holds_23 (lv_at hl 0 rfl) ?_
      refine lv_aload_n hx hb dX1_holds_25 rfl (lv_at hl 3 rfl) ?_
      refine m_get hin hx hb hts hown hK hP rfl 9 (by decide) (v := .int (nI nL)) (congrArg (fun z => some (Value.int z)) (r9.trans hL)) (by decide +kernel) dX1_holds_26 ?_
      refine lv_icmp_ge (tgt := 77) hx hb dX1_holds_29 (by decide) (fun c29 => ?_) (fun c29 => ?_)
      · exact absurd c29 (nI_ge (by omega) (by omega))
      · refine lv_iload_n hx hb dX1_holds_32 rfl (lv_at hl 1 rfl) ?_
        refine lv_if_eq (tgt := 69) hx hb dX1_holds_33 (by decide) (fun c33 => ?_) (fun c33 => ?_)
        · refine lv_iconst (v := 0) hx hb dX1_holds_69 (by decide) ?_
          rw [show (0 : Int32) = bI (!drfW σ t (bal σ t) && allB (fun j => decide (tn_ σ j t (bal σ t) * 100 ≤ σ 11 j * 55)) (k + 1)) by
            show _ = bI (!drfW σ t (bal σ t) && (allB (fun j => decide (tn_ σ j t (bal σ t) * 100 ≤ σ 11 j * 55)) k && decide (tn_ σ k t (bal σ t) * 100 ≤ σ 11 k * 55)))
            rw [← Bool.and_assoc, bI_f c33]; rfl]
          refine lv_istore_n (lv' := [(3, .int (bI (!drfW σ t (bal σ t) && allB (fun j => decide (tn_ σ j t (bal σ t) * 100 ≤ σ 11 j * 55)) (k + 1)))), (4, .int (nI k)), (2, .int (bal σ t)), (0, .ref h), (1, .int (nI t))]) hx hb dX1_holds_70 rfl hl (by decide) rfl (fun ls hl => ?_)
          refine lv_iinc (v := (nI (k + 1))) (lv' := [(4, .int (nI (k + 1))), (3, .int (bI (!drfW σ t (bal σ t) && allB (fun j => decide (tn_ σ j t (bal σ t) * 100 ≤ σ 11 j * 55)) (k + 1)))), (2, .int (bal σ t)), (0, .ref h), (1, .int (nI t))]) hx hb dX1_holds_71 hl (k := 1) rfl (by exact nI_add _ 1) (by decide) rfl (fun ls hl => ?_)
          refine lv_goto (tgt := 23) hx hb dX1_holds_74 (by decide) ?_
          exact ih (k + 1) ls (by omega) (lv_sub hl [0, 1, 2, 3, 4] rfl)
        · have hk1 : k < nL := by omega
          have hcmp := long_le (inv_tn hI hk1 ht48 hs9) (hI.2.2.2.2.2.2 k hk1).2.2.2.1
          refine lv_ldc2 (v := (100)) hx hb hown (hts (.constantLong RX1 104 (100)) (by decide +kernel)) dX1_holds_36 ?_
          refine lv_aload_n hx hb dX1_holds_39 rfl (lv_at hl 3 rfl) ?_
          refine lv_iload hx hb dX1_holds_40 (lv_at hl 0 rfl) ?_
          refine lv_iload_n hx hb dX1_holds_42 rfl (lv_at hl 4 rfl) ?_
          refine lv_iload_n hx hb dX1_holds_43 rfl (lv_at hl 2 rfl) ?_
          refine ro_callV 3 hx hb hml hown hts hl.1 hP hK 0 1 rfl rfl (As := [.int (nI k), .int (nI t), .int (bal σ t)]) (rest := [.long 100]) (c_X1_tensionAt l D cI cZ h a σ τ H hI hR k t hk1 ht48 (bal σ t) hs9) gX1_holds_X1_tensionAt rfl rfl rfl (by decide +kernel) ⟨Nat.le_of_ble_eq_true rfl, Nat.le_of_ble_eq_true rfl⟩ rfl rfl (Nat.le_of_ble_eq_true rfl) dX1_holds_44 ⟨Nat.zero_le _, Nat.zero_le _⟩ (fun r3 hr3 => ?_)
          subst hr3
          refine lv_i2l hx hb dX1_holds_47 rfl ?_
          refine lv_lmul hx hb dX1_holds_48 ?_
          refine lv_ldc2 (v := (55)) hx hb hown (hts (.constantLong RX1 106 (55)) (by decide +kernel)) dX1_holds_49 ?_
          refine lv_aload_n hx hb dX1_holds_52 rfl (lv_at hl 3 rfl) ?_
          refine m_get hin hx hb hts hown hK hP rfl 6 (by decide) (v := .ref (a 6)) rfl (by decide +kernel) dX1_holds_53 ?_
          refine lv_iload hx hb dX1_holds_56 (lv_at hl 0 rfl) ?_
          refine xa_ld hx hb hK hP 6 0 rfl rfl (j := k) (by omega) (by decide) dX1_holds_58 ?_
          rw [show τ 6 k = (σ 11 k) from congrFun r6 k]
          refine lv_i2l hx hb dX1_holds_59 rfl ?_
          refine lv_lmul hx hb dX1_holds_60 ?_
          refine W.lcmp hx hb dX1_holds_61 ?_
          refine lv_if_gt (tgt := 69) hx hb dX1_holds_62 (by decide) (fun c62 => ?_) (fun c62 => ?_)
          · refine lv_iconst (v := 0) hx hb dX1_holds_69 (by decide) ?_
            rw [show (0 : Int32) = bI (!drfW σ t (bal σ t) && allB (fun j => decide (tn_ σ j t (bal σ t) * 100 ≤ σ 11 j * 55)) (k + 1)) by
              show _ = bI (!drfW σ t (bal σ t) && (allB (fun j => decide (tn_ σ j t (bal σ t) * 100 ≤ σ 11 j * 55)) k && decide (tn_ σ k t (bal σ t) * 100 ≤ σ 11 k * 55)))
              rw [decide_eq_false (hcmp.mp ((lg_cmp_gt _ _).mp c62)), Bool.and_false, Bool.and_false]; rfl]
            refine lv_istore_n (lv' := [(3, .int (bI (!drfW σ t (bal σ t) && allB (fun j => decide (tn_ σ j t (bal σ t) * 100 ≤ σ 11 j * 55)) (k + 1)))), (4, .int (nI k)), (2, .int (bal σ t)), (0, .ref h), (1, .int (nI t))]) hx hb dX1_holds_70 rfl hl (by decide) rfl (fun ls hl => ?_)
            refine lv_iinc (v := (nI (k + 1))) (lv' := [(4, .int (nI (k + 1))), (3, .int (bI (!drfW σ t (bal σ t) && allB (fun j => decide (tn_ σ j t (bal σ t) * 100 ≤ σ 11 j * 55)) (k + 1)))), (2, .int (bal σ t)), (0, .ref h), (1, .int (nI t))]) hx hb dX1_holds_71 hl (k := 1) rfl (by exact nI_add _ 1) (by decide) rfl (fun ls hl => ?_)
            refine lv_goto (tgt := 23) hx hb dX1_holds_74 (by decide) ?_
            exact ih (k + 1) ls (by omega) (lv_sub hl [0, 1, 2, 3, 4] rfl)
          · refine lv_iconst (v := 1) hx hb dX1_holds_65 (by decide) ?_
            refine lv_goto (tgt := 70) hx hb dX1_holds_66 (by decide) ?_
            rw [show (1 : Int32) = bI (!drfW σ t (bal σ t) && allB (fun j => decide (tn_ σ j t (bal σ t) * 100 ≤ σ 11 j * 55)) (k + 1)) by
              show _ = bI (!drfW σ t (bal σ t) && (allB (fun j => decide (tn_ σ j t (bal σ t) * 100 ≤ σ 11 j * 55)) k && decide (tn_ σ k t (bal σ t) * 100 ≤ σ 11 k * 55)))
              rw [← Bool.and_assoc, bI_t c33, decide_eq_true (Classical.not_not.mp (fun v => c62 ((lg_cmp_gt _ _).mpr (hcmp.mpr v))))]; rfl]
            refine lv_istore_n (lv' := [(3, .int (bI (!drfW σ t (bal σ t) && allB (fun j => decide (tn_ σ j t (bal σ t) * 100 ≤ σ 11 j * 55)) (k + 1)))), (4, .int (nI k)), (2, .int (bal σ t)), (0, .ref h), (1, .int (nI t))]) hx hb dX1_holds_70 rfl hl (by decide) rfl (fun ls hl => ?_)
            refine lv_iinc (v := (nI (k + 1))) (lv' := [(4, .int (nI (k + 1))), (3, .int (bI (!drfW σ t (bal σ t) && allB (fun j => decide (tn_ σ j t (bal σ t) * 100 ≤ σ 11 j * 55)) (k + 1)))), (2, .int (bal σ t)), (0, .ref h), (1, .int (nI t))]) hx hb dX1_holds_71 hl (k := 1) rfl (by exact nI_add _ 1) (by decide) rfl (fun ls hl => ?_)
            refine lv_goto (tgt := 23) hx hb dX1_holds_74 (by decide) ?_
            exact ih (k + 1) ls (by omega) (lv_sub hl [0, 1, 2, 3, 4] rfl)
  refine lv_if_ne (tgt := 18) hx hb dX1_holds_11 (by decide) (fun c11 => ?_) (fun c11 => ?_)
  · refine lv_iconst (v := 0) hx hb dX1_holds_18 (by decide) ?_
    rw [show (0 : Int32) = bI (!drfW σ t (bal σ t) && allB (fun j => decide (tn_ σ j t (bal σ t) * 100 ≤ σ 11 j * 55)) 0) by rw [bI_t c11]; rfl]
    refine lv_istore_n (lv' := [(3, .int (bI (!drfW σ t (bal σ t) && allB (fun j => decide (tn_ σ j t (bal σ t) * 100 ≤ σ 11 j * 55)) 0))), (2, .int (bal σ t)), (0, .ref h), (1, .int (nI t))]) hx hb dX1_holds_19 rfl hl (by decide) rfl (fun ls hl => ?_)
    refine lv_iconst (v := 0) hx hb dX1_holds_20 (by decide) ?_
    refine lv_istore (lv' := [(4, .int 0), (3, .int (bI (!drfW σ t (bal σ t) && allB (fun j => decide (tn_ σ j t (bal σ t) * 100 ≤ σ 11 j * 55)) 0))), (2, .int (bal σ t)), (0, .ref h), (1, .int (nI t))]) hx hb dX1_holds_21 hl (by decide) rfl (fun ls hl => ?_)
    exact K1 nL 0 ls (by omega) (lv_sub hl [0, 1, 2, 3, 4] rfl)
  · refine lv_iconst (v := 1) hx hb dX1_holds_14 (by decide) ?_
    refine lv_goto (tgt := 19) hx hb dX1_holds_15 (by decide) ?_
    rw [show (1 : Int32) = bI (!drfW σ t (bal σ t) && allB (fun j => decide (tn_ σ j t (bal σ t) * 100 ≤ σ 11 j * 55)) 0) by rw [bI_f c11]; rfl]
    refine lv_istore_n (lv' := [(3, .int (bI (!drfW σ t (bal σ t) && allB (fun j => decide (tn_ σ j t (bal σ t) * 100 ≤ σ 11 j * 55)) 0))), (2, .int (bal σ t)), (0, .ref h), (1, .int (nI t))]) hx hb dX1_holds_19 rfl hl (by decide) rfl (fun ls hl => ?_)
    refine lv_iconst (v := 0) hx hb dX1_holds_20 (by decide) ?_
    refine lv_istore (lv' := [(4, .int 0), (3, .int (bI (!drfW σ t (bal σ t) && allB (fun j => decide (tn_ σ j t (bal σ t) * 100 ≤ σ 11 j * 55)) 0))), (2, .int (bal σ t)), (0, .ref h), (1, .int (nI t))]) hx hb dX1_holds_21 hl (by decide) rfl (fun ls hl => ?_)
    exact K1 nL 0 ls (by omega) (lv_sub hl [0, 1, 2, 3, 4] rfl)
set_option maxHeartbeats 4000000 in
set_option maxRecDepth 100000 in
/-- goes -/
theorem c_X1_goes (l : Launch) (D : va_G) (cI cZ : ClassId) (h : Nat) (a : Nat → Nat) (σ τ : St) (Hi : Heap) (A : Nat → Prop) (hD : va_D A (mw cI cZ h a τ)) (b1 b2 b3 : Bool) : wrM l yX1_goes wsX1_goes ({ frames := 0, cells := 0, slots := 0, locals := 0 }) [.ref h, .int (bI b1), .int (bI b2), .int (bI b3)] D (mw cI cZ h a τ) (tyX cI cZ) Hi (S := Unit) (fun _ => mw cI cZ h a (st τ 15 (fun _ => goK b1 b2 b3))) (fun r _ => r = bI (b1 && (b2 && b3))) A := by
  refine wr_of (cc := cX1_goes) (maxL := 4) (ret := some .boolean) (by decide) rfl (Nat.le_of_ble_eq_true rfl) ?_
  intro p e s m args below meth c he hH hP hK ls hl
  obtain ⟨hx, hb, hr, hml, hown, hts, hlocks⟩ := he
  have hown : s.vm.findClass RX1 = some m.cls := hown
  have hS : va_S A Hi Hi [] := va_S.rf
  have hl : lv_has ls 4 [(0, .ref h), (1, .int (bI b1)), (2, .int (bI b2)), (3, .int (bI b3))] := hl
  have hin : ∀ w ∈ u_ws RX1 TX1 16, w ∈ wsX1_goes := by decide +kernel
  refine lv_aload_n hx hb dX1_goes_0 rfl (lv_at hl 0 rfl) ?_
  refine lv_iload_n hx hb dX1_goes_1 rfl (lv_at hl 1 rfl) ?_
  refine lv_if_ne (tgt := 9) hx hb dX1_goes_2 (by decide) (fun c2 => ?_) (fun c2 => ?_)
  · refine lv_iload_n hx hb dX1_goes_9 rfl (lv_at hl 2 rfl) ?_
    refine lv_if_ne (tgt := 17) hx hb dX1_goes_10 (by decide) (fun c10 => ?_) (fun c10 => ?_)
    · refine lv_iload_n hx hb dX1_goes_17 rfl (lv_at hl 3 rfl) ?_
      refine lv_if_eq (tgt := 25) hx hb dX1_goes_18 (by decide) (fun c18 => ?_) (fun c18 => ?_)
      · refine lv_iconst (v := 3) hx hb dX1_goes_25 (by decide) ?_
        rw [show (3 : Int32) = goK b1 b2 b3 by rw [bI_t c2, bI_t c10, bI_f c18]; rfl]
        refine m_put hin hx hb hts hown hK hP hD hS rfl 15 (by decide) (by decide +kernel) rfl (by decide +kernel) (Nat.le_of_ble_eq_true rfl) dX1_goes_26 (fun H locs hP hD hS => ?_)
        have hP : va_P D vwCl (mw cI cZ h a (st τ 15 (fun _ => (goK b1 b2 b3)))) H := hP
        have hD : va_D A (mw cI cZ h a (st τ 15 (fun _ => (goK b1 b2 b3)))) := hD
        refine lv_aload_n hx hb dX1_goes_29 rfl (lv_at hl 0 rfl) ?_
        refine m_get hin hx hb hts hown hK hP rfl 15 (by decide) (v := .int (goK b1 b2 b3)) rfl (by decide +kernel) dX1_goes_30 ?_
        refine lv_if_ne (tgt := 40) hx hb dX1_goes_33 (by decide) (fun c33 => ?_) (fun c33 => ?_)
        · refine lv_iconst (v := 0) hx hb dX1_goes_40 (by decide) ?_
          exact wr_zret (v := 0) () hx hb hr hlocks hH hS hP ⟨false, rfl⟩ (by show _ = bI (b1 && (b2 && b3)); rw [bI_t c2, bI_t c10, bI_f c18]; rfl) dX1_goes_41
        · exact absurd c33 (by rw [bI_t c2, bI_t c10, bI_f c18]; exact (by decide : ¬ (3 : Int32) = 0))
      · refine lv_iconst (v := 0) hx hb dX1_goes_21 (by decide) ?_
        refine lv_goto (tgt := 26) hx hb dX1_goes_22 (by decide) ?_
        rw [show (0 : Int32) = goK b1 b2 b3 by rw [bI_t c2, bI_t c10, bI_t c18]; rfl]
        refine m_put hin hx hb hts hown hK hP hD hS rfl 15 (by decide) (by decide +kernel) rfl (by decide +kernel) (Nat.le_of_ble_eq_true rfl) dX1_goes_26 (fun H locs hP hD hS => ?_)
        have hP : va_P D vwCl (mw cI cZ h a (st τ 15 (fun _ => (goK b1 b2 b3)))) H := hP
        have hD : va_D A (mw cI cZ h a (st τ 15 (fun _ => (goK b1 b2 b3)))) := hD
        refine lv_aload_n hx hb dX1_goes_29 rfl (lv_at hl 0 rfl) ?_
        refine m_get hin hx hb hts hown hK hP rfl 15 (by decide) (v := .int (goK b1 b2 b3)) rfl (by decide +kernel) dX1_goes_30 ?_
        refine lv_if_ne (tgt := 40) hx hb dX1_goes_33 (by decide) (fun c33 => ?_) (fun c33 => ?_)
        · refine lv_iconst (v := 0) hx hb dX1_goes_40 (by decide) ?_
          exact absurd (show goK b1 b2 b3 = 0 by rw [bI_t c2, bI_t c10, bI_t c18]; rfl) c33
        · refine lv_iconst (v := 1) hx hb dX1_goes_36 (by decide) ?_
          refine lv_goto (tgt := 41) hx hb dX1_goes_37 (by decide) ?_
          exact wr_zret (v := 1) () hx hb hr hlocks hH hS hP ⟨true, rfl⟩ (by show _ = bI (b1 && (b2 && b3)); rw [bI_t c2, bI_t c10, bI_t c18]; rfl) dX1_goes_41
    · refine lv_iconst (v := 2) hx hb dX1_goes_13 (by decide) ?_
      refine lv_goto (tgt := 26) hx hb dX1_goes_14 (by decide) ?_
      rw [show (2 : Int32) = goK b1 b2 b3 by rw [bI_t c2, bI_f c10]; rfl]
      refine m_put hin hx hb hts hown hK hP hD hS rfl 15 (by decide) (by decide +kernel) rfl (by decide +kernel) (Nat.le_of_ble_eq_true rfl) dX1_goes_26 (fun H locs hP hD hS => ?_)
      have hP : va_P D vwCl (mw cI cZ h a (st τ 15 (fun _ => (goK b1 b2 b3)))) H := hP
      have hD : va_D A (mw cI cZ h a (st τ 15 (fun _ => (goK b1 b2 b3)))) := hD
      refine lv_aload_n hx hb dX1_goes_29 rfl (lv_at hl 0 rfl) ?_
      refine m_get hin hx hb hts hown hK hP rfl 15 (by decide) (v := .int (goK b1 b2 b3)) rfl (by decide +kernel) dX1_goes_30 ?_
      refine lv_if_ne (tgt := 40) hx hb dX1_goes_33 (by decide) (fun c33 => ?_) (fun c33 => ?_)
      · refine lv_iconst (v := 0) hx hb dX1_goes_40 (by decide) ?_
        exact wr_zret (v := 0) () hx hb hr hlocks hH hS hP ⟨false, rfl⟩ (by show _ = bI (b1 && (b2 && b3)); rw [bI_t c2, bI_f c10]; rfl) dX1_goes_41
      · exact absurd c33 (by rw [bI_t c2, bI_f c10]; exact (by decide : ¬ (2 : Int32) = 0))
  · refine lv_iconst (v := 1) hx hb dX1_goes_5 (by decide) ?_
    refine lv_goto (tgt := 26) hx hb dX1_goes_6 (by decide) ?_
    rw [show (1 : Int32) = goK b1 b2 b3 by rw [bI_f c2]; rfl]
    refine m_put hin hx hb hts hown hK hP hD hS rfl 15 (by decide) (by decide +kernel) rfl (by decide +kernel) (Nat.le_of_ble_eq_true rfl) dX1_goes_26 (fun H locs hP hD hS => ?_)
    have hP : va_P D vwCl (mw cI cZ h a (st τ 15 (fun _ => (goK b1 b2 b3)))) H := hP
    have hD : va_D A (mw cI cZ h a (st τ 15 (fun _ => (goK b1 b2 b3)))) := hD
    refine lv_aload_n hx hb dX1_goes_29 rfl (lv_at hl 0 rfl) ?_
    refine m_get hin hx hb hts hown hK hP rfl 15 (by decide) (v := .int (goK b1 b2 b3)) rfl (by decide +kernel) dX1_goes_30 ?_
    refine lv_if_ne (tgt := 40) hx hb dX1_goes_33 (by decide) (fun c33 => ?_) (fun c33 => ?_)
    · refine lv_iconst (v := 0) hx hb dX1_goes_40 (by decide) ?_
      exact wr_zret (v := 0) () hx hb hr hlocks hH hS hP ⟨false, rfl⟩ (by show _ = bI (b1 && (b2 && b3)); rw [bI_f c2]; rfl) dX1_goes_41
    · exact absurd c33 (by rw [bI_f c2]; exact (by decide : ¬ (1 : Int32) = 0))
set_option maxHeartbeats 4000000 in
set_option maxRecDepth 100000 in
/-- tendFastLines -/
theorem c_X0_tendFastLines (l : Launch) (D : va_G) (cI cZ : ClassId) (h : Nat) (a : Nat → Nat) (σ : St) (Hi : Heap) (A : Nat → Prop) (hD : va_D A (xw cI cZ h a σ)) {nL nB : Nat} (hI : inv σ nL nB) (t : Nat) (ht48 : t < 48) : wrM l yX0_tendFastLines wsX0_tendFastLines ({ frames := 5, cells := 0, slots := 0, locals := 118 }) [.ref h, .int (nI t)] D (xw cI cZ h a σ) (tyX cI cZ) Hi (S := Unit) (fun _ => xw cI cZ h a (tnd σ t)) (fun r _ => r = tdC σ t (bal σ t) nL) A := by
  refine wr_of (cc := cX0_tendFastLines) (maxL := 6) (ret := some .int) (by decide) rfl (Nat.le_of_ble_eq_true rfl) ?_
  intro p e s m args below meth c he hH hP hK ls hl
  obtain ⟨hx, hb, hr, hml, hown, hts, hlocks⟩ := he
  have hown : s.vm.findClass RX0 = some m.cls := hown
  have hS : va_S A Hi Hi [] := va_S.rf
  have hL : σ 7 0 = nI nL := hI.1
  have hL10 : nL ≤ 10 := hI.2.1
  have hl : lv_has ls 6 [(0, .ref h), (1, .int (nI t))] := hl
  have hin : ∀ w ∈ u_ws RX0 TX0 15, w ∈ wsX0_tendFastLines := by decide +kernel
  have hs9 := bal_inS σ t
  refine lv_aload_n hx hb dX0_tendFastLines_0 rfl (lv_at hl 0 rfl) ?_
  refine lv_iload_n hx hb dX0_tendFastLines_1 rfl (lv_at hl 1 rfl) ?_
  refine ro_callV 1 hx hb hml hown hts hl.1 hP hK 0 0 rfl rfl (As := [.int (nI t)]) (rest := []) (c_X0_balanceOf l D cI cZ h a σ Hi hI t ht48) gX0_tendFastLines_X0_balanceOf rfl rfl rfl (by decide +kernel) ⟨Nat.le_of_ble_eq_true rfl, Nat.le_of_ble_eq_true rfl⟩ rfl rfl (Nat.le_of_ble_eq_true rfl) dX0_tendFastLines_2 ⟨Nat.zero_le _, Nat.zero_le _⟩ (fun r1 hr1 => ?_)
  subst hr1
  refine lv_istore_n (lv' := [(2, .int (bal σ t)), (0, .ref h), (1, .int (nI t))]) hx hb dX0_tendFastLines_5 rfl hl (by decide) rfl (fun ls hl => ?_)
  refine lv_iconst (v := 0) hx hb dX0_tendFastLines_6 (by decide) ?_
  refine lv_istore_n (lv' := [(3, .int 0), (2, .int (bal σ t)), (0, .ref h), (1, .int (nI t))]) hx hb dX0_tendFastLines_7 rfl hl (by decide) rfl (fun ls hl => ?_)
  refine lv_iconst (v := 0) hx hb dX0_tendFastLines_8 (by decide) ?_
  refine lv_istore (lv' := [(4, .int 0), (3, .int 0), (2, .int (bal σ t)), (0, .ref h), (1, .int (nI t))]) hx hb dX0_tendFastLines_9 hl (by decide) rfl (fun ls hl => ?_)
  suffices K : ∀ (n k : Nat) (H : Heap) (locs : List Loc) (ls : Array Slot), k + n = nL → va_P D vwCl (xw cI cZ h a (st σ 12 (tdS σ t (bal σ t) k))) H → va_S A Hi H locs → lv_has ls 6 [(4, .int (nI k)), (3, .int (tdC σ t (bal σ t) k)), (2, .int (bal σ t)), (0, .ref h), (1, .int (nI t))] → W p l e _ s m args below meth c H locs 0 0 (wrQ below D (fun _ : Unit => xw cI cZ h a (tnd σ t)) (fun r _ => r = tdC σ t (bal σ t) nL) A args s) (F0 m 11 ls []) by
    exact K nL 0 Hi [] ls (by omega) hP hS (lv_sub hl [0, 1, 2, 3, 4] rfl)
  intro n
  induction n with
  | zero =>
      intro k H locs ls hk hP hS hl
      refine lv_iload hx hb dX0_tendFastLines_11 (lv_at hl 0 rfl) ?_
      refine lv_aload_n hx hb dX0_tendFastLines_13 rfl (lv_at hl 3 rfl) ?_
      refine x_get hin hx hb hts hown hK hP rfl 7 (by decide) (v := .int (nI nL)) (congrArg (fun z => some (Value.int z)) hL) (by decide +kernel) dX0_tendFastLines_14 ?_
      refine lv_icmp_ge (tgt := 80) hx hb dX0_tendFastLines_17 (by decide) (fun c17 => ?_) (fun c17 => ?_)
      · refine lv_iload_n hx hb dX0_tendFastLines_80 rfl (lv_at hl 1 rfl) ?_
        rw [show k = nL by omega] at hP ⊢
        exact wr_ret (v := tdC σ t (bal σ t) nL) () hx hb hr hlocks hH hS (by show va_P D vwCl (xw cI cZ h a (tnd σ t)) H; unfold tnd; rw [inv_nL hI]; exact hP) rfl dX0_tendFastLines_81
      · exact absurd (nI_le (by omega) (by omega)) c17
  | succ n ih =>
      intro k H locs ls hk hP hS hl
      have hk1 : k < nL := by omega
      refine lv_iload hx hb dX0_tendFastLines_11 (lv_at hl 0 rfl) ?_
      refine lv_aload_n hx hb dX0_tendFastLines_13 rfl (lv_at hl 3 rfl) ?_
      refine x_get hin hx hb hts hown hK hP rfl 7 (by decide) (v := .int (nI nL)) (congrArg (fun z => some (Value.int z)) hL) (by decide +kernel) dX0_tendFastLines_14 ?_
      refine lv_icmp_ge (tgt := 80) hx hb dX0_tendFastLines_17 (by decide) (fun c17 => ?_) (fun c17 => ?_)
      · exact absurd c17 (nI_ge (by omega) (by omega))
      · refine lv_aload_n hx hb dX0_tendFastLines_20 rfl (lv_at hl 3 rfl) ?_
        refine x_get hin hx hb hts hown hK hP rfl 13 (by decide) (v := .ref (a 13)) rfl (by decide +kernel) dX0_tendFastLines_21 ?_
        refine lv_iload hx hb dX0_tendFastLines_24 (lv_at hl 0 rfl) ?_
        refine xa_zld hx hb hK hP 11 1 rfl rfl (j := k) (by omega) (by decide) dX0_tendFastLines_26 ?_
        rw [show (st σ 12 (tdS σ t (bal σ t) k)) 13 k = (σ 13 k) from rfl]
        refine lv_if_eq (tgt := 74) hx hb dX0_tendFastLines_27 (by decide) (fun c27 => ?_) (fun c27 => ?_)
        · refine lv_iinc (v := (nI (k + 1))) (lv' := [(4, .int (nI (k + 1))), (3, .int (tdC σ t (bal σ t) k)), (2, .int (bal σ t)), (0, .ref h), (1, .int (nI t))]) hx hb dX0_tendFastLines_74 hl (k := 0) rfl (by exact nI_add _ 1) (by decide) rfl (fun ls hl => ?_)
          refine lv_goto (tgt := 11) hx hb dX0_tendFastLines_77 (by decide) ?_
          refine ih (k + 1) H locs ls (by omega) ?_ hS (lv_sub hl [0, 1, 2, 3, 4] ?_)
          · have e9 : tdS σ t (bal σ t) (k + 1) = tdS σ t (bal σ t) k := by show (if σ 13 k = 0 then _ else _) = _; rw [if_pos c27]
            rw [e9]; exact hP
          · have e8 : tdC σ t (bal σ t) (k + 1) = tdC σ t (bal σ t) k + 0 := by show acc _ 0 k + (if σ 13 k = 0 then 0 else _) = _; rw [if_pos c27]; rfl
            rw [e8, Int32.add_zero]; rfl
        · have hD : va_D A (xw cI cZ h a (st σ 12 (tdS σ t (bal σ t) k))) := xD hD
          refine lv_aload_n hx hb dX0_tendFastLines_30 rfl (lv_at hl 3 rfl) ?_
          refine x_get hin hx hb hts hown hK hP rfl 12 (by decide) (v := .ref (a 12)) rfl (by decide +kernel) dX0_tendFastLines_31 ?_
          refine lv_iload hx hb dX0_tendFastLines_34 (lv_at hl 0 rfl) ?_
          refine xa_ld hx hb hK hP 10 0 rfl rfl (j := k) (by omega) (by decide) dX0_tendFastLines_36 ?_
          rw [show (st σ 12 (tdS σ t (bal σ t) k)) 12 k = (σ 12 k) from tdS_hi k k (Nat.le_refl _)]
          refine lv_istore (lv' := [(5, .int (σ 12 k)), (4, .int (nI k)), (3, .int (tdC σ t (bal σ t) k)), (2, .int (bal σ t)), (0, .ref h), (1, .int (nI t))]) hx hb dX0_tendFastLines_37 hl (by decide) rfl (fun ls hl => ?_)
          refine lv_aload_n hx hb dX0_tendFastLines_39 rfl (lv_at hl 4 rfl) ?_
          refine x_get hin hx hb hts hown hK hP rfl 12 (by decide) (v := .ref (a 12)) rfl (by decide +kernel) dX0_tendFastLines_40 ?_
          refine lv_iload hx hb dX0_tendFastLines_43 (lv_at hl 1 rfl) ?_
          refine lv_aload_n hx hb dX0_tendFastLines_45 rfl (lv_at hl 4 rfl) ?_
          refine lv_iload hx hb dX0_tendFastLines_46 (lv_at hl 1 rfl) ?_
          refine lv_iload_n hx hb dX0_tendFastLines_48 rfl (lv_at hl 5 rfl) ?_
          refine lv_iload_n hx hb dX0_tendFastLines_49 rfl (lv_at hl 3 rfl) ?_
          refine ro_callV 3 hx hb hml hown hts hl.1 hP hK 0 0 rfl rfl (As := [.int (nI k), .int (nI t), .int (bal σ t)]) (rest := [.int (nI k), .ref (a 12)]) (c_X0_lengthWith l D cI cZ h a (st σ 12 (tdS σ t (bal σ t) k)) H (inv_td hI ht48 hs9 k) k t hk1 ht48 (bal σ t) hs9) gX0_tendFastLines_X0_lengthWith rfl rfl rfl (by decide +kernel) ⟨Nat.le_of_ble_eq_true rfl, Nat.le_of_ble_eq_true rfl⟩ rfl rfl (Nat.le_of_ble_eq_true rfl) dX0_tendFastLines_50 ⟨Nat.zero_le _, Nat.zero_le _⟩ (fun r2 hr2 => ?_)
          subst hr2
          refine xa_st hx hb hK hP hD hS 10 0 rfl rfl (j := k) (by omega) (by decide) dX0_tendFastLines_53 (fun H locs hP hD hS => ?_)
          have hP : va_P D vwCl (xw cI cZ h a (st (st σ 12 (tdS σ t (bal σ t) k)) 12 (upd ((st σ 12 (tdS σ t (bal σ t) k)) 12) k (len_ σ k t (bal σ t))))) H := hP
          have hD : va_D A (xw cI cZ h a (st (st σ 12 (tdS σ t (bal σ t) k)) 12 (upd ((st σ 12 (tdS σ t (bal σ t) k)) 12) k (len_ σ k t (bal σ t))))) := hD
          have e9 : tdS σ t (bal σ t) (k + 1) = upd (tdS σ t (bal σ t) k) k (len_ σ k t (bal σ t)) := by show (if σ 13 k = 0 then _ else _) = _; rw [if_neg c27]
          have hP : va_P D vwCl (xw cI cZ h a (st σ 12 (tdS σ t (bal σ t) (k + 1)))) H := by rw [e9]; exact hP
          have e8 : tdC σ t (bal σ t) (k + 1) = tdC σ t (bal σ t) k + (if len_ σ k t (bal σ t) = σ 12 k then 0 else 1) := by show acc _ 0 k + (if σ 13 k = 0 then 0 else _) = _; rw [if_neg c27]; rfl
          refine lv_iload_n hx hb dX0_tendFastLines_54 rfl (lv_at hl 2 rfl) ?_
          refine lv_aload_n hx hb dX0_tendFastLines_55 rfl (lv_at hl 4 rfl) ?_
          refine x_get hin hx hb hts hown hK hP rfl 12 (by decide) (v := .ref (a 12)) rfl (by decide +kernel) dX0_tendFastLines_56 ?_
          refine lv_iload hx hb dX0_tendFastLines_59 (lv_at hl 1 rfl) ?_
          refine xa_ld hx hb hK hP 10 0 rfl rfl (j := k) (by omega) (by decide) dX0_tendFastLines_61 ?_
          rw [show (st σ 12 (tdS σ t (bal σ t) (k + 1))) 12 k = (len_ σ k t (bal σ t)) from by show tdS σ t (bal σ t) (k + 1) k = _; rw [e9]; show (if k = k then _ else _) = _; rw [if_pos rfl]]
          refine lv_iload hx hb dX0_tendFastLines_62 (lv_at hl 0 rfl) ?_
          refine lv_icmp_ne (tgt := 71) hx hb dX0_tendFastLines_64 (by decide) (fun c64 => ?_) (fun c64 => ?_)
          · refine lv_iconst (v := 1) hx hb dX0_tendFastLines_71 (by decide) ?_
            rw [show (1 : Int32) = (if len_ σ k t (bal σ t) = σ 12 k then 0 else 1) by rw [if_neg c64]]
            refine lv_iadd hx hb dX0_tendFastLines_72 ?_
            refine lv_istore_n (lv' := [(3, .int ((tdC σ t (bal σ t) k) + (if len_ σ k t (bal σ t) = σ 12 k then 0 else 1))), (5, .int (σ 12 k)), (4, .int (nI k)), (2, .int (bal σ t)), (0, .ref h), (1, .int (nI t))]) hx hb dX0_tendFastLines_73 rfl hl (by decide) rfl (fun ls hl => ?_)
            refine lv_iinc (v := (nI (k + 1))) (lv' := [(4, .int (nI (k + 1))), (3, .int ((tdC σ t (bal σ t) k) + (if len_ σ k t (bal σ t) = σ 12 k then 0 else 1))), (5, .int (σ 12 k)), (2, .int (bal σ t)), (0, .ref h), (1, .int (nI t))]) hx hb dX0_tendFastLines_74 hl (k := 2) rfl (by exact nI_add _ 1) (by decide) rfl (fun ls hl => ?_)
            refine lv_goto (tgt := 11) hx hb dX0_tendFastLines_77 (by decide) ?_
            exact ih (k + 1) H locs ls (by omega) hP hS (lv_sub hl [0, 1, 3, 4, 5] (by rw [e8]; rfl))
          · refine lv_iconst (v := 0) hx hb dX0_tendFastLines_67 (by decide) ?_
            refine lv_goto (tgt := 72) hx hb dX0_tendFastLines_68 (by decide) ?_
            rw [show (0 : Int32) = (if len_ σ k t (bal σ t) = σ 12 k then 0 else 1) by rw [if_pos c64]]
            refine lv_iadd hx hb dX0_tendFastLines_72 ?_
            refine lv_istore_n (lv' := [(3, .int ((tdC σ t (bal σ t) k) + (if len_ σ k t (bal σ t) = σ 12 k then 0 else 1))), (5, .int (σ 12 k)), (4, .int (nI k)), (2, .int (bal σ t)), (0, .ref h), (1, .int (nI t))]) hx hb dX0_tendFastLines_73 rfl hl (by decide) rfl (fun ls hl => ?_)
            refine lv_iinc (v := (nI (k + 1))) (lv' := [(4, .int (nI (k + 1))), (3, .int ((tdC σ t (bal σ t) k) + (if len_ σ k t (bal σ t) = σ 12 k then 0 else 1))), (5, .int (σ 12 k)), (2, .int (bal σ t)), (0, .ref h), (1, .int (nI t))]) hx hb dX0_tendFastLines_74 hl (k := 2) rfl (by exact nI_add _ 1) (by decide) rfl (fun ls hl => ?_)
            refine lv_goto (tgt := 11) hx hb dX0_tendFastLines_77 (by decide) ?_
            exact ih (k + 1) H locs ls (by omega) hP hS (lv_sub hl [0, 1, 3, 4, 5] (by rw [e8]; rfl))
set_option maxHeartbeats 4000000 in
set_option maxRecDepth 100000 in
/-- tends -/
theorem c_X1_tends (l : Launch) (D : va_G) (cI cZ : ClassId) (h : Nat) (a : Nat → Nat) (σ τ : St) (Hi : Heap) (A : Nat → Prop) (hD : va_D A (mw cI cZ h a τ)) {nL nB : Nat} (hI : inv σ nL nB) (hR : rel σ τ nL) (t : Nat) (ht48 : t < 48) : wrM l yX1_tends wsX1_tends ({ frames := 5, cells := 0, slots := 0, locals := 123 }) [.ref h, .int (nI t)] D (mw cI cZ h a τ) (tyX cI cZ) Hi (S := Unit) (fun _ => mw cI cZ h a (st τ 7 (tdS σ t (bal σ t) nL))) (fun r _ => r = tdC σ t (bal σ t) nL) A := by
  refine wr_of (cc := cX1_tends) (maxL := 6) (ret := some .int) (by decide) rfl (Nat.le_of_ble_eq_true rfl) ?_
  intro p e s m args below meth c he hH hP hK ls hl
  obtain ⟨hx, hb, hr, hml, hown, hts, hlocks⟩ := he
  have hown : s.vm.findClass RX1 = some m.cls := hown
  have hS : va_S A Hi Hi [] := va_S.rf
  obtain ⟨⟨r10, r11, r12, r13, r2, r0, r1, r9⟩, ⟨r4, r5, r6, r7⟩, r3, r8, r8z⟩ := id hR
  have hL : σ 7 0 = nI nL := hI.1
  have hL10 : nL ≤ 10 := hI.2.1
  have hl : lv_has ls 6 [(0, .ref h), (1, .int (nI t))] := hl
  have hin : ∀ w ∈ u_ws RX1 TX1 16, w ∈ wsX1_tends := by decide +kernel
  have hs9 := bal_inS σ t
  refine lv_iconst (v := 0) hx hb dX1_tends_0 (by decide) ?_
  refine lv_istore_n (lv' := [(2, .int 0), (0, .ref h), (1, .int (nI t))]) hx hb dX1_tends_1 rfl hl (by decide) rfl (fun ls hl => ?_)
  refine lv_aload_n hx hb dX1_tends_2 rfl (lv_at hl 1 rfl) ?_
  refine lv_iload_n hx hb dX1_tends_3 rfl (lv_at hl 2 rfl) ?_
  refine ro_callV 1 hx hb hml hown hts hl.1 hP hK 0 1 rfl rfl (As := [.int (nI t)]) (rest := []) (c_X1_shiftAt l D cI cZ h a σ τ Hi hI hR t ht48) gX1_tends_X1_shiftAt rfl rfl rfl (by decide +kernel) ⟨Nat.le_of_ble_eq_true rfl, Nat.le_of_ble_eq_true rfl⟩ rfl rfl (Nat.le_of_ble_eq_true rfl) dX1_tends_4 ⟨Nat.zero_le _, Nat.zero_le _⟩ (fun r1 hr1 => ?_)
  subst hr1
  refine lv_istore_n (lv' := [(3, .int (bal σ t)), (2, .int 0), (0, .ref h), (1, .int (nI t))]) hx hb dX1_tends_7 rfl hl (by decide) rfl (fun ls hl => ?_)
  refine lv_iconst (v := 0) hx hb dX1_tends_8 (by decide) ?_
  refine lv_istore (lv' := [(4, .int 0), (3, .int (bal σ t)), (2, .int 0), (0, .ref h), (1, .int (nI t))]) hx hb dX1_tends_9 hl (by decide) rfl (fun ls hl => ?_)
  suffices K : ∀ (n k : Nat) (H : Heap) (locs : List Loc) (ls : Array Slot), k + n = nL → va_P D vwCl (mw cI cZ h a (st τ 7 (tdS σ t (bal σ t) k))) H → va_S A Hi H locs → lv_has ls 6 [(4, .int (nI k)), (2, .int (tdC σ t (bal σ t) k)), (3, .int (bal σ t)), (0, .ref h), (1, .int (nI t))] → W p l e _ s m args below meth c H locs 0 0 (wrQ below D (fun _ : Unit => mw cI cZ h a (st τ 7 (tdS σ t (bal σ t) nL))) (fun r _ => r = tdC σ t (bal σ t) nL) A args s) (F0 m 11 ls []) by
    exact K nL 0 Hi [] ls (by omega) (by show va_P D vwCl (mw cI cZ h a (st τ 7 (σ 12))) Hi; rw [← r7]; exact hP) hS (lv_sub hl [0, 2, 1, 3, 4] rfl)
  intro n
  induction n with
  | zero =>
      intro k H locs ls hk hP hS hl
      refine lv_iload hx hb dX1_tends_11 (lv_at hl 0 rfl) ?_
      refine lv_aload_n hx hb dX1_tends_13 rfl (lv_at hl 3 rfl) ?_
      refine m_get hin hx hb hts hown hK hP rfl 9 (by decide) (v := .int (nI nL)) (congrArg (fun z => some (Value.int z)) (r9.trans hL)) (by decide +kernel) dX1_tends_14 ?_
      refine lv_icmp_ge (tgt := 75) hx hb dX1_tends_17 (by decide) (fun c17 => ?_) (fun c17 => ?_)
      · refine lv_iload_n hx hb dX1_tends_75 rfl (lv_at hl 1 rfl) ?_
        rw [show k = nL by omega] at hP ⊢
        exact wr_ret (v := tdC σ t (bal σ t) nL) () hx hb hr hlocks hH hS hP rfl dX1_tends_76
      · exact absurd (nI_le (by omega) (by omega)) c17
  | succ n ih =>
      intro k H locs ls hk hP hS hl
      have hk1 : k < nL := by omega
      refine lv_iload hx hb dX1_tends_11 (lv_at hl 0 rfl) ?_
      refine lv_aload_n hx hb dX1_tends_13 rfl (lv_at hl 3 rfl) ?_
      refine m_get hin hx hb hts hown hK hP rfl 9 (by decide) (v := .int (nI nL)) (congrArg (fun z => some (Value.int z)) (r9.trans hL)) (by decide +kernel) dX1_tends_14 ?_
      refine lv_icmp_ge (tgt := 75) hx hb dX1_tends_17 (by decide) (fun c17 => ?_) (fun c17 => ?_)
      · exact absurd c17 (nI_ge (by omega) (by omega))
      · refine lv_aload_n hx hb dX1_tends_20 rfl (lv_at hl 3 rfl) ?_
        refine m_get hin hx hb hts hown hK hP rfl 8 (by decide) (v := .ref (a 8)) rfl (by decide +kernel) dX1_tends_21 ?_
        refine lv_iload hx hb dX1_tends_24 (lv_at hl 0 rfl) ?_
        refine xa_zld hx hb hK hP 8 1 rfl rfl (j := k) (by omega) (by decide) dX1_tends_26 ?_
        rw [show (st τ 7 (tdS σ t (bal σ t) k)) 8 k = (τ 8 k) from rfl]
        refine lv_if_ne (tgt := 69) hx hb dX1_tends_27 (by decide) (fun c27 => ?_) (fun c27 => ?_)
        · have hg : σ 13 k = 0 := by rcases r8 k hk1 with ⟨q1, _⟩ | ⟨_, q2⟩; exact absurd q1 c27; exact q2
          refine lv_iinc (v := (nI (k + 1))) (lv' := [(4, .int (nI (k + 1))), (2, .int (tdC σ t (bal σ t) k)), (3, .int (bal σ t)), (0, .ref h), (1, .int (nI t))]) hx hb dX1_tends_69 hl (k := 0) rfl (by exact nI_add _ 1) (by decide) rfl (fun ls hl => ?_)
          refine lv_goto (tgt := 11) hx hb dX1_tends_72 (by decide) ?_
          refine ih (k + 1) H locs ls (by omega) ?_ hS (lv_sub hl [0, 1, 2, 3, 4] ?_)
          · have e9 : tdS σ t (bal σ t) (k + 1) = tdS σ t (bal σ t) k := by show (if σ 13 k = 0 then _ else _) = _; rw [if_pos hg]
            rw [e9]; exact hP
          · have e8 : tdC σ t (bal σ t) (k + 1) = tdC σ t (bal σ t) k + 0 := by show acc _ 0 k + (if σ 13 k = 0 then 0 else _) = _; rw [if_pos hg]; rfl
            rw [e8, Int32.add_zero]; rfl
        · have hg : ¬ σ 13 k = 0 := by rcases r8 k hk1 with ⟨_, q2⟩ | ⟨q1, _⟩; rw [q2]; decide; rw [q1] at c27; exact absurd c27 (by decide)
          have hD : va_D A (mw cI cZ h a (st τ 7 (tdS σ t (bal σ t) k))) := mD hD
          refine lv_aload_n hx hb dX1_tends_30 rfl (lv_at hl 3 rfl) ?_
          refine lv_iload hx hb dX1_tends_31 (lv_at hl 0 rfl) ?_
          refine lv_iload_n hx hb dX1_tends_33 rfl (lv_at hl 4 rfl) ?_
          refine lv_iload_n hx hb dX1_tends_34 rfl (lv_at hl 2 rfl) ?_
          refine ro_callV 3 hx hb hml hown hts hl.1 hP hK 0 1 rfl rfl (As := [.int (nI k), .int (nI t), .int (bal σ t)]) (rest := []) (c_X1_lengthAt l D cI cZ h a (st σ 12 (tdS σ t (bal σ t) k)) (st τ 7 (tdS σ t (bal σ t) k)) H (inv_td hI ht48 hs9 k) (rel_st12 _ hR) k t hk1 ht48 (bal σ t) hs9) gX1_tends_X1_lengthAt rfl rfl rfl (by decide +kernel) ⟨Nat.le_of_ble_eq_true rfl, Nat.le_of_ble_eq_true rfl⟩ rfl rfl (Nat.le_of_ble_eq_true rfl) dX1_tends_35 ⟨Nat.zero_le _, Nat.zero_le _⟩ (fun r2 hr2 => ?_)
          subst hr2
          refine lv_istore (lv' := [(5, .int (len_ σ k t (bal σ t))), (4, .int (nI k)), (2, .int (tdC σ t (bal σ t) k)), (3, .int (bal σ t)), (0, .ref h), (1, .int (nI t))]) hx hb dX1_tends_38 hl (by decide) rfl (fun ls hl => ?_)
          refine lv_iload_n hx hb dX1_tends_40 rfl (lv_at hl 2 rfl) ?_
          refine lv_iload hx hb dX1_tends_41 (lv_at hl 0 rfl) ?_
          refine lv_aload_n hx hb dX1_tends_43 rfl (lv_at hl 4 rfl) ?_
          refine m_get hin hx hb hts hown hK hP rfl 7 (by decide) (v := .ref (a 7)) rfl (by decide +kernel) dX1_tends_44 ?_
          refine lv_iload hx hb dX1_tends_47 (lv_at hl 1 rfl) ?_
          refine xa_ld hx hb hK hP 7 0 rfl rfl (j := k) (by omega) (by decide) dX1_tends_49 ?_
          rw [show (st τ 7 (tdS σ t (bal σ t) k)) 7 k = (σ 12 k) from tdS_hi k k (Nat.le_refl _)]
          have e9 : tdS σ t (bal σ t) (k + 1) = upd (tdS σ t (bal σ t) k) k (len_ σ k t (bal σ t)) := by show (if σ 13 k = 0 then _ else _) = _; rw [if_neg hg]
          have e8 : tdC σ t (bal σ t) (k + 1) = tdC σ t (bal σ t) k + (if len_ σ k t (bal σ t) = σ 12 k then 0 else 1) := by show acc _ 0 k + (if σ 13 k = 0 then 0 else _) = _; rw [if_neg hg]; rfl
          refine lv_icmp_eq (tgt := 57) hx hb dX1_tends_50 (by decide) (fun c50 => ?_) (fun c50 => ?_)
          · refine lv_iconst (v := 0) hx hb dX1_tends_57 (by decide) ?_
            rw [show (0 : Int32) = (if len_ σ k t (bal σ t) = σ 12 k then 0 else 1) by rw [if_pos c50]]
            refine lv_iadd hx hb dX1_tends_58 ?_
            refine lv_istore_n (lv' := [(2, .int ((tdC σ t (bal σ t) k) + (if len_ σ k t (bal σ t) = σ 12 k then 0 else 1))), (5, .int (len_ σ k t (bal σ t))), (4, .int (nI k)), (3, .int (bal σ t)), (0, .ref h), (1, .int (nI t))]) hx hb dX1_tends_59 rfl hl (by decide) rfl (fun ls hl => ?_)
            refine lv_aload_n hx hb dX1_tends_60 rfl (lv_at hl 4 rfl) ?_
            refine m_get hin hx hb hts hown hK hP rfl 7 (by decide) (v := .ref (a 7)) rfl (by decide +kernel) dX1_tends_61 ?_
            refine lv_iload hx hb dX1_tends_64 (lv_at hl 2 rfl) ?_
            refine lv_iload hx hb dX1_tends_66 (lv_at hl 1 rfl) ?_
            refine xa_st hx hb hK hP hD hS 7 0 rfl rfl (j := k) (by omega) (by decide) dX1_tends_68 (fun H locs hP hD hS => ?_)
            have hP : va_P D vwCl (mw cI cZ h a (st (st τ 7 (tdS σ t (bal σ t) k)) 7 (upd ((st τ 7 (tdS σ t (bal σ t) k)) 7) k (len_ σ k t (bal σ t))))) H := hP
            have hD : va_D A (mw cI cZ h a (st (st τ 7 (tdS σ t (bal σ t) k)) 7 (upd ((st τ 7 (tdS σ t (bal σ t) k)) 7) k (len_ σ k t (bal σ t))))) := hD
            refine lv_iinc (v := (nI (k + 1))) (lv' := [(4, .int (nI (k + 1))), (2, .int ((tdC σ t (bal σ t) k) + (if len_ σ k t (bal σ t) = σ 12 k then 0 else 1))), (5, .int (len_ σ k t (bal σ t))), (3, .int (bal σ t)), (0, .ref h), (1, .int (nI t))]) hx hb dX1_tends_69 hl (k := 2) rfl (by exact nI_add _ 1) (by decide) rfl (fun ls hl => ?_)
            refine lv_goto (tgt := 11) hx hb dX1_tends_72 (by decide) ?_
            have hP : va_P D vwCl (mw cI cZ h a (st τ 7 (tdS σ t (bal σ t) (k + 1)))) H := by rw [e9]; exact hP
            exact ih (k + 1) H locs ls (by omega) hP hS (lv_sub hl [0, 1, 3, 4, 5] (by rw [e8]; rfl))
          · refine lv_iconst (v := 1) hx hb dX1_tends_53 (by decide) ?_
            refine lv_goto (tgt := 58) hx hb dX1_tends_54 (by decide) ?_
            rw [show (1 : Int32) = (if len_ σ k t (bal σ t) = σ 12 k then 0 else 1) by rw [if_neg c50]]
            refine lv_iadd hx hb dX1_tends_58 ?_
            refine lv_istore_n (lv' := [(2, .int ((tdC σ t (bal σ t) k) + (if len_ σ k t (bal σ t) = σ 12 k then 0 else 1))), (5, .int (len_ σ k t (bal σ t))), (4, .int (nI k)), (3, .int (bal σ t)), (0, .ref h), (1, .int (nI t))]) hx hb dX1_tends_59 rfl hl (by decide) rfl (fun ls hl => ?_)
            refine lv_aload_n hx hb dX1_tends_60 rfl (lv_at hl 4 rfl) ?_
            refine m_get hin hx hb hts hown hK hP rfl 7 (by decide) (v := .ref (a 7)) rfl (by decide +kernel) dX1_tends_61 ?_
            refine lv_iload hx hb dX1_tends_64 (lv_at hl 2 rfl) ?_
            refine lv_iload hx hb dX1_tends_66 (lv_at hl 1 rfl) ?_
            refine xa_st hx hb hK hP hD hS 7 0 rfl rfl (j := k) (by omega) (by decide) dX1_tends_68 (fun H locs hP hD hS => ?_)
            have hP : va_P D vwCl (mw cI cZ h a (st (st τ 7 (tdS σ t (bal σ t) k)) 7 (upd ((st τ 7 (tdS σ t (bal σ t) k)) 7) k (len_ σ k t (bal σ t))))) H := hP
            have hD : va_D A (mw cI cZ h a (st (st τ 7 (tdS σ t (bal σ t) k)) 7 (upd ((st τ 7 (tdS σ t (bal σ t) k)) 7) k (len_ σ k t (bal σ t))))) := hD
            refine lv_iinc (v := (nI (k + 1))) (lv' := [(4, .int (nI (k + 1))), (2, .int ((tdC σ t (bal σ t) k) + (if len_ σ k t (bal σ t) = σ 12 k then 0 else 1))), (5, .int (len_ σ k t (bal σ t))), (3, .int (bal σ t)), (0, .ref h), (1, .int (nI t))]) hx hb dX1_tends_69 hl (k := 2) rfl (by exact nI_add _ 1) (by decide) rfl (fun ls hl => ?_)
            refine lv_goto (tgt := 11) hx hb dX1_tends_72 (by decide) ?_
            have hP : va_P D vwCl (mw cI cZ h a (st τ 7 (tdS σ t (bal σ t) (k + 1)))) H := by rw [e9]; exact hP
            exact ih (k + 1) H locs ls (by omega) hP hS (lv_sub hl [0, 1, 3, 4, 5] (by rw [e8]; rfl))
end
section
/-! What throws: the four checks; calls of them; and a plan's way through its hours. -/
def xB1 : List Cond := [.declares (Bundle.initS "java/lang/Throwable"), .declares (Bundle.initS "java/lang/Exception"), .declares (Bundle.initS "java/lang/RuntimeException"), .castable xE1 xE1]
def xB2 : List Cond := [.declares (Bundle.initS "java/lang/Throwable"), .declares (Bundle.initS "java/lang/Exception"), .declares (Bundle.initS "java/lang/RuntimeException"), .castable xE2 xE2]
def xB3 : List Cond := [.declares (Bundle.initS "java/lang/Throwable"), .declares (Bundle.initS "java/lang/Exception"), .declares (Bundle.initS "java/lang/RuntimeException"), .castable xE3 xE3]
theorem xh1 : ∀ w ∈ (vx_atS RX0 125 xE1 xNs).filter (fun w => !goodWord w), w ∈ xB1 := by decide +kernel
theorem xh2 : ∀ w ∈ (vx_atS RX0 66 xE2 xNs).filter (fun w => !goodWord w), w ∈ xB2 := by decide +kernel
theorem xh3 : ∀ w ∈ (vx_atS RX0 139 xE3 xNs).filter (fun w => !goodWord w), w ∈ xB3 := by decide +kernel
theorem xg1 : ∀ w ∈ Cond.classLink RX0 121 xE1 :: Cond.initialized xE1 :: vx_atS RX0 125 xE1 xNs, vx_ot w = true := by decide +kernel
theorem xg2 : ∀ w ∈ Cond.classLink RX0 62 xE2 :: Cond.initialized xE2 :: vx_atS RX0 66 xE2 xNs, vx_ot w = true := by decide +kernel
theorem xg3 : ∀ w ∈ Cond.classLink RX0 135 xE3 :: Cond.initialized xE3 :: vx_atS RX0 139 xE3 xNs, vx_ot w = true := by decide +kernel
theorem xfN : ∀ n ∈ xNs, Bundle.fit n = true := by decide +kernel
theorem xb1 {s : State} {args : Array Value} (h : tpW s) : ∀ w ∈ xB1, w.before args s = true := by
  obtain ⟨-, -, ⟨c1, c2, c3⟩, ⟨d1, d2, d3⟩, -⟩ := h
  exact vx_c (d1.use rfl) (vx_c (d2.use rfl) (vx_c (d3.use rfl) (vx_c (c1.use rfl) vx_n)))
theorem xb2 {s : State} {args : Array Value} (h : tpW s) : ∀ w ∈ xB2, w.before args s = true := by
  obtain ⟨-, -, ⟨c1, c2, c3⟩, ⟨d1, d2, d3⟩, -⟩ := h
  exact vx_c (d1.use rfl) (vx_c (d2.use rfl) (vx_c (d3.use rfl) (vx_c (c2.use rfl) vx_n)))
theorem xb3 {s : State} {args : Array Value} (h : tpW s) : ∀ w ∈ xB3, w.before args s = true := by
  obtain ⟨-, -, ⟨c1, c2, c3⟩, ⟨d1, d2, d3⟩, -⟩ := h
  exact vx_c (d1.use rfl) (vx_c (d2.use rfl) (vx_c (d3.use rfl) (vx_c (c3.use rfl) vx_n)))
section
variable {p : Program} {l : Launch} {e : Env} {R : Room} {s : State} {m : MethodId} {args : Array Value} {below : List Frame} {meth : Method} {c : Code} {H : Heap}
variable {y : MethodName} {bytes cc : ByteArray} {maxL nL index : Nat} {ret : Option FieldType} {ws ws' : List Cond} {rm : Room} {Ts : List Cond} {own : String} {b : Addr} {As rest st0 : List Value} {pc : Nat} {ls : Array Slot} {D : va_G} {W0 : va_W} {tys : List (ClassId × FieldType)} {A : Nat → Prop}
theorem thr_go {cls text : String} {ik is ic sa : Nat} {B : List Cond} {Qc : Array Value → State → Outcome → State → Prop} {XC : String → State → State → Prop} {free : Addr → Prop} (hfl : l.stackTraces = false) (hx : p.tables.exec = Jvm.exec) (hb : c.code = cc) (hown : s.vm.findClass RX0 = some m.cls) (hlocks : meth.locks = false) (hout : ∀ x ∈ c.exceptionTable.toList, False) (hsize : ls.size = c.maxLocals) (hH : s.heap = H)
    (hfit : Bundle.fit cls = true) (hk : (Cond.classLink RX0 ik cls).before args s = true) (hini : (Cond.initialized cls).before args s = true) (hstr : vk_R RX0 is text sa s) (h1 : ∀ w ∈ (vx_atS RX0 ic cls xNs).filter goodWord, w.before args s = true) (h2 : ∀ w ∈ (vx_atS RX0 ic cls xNs).filter (fun w => !goodWord w), w ∈ B) (h3 : ∀ w ∈ B, w.before args s = true)
    (hg : ∀ w ∈ Cond.classLink RX0 ik cls :: Cond.initialized cls :: vx_atS RX0 ic cls xNs, vx_ot w = true) (hT : tpS A H s) (d0 : decode cc pc = .ok (.new ik, 3)) (d3 : decode cc (pc + 3) = .ok (.dup, 1)) (d4 : decode cc (pc + 4) = .ok (.ldc is, 2)) (d6 : decode cc (pc + 6) = .ok (.invokespecial ic, 3)) (d9 : decode cc (pc + 9) = .ok (.athrow, 1))
    (hRf : 5 < R.frames) (hRl : (rest.map fun v => v.category).sum + 82 ≤ R.locals) (hRc : 0 + 1 ≤ R.cells) (hRs : 0 + 6 ≤ R.slots) (hxc : ∀ t : State, grew H t.heap → XC cls s t) : W p l e R s m args below meth c H [] 0 0 (vx_MQ below Qc XC args s 1 6 free) (F0 m pc ls rest) := by
  subst hH
  exact vx_throwS (A := A) (names := xNs) hx hb hfl hown hfit xfN hk hini hstr (vx_hat h1 h2 h3) hg hT.1 hT.2 va_S.rf hsize d0 d3 d4 d6 d9 (fun x hx => (hout x hx).elim) hRf hRl hRc hRs hlocks (fun t _ h5 h6 => hxc t ⟨h5, h6⟩) (fun _ h => nomatch h) (Nat.le_refl _) (Nat.le_refl _)
theorem ck_callS {S : Type} {Wf : S → va_W} {post : Int32 → S → Prop} {XP : String → Prop} {A2 : Nat → Prop} {cond : Prop} {E : String} (n : Nat) (hx : p.tables.exec = Jvm.exec) (hb : c.code = cc) (hml : c.maxLocals = nL) (hown : s.vm.findClass own = some m.cls) (hts : ∀ w ∈ Ts, w.before args s = true) (hlocks : meth.locks = false) (hout : ∀ x ∈ c.exceptionTable.toList, False) (hsize : ls.size = nL)
    (hP : va_P D vwCl W0 H) (hK : va_K D vwCl tys s) (hT : tpA A H s) (hM : ckM l y ws rm As D W0 tys H A cond E) (hG : GoodIn Ts (va_wsS own index y ws)) (hw : ws = Cond.code y bytes maxL ret :: ws') (hrc : rm.cells = 1) (hrs : rm.slots = 6)
    (hd : y.cls ≠ "java/lang/invoke/MethodHandle" ∧ y.cls ≠ "java/lang/invoke/VarHandle" ∧ (parseMethodDescriptor y.desc).map (fun d => d.parameters.length) = some n) (hR : rm.frames + 1 ≤ R.frames ∧ 8 + (maxL + 11) + rm.locals ≤ R.locals) (hn : As.length = n) (hst : st0 = As.reverse ++ rest) (hW : (rest.map fun v => v.category).sum ≤ 8)
    (hdg : decode cc pc = .ok (.invokestatic index, 3)) (hf : 0 + 1 ≤ R.cells ∧ 0 + 6 ≤ R.slots) (hfail : ¬ cond → XP E) (kk : cond → W p l e R s m args below meth c H [] 0 0 (thQ below D H A2 Wf post XP args s) (F0 m (pc + 3) ls rest)) : W p l e R s m args below meth c H [] 0 0 (thQ below D H A2 Wf post XP args s) (F0 m pc ls st0) :=
  ck_go hlocks hout (vx_runS ⟨hx, hb, hml, hown, hts⟩ hM (va_cwS n hts hG hw hrc hrs hd hR) ⟨thP_blind, fun U hU hWm => ⟨rfl, hU, hP, va_K.moved hWm.alike hK, tpA_warm hWm hT⟩⟩ rfl hn hsize hst (lv_room hW) hdg hf) hfail kk
theorem ck_callV {S : Type} {Wf : S → va_W} {post : Int32 → S → Prop} {XP : String → Prop} {A2 : Nat → Prop} {cond : Prop} {E : String} (n : Nat) (hx : p.tables.exec = Jvm.exec) (hb : c.code = cc) (hml : c.maxLocals = nL) (hown : s.vm.findClass own = some m.cls) (hts : ∀ w ∈ Ts, w.before args s = true) (hlocks : meth.locks = false) (hout : ∀ x ∈ c.exceptionTable.toList, False) (hsize : ls.size = nL)
    (hP : va_P D vwCl W0 H) (hK : va_K D vwCl tys s) (hT : tpA A H s) (q0 ci : Nat) {q : vw_C} {fs : List Value} (hc : vwCl[ci]? = some q) (he : W0[q0]? = some (b, .inr (ci, fs))) (hM : ckM l y ws rm (.ref b :: As) D W0 tys H A cond E) (hG : GoodIn Ts (wsV own index q.1 y ws)) (hw : ws = Cond.code y bytes maxL ret :: ws') (hrc : rm.cells = 1) (hrs : rm.slots = 6)
    (hd : y.cls = q.1 ∧ y.cls ≠ "java/lang/invoke/MethodHandle" ∧ y.cls ≠ "java/lang/invoke/VarHandle" ∧ (parseMethodDescriptor y.desc).map (fun d => d.parameters.length) = some n) (hR : rm.frames + 1 ≤ R.frames ∧ 8 + (maxL + 11) + rm.locals ≤ R.locals) (hn : As.length = n) (hst : st0 = As.reverse ++ .ref b :: rest) (hW : (rest.map fun v => v.category).sum ≤ 8)
    (hdg : decode cc pc = .ok (.invokevirtual index, 3)) (hf : 0 + 1 ≤ R.cells ∧ 0 + 6 ≤ R.slots) (hfail : ¬ cond → XP E) (kk : cond → W p l e R s m args below meth c H [] 0 0 (thQ below D H A2 Wf post XP args s) (F0 m (pc + 3) ls rest)) : W p l e R s m args below meth c H [] 0 0 (thQ below D H A2 Wf post XP args s) (F0 m pc ls st0) :=
  ck_go hlocks hout (vx_runV ⟨hx, hb, hml, hown, hts⟩ hM (cwV n hts hG hw hrc hrs hd hR) ⟨thP_blind, va_recv hK hP hc he, fun U hU hWm => ⟨rfl, hU, hP, va_K.moved hWm.alike hK, tpA_warm hWm hT⟩⟩ rfl hn hsize hst (lv_room hW) hdg hf) hfail kk
end
theorem inR_nf1 {v lo hi : Int32} (h : v < lo) : ¬ inR v lo hi = true := by rw [inR_f1 h]; decide
theorem inR_nf2 {v lo hi : Int32} (h : hi < v) : ¬ inR v lo hi = true := by rw [inR_f2 h]; decide
theorem inR_sp {v lo hi : Int32} (h : inR v lo hi = true) : lo.toInt ≤ v.toInt ∧ v.toInt ≤ hi.toInt := by
  unfold inR at h
  rw [Bool.and_eq_true] at h
  exact ⟨i_le.mp (of_decide_eq_true h.1), i_le.mp (of_decide_eq_true h.2)⟩
theorem inR_nat {v hi : Int32} {k : Int} (h : inR v 0 hi = true) (hk : hi.toInt = k) : ∃ t : Nat, (t : Int) ≤ k ∧ v = nI t := by
  obtain ⟨h1, h2⟩ := inR_sp h
  have e0 : (0 : Int32).toInt = 0 := rfl
  have h3 := Int32.toInt_lt v
  exact ⟨v.toInt.toNat, by omega, ti_nI (by omega)⟩
theorem inR_hour {v : Int32} (h : inR v 0 47 = true) : ∃ t : Nat, t < 48 ∧ v = nI t := by
  obtain ⟨t, h1, h2⟩ := inR_nat h (k := 47) rfl
  exact ⟨t, by omega, h2⟩
theorem nI_pm {n : Nat} (hn : n < 1000) : (nI n - 1).toInt = (n : Int) - 1 := by
  have e1 : (1 : Int32).toInt = 1 := rfl
  have e2 : (nI n).toInt = n := nI_ti (by omega)
  rw [Jvm.Kit.i32_sub (by omega) (by omega), e1, e2]
theorem inR_line {v : Int32} {n : Nat} (hn : n < 1000) (h : inR v 0 (nI n - 1) = true) : ∃ j : Nat, j < n ∧ v = nI j := by
  obtain ⟨t, h1, h2⟩ := inR_nat h (nI_pm hn)
  exact ⟨t, by omega, h2⟩
theorem hour_in {v : Int32} (h1 : ¬ v < 0) (h2 : v < 48) : inR v 0 47 = true := by
  refine inR_t h1 ?_
  have e1 : (48 : Int32).toInt = 48 := rfl
  have e2 : (47 : Int32).toInt = 47 := rfl
  rw [i_lt] at h2 ⊢
  omega
theorem hour_out {v : Int32} (h2 : ¬ v < 48) : ¬ inR v 0 47 = true := by
  refine inR_nf2 ?_
  have e1 : (48 : Int32).toInt = 48 := rfl
  have e2 : (47 : Int32).toInt = 47 := rfl
  rw [i_lt] at h2 ⊢
  omega
theorem line_in {v : Int32} {n : Nat} (hn : n < 1000) (h1 : ¬ v < 0) (h2 : v < nI n) : inR v 0 (nI n - 1) = true := by
  refine inR_t h1 ?_
  have e1 := nI_pm hn
  have e2 : (nI n).toInt = n := nI_ti (by omega)
  rw [i_lt] at h2 ⊢
  omega
theorem line_out {v : Int32} {n : Nat} (hn : n < 1000) (h2 : ¬ v < nI n) : ¬ inR v 0 (nI n - 1) = true := by
  refine inR_nf2 ?_
  have e1 := nI_pm hn
  have e2 : (nI n).toInt = n := nI_ti (by omega)
  rw [i_lt] at h2 ⊢
  omega
set_option maxHeartbeats 4000000 in
set_option maxRecDepth 100000 in
/-- checkHour -/
theorem c_X0_checkHour (l : Launch) (hfl : l.stackTraces = false) (D : va_G) (W0 : va_W) (tys : List (ClassId × FieldType)) (H : Heap) (A : Nat → Prop) (v : Int32) : ckM l yX0_checkHour wsX0_checkHour ({ frames := 6, cells := 1, slots := 6, locals := 90 }) [.int v] D W0 tys H A (inR v 0 47 = true) xE3 := by
  refine ck_of (cc := cX0_checkHour) (maxL := 1) (ret := none) (by decide) rfl (Nat.le_of_ble_eq_true rfl) ?_
  intro p e s m args below meth c he hout hH hP hK hT ls hl
  obtain ⟨hx, hb, hr, hml, hown, hts, hlocks⟩ := he
  have hown : s.vm.findClass RX0 = some m.cls := hown
  have hl : lv_has ls 1 [(0, .int v)] := hl
  refine lv_iload_n hx hb dX0_checkHour_0 rfl (lv_at hl 0 rfl) ?_
  refine lv_if_lt (tgt := 10) hx hb dX0_checkHour_1 (by decide) (fun c1 => ?_) (fun c1 => ?_)
  · obtain ⟨sa, hsa⟩ := hT.2.2.1.1
    exact thr_go (A := A) (cls := xE3) (ik := 135) (ic := 139) hfl hx hb hown hlocks hout (by rw [hml]; exact hl.1) hH (by decide +kernel) (hts (.classLink RX0 135 xE3) (by decide +kernel)) (hts (.initialized xE3) (by decide +kernel)) hsa (fun w hw => hts w ((show ∀ w ∈ (vx_atS RX0 139 xE3 xNs).filter goodWord, w ∈ wsX0_checkHour by decide +kernel) w hw)) xh3 (xb3 hT.2) xg3 hT.1 dX0_checkHour_10 dX0_checkHour_13 dX0_checkHour_14 dX0_checkHour_16 dX0_checkHour_19 (Nat.le_of_ble_eq_true rfl) (Nat.le_of_ble_eq_true rfl) (Nat.le_of_ble_eq_true rfl) (Nat.le_of_ble_eq_true rfl) (fun t hgr => ⟨⟨rfl, inR_nf1 c1⟩, hgr⟩)
  · refine lv_iload_n hx hb dX0_checkHour_4 rfl (lv_at hl 0 rfl) ?_
    refine lv_bipush (v := 48) hx hb dX0_checkHour_5 (by decide) ?_
    refine lv_icmp_lt (tgt := 20) hx hb dX0_checkHour_7 (by decide) (fun c7 => ?_) (fun c7 => ?_)
    · exact ck_ret hx hb hr hlocks hH (hour_in c1 c7) dX0_checkHour_20
    · obtain ⟨sa, hsa⟩ := hT.2.2.1.1
      exact thr_go (A := A) (cls := xE3) (ik := 135) (ic := 139) hfl hx hb hown hlocks hout (by rw [hml]; exact hl.1) hH (by decide +kernel) (hts (.classLink RX0 135 xE3) (by decide +kernel)) (hts (.initialized xE3) (by decide +kernel)) hsa (fun w hw => hts w ((show ∀ w ∈ (vx_atS RX0 139 xE3 xNs).filter goodWord, w ∈ wsX0_checkHour by decide +kernel) w hw)) xh3 (xb3 hT.2) xg3 hT.1 dX0_checkHour_10 dX0_checkHour_13 dX0_checkHour_14 dX0_checkHour_16 dX0_checkHour_19 (Nat.le_of_ble_eq_true rfl) (Nat.le_of_ble_eq_true rfl) (Nat.le_of_ble_eq_true rfl) (Nat.le_of_ble_eq_true rfl) (fun t hgr => ⟨⟨rfl, hour_out c7⟩, hgr⟩)
set_option maxHeartbeats 4000000 in
set_option maxRecDepth 100000 in
/-- checkRange -/
theorem c_X0_checkRange (l : Launch) (hfl : l.stackTraces = false) (D : va_G) (W0 : va_W) (tys : List (ClassId × FieldType)) (H : Heap) (A : Nat → Prop) (v lo hi : Int32) : ckM l yX0_checkRange wsX0_checkRange ({ frames := 6, cells := 1, slots := 6, locals := 90 }) [.int v, .int lo, .int hi] D W0 tys H A (inR v lo hi = true) xE1 := by
  refine ck_of (cc := cX0_checkRange) (maxL := 3) (ret := none) (by decide) rfl (Nat.le_of_ble_eq_true rfl) ?_
  intro p e s m args below meth c he hout hH hP hK hT ls hl
  obtain ⟨hx, hb, hr, hml, hown, hts, hlocks⟩ := he
  have hown : s.vm.findClass RX0 = some m.cls := hown
  have hl : lv_has ls 3 [(0, .int v), (1, .int lo), (2, .int hi)] := hl
  refine lv_iload_n hx hb dX0_checkRange_0 rfl (lv_at hl 0 rfl) ?_
  refine lv_iload_n hx hb dX0_checkRange_1 rfl (lv_at hl 1 rfl) ?_
  refine lv_icmp_lt (tgt := 10) hx hb dX0_checkRange_2 (by decide) (fun c2 => ?_) (fun c2 => ?_)
  · obtain ⟨sa, hsa⟩ := hT.2.2.1.2.2.2
    exact thr_go (A := A) (cls := xE1) (ik := 121) (ic := 125) hfl hx hb hown hlocks hout (by rw [hml]; exact hl.1) hH (by decide +kernel) (hts (.classLink RX0 121 xE1) (by decide +kernel)) (hts (.initialized xE1) (by decide +kernel)) hsa (fun w hw => hts w ((show ∀ w ∈ (vx_atS RX0 125 xE1 xNs).filter goodWord, w ∈ wsX0_checkRange by decide +kernel) w hw)) xh1 (xb1 hT.2) xg1 hT.1 dX0_checkRange_10 dX0_checkRange_13 dX0_checkRange_14 dX0_checkRange_16 dX0_checkRange_19 (Nat.le_of_ble_eq_true rfl) (Nat.le_of_ble_eq_true rfl) (Nat.le_of_ble_eq_true rfl) (Nat.le_of_ble_eq_true rfl) (fun t hgr => ⟨⟨rfl, inR_nf1 c2⟩, hgr⟩)
  · refine lv_iload_n hx hb dX0_checkRange_5 rfl (lv_at hl 0 rfl) ?_
    refine lv_iload_n hx hb dX0_checkRange_6 rfl (lv_at hl 2 rfl) ?_
    refine lv_icmp_le (tgt := 20) hx hb dX0_checkRange_7 (by decide) (fun c7 => ?_) (fun c7 => ?_)
    · exact ck_ret hx hb hr hlocks hH (inR_t c2 (Int32.not_lt.mpr c7)) dX0_checkRange_20
    · obtain ⟨sa, hsa⟩ := hT.2.2.1.2.2.2
      exact thr_go (A := A) (cls := xE1) (ik := 121) (ic := 125) hfl hx hb hown hlocks hout (by rw [hml]; exact hl.1) hH (by decide +kernel) (hts (.classLink RX0 121 xE1) (by decide +kernel)) (hts (.initialized xE1) (by decide +kernel)) hsa (fun w hw => hts w ((show ∀ w ∈ (vx_atS RX0 125 xE1 xNs).filter goodWord, w ∈ wsX0_checkRange by decide +kernel) w hw)) xh1 (xb1 hT.2) xg1 hT.1 dX0_checkRange_10 dX0_checkRange_13 dX0_checkRange_14 dX0_checkRange_16 dX0_checkRange_19 (Nat.le_of_ble_eq_true rfl) (Nat.le_of_ble_eq_true rfl) (Nat.le_of_ble_eq_true rfl) (Nat.le_of_ble_eq_true rfl) (fun t hgr => ⟨⟨rfl, inR_nf2 (Int32.not_le.mp c7)⟩, hgr⟩)
set_option maxHeartbeats 4000000 in
set_option maxRecDepth 100000 in
/-- checkBollard -/
theorem c_X0_checkBollard (l : Launch) (hfl : l.stackTraces = false) (D : va_G) (cI cZ : ClassId) (h : Nat) (a : Nat → Nat) (σ : St) (H : Heap) (A : Nat → Prop) {nL nB : Nat} (hI : inv σ nL nB) (v : Int32) : ckM l yX0_checkBollard wsX0_checkBollard ({ frames := 6, cells := 1, slots := 6, locals := 90 }) [.ref h, .int v] D (xw cI cZ h a σ) (tyX cI cZ) H A (inR v 0 (nI nB - 1) = true) xE3 := by
  refine ck_of (cc := cX0_checkBollard) (maxL := 2) (ret := none) (by decide) rfl (Nat.le_of_ble_eq_true rfl) ?_
  intro p e s m args below meth c he hout hH hP hK hT ls hl
  obtain ⟨hx, hb, hr, hml, hown, hts, hlocks⟩ := he
  have hown : s.vm.findClass RX0 = some m.cls := hown
  have hl : lv_has ls 2 [(0, .ref h), (1, .int v)] := hl
  have hin : ∀ w ∈ u_ws RX0 TX0 15, w ∈ wsX0_checkBollard := by decide +kernel
  refine lv_iload_n hx hb dX0_checkBollard_0 rfl (lv_at hl 1 rfl) ?_
  refine lv_if_lt (tgt := 12) hx hb dX0_checkBollard_1 (by decide) (fun c1 => ?_) (fun c1 => ?_)
  · obtain ⟨sa, hsa⟩ := hT.2.2.1.2.1
    exact thr_go (A := A) (cls := xE3) (ik := 135) (ic := 139) hfl hx hb hown hlocks hout (by rw [hml]; exact hl.1) hH (by decide +kernel) (hts (.classLink RX0 135 xE3) (by decide +kernel)) (hts (.initialized xE3) (by decide +kernel)) hsa (fun w hw => hts w ((show ∀ w ∈ (vx_atS RX0 139 xE3 xNs).filter goodWord, w ∈ wsX0_checkBollard by decide +kernel) w hw)) xh3 (xb3 hT.2) xg3 hT.1 dX0_checkBollard_12 dX0_checkBollard_15 dX0_checkBollard_16 dX0_checkBollard_18 dX0_checkBollard_21 (Nat.le_of_ble_eq_true rfl) (Nat.le_of_ble_eq_true rfl) (Nat.le_of_ble_eq_true rfl) (Nat.le_of_ble_eq_true rfl) (fun t hgr => ⟨⟨rfl, inR_nf1 c1⟩, hgr⟩)
  · refine lv_iload_n hx hb dX0_checkBollard_4 rfl (lv_at hl 1 rfl) ?_
    refine lv_aload_n hx hb dX0_checkBollard_5 rfl (lv_at hl 0 rfl) ?_
    refine x_get hin hx hb hts hown hK hP rfl 4 (by decide) (v := .int (nI nB)) (congrArg (fun z => some (Value.int z)) hI.2.2.1) (by decide +kernel) dX0_checkBollard_6 ?_
    refine lv_icmp_lt (tgt := 22) hx hb dX0_checkBollard_9 (by decide) (fun c9 => ?_) (fun c9 => ?_)
    · exact ck_ret hx hb hr hlocks hH (line_in (by have := hI.2.2.2.1; omega) c1 c9) dX0_checkBollard_22
    · obtain ⟨sa, hsa⟩ := hT.2.2.1.2.1
      exact thr_go (A := A) (cls := xE3) (ik := 135) (ic := 139) hfl hx hb hown hlocks hout (by rw [hml]; exact hl.1) hH (by decide +kernel) (hts (.classLink RX0 135 xE3) (by decide +kernel)) (hts (.initialized xE3) (by decide +kernel)) hsa (fun w hw => hts w ((show ∀ w ∈ (vx_atS RX0 139 xE3 xNs).filter goodWord, w ∈ wsX0_checkBollard by decide +kernel) w hw)) xh3 (xb3 hT.2) xg3 hT.1 dX0_checkBollard_12 dX0_checkBollard_15 dX0_checkBollard_16 dX0_checkBollard_18 dX0_checkBollard_21 (Nat.le_of_ble_eq_true rfl) (Nat.le_of_ble_eq_true rfl) (Nat.le_of_ble_eq_true rfl) (Nat.le_of_ble_eq_true rfl) (fun t hgr => ⟨⟨rfl, line_out (by have := hI.2.2.2.1; omega) c9⟩, hgr⟩)
set_option maxHeartbeats 4000000 in
set_option maxRecDepth 100000 in
/-- checkLine -/
theorem c_X0_checkLine (l : Launch) (hfl : l.stackTraces = false) (D : va_G) (cI cZ : ClassId) (h : Nat) (a : Nat → Nat) (σ : St) (H : Heap) (A : Nat → Prop) {nL nB : Nat} (hI : inv σ nL nB) (v : Int32) : ckM l yX0_checkLine wsX0_checkLine ({ frames := 6, cells := 1, slots := 6, locals := 90 }) [.ref h, .int v] D (xw cI cZ h a σ) (tyX cI cZ) H A (inR v 0 (nI nL - 1) = true) xE3 := by
  refine ck_of (cc := cX0_checkLine) (maxL := 2) (ret := none) (by decide) rfl (Nat.le_of_ble_eq_true rfl) ?_
  intro p e s m args below meth c he hout hH hP hK hT ls hl
  obtain ⟨hx, hb, hr, hml, hown, hts, hlocks⟩ := he
  have hown : s.vm.findClass RX0 = some m.cls := hown
  have hl : lv_has ls 2 [(0, .ref h), (1, .int v)] := hl
  have hin : ∀ w ∈ u_ws RX0 TX0 15, w ∈ wsX0_checkLine := by decide +kernel
  refine lv_iload_n hx hb dX0_checkLine_0 rfl (lv_at hl 1 rfl) ?_
  refine lv_if_lt (tgt := 12) hx hb dX0_checkLine_1 (by decide) (fun c1 => ?_) (fun c1 => ?_)
  · obtain ⟨sa, hsa⟩ := hT.2.2.1.2.2.1
    exact thr_go (A := A) (cls := xE3) (ik := 135) (ic := 139) hfl hx hb hown hlocks hout (by rw [hml]; exact hl.1) hH (by decide +kernel) (hts (.classLink RX0 135 xE3) (by decide +kernel)) (hts (.initialized xE3) (by decide +kernel)) hsa (fun w hw => hts w ((show ∀ w ∈ (vx_atS RX0 139 xE3 xNs).filter goodWord, w ∈ wsX0_checkLine by decide +kernel) w hw)) xh3 (xb3 hT.2) xg3 hT.1 dX0_checkLine_12 dX0_checkLine_15 dX0_checkLine_16 dX0_checkLine_18 dX0_checkLine_21 (Nat.le_of_ble_eq_true rfl) (Nat.le_of_ble_eq_true rfl) (Nat.le_of_ble_eq_true rfl) (Nat.le_of_ble_eq_true rfl) (fun t hgr => ⟨⟨rfl, inR_nf1 c1⟩, hgr⟩)
  · refine lv_iload_n hx hb dX0_checkLine_4 rfl (lv_at hl 1 rfl) ?_
    refine lv_aload_n hx hb dX0_checkLine_5 rfl (lv_at hl 0 rfl) ?_
    refine x_get hin hx hb hts hown hK hP rfl 7 (by decide) (v := .int (nI nL)) (congrArg (fun z => some (Value.int z)) hI.1) (by decide +kernel) dX0_checkLine_6 ?_
    refine lv_icmp_lt (tgt := 22) hx hb dX0_checkLine_9 (by decide) (fun c9 => ?_) (fun c9 => ?_)
    · exact ck_ret hx hb hr hlocks hH (line_in (by have := hI.2.1; omega) c1 c9) dX0_checkLine_22
    · obtain ⟨sa, hsa⟩ := hT.2.2.1.2.2.1
      exact thr_go (A := A) (cls := xE3) (ik := 135) (ic := 139) hfl hx hb hown hlocks hout (by rw [hml]; exact hl.1) hH (by decide +kernel) (hts (.classLink RX0 135 xE3) (by decide +kernel)) (hts (.initialized xE3) (by decide +kernel)) hsa (fun w hw => hts w ((show ∀ w ∈ (vx_atS RX0 139 xE3 xNs).filter goodWord, w ∈ wsX0_checkLine by decide +kernel) w hw)) xh3 (xb3 hT.2) xg3 hT.1 dX0_checkLine_12 dX0_checkLine_15 dX0_checkLine_16 dX0_checkLine_18 dX0_checkLine_21 (Nat.le_of_ble_eq_true rfl) (Nat.le_of_ble_eq_true rfl) (Nat.le_of_ble_eq_true rfl) (Nat.le_of_ble_eq_true rfl) (fun t hgr => ⟨⟨rfl, line_out (by have := hI.2.1; omega) c9⟩, hgr⟩)
set_option maxHeartbeats 4000000 in
set_option maxRecDepth 100000 in
/-- tendThrough -/
theorem c_X0_tendThrough (l : Launch) (D : va_G) (cI cZ : ClassId) (h : Nat) (a : Nat → Nat) (σ : St) (Hi : Heap) (A : Nat → Prop) (hD : va_D A (xw cI cZ h a σ)) {nL nB : Nat} (hI : inv σ nL nB) (f u : Nat) (hf : f ≤ u) (hu : u < 48) : wrM l yX0_tendThrough wsX0_tendThrough ({ frames := 6, cells := 0, slots := 0, locals := 143 }) [.ref h, .int (nI f), .int (nI u)] D (xw cI cZ h a σ) (tyX cI cZ) Hi (S := St) (fun ρ => xw cI cZ h a ρ) (fun r ρ => r = plR (u + 1 - f) σ f 0 ∧ ∀ k, k ≠ 12 → ρ k = σ k) A := by
  refine wr_of (cc := cX0_tendThrough) (maxL := 5) (ret := some .int) (by decide) rfl (Nat.le_of_ble_eq_true rfl) ?_
  intro p e s m args below meth c9 he hH hP hK ls hl
  obtain ⟨hx, hb, hr, hml, hown, hts, hlocks⟩ := he
  have hown : s.vm.findClass RX0 = some m.cls := hown
  have hS : va_S A Hi Hi [] := va_S.rf
  have hL : σ 7 0 = nI nL := hI.1
  have hL10 : nL ≤ 10 := hI.2.1
  have hl : lv_has ls 5 [(0, .ref h), (1, .int (nI f)), (2, .int (nI u))] := hl
  refine lv_iconst (v := 0) hx hb dX0_tendThrough_0 (by decide) ?_
  refine lv_istore_n (lv' := [(3, .int 0), (0, .ref h), (1, .int (nI f)), (2, .int (nI u))]) hx hb dX0_tendThrough_1 rfl hl (by decide) rfl (fun ls hl => ?_)
  refine lv_iload_n hx hb dX0_tendThrough_2 rfl (lv_at hl 2 rfl) ?_
  refine lv_istore (lv' := [(4, .int (nI f)), (3, .int 0), (0, .ref h), (1, .int (nI f)), (2, .int (nI u))]) hx hb dX0_tendThrough_3 hl (by decide) rfl (fun ls hl => ?_)
  suffices K : ∀ (n t c : Nat) (ρ : St) (H : Heap) (locs : List Loc) (ls : Array Slot), t + n = u + 1 → inv ρ nL nB → (∀ k, k ≠ 12 → ρ k = σ k) → plR n ρ t c = plR (u + 1 - f) σ f 0 → va_P D vwCl (xw cI cZ h a ρ) H → va_S A Hi H locs → lv_has ls 5 [(4, .int (nI t)), (3, .int (nI c)), (0, .ref h), (1, .int (nI f)), (2, .int (nI u))] → W p l e _ s m args below meth c9 H locs 0 0 (wrQ below D (fun ρ : St => xw cI cZ h a ρ) (fun r ρ => r = plR (u + 1 - f) σ f 0 ∧ ∀ k, k ≠ 12 → ρ k = σ k) A args s) (F0 m 5 ls []) by
    exact K (u + 1 - f) f 0 σ Hi [] ls (by omega) hI (fun _ _ => rfl) rfl hP hS (lv_sub hl [0, 1, 2, 3, 4] rfl)
  intro n
  induction n with
  | zero =>
      intro t c ρ H locs ls ht hIr hag hpl hP hS hl
      refine lv_iload hx hb dX0_tendThrough_5 (lv_at hl 0 rfl) ?_
      refine lv_iload_n hx hb dX0_tendThrough_7 rfl (lv_at hl 4 rfl) ?_
      refine lv_icmp_gt (tgt := 47) hx hb dX0_tendThrough_8 (by decide) (fun c8 => ?_) (fun c8 => ?_)
      · refine lv_iload_n hx hb dX0_tendThrough_47 rfl (lv_at hl 1 rfl) ?_
        exact wr_ret (v := (nI c)) ρ hx hb hr hlocks hH hS hP ⟨hpl, hag⟩ dX0_tendThrough_48
      · exact absurd (nI_lt (a := u) (b := t) (by omega) (by omega)) c8
  | succ n ih =>
      intro t c ρ H locs ls ht hIr hag hpl hP hS hl
      have ht48 : t < 48 := by omega
      refine lv_iload hx hb dX0_tendThrough_5 (lv_at hl 0 rfl) ?_
      refine lv_iload_n hx hb dX0_tendThrough_7 rfl (lv_at hl 4 rfl) ?_
      refine lv_icmp_gt (tgt := 47) hx hb dX0_tendThrough_8 (by decide) (fun c8 => ?_) (fun c8 => ?_)
      · exact absurd c8 (nI_nlt (by omega) (by omega))
      · refine lv_aload_n hx hb dX0_tendThrough_11 rfl (lv_at hl 2 rfl) ?_
        refine lv_iload hx hb dX0_tendThrough_12 (lv_at hl 0 rfl) ?_
        refine ro_callV 1 hx hb hml hown hts hl.1 hP hK 0 0 rfl rfl (As := [.int (nI t)]) (rest := []) (c_X0_holdsIn l D cI cZ h a ρ H hIr t ht48) gX0_tendThrough_X0_holdsIn rfl rfl rfl (by decide +kernel) ⟨Nat.le_of_ble_eq_true rfl, Nat.le_of_ble_eq_true rfl⟩ rfl rfl (Nat.le_of_ble_eq_true rfl) dX0_tendThrough_14 ⟨Nat.zero_le _, Nat.zero_le _⟩ (fun r1 hr1 => ?_)
        subst hr1
        refine lv_if_ne (tgt := 41) hx hb dX0_tendThrough_17 (by decide) (fun c17 => ?_) (fun c17 => ?_)
        · refine lv_iinc (v := (nI (t + 1))) (lv' := [(4, .int (nI (t + 1))), (3, .int (nI c)), (0, .ref h), (1, .int (nI f)), (2, .int (nI u))]) hx hb dX0_tendThrough_41 hl (k := 0) rfl (by exact nI_add _ 1) (by decide) rfl (fun ls hl => ?_)
          refine lv_goto (tgt := 5) hx hb dX0_tendThrough_44 (by decide) ?_
          exact ih (t + 1) c ρ H locs ls (by omega) hIr hag (by rw [← hpl]; show _ = (if safe_ ρ t = true then plR n ρ (t + 1) c else _); rw [if_pos (bI_t c17)]) hP hS (lv_sub hl [0, 1, 2, 3, 4] rfl)
        · have hns : ¬ safe_ ρ t = true := by rw [bI_f c17]; decide
          have hD1 : va_D A (xw cI cZ h a ρ) := xD hD
          refine lv_aload_n hx hb dX0_tendThrough_20 rfl (lv_at hl 2 rfl) ?_
          refine lv_iload hx hb dX0_tendThrough_21 (lv_at hl 0 rfl) ?_
          refine wr_callV 1 hx hb hml hown hts hl.1 hP hK hS (fun _ h9 => h9) 0 0 rfl rfl (As := [.int (nI t)]) (rest := []) (c_X0_tendFastLines l D cI cZ h a ρ H A hD1 hIr t ht48) gX0_tendThrough_X0_tendFastLines rfl rfl rfl (by decide +kernel) ⟨Nat.le_of_ble_eq_true rfl, Nat.le_of_ble_eq_true rfl⟩ rfl rfl (Nat.le_of_ble_eq_true rfl) dX0_tendThrough_23 ⟨Nat.zero_le _, Nat.zero_le _⟩ (fun r2 u2 H locs hr2 hP hS _ _ => ?_)
          refine lv_pop hx hb dX0_tendThrough_26 rfl ?_
          refine lv_iinc (v := (nI (c + 1))) (lv' := [(3, .int (nI (c + 1))), (4, .int (nI t)), (0, .ref h), (1, .int (nI f)), (2, .int (nI u))]) hx hb dX0_tendThrough_27 hl (k := 1) rfl (by exact nI_add _ 1) (by decide) rfl (fun ls hl => ?_)
          refine lv_aload_n hx hb dX0_tendThrough_30 rfl (lv_at hl 2 rfl) ?_
          refine lv_iload hx hb dX0_tendThrough_31 (lv_at hl 1 rfl) ?_
          refine ro_callV 1 hx hb hml hown hts hl.1 hP hK 0 0 rfl rfl (As := [.int (nI t)]) (rest := []) (c_X0_holdsIn l D cI cZ h a (tnd ρ t) H (inv_tnd hIr ht48) t ht48) gX0_tendThrough_X0_holdsIn rfl rfl rfl (by decide +kernel) ⟨Nat.le_of_ble_eq_true rfl, Nat.le_of_ble_eq_true rfl⟩ rfl rfl (Nat.le_of_ble_eq_true rfl) dX0_tendThrough_33 ⟨Nat.zero_le _, Nat.zero_le _⟩ (fun r3 hr3 => ?_)
          subst hr3
          have hag2 : ∀ k, k ≠ 12 → tnd ρ t k = σ k := fun k hk => by
            show cond (Nat.beq k 12) _ (ρ k) = σ k
            rw [show Nat.beq k 12 = false from Bool.eq_false_iff.mpr (fun q => hk (Nat.eq_of_beq_eq_true q))]; exact hag k hk
          refine lv_if_ne (tgt := 41) hx hb dX0_tendThrough_36 (by decide) (fun c36 => ?_) (fun c36 => ?_)
          · refine lv_iinc (v := (nI (t + 1))) (lv' := [(4, .int (nI (t + 1))), (3, .int (nI (c + 1))), (0, .ref h), (1, .int (nI f)), (2, .int (nI u))]) hx hb dX0_tendThrough_41 hl (k := 1) rfl (by exact nI_add _ 1) (by decide) rfl (fun ls hl => ?_)
            refine lv_goto (tgt := 5) hx hb dX0_tendThrough_44 (by decide) ?_
            exact ih (t + 1) (c + 1) (tnd ρ t) H locs ls (by omega) (inv_tnd hIr ht48) hag2 (by rw [← hpl]; show _ = (if safe_ ρ t = true then plR n ρ (t + 1) c else if safe_ (tnd ρ t) t = true then plR n (tnd ρ t) (t + 1) (c + 1) else -1); rw [if_neg hns, if_pos (bI_t c36)]) hP hS (lv_sub hl [0, 1, 2, 3, 4] rfl)
          · refine lv_iconst (v := (-1)) hx hb dX0_tendThrough_39 (by decide) ?_
            exact wr_ret (v := (-1)) (tnd ρ t) hx hb hr hlocks hH hS hP ⟨by rw [← hpl]; show _ = (if safe_ ρ t = true then plR n ρ (t + 1) c else if safe_ (tnd ρ t) t = true then plR n (tnd ρ t) (t + 1) (c + 1) else -1); rw [if_neg hns, if_neg (by rw [bI_f c36]; decide)], hag2⟩ dX0_tendThrough_40
end
