section
-- ===== PART A: goes FIRST, ahead of the names: the tables' words, and 'selects' of the private methods out of them =====
/-- a private method of a class that the tables say can be made, by its rows of tables_1 -/
def lw_okq (q : MethodName × Nat) : Prop := (q.1.cls ≠ "java/lang/invoke/MethodHandle" ∧ q.1.cls ≠ "java/lang/invoke/VarHandle") ∧ Cond.instantiable q.1.cls q.2 ∈ tables_1 ∧ Cond.privateMethod q.1 ∈ tables_1 ∧ Cond.instanceMethod q.1 ∈ tables_1
theorem lw_p0 : lw_okq (⟨"java/lang/Throwable", "fillInStackTrace", "(I)Ljava/lang/Throwable;"⟩, 6) := ⟨⟨by decide +kernel, by decide +kernel⟩, List.mem_of_getElem? (i := 131) (by decide +kernel), List.mem_of_getElem? (i := 129) (by decide +kernel), List.mem_of_getElem? (i := 130) (by decide +kernel)⟩
theorem lw_p1 : lw_okq (⟨"MoorWatch", "checkBollard", "(I)V"⟩, 15) := ⟨⟨by decide +kernel, by decide +kernel⟩, List.mem_of_getElem? (i := 20) (by decide +kernel), List.mem_of_getElem? (i := 194) (by decide +kernel), List.mem_of_getElem? (i := 195) (by decide +kernel)⟩
theorem lw_p2 : lw_okq (⟨"MoorWatch", "tendFastLines", "(I)I"⟩, 15) := ⟨⟨by decide +kernel, by decide +kernel⟩, List.mem_of_getElem? (i := 20) (by decide +kernel), List.mem_of_getElem? (i := 245) (by decide +kernel), List.mem_of_getElem? (i := 246) (by decide +kernel)⟩
theorem lw_p3 : lw_okq (⟨"MoorWatch", "balanceOf", "(I)I"⟩, 15) := ⟨⟨by decide +kernel, by decide +kernel⟩, List.mem_of_getElem? (i := 20) (by decide +kernel), List.mem_of_getElem? (i := 249) (by decide +kernel), List.mem_of_getElem? (i := 250) (by decide +kernel)⟩
theorem lw_p4 : lw_okq (⟨"MoorWatch", "forceWith", "(II)I"⟩, 15) := ⟨⟨by decide +kernel, by decide +kernel⟩, List.mem_of_getElem? (i := 20) (by decide +kernel), List.mem_of_getElem? (i := 256) (by decide +kernel), List.mem_of_getElem? (i := 257) (by decide +kernel)⟩
theorem lw_p5 : lw_okq (⟨"MoorWatch", "pullWith", "(III)I"⟩, 15) := ⟨⟨by decide +kernel, by decide +kernel⟩, List.mem_of_getElem? (i := 20) (by decide +kernel), List.mem_of_getElem? (i := 260) (by decide +kernel), List.mem_of_getElem? (i := 261) (by decide +kernel)⟩
theorem lw_p6 : lw_okq (⟨"MoorWatch", "heightIn", "(I)I"⟩, 15) := ⟨⟨by decide +kernel, by decide +kernel⟩, List.mem_of_getElem? (i := 20) (by decide +kernel), List.mem_of_getElem? (i := 264) (by decide +kernel), List.mem_of_getElem? (i := 265) (by decide +kernel)⟩
theorem lw_p7 : lw_okq (⟨"MoorWatch", "tensionAtLength", "(II)I"⟩, 15) := ⟨⟨by decide +kernel, by decide +kernel⟩, List.mem_of_getElem? (i := 20) (by decide +kernel), List.mem_of_getElem? (i := 268) (by decide +kernel), List.mem_of_getElem? (i := 269) (by decide +kernel)⟩
theorem lw_p8 : lw_okq (⟨"MoorWatch", "lengthWith", "(III)I"⟩, 15) := ⟨⟨by decide +kernel, by decide +kernel⟩, List.mem_of_getElem? (i := 20) (by decide +kernel), List.mem_of_getElem? (i := 275) (by decide +kernel), List.mem_of_getElem? (i := 276) (by decide +kernel)⟩
theorem lw_p9 : lw_okq (⟨"MoorWatch", "checkLine", "(I)V"⟩, 15) := ⟨⟨by decide +kernel, by decide +kernel⟩, List.mem_of_getElem? (i := 20) (by decide +kernel), List.mem_of_getElem? (i := 295) (by decide +kernel), List.mem_of_getElem? (i := 296) (by decide +kernel)⟩
theorem lw_p10 : lw_okq (⟨"MoorWatch", "driftsWith", "(II)Z"⟩, 15) := ⟨⟨by decide +kernel, by decide +kernel⟩, List.mem_of_getElem? (i := 20) (by decide +kernel), List.mem_of_getElem? (i := 319) (by decide +kernel), List.mem_of_getElem? (i := 320) (by decide +kernel)⟩
theorem lw_p11 : lw_okq (⟨"MoorWatch", "holdsIn", "(I)Z"⟩, 15) := ⟨⟨by decide +kernel, by decide +kernel⟩, List.mem_of_getElem? (i := 20) (by decide +kernel), List.mem_of_getElem? (i := 330) (by decide +kernel), List.mem_of_getElem? (i := 331) (by decide +kernel)⟩
theorem lw_p12 : lw_okq (⟨"MoorWatch", "linesHold", "(II)Z"⟩, 15) := ⟨⟨by decide +kernel, by decide +kernel⟩, List.mem_of_getElem? (i := 20) (by decide +kernel), List.mem_of_getElem? (i := 334) (by decide +kernel), List.mem_of_getElem? (i := 335) (by decide +kernel)⟩
theorem lw_p13 : lw_okq (⟨"MoorWatch", "bollardsHold", "(II)Z"⟩, 15) := ⟨⟨by decide +kernel, by decide +kernel⟩, List.mem_of_getElem? (i := 20) (by decide +kernel), List.mem_of_getElem? (i := 338) (by decide +kernel), List.mem_of_getElem? (i := 339) (by decide +kernel)⟩
theorem lw_p14 : lw_okq (⟨"MoorWatch", "bollardTension", "(III)I"⟩, 15) := ⟨⟨by decide +kernel, by decide +kernel⟩, List.mem_of_getElem? (i := 20) (by decide +kernel), List.mem_of_getElem? (i := 342) (by decide +kernel), List.mem_of_getElem? (i := 343) (by decide +kernel)⟩
theorem lw_p15 : lw_okq (⟨"MoorWatch", "tendThrough", "(II)I"⟩, 15) := ⟨⟨by decide +kernel, by decide +kernel⟩, List.mem_of_getElem? (i := 20) (by decide +kernel), List.mem_of_getElem? (i := 381) (by decide +kernel), List.mem_of_getElem? (i := 382) (by decide +kernel)⟩
def lw_privs_1 : List (MethodName × Nat) := [(⟨"java/lang/Throwable", "fillInStackTrace", "(I)Ljava/lang/Throwable;"⟩, 6), (⟨"MoorWatch", "checkBollard", "(I)V"⟩, 15), (⟨"MoorWatch", "tendFastLines", "(I)I"⟩, 15), (⟨"MoorWatch", "balanceOf", "(I)I"⟩, 15), (⟨"MoorWatch", "forceWith", "(II)I"⟩, 15), (⟨"MoorWatch", "pullWith", "(III)I"⟩, 15), (⟨"MoorWatch", "heightIn", "(I)I"⟩, 15), (⟨"MoorWatch", "tensionAtLength", "(II)I"⟩, 15), (⟨"MoorWatch", "lengthWith", "(III)I"⟩, 15), (⟨"MoorWatch", "checkLine", "(I)V"⟩, 15), (⟨"MoorWatch", "driftsWith", "(II)Z"⟩, 15), (⟨"MoorWatch", "holdsIn", "(I)Z"⟩, 15), (⟨"MoorWatch", "linesHold", "(II)Z"⟩, 15), (⟨"MoorWatch", "bollardsHold", "(II)Z"⟩, 15), (⟨"MoorWatch", "bollardTension", "(III)I"⟩, 15), (⟨"MoorWatch", "tendThrough", "(II)I"⟩, 15)]
theorem lw_r1 : ∀ q ∈ lw_privs_1, lw_okq q := List.forall_mem_cons.mpr ⟨lw_p0, List.forall_mem_cons.mpr ⟨lw_p1, List.forall_mem_cons.mpr ⟨lw_p2, List.forall_mem_cons.mpr ⟨lw_p3, List.forall_mem_cons.mpr ⟨lw_p4, List.forall_mem_cons.mpr ⟨lw_p5, List.forall_mem_cons.mpr ⟨lw_p6, List.forall_mem_cons.mpr ⟨lw_p7, List.forall_mem_cons.mpr ⟨lw_p8, List.forall_mem_cons.mpr ⟨lw_p9, List.forall_mem_cons.mpr ⟨lw_p10, List.forall_mem_cons.mpr ⟨lw_p11, List.forall_mem_cons.mpr ⟨lw_p12, List.forall_mem_cons.mpr ⟨lw_p13, List.forall_mem_cons.mpr ⟨lw_p14, List.forall_mem_cons.mpr ⟨lw_p15, fun _ h => absurd h List.not_mem_nil⟩⟩⟩⟩⟩⟩⟩⟩⟩⟩⟩⟩⟩⟩⟩⟩
def lw_privs : List (MethodName × Nat) := lw_privs_1
def lw_tbl : List Cond := k2_sels lw_privs ++ tables_1
theorem lw_privs_ok : ∀ q ∈ lw_privs, lw_okq q := lw_r1
end
section
/-! ===== BEGIN words of one list among another's, by their places ===== -/
theorem goodIn_r {big : List Cond} (ws : List Cond) (ps : List Nat) (hp : ws = ps.filterMap (fun i => big[i]?)) (h : ws.all goodWord = true) : GoodIn big ws := by
  intro w hw
  have h1 := List.all_eq_true.mp h w hw
  rw [hp] at hw
  obtain ⟨i, -, hi⟩ := List.mem_filterMap.mp hw
  have hm : w ∈ big := by first | exact List.mem_of_getElem? hi | exact List.getElem?_mem hi
  exact ⟨hm, good_of_word h1⟩
theorem goodIn_app {big a b : List Cond} (ha : GoodIn big a) (hb : GoodIn big b) : GoodIn big (a ++ b) := fun w h => (List.mem_append.mp h).elim (ha w) (hb w)
theorem goodIn_ca {big a b : List Cond} {c : Cond} (ha : GoodIn big (c :: a)) (hb : GoodIn big b) : GoodIn big (c :: (a ++ b)) := fun w h => (List.mem_cons.mp h).elim (fun e => ha w (List.mem_cons.mpr (Or.inl e))) (fun h => (List.mem_append.mp h).elim (fun h => ha w (List.mem_cons.mpr (Or.inr h))) (hb w))
theorem goodIn_sub {big ws : List Cond} (hm : ∀ w ∈ ws, w ∈ big) (h : ws.all goodWord = true) : GoodIn big ws := fun w hw => ⟨hm w hw, good_of_word (List.all_eq_true.mp h w hw)⟩
/-! ===== END ===== -/

/-! ===== BEGIN exceptions that leave a method, and their catching by the caller (launches without stack traces) ===== -/
section VXA
/-! The laws vx_back, vx_callV, vx_callS, vx_callSW, vx_throw0, vx_throwS follow proofs of the library, with one case more: JvmDerived/Free/Laws.lean (Back.of_free), Shelf42/LK1.lean (callV, callS), Shelf/KitTraced.lean (throwNew0V, throwNewS). -/
/-- where a method has thrown q: the class by its name, the cell, what was written, the world -/
def vx_T (XC : String → State → State → Prop) (st : State) (q : Addr) (t : State) (mc ms : Nat) (free : Addr → Prop) : Prop :=
  ∃ (E : String) (ce : Cell) (L : List Loc), XC E st t ∧ t.heap[q]? = some ce ∧ ce.vm = .none ∧ st.vm.findClass E = some ce.cls ∧ st.WarmedH t.vm ∧ st.sameButNew ({ t with vm := st.vm } : State) L mc ms ∧ ∀ z ∈ L, free z.base
def vx_Q (Qc : Array Value → State → Outcome → State → Prop) (XC : String → State → State → Prop) (mc ms : Nat) (free : Addr → Prop) : Array Value → State → Outcome → State → Prop := fun a st o t =>
  (Qc a st o t ∧ ∃ L, FrameEnd st o t L mc ms ∧ ∀ q ∈ L, free q.base) ∨ ∃ q, o = .threw q ∧ vx_T XC st q t mc ms free
/-- a callee that returns or throws -/
def vx_Met (l : Launch) (y : MethodName) (ws : List Cond) (rm : Room) (Pc : Array Value → State → Prop) (Qc : Array Value → State → Outcome → State → Prop) (XC : String → State → State → Prop) (mc ms : Nat) (free : Addr → Prop) : Prop :=
  MetFree l y (headSpec ws rm) Pc (fun _ _ _ _ _ => True) (vx_Q Qc XC mc ms free)
def vx_Post (XC : String → State → State → Prop) (mc ms : Nat) (free : Addr → Prop) : Pt → Array Value → Addr → Pt → Prop := fun A a q B =>
  ∃ (g : JFrame) (mk : MethodId) (t : State) (L : List Loc) (E : String) (ce : Cell), B.U.heap = t.heap ∧ B.U.vm = t.vm ∧ XC E (A.U.calling g mk a) t ∧ t.heap[q]? = some ce ∧ ce.vm = .none ∧ A.U.vm.findClass E = some ce.cls ∧ B.locs = A.locs ++ L ∧ (∀ z ∈ L, free z.base) ∧ B.cells = A.cells + mc ∧ B.slots = A.slots + ms
def vx_Back (l : Launch) (R : Room) (p : Program) (e : Env) (below : List Frame) (s : State) (sargs : Array Value) (y : MethodName) (len W9 : Nat)
    (Pre : Pt → Array Value → Prop) (Post : Pt → Array Value → Option Value → Pt → Prop) (PostX : Pt → Array Value → Addr → Pt → Prop) : Prop :=
  ∀ (m : MethodId) (meth : Method) (c : Code) (A : Pt) (g : JFrame) (ig : Instr) (mk : MethodId) (a : Array Value),
    Stand p l e R s m sargs below meth c A.U A.locs A.cells A.slots → g.method = m → g.locals.size = c.maxLocals → decode c.code g.pc = .ok (ig, len) →
    2 * g.monitorRoom + (g.stack.map fun v => v.category).sum ≤ W9 → A.U.methodNamed? y = some mk → Pre A a →
    (∃ (v : Option Value) (B : Pt), Stand p l e R s m sargs below meth c B.U B.locs B.cells B.slots ∧ Post A a v B ∧
      Steps p.tables e below (doInvoke e (A.U.setTop g) [] mk a).1 (B.U.setTop { g with pc := g.pc + len, stack := v.toList ++ g.stack })) ∨
    (∃ (q : Addr) (B : Pt), Stand p l e R s m sargs below meth c B.U B.locs B.cells B.slots ∧ PostX A a q B ∧
      Steps p.tables e below (doInvoke e (A.U.setTop g) [] mk a).1 ((B.U.setTop g).pushFrame (.throwing q)))
section Payer
variable {l : Launch} {R : Room} {p : Program} {e : Env} {below : List Frame} {s : State} {sargs : Array Value} {y : MethodName} {len W9 : Nat}
theorem vx_back {ws : List Cond} {rm : Room} {Pc : Array Value → State → Prop} {Qc : Array Value → State → Outcome → State → Prop} {XC : String → State → State → Prop} {mc ms : Nat} {free : Addr → Prop} {bytes : ByteArray} {maxL : Nat} {ret : Option FieldType}
    (hM : vx_Met l y ws rm Pc Qc XC mc ms free) (hblind : FrameBlind Pc) (hrc : rm.cells = mc) (hrs : rm.slots = ms)
    (hframes : rm.frames + 1 ≤ R.frames) (hlocals : W9 + (maxL + 11) + rm.locals ≤ R.locals)
    (hws : ∀ w ∈ ws, ∀ a' U, s.WarmedH U.vm → w.before a' U = true) (hcode : Cond.code y bytes maxL ret ∈ ws) (hinit : ∀ a' U, s.WarmedH U.vm → (Cond.initialized y.cls).before a' U = true) :
    vx_Back l R p e below s sargs y len W9 (PreOf R mc ms Pc) (PostOf Qc mc ms free) (vx_Post XC mc ms free) := by
  intro m meth c A g ig mk a X hg hsize hdg hW hn hp
  have h1 : (headSpec ws rm).pre.before a A.U = true := atoms_intro fun w hw => hws w hw _ _ X.warmed
  have h2 : (Cond.code y bytes maxL ret).before a A.U = true := hws _ hcode _ _ X.warmed
  have h3 : (Cond.initialized y.cls).before a A.U = true := hinit _ _ X.warmed
  have h4 : A.cells + (headSpec ws rm).room.cells ≤ R.cells := by rw [show (headSpec ws rm).room.cells = mc from hrc]; exact hp.1
  have h5 : A.slots + (headSpec ws rm).room.slots ≤ R.slots := by rw [show (headSpec ws rm).room.slots = ms from hrs]; exact hp.2.1
  have hPc : Pc a (A.U.calling g mk a) := hblind _ _ _ _ hp.2.2
  obtain ⟨U, Ls, c0, s0⟩ := A
  dsimp only [Pt.U, Pt.locs, Pt.cells, Pt.slots] at h1 h2 h3 h4 h5 X hn hPc ⊢
  obtain ⟨methY, cY, hmY, hcY, -, hlY, -, -, -, -⟩ := Cond.code_spec hn h2
  obtain ⟨kY, hkY, -⟩ := className_of_methodNamed hn
  have hinitY : kY.init = .initialized := Cond.initialized_spec (findClass_of_methodNamed hn) hkY h3
  have h : At U g.method c below := by rw [hg]; exact X.here
  have hlocals9 : W9 + (maxL + 11) + (headSpec ws rm).room.locals ≤ R.locals := hlocals
  have happ : (headSpec ws rm).appliesLoose y e.platform (U.calling g mk a) = true :=
    Spec.appliesLoose_calling (g := g) h hdg hn hkY hinitY
      (X.room_calling (g := g) (R' := (headSpec ws rm).room) hsize hmY hcY hframes (by rw [hlY]; omega) h4 h5) h1
  obtain ⟨mid, hmid⟩ := h.above
  have hfr : (U.setTop g).frames = (.java g :: mid) ++ below := by rw [State.frames_setTop' g h.top, hmid]; rfl
  obtain ⟨o, s₂, hsteps, -, hend, hq⟩ := Steps.callFree hM p X.admits X.cas X.clock (acts := []) hfr happ hPc trivial
  have hq' : vx_Q Qc XC mc ms free a (U.calling g mk a) o s₂ := hq
  rw [State.frames_setTop' g h.top] at hend
  obtain ⟨g₀, hg0⟩ := Option.isSome_iff_exists.mp h.top
  obtain ⟨r, hr⟩ := State.topJava?_eq_some.mp hg0
  have hr' : (({ U with heap := s₂.heap, slotsUsed := s₂.slotsUsed } : State).setVm s₂.vm).frames = .java g₀ :: r := hr
  rcases hq' with ⟨hqc, L, hfe, hL⟩ | ⟨q, rfl, E, ce, L, hx, hce, hcv, hcl, hW₂, hsm, hL⟩
  · obtain ⟨⟨v, rfl⟩, hW₂, e2, q2, q3, q4, q5, q6⟩ := id hfe
    have e3 : s₂ = ({ (U.calling g mk a).setFrames s₂.frames with heap := s₂.heap, slotsUsed := s₂.slotsUsed } : State).setVm s₂.vm := by
      have : s₂ = ({ s₂ with vm := (U.calling g mk a).vm } : State).setVm s₂.vm := rfl
      rw [e2] at this
      exact this
    obtain ⟨c₂, i₂, len₂, hc₂, hd₂, hf₂⟩ := hend
    have hW' : U.WarmedH s₂.vm := hW₂
    have hcc : c₂ = c := by
      have h1 : s₂.code? g.method = U.code? g.method := by
        rw [State.code?_eq, State.code?_eq, hW'.alike.method?]
      exact Option.some.inj (hc₂.symm.trans (h1.trans h.code))
    subst hcc
    have hlen : len₂ = len := by rw [hdg] at hd₂; cases hd₂; rfl
    subst hlen
    have hs₂ : s₂ = (({ U with heap := s₂.heap, slotsUsed := s₂.slotsUsed } : State).setVm s₂.vm).setTop { g with pc := g.pc + len₂, stack := v.toList ++ g.stack } := by
      refine e3.trans ?_
      rw [hf₂, State.calling_eq h.top, State.setFrames_setFrames, State.setTop_of_frames _ hr', hr]
      rfl
    have hsame : U.sameButNew ({ U with heap := s₂.heap, slotsUsed := s₂.slotsUsed } : State) L mc ms := by
      refine ⟨?_, q2, q3, q4, q5, q6⟩
      obtain ⟨t, ht, -⟩ := State.frames_cons hr
      show ({ U with heap := s₂.heap, slotsUsed := s₂.slotsUsed } : State) = { U.setFrames U.frames with heap := s₂.heap, slotsUsed := s₂.slotsUsed }
      rw [State.setFrames_self ht]
    subst hg
    refine Or.inl ⟨v, ⟨(({ U with heap := s₂.heap, slotsUsed := s₂.slotsUsed } : State).setVm s₂.vm), Ls ++ L, c0 + mc, s0 + ms⟩,
      ⟨X.admits, X.cas, X.clock, X.frames, X.room, X.hears, X.method, X.code, (X.here.setHeapUsed s₂.heap s₂.slotsUsed).setVm hW'.alike, X.tail, State.WarmedH.trans X.warmed hW', X.limits, X.bytes, X.same.trans (hsame.setVm s.vm)⟩,
      ⟨g, mk, s₂, L, rfl, rfl, hqc, rfl, hL, rfl, rfl⟩, ?_⟩
    show Steps p.tables e below _ ((({ U with heap := s₂.heap, slotsUsed := s₂.slotsUsed } : State).setVm s₂.vm).setTop { g with pc := g.pc + len₂, stack := v.toList ++ g.stack })
    rw [← hs₂]
    exact hsteps
  · obtain ⟨e2, q2, q3, q4, q5, q6⟩ := id hsm
    have e3 : s₂ = ({ (U.calling g mk a).setFrames s₂.frames with heap := s₂.heap, slotsUsed := s₂.slotsUsed } : State).setVm s₂.vm := by
      have : s₂ = ({ s₂ with vm := (U.calling g mk a).vm } : State).setVm s₂.vm := rfl
      rw [e2] at this
      exact this
    have hf₂ : s₂.frames = .throwing q :: .java g :: U.frames.tail := hend
    have hW' : U.WarmedH s₂.vm := hW₂
    have hs₂ : s₂ = ((({ U with heap := s₂.heap, slotsUsed := s₂.slotsUsed } : State).setVm s₂.vm).setTop g).pushFrame (.throwing q) := by
      refine e3.trans ?_
      rw [hf₂, State.calling_eq h.top, State.setFrames_setFrames, State.pushFrame, State.frames_setTop _ hr', State.setTop_of_frames _ hr', State.setFrames_setFrames, hr]
      rfl
    have hsame : U.sameButNew ({ U with heap := s₂.heap, slotsUsed := s₂.slotsUsed } : State) L mc ms := by
      refine ⟨?_, q2, q3, q4, q5, q6⟩
      obtain ⟨t, ht, -⟩ := State.frames_cons hr
      show ({ U with heap := s₂.heap, slotsUsed := s₂.slotsUsed } : State) = { U.setFrames U.frames with heap := s₂.heap, slotsUsed := s₂.slotsUsed }
      rw [State.setFrames_self ht]
    subst hg
    refine Or.inr ⟨q, ⟨(({ U with heap := s₂.heap, slotsUsed := s₂.slotsUsed } : State).setVm s₂.vm), Ls ++ L, c0 + mc, s0 + ms⟩,
      ⟨X.admits, X.cas, X.clock, X.frames, X.room, X.hears, X.method, X.code, (X.here.setHeapUsed s₂.heap s₂.slotsUsed).setVm hW'.alike, X.tail, State.WarmedH.trans X.warmed hW', X.limits, X.bytes, X.same.trans (hsame.setVm s.vm)⟩,
      ⟨g, mk, s₂, L, E, ce, rfl, rfl, hx, hce, hcv, hcl, rfl, hL, rfl, rfl⟩, ?_⟩
    show Steps p.tables e below _ (((({ U with heap := s₂.heap, slotsUsed := s₂.slotsUsed } : State).setVm s₂.vm).setTop g).pushFrame (.throwing q))
    rw [← hs₂]
    exact hsteps
end Payer
section Calls
variable {p : Program} {l : Launch} {e : Env} {R : Room} {s : State} {m : MethodId} {args : Array Value} {below : List Frame} {meth : Method} {c : Code} {T : State} {locs : List Loc} {cells slots : Nat}
theorem vx_callV (X : Stand p l e R s m args below meth c T locs cells slots) (hexec : p.tables.exec = Jvm.exec) {own C : String} {index : Nat} {y : MethodName} {bytes : ByteArray} {maxL : Nat} {ret : Option FieldType}
    (hown : s.vm.findClass own = some m.cls) (hlink : (Cond.methodLink own index y).before args s = true) (hinst : (Cond.instanceMethod y).before args s = true) (hsel : (Cond.selects C y y).before args s = true)
    (hcode : (Cond.code y bytes maxL ret).before args s = true) (hy : y.cls ≠ "java/lang/invoke/MethodHandle" ∧ y.cls ≠ "java/lang/invoke/VarHandle")
    {W9 : Nat} {Pre : Pt → Array Value → Prop} {Post : Pt → Array Value → Option Value → Pt → Prop} {PostX : Pt → Array Value → Addr → Pt → Prop} (hK : vx_Back l R p e below s args y 3 W9 Pre Post PostX)
    {b : Addr} {cellB : Cell} (hcell : T.heap[b]? = some cellB) (hobj : cellB.vm.isStatics = false) (hcls : s.vm.findClass C = some cellB.cls)
    {g : JFrame} (hg : g.method = m) (hsize : g.locals.size = c.maxLocals) {argsL rest : List Value} (hlen : ∀ sig, parseMethodDescriptor y.desc = some sig → argsL.length = sig.parameters.length)
    (hstack : g.stack = argsL.reverse ++ .ref b :: rest) (hW : 2 * g.monitorRoom + (rest.map fun v => v.category).sum ≤ W9) (hdg : decode c.code g.pc = .ok (.invokevirtual index, 3))
    (hpre : ∀ vm₁, s.WarmedH vm₁ → Pre ⟨T.setVm vm₁, locs, cells, slots⟩ (Value.ref b :: argsL).toArray) :
    (∃ (v : Option Value) (vm₁ : Vm) (B : Pt), s.WarmedH vm₁ ∧ Stand p l e R s m args below meth c B.U B.locs B.cells B.slots ∧ Post ⟨T.setVm vm₁, locs, cells, slots⟩ (Value.ref b :: argsL).toArray v B ∧
      ∀ target, Steps p.tables e below (B.U.setTop { g with pc := g.pc + 3, stack := v.toList ++ rest }) target → Steps p.tables e below (T.setTop g) target) ∨
    (∃ (q : Addr) (vm₁ : Vm) (B : Pt), s.WarmedH vm₁ ∧ Stand p l e R s m args below meth c B.U B.locs B.cells B.slots ∧ PostX ⟨T.setVm vm₁, locs, cells, slots⟩ (Value.ref b :: argsL).toArray q B ∧
      Steps p.tables e below (T.setTop g) ((B.U.setTop { g with stack := rest }).pushFrame (.throwing q))) := by
  obtain ⟨mk, methM, hnamed, hmethM, hstM, habM⟩ := Cond.instanceMethod_spec hinst
  obtain ⟨methM', cM, hmethM', -, -, -, -, -, -, hsigM⟩ := Cond.code_spec hnamed hcode
  cases hmethM.symm.trans hmethM'
  obtain ⟨c2, r2, m2, q1, q2, q3, q4, kP, hkP, hkPi⟩ := Cond.selects_spec hsel
  cases hcls.symm.trans q1
  cases (State.methodFound?_of_named hnamed hy).symm.trans q2
  cases hnamed.symm.trans q3
  have hselP : selectMethod e.platform s.vm cellB.cls mk = .method mk := by rw [Launch.admits_selectMethod X.admits]; exact q4
  obtain ⟨vm₁, X₁, hstep₁⟩ := X.invokevirtual hexec hown hlink hnamed hmethM hstM hkP hkPi hy (a := b) (cell := cellB) hcell
    (fun z h => by rw [h] at hobj; cases hobj) hselP hmethM habM hkP hkPi (g := g) hg (argsL := argsL) (rest := rest) (hlen _ hsigM) hstack hdg
  rcases hK m meth c ⟨T.setVm vm₁, locs, cells, slots⟩ { g with stack := rest } (.invokevirtual index) mk (Value.ref b :: argsL).toArray X₁ hg hsize hdg hW (X₁.named hnamed) (hpre vm₁ X₁.warmed) with ⟨v, B, X', hpost, hsteps⟩ | ⟨q, B, X', hpost, hsteps⟩
  · exact Or.inl ⟨v, vm₁, B, X₁.warmed, X', hpost, fun target h => hstep₁ _ fun acts => by rw [doInvoke_state]; exact hsteps.trans h⟩
  · exact Or.inr ⟨q, vm₁, B, X₁.warmed, X', hpost, hstep₁ _ fun acts => by rw [doInvoke_state]; exact hsteps⟩
theorem vx_callS (X : Stand p l e R s m args below meth c T locs cells slots) (hexec : p.tables.exec = Jvm.exec) {own : String} {index : Nat} {y : MethodName} {bytes : ByteArray} {maxL : Nat} {ret : Option FieldType}
    (hown : s.vm.findClass own = some m.cls) (hlink : (Cond.methodLink own index y).before args s = true) (hstat : (Cond.static y).before args s = true) (hinit : (Cond.initialized y.cls).before args s = true)
    (hcode : (Cond.code y bytes maxL ret).before args s = true) (hy : y.cls ≠ "java/lang/invoke/MethodHandle" ∧ y.cls ≠ "java/lang/invoke/VarHandle")
    {W9 : Nat} {Pre : Pt → Array Value → Prop} {Post : Pt → Array Value → Option Value → Pt → Prop} {PostX : Pt → Array Value → Addr → Pt → Prop} (hK : vx_Back l R p e below s args y 3 W9 Pre Post PostX)
    {g : JFrame} (hg : g.method = m) (hsize : g.locals.size = c.maxLocals) {argsL rest : List Value} (hlen : ∀ sig, parseMethodDescriptor y.desc = some sig → argsL.length = sig.parameters.length)
    (hstack : g.stack = argsL.reverse ++ rest) (hW : 2 * g.monitorRoom + (rest.map fun v => v.category).sum ≤ W9) (hdg : decode c.code g.pc = .ok (.invokestatic index, 3))
    (hpre : ∀ vm₁, s.WarmedH vm₁ → Pre ⟨T.setVm vm₁, locs, cells, slots⟩ argsL.toArray) :
    (∃ (v : Option Value) (vm₁ : Vm) (B : Pt), s.WarmedH vm₁ ∧ Stand p l e R s m args below meth c B.U B.locs B.cells B.slots ∧ Post ⟨T.setVm vm₁, locs, cells, slots⟩ argsL.toArray v B ∧
      ∀ target, Steps p.tables e below (B.U.setTop { g with pc := g.pc + 3, stack := v.toList ++ rest }) target → Steps p.tables e below (T.setTop g) target) ∨
    (∃ (q : Addr) (vm₁ : Vm) (B : Pt), s.WarmedH vm₁ ∧ Stand p l e R s m args below meth c B.U B.locs B.cells B.slots ∧ PostX ⟨T.setVm vm₁, locs, cells, slots⟩ argsL.toArray q B ∧
      Steps p.tables e below (T.setTop g) ((B.U.setTop { g with stack := rest }).pushFrame (.throwing q))) := by
  obtain ⟨mk, hnamed⟩ := Cond.code_named hcode
  obtain ⟨methM, cM, hmethM, -, -, -, -, -, -, hsigM⟩ := Cond.code_spec hnamed hcode
  have hstatic : methM.isStatic = true := Cond.static_spec hnamed hmethM hstat
  obtain ⟨kP, hkP, -⟩ := className_of_methodNamed hnamed
  have hinitP : kP.init = .initialized := Cond.initialized_spec (findClass_of_methodNamed hnamed) hkP hinit
  obtain ⟨vm₁, X₁, hstep₁⟩ := X.invokestatic hexec hown hlink hnamed hmethM hstatic hkP hinitP hy (g := g) hg (argsL := argsL) (rest := rest) (hlen _ hsigM) hstack hdg
  rcases hK m meth c ⟨T.setVm vm₁, locs, cells, slots⟩ { g with stack := rest } (.invokestatic index) mk argsL.toArray X₁ hg hsize hdg hW (X₁.named hnamed) (hpre vm₁ X₁.warmed) with ⟨v, B, X', hpost, hsteps⟩ | ⟨q, B, X', hpost, hsteps⟩
  · exact Or.inl ⟨v, vm₁, B, X₁.warmed, X', hpost, fun target h => hstep₁ _ fun acts => by rw [doInvoke_state]; exact hsteps.trans h⟩
  · exact Or.inr ⟨q, vm₁, B, X₁.warmed, X', hpost, hstep₁ _ fun acts => by rw [doInvoke_state]; exact hsteps⟩
end Calls
theorem vx_cls {s : State} {T : State} {vm₁ : Vm} {E : String} {k : ClassId} (hW : s.WarmedH vm₁) (h : (T.setVm vm₁).vm.findClass E = some k) : s.vm.findClass E = some k := by
  have h1 : vm₁.findClass E = some k := h
  rw [hW.alike.findClass] at h1
  exact h1
/-- the method's frame g, with q thrown over it -/
def vx_W (p : Program) (l : Launch) (e : Env) (R : Room) (s : State) (m : MethodId) (args : Array Value) (below : List Frame) (meth : Method) (c : Code) (H : Heap) (locs : List Loc) (cells slots : Nat) (Q : State → Prop) (g : JFrame) (q : Addr) : Prop :=
  ∀ T : State, T.heap = H → Stand p l e R s m args below meth c T locs cells slots → ∃ t, Steps p.tables e below ((T.setTop g).pushFrame (.throwing q)) t ∧ Q t
def vx_Run (p : Program) (l : Launch) (e : Env) (R : Room) (s : State) (m : MethodId) (args : Array Value) (below : List Frame) (meth : Method) (c : Code) (H : Heap) (locs : List Loc) (cells slots mc ms : Nat) (g : JFrame) (rest : List Value) (Qa : State → Outcome → State → Prop) (XC : String → State → State → Prop) (free : Addr → Prop) : Prop :=
  ∀ T : State, T.heap = H → Stand p l e R s m args below meth c T locs cells slots →
    (∃ (v : Option Value) (st₀ t T' : State) (L : List Loc), st₀.heap = H ∧ Stand p l e R s m args below meth c T' (locs ++ L) (cells + mc) (slots + ms) ∧ (∀ q ∈ L, free q.base) ∧ T'.heap = t.heap ∧ T'.vm = t.vm ∧ Qa st₀ (.returned v) t ∧
      Goes p e below T g T' { g with pc := g.pc + 3, stack := v.toList ++ rest }) ∨
    (∃ (q : Addr) (st₀ t T' : State) (L : List Loc) (E : String) (ce : Cell), st₀.heap = H ∧ Stand p l e R s m args below meth c T' (locs ++ L) (cells + mc) (slots + ms) ∧ (∀ z ∈ L, free z.base) ∧ T'.heap = t.heap ∧ T'.vm = t.vm ∧ XC E st₀ t ∧ t.heap[q]? = some ce ∧ ce.vm = .none ∧ s.vm.findClass E = some ce.cls ∧
      Steps p.tables e below (T.setTop g) ((T'.setTop { g with stack := rest }).pushFrame (.throwing q)))
def vx_X {S : Type} (px : S → Prop) (B : String → S → State → Prop) (A : Nat → Prop) : String → State → State → Prop := fun E st t => ∃ u : S, px u ∧ B E u t ∧ va_F A st t
section Runs
variable {p : Program} {l : Launch} {e : Env} {R : Room} {s : State} {m : MethodId} {args : Array Value} {below : List Frame} {meth : Method} {c : Code} {H : Heap} {locs : List Loc} {cells slots : Nat}
variable {y : MethodName} {bytes cc : ByteArray} {maxL nL mc ms n index : Nat} {ret : Option FieldType} {ws : List Cond} {rm : Room} {Pc : Array Value → State → Prop} {Qc : Array Value → State → Outcome → State → Prop} {XC : String → State → State → Prop} {free : Addr → Prop} {Ts : List Cond} {own C : String} {b : Addr} {As rest : List Value} {g : JFrame}
theorem vx_callBack (cb : CallB R s args own index y bytes maxL ret ws rm mc ms n) (hM : vx_Met l y ws rm Pc Qc XC mc ms free) (hbl : FrameBlind Pc) : vx_Back l R p e below s args y 3 8 (PreOf R mc ms Pc) (PostOf Qc mc ms free) (vx_Post XC mc ms free) := by
  obtain ⟨hrc, hrs, hfr, hlo, hws, hcw, -, hini, -⟩ := cb
  exact vx_back (bytes := bytes) (maxL := maxL) (ret := ret) hM hbl hrc hrs hfr hlo hws hcw (fun a' U hW => word_at hW (Or.inl (by first | rfl | simp [Cond.onTables, Cond.keeps, Cond.steady])) hini)
theorem vx_runV (S : CallFix p m c cc nL s args Ts own) (hM : vx_Met l y ws rm Pc Qc XC mc ms free) (cw : CallW R s args own C index y bytes maxL ret ws rm mc ms n) (hp : PreV s H C b Pc As)
    (hg : g.method = m) (hn : As.length = n) (hsize : g.locals.size = nL) (hstack : g.stack = As.reverse ++ .ref b :: rest) (hW : 2 * g.monitorRoom + (rest.map fun v => v.category).sum ≤ 8) (hdg : decode cc g.pc = .ok (.invokevirtual index, 3)) (hf : cells + mc ≤ R.cells ∧ slots + ms ≤ R.slots) :
    vx_Run p l e R s m args below meth c H locs cells slots mc ms g rest (Qc (Value.ref b :: As).toArray) XC free := by
  have hK : vx_Back l R p e below s args y 3 8 (PreOf R mc ms Pc) (PostOf Qc mc ms free) (vx_Post XC mc ms free) := vx_callBack cw.1 hM hp.1
  obtain ⟨⟨-, -, -, -, -, -, hcode, -, hy, hlen, hl⟩, hin, hse⟩ := cw
  obtain ⟨hx, hb, hml, ho, -⟩ := S
  obtain ⟨-, ⟨cellB, hcB, hoB, hclB⟩, hPc⟩ := hp
  intro T hT X
  rcases vx_callV X hx (C := C) (bytes := bytes) (maxL := maxL) (ret := ret) ho hl hin hse hcode hy hK (by rw [hT]; exact hcB) hoB hclB hg (hsize.trans hml.symm) (argsL := As) (rest := rest) (fun sig h => hn.trans (hlen sig h)) hstack hW (by rw [hb]; exact hdg)
    (fun vm₁ hW₁ => ⟨hf.1, hf.2, hPc (T.setVm vm₁) hT hW₁⟩) with ⟨v, vm₁, ⟨U', l2, c2, s2⟩, hW₁, X', ⟨g', mk, t, L, e1, e2, hq, h1, hL, h2, h3⟩, st⟩ | ⟨q, vm₁, ⟨U', l2, c2, s2⟩, hW₁, X', ⟨g', mk, t, L, E, ce, e1, e2, hq, hce, hcv, hcl, h1, hL, h2, h3⟩, st⟩
  · dsimp only [Pt.U, Pt.locs, Pt.cells, Pt.slots] at X' e1 e2 h1 h2 h3 st
    subst h1; subst h2; subst h3
    exact Or.inl ⟨v, (T.setVm vm₁).calling g' mk (Value.ref b :: As).toArray, t, U', L, hT, X', hL, e1, e2, hq, st⟩
  · dsimp only [Pt.U, Pt.locs, Pt.cells, Pt.slots] at X' e1 e2 h1 h2 h3 st hcl
    subst h1; subst h2; subst h3
    exact Or.inr ⟨q, (T.setVm vm₁).calling g' mk (Value.ref b :: As).toArray, t, U', L, E, ce, hT, X', hL, e1, e2, hq, hce, hcv, vx_cls hW₁ hcl, st⟩
theorem vx_runS (S : CallFix p m c cc nL s args Ts own) (hM : vx_Met l y ws rm Pc Qc XC mc ms free) (cw : CallB R s args own index y bytes maxL ret ws rm mc ms n ∧ (Cond.static y).before args s = true) (hp : PreS s H Pc As)
    (hg : g.method = m) (hn : As.length = n) (hsize : g.locals.size = nL) (hstack : g.stack = As.reverse ++ rest) (hW : 2 * g.monitorRoom + (rest.map fun v => v.category).sum ≤ 8) (hdg : decode cc g.pc = .ok (.invokestatic index, 3)) (hf : cells + mc ≤ R.cells ∧ slots + ms ≤ R.slots) :
    vx_Run p l e R s m args below meth c H locs cells slots mc ms g rest (Qc As.toArray) XC free := by
  have hK : vx_Back l R p e below s args y 3 8 (PreOf R mc ms Pc) (PostOf Qc mc ms free) (vx_Post XC mc ms free) := vx_callBack cw.1 hM hp.1
  obtain ⟨⟨-, -, -, -, -, -, hcode, hini, hy, hlen, hl⟩, hstt⟩ := cw
  obtain ⟨hx, hb, hml, ho, -⟩ := S
  intro T hT X
  rcases vx_callS X hx (bytes := bytes) (maxL := maxL) (ret := ret) ho hl hstt hini hcode hy hK hg (hsize.trans hml.symm) (argsL := As) (rest := rest) (fun sig h => hn.trans (hlen sig h)) hstack hW (by rw [hb]; exact hdg)
    (fun vm₁ hW₁ => ⟨hf.1, hf.2, hp.2 (T.setVm vm₁) hT hW₁⟩) with ⟨v, vm₁, ⟨U', l2, c2, s2⟩, hW₁, X', ⟨g', mk, t, L, e1, e2, hq, h1, hL, h2, h3⟩, st⟩ | ⟨q, vm₁, ⟨U', l2, c2, s2⟩, hW₁, X', ⟨g', mk, t, L, E, ce, e1, e2, hq, hce, hcv, hcl, h1, hL, h2, h3⟩, st⟩
  · dsimp only [Pt.U, Pt.locs, Pt.cells, Pt.slots] at X' e1 e2 h1 h2 h3 st
    subst h1; subst h2; subst h3
    exact Or.inl ⟨v, (T.setVm vm₁).calling g' mk As.toArray, t, U', L, hT, X', hL, e1, e2, hq, st⟩
  · dsimp only [Pt.U, Pt.locs, Pt.cells, Pt.slots] at X' e1 e2 h1 h2 h3 st hcl
    subst h1; subst h2; subst h3
    exact Or.inr ⟨q, (T.setVm vm₁).calling g' mk As.toArray, t, U', L, E, ce, hT, X', hL, e1, e2, hq, hce, hcv, vx_cls hW₁ hcl, st⟩
end Runs
section Rows
variable {p : Program} {l : Launch} {e : Env} {R : Room} {s : State} {m : MethodId} {args : Array Value} {below : List Frame} {meth : Method} {c : Code} {H : Heap} {locs : List Loc} {cells slots : Nat} {Q : State → Prop}
variable {mc ms : Nat} {free : Addr → Prop} {A0 A1 : Nat → Prop} {H0 : Heap} {a : Array Value} {pc : Nat} {ls : Array Slot} {st0 rest : List Value}
theorem vx_keep {st₀ t T' : State} {L : List Loc} (h0 : st₀.heap = H) (e1 : T'.heap = t.heap) (hS : va_S A0 H0 H locs) (hA : ∀ q, q < H.size → A1 q → A0 q) (hf : ∀ q, free q → A0 q) (hL : ∀ q ∈ L, free q.base) (hF : va_F A1 st₀ t) :
    H.size ≤ T'.heap.size ∧ (∀ q : Nat, q < H.size → ¬ A1 q → T'.heap[q]? = H[q]?) ∧ va_S A0 H0 T'.heap (locs ++ L) := by
  obtain ⟨hz, hk⟩ := hF
  rw [h0] at hz hk
  exact ⟨by rw [e1]; exact hz, fun q h1 h2 => by rw [e1]; exact hk q h1 h2,
    ⟨Nat.le_trans hS.1 (by rw [e1]; exact hz), fun q h1 h2 => by rw [e1, hk q (Nat.lt_of_lt_of_le h1 hS.1) (fun z => h2 (hA q (Nat.lt_of_lt_of_le h1 hS.1) z))]; exact hS.2.1 q h1 h2, fun q hq => by
      rcases List.mem_append.mp hq with h | h
      · exact hS.2.2 q h
      · exact hf _ (hL q h)⟩⟩
theorem vx_calli {S SX : Type} {post : Int32 → S → Prop} {px : SX → Prop} {B : S → State → Prop} {BX : String → SX → State → Prop} {AX : Nat → Prop} (hr : vx_Run p l e R s m args below meth c H locs cells slots mc ms (F0 m pc ls st0) rest (va_Qi post B A1 a) (vx_X px BX AX) free) (hS : va_S A0 H0 H locs) (hA : ∀ q, q < H.size → A1 q → A0 q) (hf : ∀ q, free q → A0 q) (hAX : ∀ q, q < H.size → AX q → A0 q)
    (kx : ∀ (E : String) (ce : Cell) (q9 : Addr) (u : SX) (t : State) (H1 : Heap) (locs1 : List Loc), t.heap = H1 → s.vm.Alike t.vm → px u → BX E u t → H.size ≤ H1.size → (∀ q : Nat, q < H.size → ¬ AX q → H1[q]? = H[q]?) → va_S A0 H0 H1 locs1 → H1[q9]? = some ce → ce.vm = .none → s.vm.findClass E = some ce.cls → vx_W p l e R s m args below meth c H1 locs1 (cells + mc) (slots + ms) Q (F0 m pc ls rest) q9)
    (kk : ∀ (r : Int32) (u : S) (t : State) (H1 : Heap) (locs1 : List Loc), t.heap = H1 → s.vm.Alike t.vm → post r u → B u t → H.size ≤ H1.size → (∀ q : Nat, q < H.size → ¬ A1 q → H1[q]? = H[q]?) → va_S A0 H0 H1 locs1 → W p l e R s m args below meth c H1 locs1 (cells + mc) (slots + ms) Q (F0 m (pc + 3) ls (.int r :: rest))) : W p l e R s m args below meth c H locs cells slots Q (F0 m pc ls st0) := by
  intro T hT X
  rcases hr T hT X with ⟨v, st₀, t, T', L, h0, X', hL, e1, e2, ⟨⟨r, u, hv, hp, hb⟩, hF⟩, st⟩ | ⟨q, st₀, t, T', L, E, ce, h0, X', hL, e1, e2, ⟨u, hp, hb, hF⟩, hce, hcv, hcl, st⟩
  · cases hv
    obtain ⟨k1, k2, k3⟩ := vx_keep h0 e1 hS hA hf hL hF
    obtain ⟨t2, a1, b1⟩ := kk r u t T'.heap (locs ++ L) e1.symm (by rw [← e2]; exact X'.warmed.alike) hp hb k1 k2 k3 T' rfl X'
    exact ⟨t2, st t2 a1, b1⟩
  · obtain ⟨k1, k2, k3⟩ := vx_keep h0 e1 hS hAX hf hL hF
    obtain ⟨t2, a1, b1⟩ := kx E ce q u t T'.heap (locs ++ L) e1.symm (by rw [← e2]; exact X'.warmed.alike) hp hb k1 k2 k3 (by rw [e1]; exact hce) hcv hcl T' rfl X'
    exact ⟨t2, st.trans a1, b1⟩
theorem vx_calll {S SX : Type} {post : Int64 → S → Prop} {px : SX → Prop} {B : S → State → Prop} {BX : String → SX → State → Prop} {AX : Nat → Prop} (hr : vx_Run p l e R s m args below meth c H locs cells slots mc ms (F0 m pc ls st0) rest (va_Ql post B A1 a) (vx_X px BX AX) free) (hS : va_S A0 H0 H locs) (hA : ∀ q, q < H.size → A1 q → A0 q) (hf : ∀ q, free q → A0 q) (hAX : ∀ q, q < H.size → AX q → A0 q)
    (kx : ∀ (E : String) (ce : Cell) (q9 : Addr) (u : SX) (t : State) (H1 : Heap) (locs1 : List Loc), t.heap = H1 → s.vm.Alike t.vm → px u → BX E u t → H.size ≤ H1.size → (∀ q : Nat, q < H.size → ¬ AX q → H1[q]? = H[q]?) → va_S A0 H0 H1 locs1 → H1[q9]? = some ce → ce.vm = .none → s.vm.findClass E = some ce.cls → vx_W p l e R s m args below meth c H1 locs1 (cells + mc) (slots + ms) Q (F0 m pc ls rest) q9)
    (kk : ∀ (r : Int64) (u : S) (t : State) (H1 : Heap) (locs1 : List Loc), t.heap = H1 → s.vm.Alike t.vm → post r u → B u t → H.size ≤ H1.size → (∀ q : Nat, q < H.size → ¬ A1 q → H1[q]? = H[q]?) → va_S A0 H0 H1 locs1 → W p l e R s m args below meth c H1 locs1 (cells + mc) (slots + ms) Q (F0 m (pc + 3) ls (.long r :: rest))) : W p l e R s m args below meth c H locs cells slots Q (F0 m pc ls st0) := by
  intro T hT X
  rcases hr T hT X with ⟨v, st₀, t, T', L, h0, X', hL, e1, e2, ⟨⟨r, u, hv, hp, hb⟩, hF⟩, st⟩ | ⟨q, st₀, t, T', L, E, ce, h0, X', hL, e1, e2, ⟨u, hp, hb, hF⟩, hce, hcv, hcl, st⟩
  · cases hv
    obtain ⟨k1, k2, k3⟩ := vx_keep h0 e1 hS hA hf hL hF
    obtain ⟨t2, a1, b1⟩ := kk r u t T'.heap (locs ++ L) e1.symm (by rw [← e2]; exact X'.warmed.alike) hp hb k1 k2 k3 T' rfl X'
    exact ⟨t2, st t2 a1, b1⟩
  · obtain ⟨k1, k2, k3⟩ := vx_keep h0 e1 hS hAX hf hL hF
    obtain ⟨t2, a1, b1⟩ := kx E ce q u t T'.heap (locs ++ L) e1.symm (by rw [← e2]; exact X'.warmed.alike) hp hb k1 k2 k3 (by rw [e1]; exact hce) hcv hcl T' rfl X'
    exact ⟨t2, st.trans a1, b1⟩
theorem vx_callf {S SX : Type} {post : UInt32 → S → Prop} {px : SX → Prop} {B : S → State → Prop} {BX : String → SX → State → Prop} {AX : Nat → Prop} (hr : vx_Run p l e R s m args below meth c H locs cells slots mc ms (F0 m pc ls st0) rest (va_Qf post B A1 a) (vx_X px BX AX) free) (hS : va_S A0 H0 H locs) (hA : ∀ q, q < H.size → A1 q → A0 q) (hf : ∀ q, free q → A0 q) (hAX : ∀ q, q < H.size → AX q → A0 q)
    (kx : ∀ (E : String) (ce : Cell) (q9 : Addr) (u : SX) (t : State) (H1 : Heap) (locs1 : List Loc), t.heap = H1 → s.vm.Alike t.vm → px u → BX E u t → H.size ≤ H1.size → (∀ q : Nat, q < H.size → ¬ AX q → H1[q]? = H[q]?) → va_S A0 H0 H1 locs1 → H1[q9]? = some ce → ce.vm = .none → s.vm.findClass E = some ce.cls → vx_W p l e R s m args below meth c H1 locs1 (cells + mc) (slots + ms) Q (F0 m pc ls rest) q9)
    (kk : ∀ (r : UInt32) (u : S) (t : State) (H1 : Heap) (locs1 : List Loc), t.heap = H1 → s.vm.Alike t.vm → post r u → B u t → H.size ≤ H1.size → (∀ q : Nat, q < H.size → ¬ A1 q → H1[q]? = H[q]?) → va_S A0 H0 H1 locs1 → W p l e R s m args below meth c H1 locs1 (cells + mc) (slots + ms) Q (F0 m (pc + 3) ls (.float r :: rest))) : W p l e R s m args below meth c H locs cells slots Q (F0 m pc ls st0) := by
  intro T hT X
  rcases hr T hT X with ⟨v, st₀, t, T', L, h0, X', hL, e1, e2, ⟨⟨r, u, hv, hp, hb⟩, hF⟩, st⟩ | ⟨q, st₀, t, T', L, E, ce, h0, X', hL, e1, e2, ⟨u, hp, hb, hF⟩, hce, hcv, hcl, st⟩
  · cases hv
    obtain ⟨k1, k2, k3⟩ := vx_keep h0 e1 hS hA hf hL hF
    obtain ⟨t2, a1, b1⟩ := kk r u t T'.heap (locs ++ L) e1.symm (by rw [← e2]; exact X'.warmed.alike) hp hb k1 k2 k3 T' rfl X'
    exact ⟨t2, st t2 a1, b1⟩
  · obtain ⟨k1, k2, k3⟩ := vx_keep h0 e1 hS hAX hf hL hF
    obtain ⟨t2, a1, b1⟩ := kx E ce q u t T'.heap (locs ++ L) e1.symm (by rw [← e2]; exact X'.warmed.alike) hp hb k1 k2 k3 (by rw [e1]; exact hce) hcv hcl T' rfl X'
    exact ⟨t2, st.trans a1, b1⟩
theorem vx_calld {S SX : Type} {post : UInt64 → S → Prop} {px : SX → Prop} {B : S → State → Prop} {BX : String → SX → State → Prop} {AX : Nat → Prop} (hr : vx_Run p l e R s m args below meth c H locs cells slots mc ms (F0 m pc ls st0) rest (va_Qd post B A1 a) (vx_X px BX AX) free) (hS : va_S A0 H0 H locs) (hA : ∀ q, q < H.size → A1 q → A0 q) (hf : ∀ q, free q → A0 q) (hAX : ∀ q, q < H.size → AX q → A0 q)
    (kx : ∀ (E : String) (ce : Cell) (q9 : Addr) (u : SX) (t : State) (H1 : Heap) (locs1 : List Loc), t.heap = H1 → s.vm.Alike t.vm → px u → BX E u t → H.size ≤ H1.size → (∀ q : Nat, q < H.size → ¬ AX q → H1[q]? = H[q]?) → va_S A0 H0 H1 locs1 → H1[q9]? = some ce → ce.vm = .none → s.vm.findClass E = some ce.cls → vx_W p l e R s m args below meth c H1 locs1 (cells + mc) (slots + ms) Q (F0 m pc ls rest) q9)
    (kk : ∀ (r : UInt64) (u : S) (t : State) (H1 : Heap) (locs1 : List Loc), t.heap = H1 → s.vm.Alike t.vm → post r u → B u t → H.size ≤ H1.size → (∀ q : Nat, q < H.size → ¬ A1 q → H1[q]? = H[q]?) → va_S A0 H0 H1 locs1 → W p l e R s m args below meth c H1 locs1 (cells + mc) (slots + ms) Q (F0 m (pc + 3) ls (.double r :: rest))) : W p l e R s m args below meth c H locs cells slots Q (F0 m pc ls st0) := by
  intro T hT X
  rcases hr T hT X with ⟨v, st₀, t, T', L, h0, X', hL, e1, e2, ⟨⟨r, u, hv, hp, hb⟩, hF⟩, st⟩ | ⟨q, st₀, t, T', L, E, ce, h0, X', hL, e1, e2, ⟨u, hp, hb, hF⟩, hce, hcv, hcl, st⟩
  · cases hv
    obtain ⟨k1, k2, k3⟩ := vx_keep h0 e1 hS hA hf hL hF
    obtain ⟨t2, a1, b1⟩ := kk r u t T'.heap (locs ++ L) e1.symm (by rw [← e2]; exact X'.warmed.alike) hp hb k1 k2 k3 T' rfl X'
    exact ⟨t2, st t2 a1, b1⟩
  · obtain ⟨k1, k2, k3⟩ := vx_keep h0 e1 hS hAX hf hL hF
    obtain ⟨t2, a1, b1⟩ := kx E ce q u t T'.heap (locs ++ L) e1.symm (by rw [← e2]; exact X'.warmed.alike) hp hb k1 k2 k3 (by rw [e1]; exact hce) hcv hcl T' rfl X'
    exact ⟨t2, st.trans a1, b1⟩
theorem vx_callv {S SX : Type} {post : S → Prop} {px : SX → Prop} {B : S → State → Prop} {BX : String → SX → State → Prop} {AX : Nat → Prop} (hr : vx_Run p l e R s m args below meth c H locs cells slots mc ms (F0 m pc ls st0) rest (va_Qv post B A1 a) (vx_X px BX AX) free) (hS : va_S A0 H0 H locs) (hA : ∀ q, q < H.size → A1 q → A0 q) (hf : ∀ q, free q → A0 q) (hAX : ∀ q, q < H.size → AX q → A0 q)
    (kx : ∀ (E : String) (ce : Cell) (q9 : Addr) (u : SX) (t : State) (H1 : Heap) (locs1 : List Loc), t.heap = H1 → s.vm.Alike t.vm → px u → BX E u t → H.size ≤ H1.size → (∀ q : Nat, q < H.size → ¬ AX q → H1[q]? = H[q]?) → va_S A0 H0 H1 locs1 → H1[q9]? = some ce → ce.vm = .none → s.vm.findClass E = some ce.cls → vx_W p l e R s m args below meth c H1 locs1 (cells + mc) (slots + ms) Q (F0 m pc ls rest) q9)
    (kk : ∀ (u : S) (t : State) (H1 : Heap) (locs1 : List Loc), t.heap = H1 → s.vm.Alike t.vm → post u → B u t → H.size ≤ H1.size → (∀ q : Nat, q < H.size → ¬ A1 q → H1[q]? = H[q]?) → va_S A0 H0 H1 locs1 → W p l e R s m args below meth c H1 locs1 (cells + mc) (slots + ms) Q (F0 m (pc + 3) ls (rest))) : W p l e R s m args below meth c H locs cells slots Q (F0 m pc ls st0) := by
  intro T hT X
  rcases hr T hT X with ⟨v, st₀, t, T', L, h0, X', hL, e1, e2, ⟨⟨u, hv, hp, hb⟩, hF⟩, st⟩ | ⟨q, st₀, t, T', L, E, ce, h0, X', hL, e1, e2, ⟨u, hp, hb, hF⟩, hce, hcv, hcl, st⟩
  · cases hv
    obtain ⟨k1, k2, k3⟩ := vx_keep h0 e1 hS hA hf hL hF
    obtain ⟨t2, a1, b1⟩ := kk u t T'.heap (locs ++ L) e1.symm (by rw [← e2]; exact X'.warmed.alike) hp hb k1 k2 k3 T' rfl X'
    exact ⟨t2, st t2 a1, b1⟩
  · obtain ⟨k1, k2, k3⟩ := vx_keep h0 e1 hS hAX hf hL hF
    obtain ⟨t2, a1, b1⟩ := kx E ce q u t T'.heap (locs ++ L) e1.symm (by rw [← e2]; exact X'.warmed.alike) hp hb k1 k2 k3 (by rw [e1]; exact hce) hcv hcl T' rfl X'
    exact ⟨t2, st.trans a1, b1⟩
/-- caught by the row x of this method's table; the rows ahead don't take it -/
theorem vx_catch {own name : String} {E : String} {ce : Cell} {q : Addr} (hown : s.vm.findClass own = some m.cls) (pre : List ExceptionTableEntry) (x : ExceptionTableEntry) (suf : List ExceptionTableEntry) (hsplit : c.exceptionTable.toList = pre ++ x :: suf)
    (hpass : ∀ z ∈ pre, covers z pc = false ∨ (z.catchType ≠ 0 ∧ ∃ nm : String, (Cond.classLink own z.catchType nm).before args s = true ∧ va_Nc E nm s)) (hx : covers x pc = true) (h0 : x.catchType ≠ 0)
    (hlink : (Cond.classLink own x.catchType name).before args s = true) (hcast : (Cond.castable E name).before args s = true) (hcell : H[q]? = some ce) (hv : ce.vm = .none) (hcl : s.vm.findClass E = some ce.cls)
    (kk : W p l e R s m args below meth c H locs cells slots Q (F0 m x.handlerPc ls [.ref q])) : vx_W p l e R s m args below meth c H locs cells slots Q (F0 m pc ls rest) q := by
  intro T hT X
  have hpl : e.platform.magicAccessors = ({} : Platform).magicAccessors := by rw [X.admits.platform]
  obtain ⟨c3, c4, hc3, hc4, hasg⟩ := Cond.castable_spec hcast
  cases Option.some.inj (hc3.symm.trans hcl)
  obtain ⟨c5, hc5, hcl5⟩ := Cond.classLink_spec hown hlink e.platform hpl
  cases Option.some.inj (hc4.symm.trans hc5)
  obtain ⟨vm', X', st⟩ := X.thenCaughtThrough q (g := F0 m pc ls rest) rfl (Steps.refl _) (by rw [hT]; exact hcell) (by rw [hv]; rfl) (by obtain ⟨k9, h9, -⟩ := Vm.findClass_spec hcl; exact ⟨k9, h9⟩) pre x suf hsplit
    (fun z hz => by
      rcases hpass z hz with h | ⟨hz0, nm, hl1, hn1⟩
      · exact Or.inl h
      · obtain ⟨c6, hc6, hcl6⟩ := Cond.classLink_spec hown hl1 e.platform hpl
        obtain ⟨a8, b8, h1, h2, h3⟩ := hn1
        cases Option.some.inj (h1.symm.trans hcl)
        cases Option.some.inj (h2.symm.trans hc6)
        exact Or.inr ⟨hz0, _, hcl6, h3⟩) hx (Or.inr ⟨h0, c4, hcl5, hasg⟩)
  obtain ⟨t, a1, b1⟩ := kk (T.setVm vm') hT X'
  exact ⟨t, st.trans a1, b1⟩
end Rows
section Ends
variable {p : Program} {l : Launch} {e : Env} {R : Room} {s : State} {m : MethodId} {args : Array Value} {below : List Frame} {meth : Method} {c : Code} {H : Heap} {locs : List Loc} {cells slots : Nat} {Q : State → Prop}
variable {mc ms : Nat} {free : Addr → Prop} {A0 A1 : Nat → Prop} {H0 : Heap} {a : Array Value} {ls : Array Slot} {st0 rest : List Value}
variable {Qc : Array Value → State → Outcome → State → Prop} {XC : String → State → State → Prop}
/-- what a body that may throw owes at its end -/
def vx_MQ (below : List Frame) (Qc : Array Value → State → Outcome → State → Prop) (XC : String → State → State → Prop) (a : Array Value) (s : State) (mc ms : Nat) (free : Addr → Prop) : State → Prop := fun t =>
  ∃ o, t.status = .running ∧ Ended t below o ∧ vx_Q Qc XC mc ms free a s o t
theorem vx_ret {g : JFrame} {mc ms : Nat} (k : W p l e R s m args below meth c H locs cells slots (MQ below Qc args s mc ms free) g) : W p l e R s m args below meth c H locs cells slots (vx_MQ below Qc XC args s mc ms free) g := by
  intro T hT X
  obtain ⟨t, a1, o, b1, b2, b3, b4⟩ := k T hT X
  exact ⟨t, a1, o, b1, b2, Or.inl ⟨b3, b4⟩⟩
/-- not caught here: it goes on to the caller -/
theorem vx_widen {g : JFrame} {q : Addr} {k n : Nat} (h1 : cells ≤ k) (h2 : slots ≤ n) (kk : vx_W p l e R s m args below meth c H locs k n Q g q) : vx_W p l e R s m args below meth c H locs cells slots Q g q := fun T hT X => kk T hT (stand_widen X h1 h2)
theorem vx_out {pc : Nat} {E : String} {ce : Cell} {q : Addr} {mc ms : Nat} (hout : ∀ x ∈ c.exceptionTable.toList, covers x pc = false) (hlocks : meth.locks = false) (hcell : H[q]? = some ce) (hv : ce.vm = .none) (hcl : s.vm.findClass E = some ce.cls)
    (hx : ∀ t : State, t.heap = H → s.vm.Alike t.vm → XC E s t) (hf : ∀ z ∈ locs, free z.base) (hc : cells ≤ mc) (hs : slots ≤ ms) :
    vx_W p l e R s m args below meth c H locs cells slots (vx_MQ below Qc XC args s mc ms free) (F0 m pc ls rest) q := by
  intro T hT X
  obtain ⟨st1, hrun, hend, hW, hsm⟩ := X.leaveThrown q (g := F0 m pc ls rest) rfl rfl rfl hout hlocks
  have hcell9 : (T.setFrames (.throwing q :: below)).heap[q]? = some ce := by
    show T.heap[q]? = some ce
    rw [hT]; exact hcell
  exact ⟨_, st1, .threw q, hrun, hend, Or.inr ⟨q, rfl, E, ce, locs, hx _ hT hW.alike, hcell9, hv, hcl, hW, hsm.mono hc hs, hf⟩⟩
theorem vx_frame {U : State} {k n : Nat} (h : s.sameButNew ({ U with vm := s.vm } : State) locs k n) : s.heap.size ≤ U.heap.size ∧ ∀ q : Nat, q < s.heap.size → (∀ z ∈ locs, z.base ≠ q) → U.heap[q]? = s.heap[q]? := by
  obtain ⟨-, h2, -, -, -, h6⟩ := h
  refine ⟨h2, fun q hq hz => ?_⟩
  obtain ⟨c9, e1, e2, e3, e4⟩ := h6 q _ (Array.getElem?_eq_getElem hq)
  have hs : c9.slots = (s.heap[q]).slots := Array.ext_getElem? fun i => e4 i fun hm => hz _ hm rfl
  have h9 : c9 = s.heap[q] := by
    rw [hs] at e2
    exact e2
  have e5 : U.heap[q]? = some c9 := e1
  rw [e5, h9, Array.getElem?_eq_getElem hq]
/-- the words of a throw but the four that speak of the heap -/
def vx_no (w : Cond) : Bool := decide (w ≠ .isRef (.static Bundle.tN "UNASSIGNED_STACK" Bundle.steD)) && decide (w ≠ .isRef (.static Bundle.tN "SUPPRESSED_SENTINEL" Bundle.listD)) && decide (w ≠ .laysStatic Bundle.tN "UNASSIGNED_STACK" Bundle.steD) && decide (w ≠ .laysStatic Bundle.tN "SUPPRESSED_SENTINEL" Bundle.listD)
def vx_at0 (own : String) (ic : Nat) (X : String) (names : List String) : List Cond := (Bundle.ownAtoms0 own ic X names).filter vx_no
def vx_atS (own : String) (ic : Nat) (X : String) (names : List String) : List Cond := (Bundle.ownAtoms own ic X names).filter vx_no
/-- a word that the tables alone decide, or a good one -/
def vx_ot (w : Cond) : Bool := w.onTables || goodWord w
theorem vx_ot_at {args a' : Array Value} {s U : State} {w : Cond} (hW : s.WarmedH U.vm) (hvm : s.vm = U.vm) (hg : vx_ot w = true) (h : w.before args s = true) : w.before a' U = true := by
  simp only [vx_ot, Bool.or_eq_true] at hg
  rcases hg with hg | hg
  · exact va_tabs hg hvm h
  · exact word_at hW (good_of_word hg) h
/-- a list's words: the good ones out of the method's own list, the others by premises of their own -/
theorem vx_hat {args : Array Value} {s : State} {L B : List Cond} (h1 : ∀ w ∈ L.filter goodWord, w.before args s = true) (h2 : ∀ w ∈ L.filter (fun w => !goodWord w), w ∈ B) (h3 : ∀ w ∈ B, w.before args s = true) : ∀ w ∈ L, w.before args s = true := by
  intro w hw
  by_cases g : goodWord w = true
  · exact h1 w (List.mem_filter.mpr ⟨hw, g⟩)
  · refine h3 w (h2 w (List.mem_filter.mpr ⟨hw, ?_⟩))
    show (!goodWord w) = true
    cases hgw : goodWord w
    · rfl
    · exact absurd hgw g
theorem vx_c {args : Array Value} {s : State} {w : Cond} {B : List Cond} (h : w.before args s = true) (t : ∀ w ∈ B, w.before args s = true) : ∀ w' ∈ w :: B, w'.before args s = true := fun w' h' => (List.mem_cons.mp h').elim (fun e => by rw [e]; exact h) (t w')
theorem vx_n {args : Array Value} {s : State} : ∀ w ∈ ([] : List Cond), w.before args s = true := fun _ h => nomatch h
theorem vx_own {args : Array Value} {s : State} {L : List Cond} (h1 : ∀ w ∈ L.filter vx_no, w.before args s = true)
    (hU : (Cond.isRef (.static Bundle.tN "UNASSIGNED_STACK" Bundle.steD)).before args s = true) (hN : (Cond.isRef (.static Bundle.tN "SUPPRESSED_SENTINEL" Bundle.listD)).before args s = true)
    (lU : (Cond.laysStatic Bundle.tN "UNASSIGNED_STACK" Bundle.steD).before args s = true) (lN : (Cond.laysStatic Bundle.tN "SUPPRESSED_SENTINEL" Bundle.listD).before args s = true) : ∀ w ∈ L, w.before args s = true := by
  intro w hw
  by_cases e1 : w = .isRef (.static Bundle.tN "UNASSIGNED_STACK" Bundle.steD)
  · rw [e1]; exact hU
  · by_cases e2 : w = .isRef (.static Bundle.tN "SUPPRESSED_SENTINEL" Bundle.listD)
    · rw [e2]; exact hN
    · by_cases e3 : w = .laysStatic Bundle.tN "UNASSIGNED_STACK" Bundle.steD
      · rw [e3]; exact lU
      · by_cases e4 : w = .laysStatic Bundle.tN "SUPPRESSED_SENTINEL" Bundle.listD
        · rw [e4]; exact lN
        · exact h1 w (List.mem_filter.mpr ⟨hw, by unfold vx_no; rw [decide_eq_true e1, decide_eq_true e2, decide_eq_true e3, decide_eq_true e4]; rfl⟩)
/-- where a static field lies, its class's statics cell in H -/
def vx_L (C n d : String) (A : Nat → Prop) (U : State) (H : Heap) : Prop := ∃ (c : ClassId) (k : Class) (i : Nat) (f : Field) (a : Nat) (cell : Cell), U.vm.findClass C = some c ∧ U.fieldFound? C n d = some (c, k, i, f) ∧ f.isStatic = true ∧ k.statics = some a ∧ H[a]? = some cell ∧ cell.vm.isStatics = true ∧ cell.cls = c ∧ f.slot < cell.slots.size ∧ k.staticTypes[f.slot]? = some f.type ∧ ¬ A a
theorem vx_L.moved {C n d : String} {A : Nat → Prop} {u U : State} {H : Heap} (hvm : u.vm.Alike U.vm) (h : vx_L C n d A u H) : vx_L C n d A U H := by
  obtain ⟨c, k, i, f, a, cell, h1, h2, h3, h4, h5, h6, h7, h8, h9, h10⟩ := h
  obtain ⟨k', hi', he⟩ := State.fieldFound?_setVm hvm h2
  exact ⟨c, k', i, f, a, cell, by rw [hvm.findClass]; exact h1, hi', h3, by rw [he]; exact h4, h5, h6, h7, h8, by rw [he]; exact h9, h10⟩
theorem vx_L.kept {C n d : String} {A : Nat → Prop} {U : State} {H H1 : Heap} (h : vx_L C n d A U H) (hq : ∀ a : Nat, a < H.size → ¬ A a → H1[a]? = H[a]?) : vx_L C n d A U H1 := by
  obtain ⟨c, k, i, f, a, cell, h1, h2, h3, h4, h5, h6, h7, h8, h9, h10⟩ := h
  exact ⟨c, k, i, f, a, cell, h1, h2, h3, h4, by rw [hq a (Array.getElem?_eq_some_iff.mp h5).1 h10]; exact h5, h6, h7, h8, h9, h10⟩
theorem vx_L.narrow {C n d : String} {A B : Nat → Prop} {U : State} {H : Heap} (h : vx_L C n d A U H) (hAB : ∀ q, B q → A q) : vx_L C n d B U H := by
  obtain ⟨c, k, i, f, a, cell, h1, h2, h3, h4, h5, h6, h7, h8, h9, h10⟩ := h
  exact ⟨c, k, i, f, a, cell, h1, h2, h3, h4, h5, h6, h7, h8, h9, fun z => h10 (hAB _ z)⟩
theorem vx_L.word {C n d : String} {A : Nat → Prop} {s : State} {args : Array Value} (h : vx_L C n d A s s.heap) : (Cond.laysStatic C n d).before args s = true := by
  obtain ⟨c, k, i, f, a, cell, h1, h2, h3, h4, h5, h6, h7, h8, h9, -⟩ := h
  show (Cond.laysStatic C n d).holds args s none s [] = true
  exact Cond.laysStatic_of h1 h2 h3 h4 h5 h6 h7 h8 h9
/-- .. and what it holds: null or some reference -/
def vx_Zq (C n d : String) (A : Nat → Prop) (U : State) (H : Heap) : Prop := va_Zq C n d A U H ∧ vx_L C n d A U H
theorem vx_Zq.moved {C n d : String} {A : Nat → Prop} {u U : State} {H : Heap} (hvm : u.vm.Alike U.vm) (h : vx_Zq C n d A u H) : vx_Zq C n d A U H := ⟨va_Zq.moved hvm h.1, vx_L.moved hvm h.2⟩
theorem vx_Zq.kept {C n d : String} {A : Nat → Prop} {U : State} {H H1 : Heap} (h : vx_Zq C n d A U H) (hq : ∀ a : Nat, a < H.size → ¬ A a → H1[a]? = H[a]?) : vx_Zq C n d A U H1 := ⟨va_Zq.kept h.1 hq, vx_L.kept h.2 hq⟩
theorem vx_Zq.narrow {C n d : String} {A B : Nat → Prop} {U : State} {H : Heap} (h : vx_Zq C n d A U H) (hAB : ∀ q, B q → A q) : vx_Zq C n d B U H := ⟨va_Zq.narrow h.1 hAB, vx_L.narrow h.2 hAB⟩
theorem vx_Zqof {args : Array Value} {s : State} {C n d : String} {A : Nat → Prop} (hl : (Cond.laysStatic C n d).before args s = true) (hini : (Cond.initialized C).before args s = true) (h : (Cond.isRef (.static C n d)).before args s = true) (hA : ∀ a : Nat, a < s.heap.size → ¬ A a) : vx_Zq C n d A s s.heap := by
  refine ⟨va_Zqof hl hini h hA, ?_⟩
  obtain ⟨c, k, i, f, a, cell, h1, h2, h3, h4, h5, h6, h7, h8, h9⟩ := Cond.laysStatic_spec hl
  exact ⟨c, k, i, f, a, cell, h1, h2, h3, h4, h5, h6, h7, h8, h9, hA a (Array.getElem?_eq_some_iff.mp h5).1⟩
theorem vx_isRef {C n d : String} {v : Value} {A : Nat → Prop} {s : State} {args : Array Value} (h : va_Z C n d v A s s.heap) (hv : v.isRef = true) : (Cond.isRef (.static C n d)).before args s = true := by
  obtain ⟨cf, kf, fi, f, a, cell, h1, h2, h3, h4, h5, h6, h7, -⟩ := h
  have he : (Term.static C n d).eval args s none [] s = some v := by
    simp [Term.eval, State.fieldNamed?, h1, h2, h4, h5, h6, h7]
  simp only [Cond.before, Cond.holds, Cond.value, he]
  cases v <;> simp_all [Value.isRef]
theorem vx_isRefq {C n d : String} {A : Nat → Prop} {s : State} {args : Array Value} (h : va_Zq C n d A s s.heap) : (Cond.isRef (.static C n d)).before args s = true := by
  rcases h with h | ⟨t, h⟩
  · exact vx_isRef h rfl
  · exact vx_isRef h rfl
/-- the same frame, seen from here: as if the method were called anew in this heap -/
theorem vx_rebase {T : State} (X : Stand p l e R s m args below meth c T locs cells slots) {R' : Room} (hf : R'.frames ≤ R.frames) (hl : R'.locals ≤ R.locals) (hc : cells + R'.cells ≤ R.cells) (hs : slots + R'.slots ≤ R.slots) :
    Stand p l e R' ((T.setVm s.vm).setFrames (.invoking m args :: below)) m args below meth c T [] 0 0 := by
  have htop : (T.setVm s.vm).topJava?.isSome := X.here.top
  have hF : ((T.setVm s.vm).setFrames (.invoking m args :: below)).frames = .invoking m args :: below := State.frames_setFrames _ (State.cur_lt_of_top htop)
  obtain ⟨g₀, hg0⟩ := Option.isSome_iff_exists.mp htop
  obtain ⟨r, hr⟩ := State.topJava?_eq_some.mp hg0
  have hl9 : e.platform.stackLimits (T.setVm s.vm).me = e.platform.stackLimits s.me := X.limits
  have hb9 : (T.setVm s.vm).me.stackBytes = s.me.stackBytes := X.bytes
  refine ⟨X.admits, X.cas, X.clock, hF, ?_, X.hears, X.method, X.code, X.here, X.tail, X.warmed, ?_, ?_, ?_⟩
  · have h := X.room
    have hU : ((T.setVm s.vm).setFrames (.invoking m args :: below)).localsInUse = s.localsInUse := by
      rw [State.localsInUse_invoking hF (meth := meth) (c := c) X.method X.code, State.localsInUse_invoking X.frames X.method X.code]
    simp only [State.hasRoom, Bool.and_eq_true, decide_eq_true_eq] at h ⊢
    obtain ⟨⟨⟨⟨h1, h2, h3, h4, h5, h6⟩, h7⟩, h8⟩, h9⟩ := h
    rw [X.frames, List.length_cons] at h2 h3
    have q1 := X.heapSize
    have q2 := X.used
    simp only [hF, hU, List.length_cons, State.stackLimits_setFrames, State.stackBytes_setFrames, hl9, hb9]
    refine ⟨⟨⟨⟨by omega, by omega, by omega, by omega, by omega, h6⟩, ?_⟩, ?_⟩, X.book⟩
    · show T.heap.size + R'.cells ≤ e.platform.maxCells
      omega
    · show T.slotsUsed + R'.slots ≤ e.platform.maxSlots
      omega
  · rw [State.stackLimits_setFrames]; rfl
  · rw [State.stackBytes_setFrames]; rfl
  · refine ⟨?_, Nat.le_refl _, Nat.le_refl _, ?_, ?_, fun a c9 h9 => ⟨c9, h9, rfl, rfl, fun _ _ => rfl⟩⟩
    · obtain ⟨t, ht, -⟩ := State.frames_cons hr
      show T.setVm s.vm = { ((T.setVm s.vm).setFrames (.invoking m args :: below)).setFrames (T.setVm s.vm).frames with heap := T.heap, slotsUsed := T.slotsUsed }
      rw [State.setFrames_setFrames, State.setFrames_self ht]
      rfl
    · show T.slotsUsed = T.slotsUsed + ((T.heap.toList.drop T.heap.size).map (·.slots.size)).sum
      rw [List.drop_eq_nil_of_le (Nat.le_of_eq Array.length_toList)]
      rfl
    · show ((T.heap.toList.drop T.heap.size).map (·.slots.size)).sum ≤ 0
      rw [List.drop_eq_nil_of_le (Nat.le_of_eq Array.length_toList)]
      exact Nat.le_refl _
/-- 'throw new E()': new; dup; invokespecial; athrow -/
theorem vx_throw0 {cc : ByteArray} {pc : Nat} (hexec : p.tables.exec = Jvm.exec) (hb : c.code = cc) (hl : l.stackTraces = false) {own cls : String} {names : List String} {ik ic mc ms : Nat} {A : Nat → Prop}
    (hown : s.vm.findClass own = some m.cls) (hcls : Bundle.fit cls = true) (hnames : ∀ n ∈ names, Bundle.fit n = true)
    (hk : (Cond.classLink own ik cls).before args s = true) (hini : (Cond.initialized cls).before args s = true) (hat : ∀ w ∈ vx_at0 own ic cls names, w.before args s = true)
    (hgood : ∀ w ∈ Cond.classLink own ik cls :: Cond.initialized cls :: vx_at0 own ic cls names, vx_ot w = true)
    (hU : vx_Zq Bundle.tN "UNASSIGNED_STACK" Bundle.steD A s s.heap) (hN : vx_Zq Bundle.tN "SUPPRESSED_SENTINEL" Bundle.listD A s s.heap) (hS : va_S A s.heap H locs) (hsize : ls.size = c.maxLocals)
    (d0 : decode cc pc = .ok (.new ik, 3)) (d3 : decode cc (pc + 3) = .ok (.dup, 1)) (d4 : decode cc (pc + 4) = .ok (.invokespecial ic, 3)) (d7 : decode cc (pc + 7) = .ok (.athrow, 1))
    (hout : ∀ x ∈ c.exceptionTable.toList, covers x (pc + 7) = false)
    (hRframes : names.length + 3 < R.frames) (hRlocals : (rest.map fun v => v.category).sum + (13 * (names.length + 1) + 42) ≤ R.locals) (hRcells : cells + 1 ≤ R.cells) (hRslots : slots + 6 ≤ R.slots) (hlocks : meth.locks = false)
    (hx : ∀ t : State, s.vm.Alike t.vm → H.size ≤ t.heap.size → (∀ q : Nat, q < H.size → t.heap[q]? = H[q]?) → XC cls s t)
    (hf : ∀ z ∈ locs, free z.base) (hc : cells + 1 ≤ mc) (hs : slots + 6 ≤ ms) :
    W p l e R s m args below meth c H locs cells slots (vx_MQ below Qc XC args s mc ms free) (F0 m pc ls rest) := by
  intro T hT X
  have htr : e.platform.stackTraces = false := (show e.platform.stackTraces = l.stackTraces by rw [X.admits.platform]).trans hl
  have Y := vx_rebase X (R' := { frames := R.frames, locals := R.locals, cells := 1, slots := 6 }) (Nat.le_refl _) (Nat.le_refl _) hRcells hRslots
  obtain ⟨s', hA⟩ : ∃ z, z = (T.setVm s.vm).setFrames (.invoking m args :: below) := ⟨_, rfl⟩
  rw [← hA] at Y
  have hvm : s'.vm = s.vm := by rw [hA]; rfl
  have hhp : s'.heap = H := by rw [hA]; exact hT
  have hW0 : s.WarmedH s'.vm := by rw [hvm]; exact State.WarmedH.refl s
  have hat' : ∀ w ∈ vx_at0 own ic cls names, w.before args s' = true := fun w hw => vx_ot_at hW0 hvm.symm (hgood w (List.mem_cons_of_mem _ (List.mem_cons_of_mem _ hw))) (hat w hw)
  have hk' : (Cond.classLink own ik cls).before args s' = true := vx_ot_at hW0 hvm.symm (hgood _ List.mem_cons_self) hk
  have hini' : (Cond.initialized cls).before args s' = true := vx_ot_at hW0 hvm.symm (hgood _ (List.mem_cons_of_mem _ List.mem_cons_self)) hini
  have hU' : vx_Zq Bundle.tN "UNASSIGNED_STACK" Bundle.steD A s' s'.heap := by rw [hhp]; exact vx_Zq.moved hW0.alike (hU.kept hS.2.1)
  have hN' : vx_Zq Bundle.tN "SUPPRESSED_SENTINEL" Bundle.listD A s' s'.heap := by rw [hhp]; exact vx_Zq.moved hW0.alike (hN.kept hS.2.1)
  have h : ∀ w ∈ Bundle.ownAtoms0 own ic cls names, w.before args s' = true := vx_own hat' (vx_isRefq hU'.1) (vx_isRefq hN'.1) hU'.2.word hN'.2.word
  have hown' : s'.vm.findClass own = some m.cls := by rw [hvm]; exact hown
  have hins : (Cond.instantiable cls 6).before args s' = true := h _ (by simp [Bundle.ownAtoms0])
  obtain ⟨vm₁, cX, kX, hfX, hkX, -, -, X₁, st1⟩ := Y.newCold hexec (own := own) (C := cls) (index := ik) (n := 6) hown' hk' hins hini'
    (g := F0 m pc ls rest) rfl (by rw [hb]; exact d0) (Nat.le_refl _) (Nat.le_refl _)
  generalize hT1 : (T.setVm vm₁).pushCell { cls := cX, slots := kX.instanceTypes.map defaultValue, vm := .none } = T1 at X₁ st1
  have hcat : (Value.ref T.heap.size).category = 1 := rfl
  have hcellA : T1.heap[T.heap.size]? = some (freshCell cX kX) := by rw [← hT1]; exact State.heap_pushCell_size _ _
  have d3' : decode c.code (pc + 3) = .ok (.dup, 1) := by rw [hb]; exact d3
  obtain ⟨U, hsteps, hrun, hend, hW, hsame, ce, hce, hO⟩ := X₁.ctorThrow0 hexec htr (own := own) (cls := cls) (names := names) (ic := ic) hown' hcls hnames h (fun x hx => nomatch hx) hfX hkX hcellA (by rw [hhp, hT]; exact Nat.le_refl _)
    (g := { method := m, pc := pc + 4, locals := ls, stack := .ref T.heap.size :: .ref T.heap.size :: rest, locked := none }) rfl hsize rfl rfl (rest := rest) rfl
    (by rw [hb]; exact d4) (by rw [hb]; exact d7) hout hRframes (by simp only [List.map_cons, List.sum_cons, hcat]; omega) hlocks
  obtain ⟨f1, f2⟩ := vx_frame hsame
  rw [hhp] at f1 f2
  have hWs : s.WarmedH U.vm := State.WarmedH.trans hW0 hW
  have hcl : s.vm.findClass cls = some ce.cls := by
    have h9 := hO.cls
    rw [hvm] at h9
    exact h9
  have hall : s.sameButNew ({ U with vm := s.vm } : State) locs mc ms := by
    subst hA
    obtain ⟨e1, e2⟩ := hsame
    rw [State.setFrames_setFrames] at e1
    have h2 : (T.setVm s.vm).sameButNew ({ U with vm := s.vm } : State) [] (0 + 1) (0 + 6) := ⟨e1, e2⟩
    have h3 := X.same.trans h2
    rw [List.append_nil] at h3
    exact h3.mono hc hs
  refine ⟨U, ?_, .threw T.heap.size, hrun, hend, Or.inr ⟨T.heap.size, rfl, cls, ce, locs, hx U hWs.alike f1 (fun q hq => f2 q hq (fun z hz => nomatch hz)), hce, hO.vm, hcl, hWs, hall, hf⟩⟩
  refine st1 _ ?_
  show Steps p.tables e below (T1.setTop { method := m, pc := pc + 3, locals := ls, stack := .ref T.heap.size :: rest, locked := none }) _
  jvm_step X₁.here [X₁.here.top, hexec, d3', Value.category]
  exact hsteps
/-- 'throw new E("text")': new; dup; ldc; invokespecial; athrow -/
theorem vx_throwS {cc : ByteArray} {pc : Nat} (hexec : p.tables.exec = Jvm.exec) (hb : c.code = cc) (hl : l.stackTraces = false) {own cls text : String} {names : List String} {ik is ic mc ms sa : Nat} {A : Nat → Prop}
    (hown : s.vm.findClass own = some m.cls) (hcls : Bundle.fit cls = true) (hnames : ∀ n ∈ names, Bundle.fit n = true)
    (hk : (Cond.classLink own ik cls).before args s = true) (hini : (Cond.initialized cls).before args s = true) (hstr : vk_R own is text sa s) (hat : ∀ w ∈ vx_atS own ic cls names, w.before args s = true)
    (hgood : ∀ w ∈ Cond.classLink own ik cls :: Cond.initialized cls :: vx_atS own ic cls names, vx_ot w = true)
    (hU : vx_Zq Bundle.tN "UNASSIGNED_STACK" Bundle.steD A s s.heap) (hN : vx_Zq Bundle.tN "SUPPRESSED_SENTINEL" Bundle.listD A s s.heap) (hS : va_S A s.heap H locs) (hsize : ls.size = c.maxLocals)
    (d0 : decode cc pc = .ok (.new ik, 3)) (d3 : decode cc (pc + 3) = .ok (.dup, 1)) (d4 : decode cc (pc + 4) = .ok (.ldc is, 2)) (d6 : decode cc (pc + 6) = .ok (.invokespecial ic, 3)) (d9 : decode cc (pc + 9) = .ok (.athrow, 1))
    (hout : ∀ x ∈ c.exceptionTable.toList, covers x (pc + 9) = false)
    (hRframes : names.length + 3 < R.frames) (hRlocals : (rest.map fun v => v.category).sum + (13 * (names.length + 1) + 43) ≤ R.locals) (hRcells : cells + 1 ≤ R.cells) (hRslots : slots + 6 ≤ R.slots) (hlocks : meth.locks = false)
    (hx : ∀ t : State, s.vm.Alike t.vm → H.size ≤ t.heap.size → (∀ q : Nat, q < H.size → t.heap[q]? = H[q]?) → XC cls s t)
    (hf : ∀ z ∈ locs, free z.base) (hc : cells + 1 ≤ mc) (hs : slots + 6 ≤ ms) :
    W p l e R s m args below meth c H locs cells slots (vx_MQ below Qc XC args s mc ms free) (F0 m pc ls rest) := by
  intro T hT X
  have htr : e.platform.stackTraces = false := (show e.platform.stackTraces = l.stackTraces by rw [X.admits.platform]).trans hl
  have Y := vx_rebase X (R' := { frames := R.frames, locals := R.locals, cells := 1, slots := 6 }) (Nat.le_refl _) (Nat.le_refl _) hRcells hRslots
  obtain ⟨s', hA⟩ : ∃ z, z = (T.setVm s.vm).setFrames (.invoking m args :: below) := ⟨_, rfl⟩
  rw [← hA] at Y
  have hvm : s'.vm = s.vm := by rw [hA]; rfl
  have hhp : s'.heap = H := by rw [hA]; exact hT
  have hW0 : s.WarmedH s'.vm := by rw [hvm]; exact State.WarmedH.refl s
  have hat' : ∀ w ∈ vx_atS own ic cls names, w.before args s' = true := fun w hw => vx_ot_at hW0 hvm.symm (hgood w (List.mem_cons_of_mem _ (List.mem_cons_of_mem _ hw))) (hat w hw)
  have hk' : (Cond.classLink own ik cls).before args s' = true := vx_ot_at hW0 hvm.symm (hgood _ List.mem_cons_self) hk
  have hini' : (Cond.initialized cls).before args s' = true := vx_ot_at hW0 hvm.symm (hgood _ (List.mem_cons_of_mem _ List.mem_cons_self)) hini
  have hU' : vx_Zq Bundle.tN "UNASSIGNED_STACK" Bundle.steD A s' s'.heap := by rw [hhp]; exact vx_Zq.moved hW0.alike (hU.kept hS.2.1)
  have hN' : vx_Zq Bundle.tN "SUPPRESSED_SENTINEL" Bundle.listD A s' s'.heap := by rw [hhp]; exact vx_Zq.moved hW0.alike (hN.kept hS.2.1)
  have h : ∀ w ∈ Bundle.ownAtoms own ic cls names, w.before args s' = true := vx_own hat' (vx_isRefq hU'.1) (vx_isRefq hN'.1) hU'.2.word hN'.2.word
  have hown' : s'.vm.findClass own = some m.cls := by rw [hvm]; exact hown
  have hins : (Cond.instantiable cls 6).before args s' = true := h _ (by simp [Bundle.ownAtoms])
  obtain ⟨vm₁, cX, kX, hfX, hkX, -, -, X₁, st1⟩ := Y.newCold hexec (own := own) (C := cls) (index := ik) (n := 6) hown' hk' hins hini'
    (g := F0 m pc ls rest) rfl (by rw [hb]; exact d0) (Nat.le_refl _) (Nat.le_refl _)
  generalize hT1 : (T.setVm vm₁).pushCell { cls := cX, slots := kX.instanceTypes.map defaultValue, vm := .none } = T1 at X₁ st1
  have hcat : (Value.ref T.heap.size).category = 1 := rfl
  have hcellA : T1.heap[T.heap.size]? = some (freshCell cX kX) := by rw [← hT1]; exact State.heap_pushCell_size _ _
  have d3' : decode c.code (pc + 3) = .ok (.dup, 1) := by rw [hb]; exact d3
  have d4' : decode c.code (pc + 4) = .ok (.ldc is, 2) := by rw [hb]; exact d4
  have hstr' : vk_R own is text sa s' := vk_R.warm hW0 hstr
  obtain ⟨U, hsteps, hrun, hend, hW, hsame, ce, hce, hO⟩ := X₁.ctorThrowS hexec htr (own := own) (cls := cls) (names := names) (ic := ic) hown' hcls hnames h (fun x hx => nomatch hx) hfX hkX hcellA (by rw [hhp, hT]; exact Nat.le_refl _) (msg := .ref sa) rfl
    (g := { method := m, pc := pc + 6, locals := ls, stack := .ref sa :: .ref T.heap.size :: .ref T.heap.size :: rest, locked := none }) rfl hsize rfl rfl (rest := rest) rfl
    (by rw [hb]; exact d6) (by rw [hb]; exact d9) hout hRframes (by simp only [List.map_cons, List.sum_cons, hcat]; omega) hlocks
  obtain ⟨f1, f2⟩ := vx_frame hsame
  rw [hhp] at f1 f2
  have hWs : s.WarmedH U.vm := State.WarmedH.trans hW0 hW
  have hcl : s.vm.findClass cls = some ce.cls := by
    have h9 := hO.cls
    rw [hvm] at h9
    exact h9
  have hall : s.sameButNew ({ U with vm := s.vm } : State) locs mc ms := by
    subst hA
    obtain ⟨e1, e2⟩ := hsame
    rw [State.setFrames_setFrames] at e1
    have h2 : (T.setVm s.vm).sameButNew ({ U with vm := s.vm } : State) [] (0 + 1) (0 + 6) := ⟨e1, e2⟩
    have h3 := X.same.trans h2
    rw [List.append_nil] at h3
    exact h3.mono hc hs
  refine ⟨U, ?_, .threw T.heap.size, hrun, hend, Or.inr ⟨T.heap.size, rfl, cls, ce, locs, hx U hWs.alike f1 (fun q hq => f2 q hq (fun z hz => nomatch hz)), hce, hO.vm, hcl, hWs, hall, hf⟩⟩
  refine st1 _ ?_
  show Steps p.tables e below (T1.setTop { method := m, pc := pc + 3, locals := ls, stack := .ref T.heap.size :: rest, locked := none }) _
  jvm_step X₁.here [X₁.here.top, hexec, d3', Value.category]
  exact X₁.ldcString hexec (own := own) (text := text) (index := is) (a := sa) hown' hstr'.1 hstr'.2
    (g := { method := m, pc := pc + 4, locals := ls, stack := .ref T.heap.size :: .ref T.heap.size :: rest, locked := none }) rfl d4' _ hsteps
/-- 'throw new E("text")', the text by a wide index -/
theorem vx_throwSW {cc : ByteArray} {pc : Nat} (hexec : p.tables.exec = Jvm.exec) (hb : c.code = cc) (hl : l.stackTraces = false) {own cls text : String} {names : List String} {ik is ic mc ms sa : Nat} {A : Nat → Prop}
    (hown : s.vm.findClass own = some m.cls) (hcls : Bundle.fit cls = true) (hnames : ∀ n ∈ names, Bundle.fit n = true)
    (hk : (Cond.classLink own ik cls).before args s = true) (hini : (Cond.initialized cls).before args s = true) (hstr : vk_R own is text sa s) (hat : ∀ w ∈ vx_atS own ic cls names, w.before args s = true)
    (hgood : ∀ w ∈ Cond.classLink own ik cls :: Cond.initialized cls :: vx_atS own ic cls names, vx_ot w = true)
    (hU : vx_Zq Bundle.tN "UNASSIGNED_STACK" Bundle.steD A s s.heap) (hN : vx_Zq Bundle.tN "SUPPRESSED_SENTINEL" Bundle.listD A s s.heap) (hS : va_S A s.heap H locs) (hsize : ls.size = c.maxLocals)
    (d0 : decode cc pc = .ok (.new ik, 3)) (d3 : decode cc (pc + 3) = .ok (.dup, 1)) (d4 : decode cc (pc + 4) = .ok (.ldc_w is, 3)) (d7 : decode cc (pc + 7) = .ok (.invokespecial ic, 3)) (d10 : decode cc (pc + 10) = .ok (.athrow, 1))
    (hout : ∀ x ∈ c.exceptionTable.toList, covers x (pc + 10) = false)
    (hRframes : names.length + 3 < R.frames) (hRlocals : (rest.map fun v => v.category).sum + (13 * (names.length + 1) + 43) ≤ R.locals) (hRcells : cells + 1 ≤ R.cells) (hRslots : slots + 6 ≤ R.slots) (hlocks : meth.locks = false)
    (hx : ∀ t : State, s.vm.Alike t.vm → H.size ≤ t.heap.size → (∀ q : Nat, q < H.size → t.heap[q]? = H[q]?) → XC cls s t)
    (hf : ∀ z ∈ locs, free z.base) (hc : cells + 1 ≤ mc) (hs : slots + 6 ≤ ms) :
    W p l e R s m args below meth c H locs cells slots (vx_MQ below Qc XC args s mc ms free) (F0 m pc ls rest) := by
  intro T hT X
  have htr : e.platform.stackTraces = false := (show e.platform.stackTraces = l.stackTraces by rw [X.admits.platform]).trans hl
  have Y := vx_rebase X (R' := { frames := R.frames, locals := R.locals, cells := 1, slots := 6 }) (Nat.le_refl _) (Nat.le_refl _) hRcells hRslots
  obtain ⟨s', hA⟩ : ∃ z, z = (T.setVm s.vm).setFrames (.invoking m args :: below) := ⟨_, rfl⟩
  rw [← hA] at Y
  have hvm : s'.vm = s.vm := by rw [hA]; rfl
  have hhp : s'.heap = H := by rw [hA]; exact hT
  have hW0 : s.WarmedH s'.vm := by rw [hvm]; exact State.WarmedH.refl s
  have hat' : ∀ w ∈ vx_atS own ic cls names, w.before args s' = true := fun w hw => vx_ot_at hW0 hvm.symm (hgood w (List.mem_cons_of_mem _ (List.mem_cons_of_mem _ hw))) (hat w hw)
  have hk' : (Cond.classLink own ik cls).before args s' = true := vx_ot_at hW0 hvm.symm (hgood _ List.mem_cons_self) hk
  have hini' : (Cond.initialized cls).before args s' = true := vx_ot_at hW0 hvm.symm (hgood _ (List.mem_cons_of_mem _ List.mem_cons_self)) hini
  have hU' : vx_Zq Bundle.tN "UNASSIGNED_STACK" Bundle.steD A s' s'.heap := by rw [hhp]; exact vx_Zq.moved hW0.alike (hU.kept hS.2.1)
  have hN' : vx_Zq Bundle.tN "SUPPRESSED_SENTINEL" Bundle.listD A s' s'.heap := by rw [hhp]; exact vx_Zq.moved hW0.alike (hN.kept hS.2.1)
  have h : ∀ w ∈ Bundle.ownAtoms own ic cls names, w.before args s' = true := vx_own hat' (vx_isRefq hU'.1) (vx_isRefq hN'.1) hU'.2.word hN'.2.word
  have hown' : s'.vm.findClass own = some m.cls := by rw [hvm]; exact hown
  have hins : (Cond.instantiable cls 6).before args s' = true := h _ (by simp [Bundle.ownAtoms])
  obtain ⟨vm₁, cX, kX, hfX, hkX, -, -, X₁, st1⟩ := Y.newCold hexec (own := own) (C := cls) (index := ik) (n := 6) hown' hk' hins hini'
    (g := F0 m pc ls rest) rfl (by rw [hb]; exact d0) (Nat.le_refl _) (Nat.le_refl _)
  generalize hT1 : (T.setVm vm₁).pushCell { cls := cX, slots := kX.instanceTypes.map defaultValue, vm := .none } = T1 at X₁ st1
  have hcat : (Value.ref T.heap.size).category = 1 := rfl
  have hcellA : T1.heap[T.heap.size]? = some (freshCell cX kX) := by rw [← hT1]; exact State.heap_pushCell_size _ _
  have d3' : decode c.code (pc + 3) = .ok (.dup, 1) := by rw [hb]; exact d3
  have d4' : decode c.code (pc + 4) = .ok (.ldc_w is, 3) := by rw [hb]; exact d4
  have hstr' : vk_R own is text sa s' := vk_R.warm hW0 hstr
  obtain ⟨U, hsteps, hrun, hend, hW, hsame, ce, hce, hO⟩ := X₁.ctorThrowS hexec htr (own := own) (cls := cls) (names := names) (ic := ic) hown' hcls hnames h (fun x hx => nomatch hx) hfX hkX hcellA (by rw [hhp, hT]; exact Nat.le_refl _) (msg := .ref sa) rfl
    (g := { method := m, pc := pc + 7, locals := ls, stack := .ref sa :: .ref T.heap.size :: .ref T.heap.size :: rest, locked := none }) rfl hsize rfl rfl (rest := rest) rfl
    (by rw [hb]; exact d7) (by rw [hb]; exact d10) hout hRframes (by simp only [List.map_cons, List.sum_cons, hcat]; omega) hlocks
  obtain ⟨f1, f2⟩ := vx_frame hsame
  rw [hhp] at f1 f2
  have hWs : s.WarmedH U.vm := State.WarmedH.trans hW0 hW
  have hcl : s.vm.findClass cls = some ce.cls := by
    have h9 := hO.cls
    rw [hvm] at h9
    exact h9
  have hall : s.sameButNew ({ U with vm := s.vm } : State) locs mc ms := by
    subst hA
    obtain ⟨e1, e2⟩ := hsame
    rw [State.setFrames_setFrames] at e1
    have h2 : (T.setVm s.vm).sameButNew ({ U with vm := s.vm } : State) [] (0 + 1) (0 + 6) := ⟨e1, e2⟩
    have h3 := X.same.trans h2
    rw [List.append_nil] at h3
    exact h3.mono hc hs
  refine ⟨U, ?_, .threw T.heap.size, hrun, hend, Or.inr ⟨T.heap.size, rfl, cls, ce, locs, hx U hWs.alike f1 (fun q hq => f2 q hq (fun z hz => nomatch hz)), hce, hO.vm, hcl, hWs, hall, hf⟩⟩
  refine st1 _ ?_
  show Steps p.tables e below (T1.setTop { method := m, pc := pc + 3, locals := ls, stack := .ref T.heap.size :: rest, locked := none }) _
  jvm_step X₁.here [X₁.here.top, hexec, d3', Value.category]
  exact X₁.ldcStringW hexec (own := own) (text := text) (index := is) (a := sa) hown' hstr'.1 hstr'.2
    (g := { method := m, pc := pc + 4, locals := ls, stack := .ref T.heap.size :: .ref T.heap.size :: rest, locked := none }) rfl d4' _ hsteps
end Ends
section Bodies
variable {l : Launch}
theorem vx_ofW {y : MethodName} {ws ws' : List Cond} {rm : Room} {Pc : Array Value → State → Prop} {Qc : Array Value → State → Outcome → State → Prop} {XC : String → State → State → Prop} {mc ms : Nat} {free : Addr → Prop} {cc : ByteArray} {maxL : Nat} {ret : Option FieldType}
    (hy : plainName y.cls = true) (hw : ws = Cond.code y cc maxL ret :: ws')
    (body : ∀ p e s m args below meth c s₁, BodyLoose p l y (headSpec ws rm) cc maxL ret e s m args below meth c s₁ → c.maxLocals = maxL → (∀ x ∈ c.exceptionTable.toList, False) → Pc args s →
      W p l e (headSpec ws rm).room s m args below meth c s.heap [] 0 0 (vx_MQ below Qc XC args s mc ms free) (entryFrame m args maxL)) : vx_Met l y ws rm Pc Qc XC mc ms free := by
  refine MetFree.of_bodyS (code := cc) (maxLocals := maxL) (ret := ret) hy ?_ ?_
  · intro args s m h hn
    obtain ⟨meth, c, h1, h2, h3, h4, h5, h6, -, -⟩ := Cond.code_spec hn (atoms_spec (ws := ws) h _ (by rw [hw]; exact List.mem_cons_self))
    exact ⟨meth, c, h1, h2, h3, h4, h5, h6⟩
  · intro p e s m args below meth c s₁ B hml hP _
    have hh0 : s₁.heap = s.heap := by rw [B.state]; rfl
    have ht : ∀ x ∈ c.exceptionTable.toList, False := by
      obtain ⟨meth9, c9, h1, h2, -, -, -, -, h7, -⟩ := Cond.code_spec B.named (atoms_spec (ws := ws) B.pre _ (by rw [hw]; exact List.mem_cons_self))
      cases Option.some.inj (h1.symm.trans B.method)
      cases Option.some.inj (h2.symm.trans (Stand.of_body B).code)
      intro x hx
      rw [Array.isEmpty_iff.mp h7] at hx
      cases hx
    obtain ⟨t, a1, o, b1, b2, b3⟩ := body p e s m args below meth c s₁ B hml ht hP s₁ hh0 (Stand.of_body B)
    exact ⟨t, o, a1, b1, b2, b3⟩
/-- the table of a body with handlers -/
theorem vx_table {p : Program} {x y : MethodName} {S : Spec} {cc bytes : ByteArray} {maxL maxL' : Nat} {ret ret' : Option FieldType} {e : Env} {s s₁ : State} {m : MethodId} {args : Array Value} {below : List Frame} {meth : Method} {c : Code} {hh : List (Nat × Nat × Nat × Nat)}
    (B : BodyLoose p l y S cc maxL ret e s m args below meth c s₁) (h : (Cond.codeWith y bytes maxL' ret' hh).before args s = true) : c.exceptionTable.toList = tableOf hh := by
  obtain ⟨m9, meth9, c9, hn9, h1, h2, -, -, h6, -⟩ := Cond.codeWith_spec h
  cases Option.some.inj (hn9.symm.trans B.named)
  cases Option.some.inj (h1.symm.trans B.method)
  cases Option.some.inj (h2.symm.trans (Stand.of_body B).code)
  rw [← h6, table_eq]
end Bodies
end VXA
/-! ===== END ===== -/
/-! ===== BEGIN a static call of a method with an exception table ===== -/
section VXS
variable {p : Program} {l : Launch} {e : Env} {R : Room} {s : State} {m : MethodId} {args : Array Value} {below : List Frame} {meth : Method} {c : Code} {T : State} {H : Heap} {locs : List Loc} {cells slots : Nat}
abbrev vx_CSW (R : Room) (s : State) (args : Array Value) (own : String) (index : Nat) (y : MethodName) (bytes : ByteArray) (maxL : Nat) (ret : Option FieldType) (hh : List (Nat × Nat × Nat × Nat)) (ws : List Cond) (rm : Room) (mc ms n : Nat) : Prop :=
  (rm.cells = mc ∧ rm.slots = ms ∧ rm.frames + 1 ≤ R.frames ∧ 8 + (maxL + 11) + rm.locals ≤ R.locals ∧ (∀ w ∈ ws, ∀ (a' : Array Value) (U : State), s.WarmedH U.vm → w.before a' U = true) ∧ Cond.codeWith y bytes maxL ret hh ∈ ws) ∧
  (Cond.codeWith y bytes maxL ret hh).before args s = true ∧ (Cond.initialized y.cls).before args s = true ∧ (y.cls ≠ "java/lang/invoke/MethodHandle" ∧ y.cls ≠ "java/lang/invoke/VarHandle") ∧
  (∀ sig, parseMethodDescriptor y.desc = some sig → n = sig.parameters.length) ∧ (Cond.methodLink own index y).before args s = true ∧ (Cond.static y).before args s = true
theorem vx_cwSW {own : String} {index maxL mc ms : Nat} {y : MethodName} {bytes : ByteArray} {ret : Option FieldType} {hh : List (Nat × Nat × Nat × Nat)} {Ts ws ws' : List Cond} {rm : Room} (n : Nat) (ht : ∀ w ∈ Ts, w.before args s = true) (hT : GoodIn Ts (va_wsS own index y ws)) (hw : ws = Cond.codeWith y bytes maxL ret hh :: ws') (hrc : rm.cells = mc) (hrs : rm.slots = ms)
    (hd : y.cls ≠ "java/lang/invoke/MethodHandle" ∧ y.cls ≠ "java/lang/invoke/VarHandle" ∧ (parseMethodDescriptor y.desc).map (fun d => d.parameters.length) = some n) (hR : rm.frames + 1 ≤ R.frames ∧ 8 + (maxL + 11) + rm.locals ≤ R.locals) :
    vx_CSW R s args own index y bytes maxL ret hh ws rm mc ms n := by
  have ok : ∀ w ∈ va_wsS own index y ws, w.before args s = true := fun w h => ht w (hT w h).1
  have hG : GoodIn Ts ws := fun w h => hT w (by unfold va_wsS; exact List.mem_append_right _ h)
  have hc : Cond.codeWith y bytes maxL ret hh ∈ ws := by rw [hw]; exact List.mem_cons_self
  refine ⟨⟨hrc, hrs, hR.1, hR.2, pay_in ht hG, hc⟩, ht _ (hG _ hc).1, ok _ (by simp [va_wsS]), ⟨hd.1, hd.2.1⟩, fun sig h => ?_, ok _ (by simp [va_wsS]), ok _ (by simp [va_wsS])⟩
  have h2 := hd.2.2
  rw [h] at h2
  exact (Option.some.inj h2).symm
theorem vx_callSW (X : Stand p l e R s m args below meth c T locs cells slots) (hexec : p.tables.exec = Jvm.exec) {own : String} {index : Nat} {y : MethodName} {bytes : ByteArray} {maxL : Nat} {ret : Option FieldType} {hh : List (Nat × Nat × Nat × Nat)}
    (hown : s.vm.findClass own = some m.cls) (hlink : (Cond.methodLink own index y).before args s = true) (hstat : (Cond.static y).before args s = true) (hinit : (Cond.initialized y.cls).before args s = true)
    (hcode : (Cond.codeWith y bytes maxL ret hh).before args s = true) (hy : y.cls ≠ "java/lang/invoke/MethodHandle" ∧ y.cls ≠ "java/lang/invoke/VarHandle")
    {W9 : Nat} {Pre : Pt → Array Value → Prop} {Post : Pt → Array Value → Option Value → Pt → Prop} (hK : Back l R p e below s args y 3 W9 Pre Post)
    {g : JFrame} (hg : g.method = m) (hsize : g.locals.size = c.maxLocals) {argsL rest : List Value} (hlen : ∀ sig, parseMethodDescriptor y.desc = some sig → argsL.length = sig.parameters.length)
    (hstack : g.stack = argsL.reverse ++ rest) (hW : 2 * g.monitorRoom + (rest.map fun v => v.category).sum ≤ W9) (hdg : decode c.code g.pc = .ok (.invokestatic index, 3))
    (hpre : ∀ vm₁, s.WarmedH vm₁ → Pre ⟨T.setVm vm₁, locs, cells, slots⟩ argsL.toArray) :
    ∃ (v : Option Value) (vm₁ : Vm) (B : Pt), s.WarmedH vm₁ ∧ Stand p l e R s m args below meth c B.U B.locs B.cells B.slots ∧ Post ⟨T.setVm vm₁, locs, cells, slots⟩ argsL.toArray v B ∧
      ∀ target, Steps p.tables e below (B.U.setTop { g with pc := g.pc + 3, stack := v.toList ++ rest }) target → Steps p.tables e below (T.setTop g) target := by
  obtain ⟨mk, methM, cM, hnamed, hmethM, -, -, -, -, -, -, hsigM⟩ := Cond.codeWith_spec hcode
  have hstatic : methM.isStatic = true := Cond.static_spec hnamed hmethM hstat
  obtain ⟨kP, hkP, -⟩ := className_of_methodNamed hnamed
  have hinitP : kP.init = .initialized := Cond.initialized_spec (findClass_of_methodNamed hnamed) hkP hinit
  obtain ⟨vm₁, X₁, hstep₁⟩ := X.invokestatic hexec hown hlink hnamed hmethM hstatic hkP hinitP hy (g := g) hg (argsL := argsL) (rest := rest) (hlen _ hsigM) hstack hdg
  obtain ⟨v, B, X', hpost, hsteps⟩ := hK m meth c ⟨T.setVm vm₁, locs, cells, slots⟩ { g with stack := rest } (.invokestatic index) mk argsL.toArray X₁ hg hsize hdg hW (X₁.named hnamed) (hpre vm₁ X₁.warmed)
  exact ⟨v, vm₁, B, X₁.warmed, X', hpost, fun target h => hstep₁ _ fun acts => by rw [doInvoke_state]; exact hsteps.trans h⟩
theorem vx_runSW {y : MethodName} {bytes cc : ByteArray} {maxL nL mc ms n index : Nat} {ret : Option FieldType} {hh : List (Nat × Nat × Nat × Nat)} {ws : List Cond} {rm : Room} {Pc : Array Value → State → Prop} {Qc : Array Value → State → Outcome → State → Prop} {free : Addr → Prop} {Ts : List Cond} {own : String} {As rest : List Value} {g : JFrame}
    (S : CallFix p m c cc nL s args Ts own) (hM : Met l y ws rm Pc Qc mc ms free) (cw : vx_CSW R s args own index y bytes maxL ret hh ws rm mc ms n) (hp : PreS s H Pc As)
    (hg : g.method = m) (hn : As.length = n) (hsize : g.locals.size = nL) (hstack : g.stack = As.reverse ++ rest) (hW : 2 * g.monitorRoom + (rest.map fun v => v.category).sum ≤ 8) (hdg : decode cc g.pc = .ok (.invokestatic index, 3)) (hf : cells + mc ≤ R.cells ∧ slots + ms ≤ R.slots) :
    va_Run p l e R s m args below meth c H locs cells slots mc ms g rest (Qc As.toArray) (free) := by
  obtain ⟨⟨hrc, hrs, hfr, hlo, hws, hcw⟩, hcode, hini, hy, hlen, hl, hstt⟩ := cw
  have hK : Back l R p e below s args y 3 8 (PreOf R mc ms Pc) (PostOf Qc mc ms free) := va_backW (hh := hh) (bytes := bytes) (maxL := maxL) (ret := ret) hM hp.1 hrc hrs hfr hlo hws hcw (fun a' U hW => word_at hW (Or.inl (by first | rfl | simp [Cond.onTables, Cond.keeps, Cond.steady])) hini)
  obtain ⟨hx, hb, hml, ho, -⟩ := S
  intro T hT X
  obtain ⟨v, vm₁, ⟨U', l2, c2, s2⟩, hW₁, X', ⟨g', mk, t, L, e1, e2, hq, h1, hL, h2, h3⟩, st⟩ := vx_callSW X hx (hh := hh) (bytes := bytes) (maxL := maxL) (ret := ret) ho hl hstt hini hcode hy hK hg (hsize.trans hml.symm) (argsL := As) (rest := rest) (fun sig h => hn.trans (hlen sig h)) hstack hW (by rw [hb]; exact hdg)
    (fun vm₁ hW₁ => ⟨hf.1, hf.2, hp.2 (T.setVm vm₁) hT hW₁⟩)
  dsimp only [Pt.U, Pt.locs, Pt.cells, Pt.slots] at X' e1 e2 h1 h2 h3 st
  subst h1; subst h2; subst h3
  exact ⟨v, (T.setVm vm₁).calling g' mk As.toArray, t, U', L, hT, X', hL, e1, e2, hq, st⟩
/-- not caught here, past rows that name other classes: it goes on to the caller -/
theorem vx_outP {p : Program} {l : Launch} {e : Env} {R : Room} {s : State} {m : MethodId} {args : Array Value} {below : List Frame} {meth : Method} {c : Code} {H : Heap} {locs : List Loc} {cells slots : Nat} {free : Addr → Prop} {ls : Array Slot} {rest : List Value} {Qc : Array Value → State → Outcome → State → Prop} {XC : String → State → State → Prop}
    {pc : Nat} {own E : String} {ce : Cell} {q : Addr} {mc ms : Nat} (hown : s.vm.findClass own = some m.cls) (hlocks : meth.locks = false)
    (hpass : ∀ z ∈ c.exceptionTable.toList, covers z pc = false ∨ (z.catchType ≠ 0 ∧ ∃ nm : String, (Cond.classLink own z.catchType nm).before args s = true ∧ va_Nc E nm s)) (hcell : H[q]? = some ce) (hv : ce.vm = .none) (hcl : s.vm.findClass E = some ce.cls)
    (hx : ∀ t : State, t.heap = H → s.vm.Alike t.vm → XC E s t) (hf : ∀ z ∈ locs, free z.base) (hc : cells ≤ mc) (hs : slots ≤ ms) :
    vx_W p l e R s m args below meth c H locs cells slots (vx_MQ below Qc XC args s mc ms free) (F0 m pc ls rest) q := by
  intro T hT X
  have hpl : e.platform.magicAccessors = ({} : Platform).magicAccessors := by rw [X.admits.platform]
  obtain ⟨vm', hW', X', st⟩ := X.outThrough hlocks q (g := F0 m pc ls rest) rfl rfl rfl (cell := ce) (by rw [hT]; exact hcell) (by rw [hv]; rfl)
    (by obtain ⟨k9, h9, -⟩ := Vm.findClass_spec hcl; exact ⟨k9, h9⟩) (fun z hz => by
      rcases hpass z hz with h | ⟨hz0, nm, hl1, hn1⟩
      · exact Or.inl h
      · obtain ⟨c6, hc6, hcl6⟩ := Cond.classLink_spec hown hl1 e.platform hpl
        obtain ⟨a8, b8, h1, h2, h3⟩ := hn1
        cases Option.some.inj (h1.symm.trans hcl)
        cases Option.some.inj (h2.symm.trans hc6)
        exact Or.inr ⟨hz0, _, hcl6, h3⟩)
  obtain ⟨g₀, hfr⟩ := X'.frames_eq
  have hcell9 : ((T.setVm vm').setFrames (.throwing q :: below)).heap[q]? = some ce := by
    show T.heap[q]? = some ce
    rw [hT]; exact hcell
  have hend : Ended ((T.setVm vm').setFrames (.throwing q :: below)) below (.threw q) := State.frames_setFrames _ (State.cur_lt_of_frames hfr)
  refine ⟨(T.setVm vm').setFrames (.throwing q :: below), ?_, .threw q, X'.here.running, hend, Or.inr ⟨q, rfl, E, ce, locs, hx _ hT (X'.ends _).1.alike, hcell9, hv, hcl, (X'.ends _).1, (X'.ends _).2.mono hc hs, hf⟩⟩
  rw [X.pushThrowing_eq]
  exact st
/-- a thing of a world lies in the heap -/
theorem vx_lt {D : va_G} {cl : List vw_C} {ws : va_W} {H1 : Heap} (h : va_P D cl ws H1) {k : Nat} {q : Nat × va_E} (hk : ws[k]? = some q) : q.1 < H1.size := (h k q hk).lt
end VXS
/-! ===== END ===== -/
/-! ===== BEGIN methods with a table of their own: called by a name, returning or throwing ===== -/
section VXH
/-! vx_backW, vx_callVX, vx_callSX, vx_callVW, vx_runVW, vx_runVX, vx_runSX, vx_ofWH follow the same proofs as their sisters above (Free/Laws.lean, Shelf42/LK1.lean); vx_outP calls Shelf42/NT130.lean (outThrough). -/
section
variable {l : Launch} {R : Room} {p : Program} {e : Env} {below : List Frame} {s : State} {sargs : Array Value} {y : MethodName} {len W9 : Nat}
theorem vx_backW {ws : List Cond} {rm : Room} {Pc : Array Value → State → Prop} {Qc : Array Value → State → Outcome → State → Prop} {XC : String → State → State → Prop} {mc ms : Nat} {free : Addr → Prop} {bytes : ByteArray} {maxL : Nat} {ret : Option FieldType} {hh : List (Nat × Nat × Nat × Nat)}
    (hM : vx_Met l y ws rm Pc Qc XC mc ms free) (hblind : FrameBlind Pc) (hrc : rm.cells = mc) (hrs : rm.slots = ms)
    (hframes : rm.frames + 1 ≤ R.frames) (hlocals : W9 + (maxL + 11) + rm.locals ≤ R.locals)
    (hws : ∀ w ∈ ws, ∀ a' U, s.WarmedH U.vm → w.before a' U = true) (hcode : Cond.codeWith y bytes maxL ret hh ∈ ws) (hinit : ∀ a' U, s.WarmedH U.vm → (Cond.initialized y.cls).before a' U = true) :
    vx_Back l R p e below s sargs y len W9 (PreOf R mc ms Pc) (PostOf Qc mc ms free) (vx_Post XC mc ms free) := by
  intro m meth c A g ig mk a X hg hsize hdg hW hn hp
  have h1 : (headSpec ws rm).pre.before a A.U = true := atoms_intro fun w hw => hws w hw _ _ X.warmed
  have h2 : (Cond.codeWith y bytes maxL ret hh).before a A.U = true := hws _ hcode _ _ X.warmed
  have h3 : (Cond.initialized y.cls).before a A.U = true := hinit _ _ X.warmed
  have h4 : A.cells + (headSpec ws rm).room.cells ≤ R.cells := by rw [show (headSpec ws rm).room.cells = mc from hrc]; exact hp.1
  have h5 : A.slots + (headSpec ws rm).room.slots ≤ R.slots := by rw [show (headSpec ws rm).room.slots = ms from hrs]; exact hp.2.1
  have hPc : Pc a (A.U.calling g mk a) := hblind _ _ _ _ hp.2.2
  obtain ⟨U, Ls, c0, s0⟩ := A
  dsimp only [Pt.U, Pt.locs, Pt.cells, Pt.slots] at h1 h2 h3 h4 h5 X hn hPc ⊢
  obtain ⟨m9, methY, cY, hn9, hmY, hcY, -, hlY, -⟩ := Cond.codeWith_spec h2
  cases Option.some.inj (hn9.symm.trans hn)
  obtain ⟨kY, hkY, -⟩ := className_of_methodNamed hn
  have hinitY : kY.init = .initialized := Cond.initialized_spec (findClass_of_methodNamed hn) hkY h3
  have h : At U g.method c below := by rw [hg]; exact X.here
  have hlocals9 : W9 + (maxL + 11) + (headSpec ws rm).room.locals ≤ R.locals := hlocals
  have happ : (headSpec ws rm).appliesLoose y e.platform (U.calling g mk a) = true :=
    Spec.appliesLoose_calling (g := g) h hdg hn hkY hinitY
      (X.room_calling (g := g) (R' := (headSpec ws rm).room) hsize hmY hcY hframes (by rw [hlY]; omega) h4 h5) h1
  obtain ⟨mid, hmid⟩ := h.above
  have hfr : (U.setTop g).frames = (.java g :: mid) ++ below := by rw [State.frames_setTop' g h.top, hmid]; rfl
  obtain ⟨o, s₂, hsteps, -, hend, hq⟩ := Steps.callFree hM p X.admits X.cas X.clock (acts := []) hfr happ hPc trivial
  have hq' : vx_Q Qc XC mc ms free a (U.calling g mk a) o s₂ := hq
  rw [State.frames_setTop' g h.top] at hend
  obtain ⟨g₀, hg0⟩ := Option.isSome_iff_exists.mp h.top
  obtain ⟨r, hr⟩ := State.topJava?_eq_some.mp hg0
  have hr' : (({ U with heap := s₂.heap, slotsUsed := s₂.slotsUsed } : State).setVm s₂.vm).frames = .java g₀ :: r := hr
  rcases hq' with ⟨hqc, L, hfe, hL⟩ | ⟨q, rfl, E, ce, L, hx, hce, hcv, hcl, hW₂, hsm, hL⟩
  · obtain ⟨⟨v, rfl⟩, hW₂, e2, q2, q3, q4, q5, q6⟩ := id hfe
    have e3 : s₂ = ({ (U.calling g mk a).setFrames s₂.frames with heap := s₂.heap, slotsUsed := s₂.slotsUsed } : State).setVm s₂.vm := by
      have : s₂ = ({ s₂ with vm := (U.calling g mk a).vm } : State).setVm s₂.vm := rfl
      rw [e2] at this
      exact this
    obtain ⟨c₂, i₂, len₂, hc₂, hd₂, hf₂⟩ := hend
    have hW' : U.WarmedH s₂.vm := hW₂
    have hcc : c₂ = c := by
      have h1 : s₂.code? g.method = U.code? g.method := by
        rw [State.code?_eq, State.code?_eq, hW'.alike.method?]
      exact Option.some.inj (hc₂.symm.trans (h1.trans h.code))
    subst hcc
    have hlen : len₂ = len := by rw [hdg] at hd₂; cases hd₂; rfl
    subst hlen
    have hs₂ : s₂ = (({ U with heap := s₂.heap, slotsUsed := s₂.slotsUsed } : State).setVm s₂.vm).setTop { g with pc := g.pc + len₂, stack := v.toList ++ g.stack } := by
      refine e3.trans ?_
      rw [hf₂, State.calling_eq h.top, State.setFrames_setFrames, State.setTop_of_frames _ hr', hr]
      rfl
    have hsame : U.sameButNew ({ U with heap := s₂.heap, slotsUsed := s₂.slotsUsed } : State) L mc ms := by
      refine ⟨?_, q2, q3, q4, q5, q6⟩
      obtain ⟨t, ht, -⟩ := State.frames_cons hr
      show ({ U with heap := s₂.heap, slotsUsed := s₂.slotsUsed } : State) = { U.setFrames U.frames with heap := s₂.heap, slotsUsed := s₂.slotsUsed }
      rw [State.setFrames_self ht]
    subst hg
    refine Or.inl ⟨v, ⟨(({ U with heap := s₂.heap, slotsUsed := s₂.slotsUsed } : State).setVm s₂.vm), Ls ++ L, c0 + mc, s0 + ms⟩,
      ⟨X.admits, X.cas, X.clock, X.frames, X.room, X.hears, X.method, X.code, (X.here.setHeapUsed s₂.heap s₂.slotsUsed).setVm hW'.alike, X.tail, State.WarmedH.trans X.warmed hW', X.limits, X.bytes, X.same.trans (hsame.setVm s.vm)⟩,
      ⟨g, mk, s₂, L, rfl, rfl, hqc, rfl, hL, rfl, rfl⟩, ?_⟩
    show Steps p.tables e below _ ((({ U with heap := s₂.heap, slotsUsed := s₂.slotsUsed } : State).setVm s₂.vm).setTop { g with pc := g.pc + len₂, stack := v.toList ++ g.stack })
    rw [← hs₂]
    exact hsteps
  · obtain ⟨e2, q2, q3, q4, q5, q6⟩ := id hsm
    have e3 : s₂ = ({ (U.calling g mk a).setFrames s₂.frames with heap := s₂.heap, slotsUsed := s₂.slotsUsed } : State).setVm s₂.vm := by
      have : s₂ = ({ s₂ with vm := (U.calling g mk a).vm } : State).setVm s₂.vm := rfl
      rw [e2] at this
      exact this
    have hf₂ : s₂.frames = .throwing q :: .java g :: U.frames.tail := hend
    have hW' : U.WarmedH s₂.vm := hW₂
    have hs₂ : s₂ = ((({ U with heap := s₂.heap, slotsUsed := s₂.slotsUsed } : State).setVm s₂.vm).setTop g).pushFrame (.throwing q) := by
      refine e3.trans ?_
      rw [hf₂, State.calling_eq h.top, State.setFrames_setFrames, State.pushFrame, State.frames_setTop _ hr', State.setTop_of_frames _ hr', State.setFrames_setFrames, hr]
      rfl
    have hsame : U.sameButNew ({ U with heap := s₂.heap, slotsUsed := s₂.slotsUsed } : State) L mc ms := by
      refine ⟨?_, q2, q3, q4, q5, q6⟩
      obtain ⟨t, ht, -⟩ := State.frames_cons hr
      show ({ U with heap := s₂.heap, slotsUsed := s₂.slotsUsed } : State) = { U.setFrames U.frames with heap := s₂.heap, slotsUsed := s₂.slotsUsed }
      rw [State.setFrames_self ht]
    subst hg
    refine Or.inr ⟨q, ⟨(({ U with heap := s₂.heap, slotsUsed := s₂.slotsUsed } : State).setVm s₂.vm), Ls ++ L, c0 + mc, s0 + ms⟩,
      ⟨X.admits, X.cas, X.clock, X.frames, X.room, X.hears, X.method, X.code, (X.here.setHeapUsed s₂.heap s₂.slotsUsed).setVm hW'.alike, X.tail, State.WarmedH.trans X.warmed hW', X.limits, X.bytes, X.same.trans (hsame.setVm s.vm)⟩,
      ⟨g, mk, s₂, L, E, ce, rfl, rfl, hx, hce, hcv, hcl, rfl, hL, rfl, rfl⟩, ?_⟩
    show Steps p.tables e below _ (((({ U with heap := s₂.heap, slotsUsed := s₂.slotsUsed } : State).setVm s₂.vm).setTop g).pushFrame (.throwing q))
    rw [← hs₂]
    exact hsteps
end
variable {p : Program} {l : Launch} {e : Env} {R : Room} {s : State} {m : MethodId} {args : Array Value} {below : List Frame} {meth : Method} {c : Code} {T : State} {H : Heap} {locs : List Loc} {cells slots : Nat}
theorem vx_callVX (X : Stand p l e R s m args below meth c T locs cells slots) (hexec : p.tables.exec = Jvm.exec) {own C : String} {index : Nat} {y : MethodName} {bytes : ByteArray} {maxL : Nat} {ret : Option FieldType} {hh : List (Nat × Nat × Nat × Nat)}
    (hown : s.vm.findClass own = some m.cls) (hlink : (Cond.methodLink own index y).before args s = true) (hinst : (Cond.instanceMethod y).before args s = true) (hsel : (Cond.selects C y y).before args s = true)
    (hcode : (Cond.codeWith y bytes maxL ret hh).before args s = true) (hy : y.cls ≠ "java/lang/invoke/MethodHandle" ∧ y.cls ≠ "java/lang/invoke/VarHandle")
    {W9 : Nat} {Pre : Pt → Array Value → Prop} {Post : Pt → Array Value → Option Value → Pt → Prop} {PostX : Pt → Array Value → Addr → Pt → Prop} (hK : vx_Back l R p e below s args y 3 W9 Pre Post PostX)
    {b : Addr} {cellB : Cell} (hcell : T.heap[b]? = some cellB) (hobj : cellB.vm.isStatics = false) (hcls : s.vm.findClass C = some cellB.cls)
    {g : JFrame} (hg : g.method = m) (hsize : g.locals.size = c.maxLocals) {argsL rest : List Value} (hlen : ∀ sig, parseMethodDescriptor y.desc = some sig → argsL.length = sig.parameters.length)
    (hstack : g.stack = argsL.reverse ++ .ref b :: rest) (hW : 2 * g.monitorRoom + (rest.map fun v => v.category).sum ≤ W9) (hdg : decode c.code g.pc = .ok (.invokevirtual index, 3))
    (hpre : ∀ vm₁, s.WarmedH vm₁ → Pre ⟨T.setVm vm₁, locs, cells, slots⟩ (Value.ref b :: argsL).toArray) :
    (∃ (v : Option Value) (vm₁ : Vm) (B : Pt), s.WarmedH vm₁ ∧ Stand p l e R s m args below meth c B.U B.locs B.cells B.slots ∧ Post ⟨T.setVm vm₁, locs, cells, slots⟩ (Value.ref b :: argsL).toArray v B ∧
      ∀ target, Steps p.tables e below (B.U.setTop { g with pc := g.pc + 3, stack := v.toList ++ rest }) target → Steps p.tables e below (T.setTop g) target) ∨
    (∃ (q : Addr) (vm₁ : Vm) (B : Pt), s.WarmedH vm₁ ∧ Stand p l e R s m args below meth c B.U B.locs B.cells B.slots ∧ PostX ⟨T.setVm vm₁, locs, cells, slots⟩ (Value.ref b :: argsL).toArray q B ∧
      Steps p.tables e below (T.setTop g) ((B.U.setTop { g with stack := rest }).pushFrame (.throwing q))) := by
  obtain ⟨mk, methM, hnamed, hmethM, hstM, habM⟩ := Cond.instanceMethod_spec hinst
  obtain ⟨m8, methM', cM, hn8, hmethM', -, -, -, -, -, -, hsigM⟩ := Cond.codeWith_spec hcode
  cases Option.some.inj (hn8.symm.trans hnamed)
  cases hmethM.symm.trans hmethM'
  obtain ⟨c2, r2, m2, q1, q2, q3, q4, kP, hkP, hkPi⟩ := Cond.selects_spec hsel
  cases hcls.symm.trans q1
  cases (State.methodFound?_of_named hnamed hy).symm.trans q2
  cases hnamed.symm.trans q3
  have hselP : selectMethod e.platform s.vm cellB.cls mk = .method mk := by rw [Launch.admits_selectMethod X.admits]; exact q4
  obtain ⟨vm₁, X₁, hstep₁⟩ := X.invokevirtual hexec hown hlink hnamed hmethM hstM hkP hkPi hy (a := b) (cell := cellB) hcell
    (fun z h => by rw [h] at hobj; cases hobj) hselP hmethM habM hkP hkPi (g := g) hg (argsL := argsL) (rest := rest) (hlen _ hsigM) hstack hdg
  rcases hK m meth c ⟨T.setVm vm₁, locs, cells, slots⟩ { g with stack := rest } (.invokevirtual index) mk (Value.ref b :: argsL).toArray X₁ hg hsize hdg hW (X₁.named hnamed) (hpre vm₁ X₁.warmed) with ⟨v, B, X', hpost, hsteps⟩ | ⟨q, B, X', hpost, hsteps⟩
  · exact Or.inl ⟨v, vm₁, B, X₁.warmed, X', hpost, fun target h => hstep₁ _ fun acts => by rw [doInvoke_state]; exact hsteps.trans h⟩
  · exact Or.inr ⟨q, vm₁, B, X₁.warmed, X', hpost, hstep₁ _ fun acts => by rw [doInvoke_state]; exact hsteps⟩
theorem vx_callSX (X : Stand p l e R s m args below meth c T locs cells slots) (hexec : p.tables.exec = Jvm.exec) {own : String} {index : Nat} {y : MethodName} {bytes : ByteArray} {maxL : Nat} {ret : Option FieldType} {hh : List (Nat × Nat × Nat × Nat)}
    (hown : s.vm.findClass own = some m.cls) (hlink : (Cond.methodLink own index y).before args s = true) (hstat : (Cond.static y).before args s = true) (hinit : (Cond.initialized y.cls).before args s = true)
    (hcode : (Cond.codeWith y bytes maxL ret hh).before args s = true) (hy : y.cls ≠ "java/lang/invoke/MethodHandle" ∧ y.cls ≠ "java/lang/invoke/VarHandle")
    {W9 : Nat} {Pre : Pt → Array Value → Prop} {Post : Pt → Array Value → Option Value → Pt → Prop} {PostX : Pt → Array Value → Addr → Pt → Prop} (hK : vx_Back l R p e below s args y 3 W9 Pre Post PostX)
    {g : JFrame} (hg : g.method = m) (hsize : g.locals.size = c.maxLocals) {argsL rest : List Value} (hlen : ∀ sig, parseMethodDescriptor y.desc = some sig → argsL.length = sig.parameters.length)
    (hstack : g.stack = argsL.reverse ++ rest) (hW : 2 * g.monitorRoom + (rest.map fun v => v.category).sum ≤ W9) (hdg : decode c.code g.pc = .ok (.invokestatic index, 3))
    (hpre : ∀ vm₁, s.WarmedH vm₁ → Pre ⟨T.setVm vm₁, locs, cells, slots⟩ argsL.toArray) :
    (∃ (v : Option Value) (vm₁ : Vm) (B : Pt), s.WarmedH vm₁ ∧ Stand p l e R s m args below meth c B.U B.locs B.cells B.slots ∧ Post ⟨T.setVm vm₁, locs, cells, slots⟩ argsL.toArray v B ∧
      ∀ target, Steps p.tables e below (B.U.setTop { g with pc := g.pc + 3, stack := v.toList ++ rest }) target → Steps p.tables e below (T.setTop g) target) ∨
    (∃ (q : Addr) (vm₁ : Vm) (B : Pt), s.WarmedH vm₁ ∧ Stand p l e R s m args below meth c B.U B.locs B.cells B.slots ∧ PostX ⟨T.setVm vm₁, locs, cells, slots⟩ argsL.toArray q B ∧
      Steps p.tables e below (T.setTop g) ((B.U.setTop { g with stack := rest }).pushFrame (.throwing q))) := by
  obtain ⟨mk, methM, cM, hnamed, hmethM, -, -, -, -, -, -, hsigM⟩ := Cond.codeWith_spec hcode
  have hstatic : methM.isStatic = true := Cond.static_spec hnamed hmethM hstat
  obtain ⟨kP, hkP, -⟩ := className_of_methodNamed hnamed
  have hinitP : kP.init = .initialized := Cond.initialized_spec (findClass_of_methodNamed hnamed) hkP hinit
  obtain ⟨vm₁, X₁, hstep₁⟩ := X.invokestatic hexec hown hlink hnamed hmethM hstatic hkP hinitP hy (g := g) hg (argsL := argsL) (rest := rest) (hlen _ hsigM) hstack hdg
  rcases hK m meth c ⟨T.setVm vm₁, locs, cells, slots⟩ { g with stack := rest } (.invokestatic index) mk argsL.toArray X₁ hg hsize hdg hW (X₁.named hnamed) (hpre vm₁ X₁.warmed) with ⟨v, B, X', hpost, hsteps⟩ | ⟨q, B, X', hpost, hsteps⟩
  · exact Or.inl ⟨v, vm₁, B, X₁.warmed, X', hpost, fun target h => hstep₁ _ fun acts => by rw [doInvoke_state]; exact hsteps.trans h⟩
  · exact Or.inr ⟨q, vm₁, B, X₁.warmed, X', hpost, hstep₁ _ fun acts => by rw [doInvoke_state]; exact hsteps⟩
theorem vx_callVW (X : Stand p l e R s m args below meth c T locs cells slots) (hexec : p.tables.exec = Jvm.exec) {own C : String} {index : Nat} {y : MethodName} {bytes : ByteArray} {maxL : Nat} {ret : Option FieldType} {hh : List (Nat × Nat × Nat × Nat)}
    (hown : s.vm.findClass own = some m.cls) (hlink : (Cond.methodLink own index y).before args s = true) (hinst : (Cond.instanceMethod y).before args s = true) (hsel : (Cond.selects C y y).before args s = true)
    (hcode : (Cond.codeWith y bytes maxL ret hh).before args s = true) (hy : y.cls ≠ "java/lang/invoke/MethodHandle" ∧ y.cls ≠ "java/lang/invoke/VarHandle")
    {W9 : Nat} {Pre : Pt → Array Value → Prop} {Post : Pt → Array Value → Option Value → Pt → Prop} (hK : Back l R p e below s args y 3 W9 Pre Post)
    {b : Addr} {cellB : Cell} (hcell : T.heap[b]? = some cellB) (hobj : cellB.vm.isStatics = false) (hcls : s.vm.findClass C = some cellB.cls)
    {g : JFrame} (hg : g.method = m) (hsize : g.locals.size = c.maxLocals) {argsL rest : List Value} (hlen : ∀ sig, parseMethodDescriptor y.desc = some sig → argsL.length = sig.parameters.length)
    (hstack : g.stack = argsL.reverse ++ .ref b :: rest) (hW : 2 * g.monitorRoom + (rest.map fun v => v.category).sum ≤ W9) (hdg : decode c.code g.pc = .ok (.invokevirtual index, 3))
    (hpre : ∀ vm₁, s.WarmedH vm₁ → Pre ⟨T.setVm vm₁, locs, cells, slots⟩ (Value.ref b :: argsL).toArray) :
    ∃ (v : Option Value) (vm₁ : Vm) (B : Pt), s.WarmedH vm₁ ∧ Stand p l e R s m args below meth c B.U B.locs B.cells B.slots ∧ Post ⟨T.setVm vm₁, locs, cells, slots⟩ (Value.ref b :: argsL).toArray v B ∧
      ∀ target, Steps p.tables e below (B.U.setTop { g with pc := g.pc + 3, stack := v.toList ++ rest }) target → Steps p.tables e below (T.setTop g) target := by
  obtain ⟨mk, methM, hnamed, hmethM, hstM, habM⟩ := Cond.instanceMethod_spec hinst
  obtain ⟨m8, methM', cM, hn8, hmethM', -, -, -, -, -, -, hsigM⟩ := Cond.codeWith_spec hcode
  cases Option.some.inj (hn8.symm.trans hnamed)
  cases hmethM.symm.trans hmethM'
  obtain ⟨c2, r2, m2, q1, q2, q3, q4, kP, hkP, hkPi⟩ := Cond.selects_spec hsel
  cases hcls.symm.trans q1
  cases (State.methodFound?_of_named hnamed hy).symm.trans q2
  cases hnamed.symm.trans q3
  have hselP : selectMethod e.platform s.vm cellB.cls mk = .method mk := by rw [Launch.admits_selectMethod X.admits]; exact q4
  obtain ⟨vm₁, X₁, hstep₁⟩ := X.invokevirtual hexec hown hlink hnamed hmethM hstM hkP hkPi hy (a := b) (cell := cellB) hcell
    (fun z h => by rw [h] at hobj; cases hobj) hselP hmethM habM hkP hkPi (g := g) hg (argsL := argsL) (rest := rest) (hlen _ hsigM) hstack hdg
  obtain ⟨v, B, X', hpost, hsteps⟩ := hK m meth c ⟨T.setVm vm₁, locs, cells, slots⟩ { g with stack := rest } (.invokevirtual index) mk (Value.ref b :: argsL).toArray X₁ hg hsize hdg hW (X₁.named hnamed) (hpre vm₁ X₁.warmed)
  exact ⟨v, vm₁, B, X₁.warmed, X', hpost, fun target h => hstep₁ _ fun acts => by rw [doInvoke_state]; exact hsteps.trans h⟩
abbrev vx_CVW (R : Room) (s : State) (args : Array Value) (own C : String) (index : Nat) (y : MethodName) (bytes : ByteArray) (maxL : Nat) (ret : Option FieldType) (hh : List (Nat × Nat × Nat × Nat)) (ws : List Cond) (rm : Room) (mc ms n : Nat) : Prop :=
  (rm.cells = mc ∧ rm.slots = ms ∧ rm.frames + 1 ≤ R.frames ∧ 8 + (maxL + 11) + rm.locals ≤ R.locals ∧ (∀ w ∈ ws, ∀ (a' : Array Value) (U : State), s.WarmedH U.vm → w.before a' U = true) ∧ Cond.codeWith y bytes maxL ret hh ∈ ws) ∧
  (Cond.codeWith y bytes maxL ret hh).before args s = true ∧ (Cond.initialized y.cls).before args s = true ∧ (y.cls ≠ "java/lang/invoke/MethodHandle" ∧ y.cls ≠ "java/lang/invoke/VarHandle") ∧
  (∀ sig, parseMethodDescriptor y.desc = some sig → n = sig.parameters.length) ∧ (Cond.methodLink own index y).before args s = true ∧ (Cond.instanceMethod y).before args s = true ∧ (Cond.selects C y y).before args s = true
theorem vx_cwVW {own C : String} {index maxL mc ms : Nat} {y : MethodName} {bytes : ByteArray} {ret : Option FieldType} {hh : List (Nat × Nat × Nat × Nat)} {Ts ws ws' : List Cond} {rm : Room} (n : Nat) (ht : ∀ w ∈ Ts, w.before args s = true) (hT : GoodIn Ts (wsV own index C y ws)) (hw : ws = Cond.codeWith y bytes maxL ret hh :: ws') (hrc : rm.cells = mc) (hrs : rm.slots = ms)
    (hd : y.cls = C ∧ y.cls ≠ "java/lang/invoke/MethodHandle" ∧ y.cls ≠ "java/lang/invoke/VarHandle" ∧ (parseMethodDescriptor y.desc).map (fun d => d.parameters.length) = some n) (hR : rm.frames + 1 ≤ R.frames ∧ 8 + (maxL + 11) + rm.locals ≤ R.locals) :
    vx_CVW R s args own C index y bytes maxL ret hh ws rm mc ms n := by
  obtain ⟨hC, hd⟩ := hd
  subst hC
  have ok : ∀ w ∈ wsV own index y.cls y ws, w.before args s = true := fun w h => ht w (hT w h).1
  have hG : GoodIn Ts ws := fun w h => hT w (by unfold wsV; exact List.mem_append_right _ h)
  have hc : Cond.codeWith y bytes maxL ret hh ∈ ws := by rw [hw]; exact List.mem_cons_self
  refine ⟨⟨hrc, hrs, hR.1, hR.2, pay_in ht hG, hc⟩, ht _ (hG _ hc).1, ok _ (by simp [wsV]), ⟨hd.1, hd.2.1⟩, fun sig h => ?_, ok _ (by simp [wsV]), ok _ (by simp [wsV]), ok _ (by simp [wsV])⟩
  have h2 := hd.2.2
  rw [h] at h2
  exact (Option.some.inj h2).symm
theorem vx_runVW {y : MethodName} {bytes cc : ByteArray} {maxL nL mc ms n index : Nat} {ret : Option FieldType} {hh : List (Nat × Nat × Nat × Nat)} {ws : List Cond} {rm : Room} {Pc : Array Value → State → Prop} {Qc : Array Value → State → Outcome → State → Prop} {free : Addr → Prop} {Ts : List Cond} {own C : String} {b : Addr} {As rest : List Value} {g : JFrame}
    (S : CallFix p m c cc nL s args Ts own) (hM : Met l y ws rm Pc Qc mc ms free) (cw : vx_CVW R s args own C index y bytes maxL ret hh ws rm mc ms n) (hp : PreV s H C b Pc As)
    (hg : g.method = m) (hn : As.length = n) (hsize : g.locals.size = nL) (hstack : g.stack = As.reverse ++ .ref b :: rest) (hW : 2 * g.monitorRoom + (rest.map fun v => v.category).sum ≤ 8) (hdg : decode cc g.pc = .ok (.invokevirtual index, 3)) (hf : cells + mc ≤ R.cells ∧ slots + ms ≤ R.slots) :
    va_Run p l e R s m args below meth c H locs cells slots mc ms g rest (Qc (Value.ref b :: As).toArray) free := by
  obtain ⟨⟨hrc, hrs, hfr, hlo, hws, hcw⟩, hcode, hini, hy, hlen, hl, hin, hse⟩ := cw
  have hK : Back l R p e below s args y 3 8 (PreOf R mc ms Pc) (PostOf Qc mc ms free) := va_backW (hh := hh) (bytes := bytes) (maxL := maxL) (ret := ret) hM hp.1 hrc hrs hfr hlo hws hcw (fun a' U hW => word_at hW (Or.inl (by first | rfl | simp [Cond.onTables, Cond.keeps, Cond.steady])) hini)
  obtain ⟨hx, hb, hml, ho, -⟩ := S
  obtain ⟨-, ⟨cellB, hcB, hoB, hclB⟩, hPc⟩ := hp
  intro T hT X
  obtain ⟨v, vm₁, ⟨U', l2, c2, s2⟩, hW₁, X', ⟨g', mk, t, L, e1, e2, hq, h1, hL, h2, h3⟩, st⟩ := vx_callVW X hx (C := C) (hh := hh) (bytes := bytes) (maxL := maxL) (ret := ret) ho hl hin hse hcode hy hK (by rw [hT]; exact hcB) hoB hclB hg (hsize.trans hml.symm) (argsL := As) (rest := rest) (fun sig h => hn.trans (hlen sig h)) hstack hW (by rw [hb]; exact hdg)
    (fun vm₁ hW₁ => ⟨hf.1, hf.2, hPc (T.setVm vm₁) hT hW₁⟩)
  dsimp only [Pt.U, Pt.locs, Pt.cells, Pt.slots] at X' e1 e2 h1 h2 h3 st
  subst h1; subst h2; subst h3
  exact ⟨v, (T.setVm vm₁).calling g' mk (Value.ref b :: As).toArray, t, U', L, hT, X', hL, e1, e2, hq, st⟩
section
variable {y : MethodName} {bytes cc : ByteArray} {maxL nL mc ms n index : Nat} {ret : Option FieldType} {ws : List Cond} {rm : Room} {Pc : Array Value → State → Prop} {Qc : Array Value → State → Outcome → State → Prop} {XC : String → State → State → Prop} {free : Addr → Prop} {Ts : List Cond} {own C : String} {b : Addr} {As rest : List Value} {g : JFrame}
theorem vx_runVX {hh : List (Nat × Nat × Nat × Nat)} (S : CallFix p m c cc nL s args Ts own) (hM : vx_Met l y ws rm Pc Qc XC mc ms free) (cw : vx_CVW R s args own C index y bytes maxL ret hh ws rm mc ms n) (hp : PreV s H C b Pc As)
    (hg : g.method = m) (hn : As.length = n) (hsize : g.locals.size = nL) (hstack : g.stack = As.reverse ++ .ref b :: rest) (hW : 2 * g.monitorRoom + (rest.map fun v => v.category).sum ≤ 8) (hdg : decode cc g.pc = .ok (.invokevirtual index, 3)) (hf : cells + mc ≤ R.cells ∧ slots + ms ≤ R.slots) :
    vx_Run p l e R s m args below meth c H locs cells slots mc ms g rest (Qc (Value.ref b :: As).toArray) XC free := by
  obtain ⟨⟨hrc, hrs, hfr, hlo, hws, hcw⟩, hcode, hini, hy, hlen, hl, hin, hse⟩ := cw
  have hK : vx_Back l R p e below s args y 3 8 (PreOf R mc ms Pc) (PostOf Qc mc ms free) (vx_Post XC mc ms free) := vx_backW (hh := hh) (bytes := bytes) (maxL := maxL) (ret := ret) hM hp.1 hrc hrs hfr hlo hws hcw (fun a' U hW => word_at hW (Or.inl (by first | rfl | simp [Cond.onTables, Cond.keeps, Cond.steady])) hini)
  obtain ⟨hx, hb, hml, ho, -⟩ := S
  obtain ⟨-, ⟨cellB, hcB, hoB, hclB⟩, hPc⟩ := hp
  intro T hT X
  rcases vx_callVX X hx (C := C) (hh := hh) (bytes := bytes) (maxL := maxL) (ret := ret) ho hl hin hse hcode hy hK (by rw [hT]; exact hcB) hoB hclB hg (hsize.trans hml.symm) (argsL := As) (rest := rest) (fun sig h => hn.trans (hlen sig h)) hstack hW (by rw [hb]; exact hdg)
    (fun vm₁ hW₁ => ⟨hf.1, hf.2, hPc (T.setVm vm₁) hT hW₁⟩) with ⟨v, vm₁, ⟨U', l2, c2, s2⟩, hW₁, X', ⟨g', mk, t, L, e1, e2, hq, h1, hL, h2, h3⟩, st⟩ | ⟨q, vm₁, ⟨U', l2, c2, s2⟩, hW₁, X', ⟨g', mk, t, L, E, ce, e1, e2, hq, hce, hcv, hcl, h1, hL, h2, h3⟩, st⟩
  · dsimp only [Pt.U, Pt.locs, Pt.cells, Pt.slots] at X' e1 e2 h1 h2 h3 st
    subst h1; subst h2; subst h3
    exact Or.inl ⟨v, (T.setVm vm₁).calling g' mk (Value.ref b :: As).toArray, t, U', L, hT, X', hL, e1, e2, hq, st⟩
  · dsimp only [Pt.U, Pt.locs, Pt.cells, Pt.slots] at X' e1 e2 h1 h2 h3 st hcl
    subst h1; subst h2; subst h3
    exact Or.inr ⟨q, (T.setVm vm₁).calling g' mk (Value.ref b :: As).toArray, t, U', L, E, ce, hT, X', hL, e1, e2, hq, hce, hcv, vx_cls hW₁ hcl, st⟩
theorem vx_runSX {hh : List (Nat × Nat × Nat × Nat)} (S : CallFix p m c cc nL s args Ts own) (hM : vx_Met l y ws rm Pc Qc XC mc ms free) (cw : vx_CSW R s args own index y bytes maxL ret hh ws rm mc ms n) (hp : PreS s H Pc As)
    (hg : g.method = m) (hn : As.length = n) (hsize : g.locals.size = nL) (hstack : g.stack = As.reverse ++ rest) (hW : 2 * g.monitorRoom + (rest.map fun v => v.category).sum ≤ 8) (hdg : decode cc g.pc = .ok (.invokestatic index, 3)) (hf : cells + mc ≤ R.cells ∧ slots + ms ≤ R.slots) :
    vx_Run p l e R s m args below meth c H locs cells slots mc ms g rest (Qc As.toArray) XC free := by
  obtain ⟨⟨hrc, hrs, hfr, hlo, hws, hcw⟩, hcode, hini, hy, hlen, hl, hstt⟩ := cw
  have hK : vx_Back l R p e below s args y 3 8 (PreOf R mc ms Pc) (PostOf Qc mc ms free) (vx_Post XC mc ms free) := vx_backW (hh := hh) (bytes := bytes) (maxL := maxL) (ret := ret) hM hp.1 hrc hrs hfr hlo hws hcw (fun a' U hW => word_at hW (Or.inl (by first | rfl | simp [Cond.onTables, Cond.keeps, Cond.steady])) hini)
  obtain ⟨hx, hb, hml, ho, -⟩ := S
  intro T hT X
  rcases vx_callSX X hx (hh := hh) (bytes := bytes) (maxL := maxL) (ret := ret) ho hl hstt hini hcode hy hK hg (hsize.trans hml.symm) (argsL := As) (rest := rest) (fun sig h => hn.trans (hlen sig h)) hstack hW (by rw [hb]; exact hdg)
    (fun vm₁ hW₁ => ⟨hf.1, hf.2, hp.2 (T.setVm vm₁) hT hW₁⟩) with ⟨v, vm₁, ⟨U', l2, c2, s2⟩, hW₁, X', ⟨g', mk, t, L, e1, e2, hq, h1, hL, h2, h3⟩, st⟩ | ⟨q, vm₁, ⟨U', l2, c2, s2⟩, hW₁, X', ⟨g', mk, t, L, E, ce, e1, e2, hq, hce, hcv, hcl, h1, hL, h2, h3⟩, st⟩
  · dsimp only [Pt.U, Pt.locs, Pt.cells, Pt.slots] at X' e1 e2 h1 h2 h3 st
    subst h1; subst h2; subst h3
    exact Or.inl ⟨v, (T.setVm vm₁).calling g' mk As.toArray, t, U', L, hT, X', hL, e1, e2, hq, st⟩
  · dsimp only [Pt.U, Pt.locs, Pt.cells, Pt.slots] at X' e1 e2 h1 h2 h3 st hcl
    subst h1; subst h2; subst h3
    exact Or.inr ⟨q, (T.setVm vm₁).calling g' mk As.toArray, t, U', L, E, ce, hT, X', hL, e1, e2, hq, hce, hcv, vx_cls hW₁ hcl, st⟩
end
end VXH
theorem vx_ofWH {l : Launch} {y : MethodName} {ws ws' : List Cond} {rm : Room} {Pc : Array Value → State → Prop} {Qc : Array Value → State → Outcome → State → Prop} {XC : String → State → State → Prop} {mc ms : Nat} {free : Addr → Prop} {cc : ByteArray} {maxL : Nat} {ret : Option FieldType} {hh : List (Nat × Nat × Nat × Nat)}
    (hy : plainName y.cls = true) (hw : ws = Cond.codeWith y cc maxL ret hh :: ws')
    (body : ∀ p e s m args below meth c s₁, BodyLoose p l y (headSpec ws rm) cc maxL ret e s m args below meth c s₁ → c.maxLocals = maxL → Pc args s →
      W p l e (headSpec ws rm).room s m args below meth c s.heap [] 0 0 (vx_MQ below Qc XC args s mc ms free) (entryFrame m args maxL)) : vx_Met l y ws rm Pc Qc XC mc ms free := by
  refine MetFree.of_bodyS (code := cc) (maxLocals := maxL) (ret := ret) hy ?_ ?_
  · intro args s m h hn
    obtain ⟨m9, meth, c, hn9, h1, h2, h3, h4, -, h5, h6, -⟩ := Cond.codeWith_spec (atoms_spec (ws := ws) h _ (by rw [hw]; exact List.mem_cons_self))
    cases hn.symm.trans hn9
    exact ⟨meth, c, h1, h2, h3, h4, h5, h6⟩
  · intro p e s m args below meth c s₁ B hml hP _
    have hh0 : s₁.heap = s.heap := by rw [B.state]; rfl
    obtain ⟨t, a1, o, b1, b2, b3⟩ := body p e s m args below meth c s₁ B hml hP s₁ hh0 (Stand.of_body B)
    exact ⟨t, o, a1, b1, b2, b3⟩
/-! ===== END ===== -/
end
section
/-! ===== BEGIN printed: names, fields, word lists, decode rows ===== -/
def RX0 : String := "MoorWatch"
def TX0 : u_T := fun k => match k with
  | 0 => ("MoorWatch", "tides", "[I", true)
  | 1 => ("MoorWatch", "loads", "[I", true)
  | 2 => ("MoorWatch", "passing", "[I", true)
  | 3 => ("MoorWatch", "wind", "I", false)
  | 4 => ("MoorWatch", "bollardCount", "I", false)
  | 5 => ("MoorWatch", "bollardPlaces", "[I", true)
  | 6 => ("MoorWatch", "bollardLimits", "[I", true)
  | 7 => ("MoorWatch", "lineCount", "I", false)
  | 8 => ("MoorWatch", "lineBollards", "[I", true)
  | 9 => ("MoorWatch", "lineReaches", "[I", true)
  | 10 => ("MoorWatch", "lineStiffnesses", "[I", true)
  | 11 => ("MoorWatch", "lineStrengths", "[I", true)
  | 12 => ("MoorWatch", "lineSets", "[I", true)
  | 13 => ("MoorWatch", "lineFast", "[Z", true)
  | _ => ("MoorWatch", "setsBeforePlan", "[I", true)
def tyX0 : Nat → FieldType := fun k => match k with
  | 0 => .array .int
  | 1 => .array .int
  | 2 => .array .int
  | 3 => .int
  | 4 => .int
  | 5 => .array .int
  | 6 => .array .int
  | 7 => .int
  | 8 => .array .int
  | 9 => .array .int
  | 10 => .array .int
  | 11 => .array .int
  | 12 => .array .int
  | 13 => .array .boolean
  | _ => .array .int
abbrev wsX00 : List Cond := u_ws RX0 TX0 15
theorem nmX0 : ∀ a, a < 15 → ∀ b, b < 15 → a ≠ b → (TX0 a).2.1 ≠ (TX0 b).2.1 := by decide +kernel
theorem tyX0_ok : ∀ k, k < 15 → parseFieldDescriptor (TX0 k).2.2.1 = some (tyX0 k) := by decide +kernel
abbrev cX0_init : ByteArray := prog_1_method_1_code
def yX0_init : MethodName := ⟨RX0, "<init>", "()V"⟩
abbrev cX0_addBollard : ByteArray := prog_1_method_2_code
def yX0_addBollard : MethodName := ⟨RX0, "addBollard", "(II)I"⟩
abbrev cX0_addLine : ByteArray := prog_1_method_3_code
def yX0_addLine : MethodName := ⟨RX0, "addLine", "(IIII)I"⟩
abbrev cX0_toggle : ByteArray := prog_1_method_4_code
def yX0_toggle : MethodName := ⟨RX0, "toggle", "(I)Z"⟩
abbrev cX0_setTide : ByteArray := prog_1_method_5_code
def yX0_setTide : MethodName := ⟨RX0, "setTide", "(II)I"⟩
abbrev cX0_setLoad : ByteArray := prog_1_method_6_code
def yX0_setLoad : MethodName := ⟨RX0, "setLoad", "(II)I"⟩
abbrev cX0_setWind : ByteArray := prog_1_method_7_code
def yX0_setWind : MethodName := ⟨RX0, "setWind", "(I)I"⟩
abbrev cX0_setPassing : ByteArray := prog_1_method_8_code
def yX0_setPassing : MethodName := ⟨RX0, "setPassing", "(II)I"⟩
abbrev cX0_force : ByteArray := prog_1_method_9_code
def yX0_force : MethodName := ⟨RX0, "force", "(II)I"⟩
abbrev cX0_shift : ByteArray := prog_1_method_10_code
def yX0_shift : MethodName := ⟨RX0, "shift", "(I)I"⟩
abbrev cX0_isAdrift : ByteArray := prog_1_method_11_code
def yX0_isAdrift : MethodName := ⟨RX0, "isAdrift", "(I)Z"⟩
abbrev cX0_length : ByteArray := prog_1_method_12_code
def yX0_length : MethodName := ⟨RX0, "length", "(II)I"⟩
abbrev cX0_tension : ByteArray := prog_1_method_13_code
def yX0_tension : MethodName := ⟨RX0, "tension", "(II)I"⟩
abbrev cX0_onBollard : ByteArray := prog_1_method_14_code
def yX0_onBollard : MethodName := ⟨RX0, "onBollard", "(II)I"⟩
abbrev cX0_isSafe : ByteArray := prog_1_method_15_code
def yX0_isSafe : MethodName := ⟨RX0, "isSafe", "(I)Z"⟩
abbrev cX0_firstUnsafe : ByteArray := prog_1_method_16_code
def yX0_firstUnsafe : MethodName := ⟨RX0, "firstUnsafe", "(I)I"⟩
abbrev cX0_tend : ByteArray := prog_1_method_17_code
def yX0_tend : MethodName := ⟨RX0, "tend", "(III)I"⟩
abbrev cX0_tendAll : ByteArray := prog_1_method_18_code
def yX0_tendAll : MethodName := ⟨RX0, "tendAll", "(I)I"⟩
abbrev cX0_plan : ByteArray := prog_1_method_19_code
def yX0_plan : MethodName := ⟨RX0, "plan", "(II)I"⟩
abbrev cX0_checkHour : ByteArray := prog_1_method_20_code
def yX0_checkHour : MethodName := ⟨RX0, "checkHour", "(I)V"⟩
abbrev cX0_checkBollard : ByteArray := prog_1_method_21_code
def yX0_checkBollard : MethodName := ⟨RX0, "checkBollard", "(I)V"⟩
abbrev cX0_checkLine : ByteArray := prog_1_method_22_code
def yX0_checkLine : MethodName := ⟨RX0, "checkLine", "(I)V"⟩
abbrev cX0_checkRange : ByteArray := prog_1_method_23_code
def yX0_checkRange : MethodName := ⟨RX0, "checkRange", "(III)V"⟩
abbrev cX0_heightIn : ByteArray := prog_1_method_24_code
def yX0_heightIn : MethodName := ⟨RX0, "heightIn", "(I)I"⟩
abbrev cX0_lengthOver : ByteArray := prog_1_method_25_code
def yX0_lengthOver : MethodName := ⟨RX0, "lengthOver", "(II)I"⟩
abbrev cX0_lengthWith : ByteArray := prog_1_method_26_code
def yX0_lengthWith : MethodName := ⟨RX0, "lengthWith", "(III)I"⟩
abbrev cX0_tensionAtLength : ByteArray := prog_1_method_27_code
def yX0_tensionAtLength : MethodName := ⟨RX0, "tensionAtLength", "(II)I"⟩
abbrev cX0_pullWith : ByteArray := prog_1_method_28_code
def yX0_pullWith : MethodName := ⟨RX0, "pullWith", "(III)I"⟩
abbrev cX0_bollardTension : ByteArray := prog_1_method_29_code
def yX0_bollardTension : MethodName := ⟨RX0, "bollardTension", "(III)I"⟩
abbrev cX0_forceWith : ByteArray := prog_1_method_30_code
def yX0_forceWith : MethodName := ⟨RX0, "forceWith", "(II)I"⟩
abbrev cX0_balanceOf : ByteArray := prog_1_method_31_code
def yX0_balanceOf : MethodName := ⟨RX0, "balanceOf", "(I)I"⟩
abbrev cX0_driftsWith : ByteArray := prog_1_method_32_code
def yX0_driftsWith : MethodName := ⟨RX0, "driftsWith", "(II)Z"⟩
abbrev cX0_holdsIn : ByteArray := prog_1_method_33_code
def yX0_holdsIn : MethodName := ⟨RX0, "holdsIn", "(I)Z"⟩
abbrev cX0_linesHold : ByteArray := prog_1_method_34_code
def yX0_linesHold : MethodName := ⟨RX0, "linesHold", "(II)Z"⟩
abbrev cX0_bollardsHold : ByteArray := prog_1_method_35_code
def yX0_bollardsHold : MethodName := ⟨RX0, "bollardsHold", "(II)Z"⟩
abbrev cX0_tendFastLines : ByteArray := prog_1_method_36_code
def yX0_tendFastLines : MethodName := ⟨RX0, "tendFastLines", "(I)I"⟩
abbrev cX0_tendThrough : ByteArray := prog_1_method_37_code
def yX0_tendThrough : MethodName := ⟨RX0, "tendThrough", "(II)I"⟩
def RX1 : String := "MoorWatchModel"
def TX1 : u_T := fun k => match k with
  | _ => ("", "", "", false)
def tyX1 : Nat → FieldType := fun k => match k with
  | _ => .int
abbrev wsX10 : List Cond := u_ws RX1 TX1 0
theorem nmX1 : ∀ a, a < 0 → ∀ b, b < 0 → a ≠ b → (TX1 a).2.1 ≠ (TX1 b).2.1 := by decide +kernel
theorem tyX1_ok : ∀ k, k < 0 → parseFieldDescriptor (TX1 k).2.2.1 = some (tyX1 k) := by decide +kernel
def RJ9 : String := "java/lang/Math"
def TJ9 : u_T := fun k => match k with
  | _ => ("", "", "", false)
def tyJ9 : Nat → FieldType := fun k => match k with
  | _ => .int
abbrev wsJ90 : List Cond := u_ws RJ9 TJ9 0
theorem nmJ9 : ∀ a, a < 0 → ∀ b, b < 0 → a ≠ b → (TJ9 a).2.1 ≠ (TJ9 b).2.1 := by decide +kernel
theorem tyJ9_ok : ∀ k, k < 0 → parseFieldDescriptor (TJ9 k).2.2.1 = some (tyJ9 k) := by decide +kernel
abbrev cJ9_floorDiv_7cf53 : ByteArray := prog_8_method_47_code
def yJ9_floorDiv_7cf53 : MethodName := ⟨RJ9, "floorDiv", "(II)I"⟩
abbrev cJ9_max_7cf53 : ByteArray := prog_8_method_65_code
def yJ9_max_7cf53 : MethodName := ⟨RJ9, "max", "(II)I"⟩
def RJ0 : String := "java/lang/String"
def TJ0 : u_T := fun k => match k with
  | _ => ("", "", "", false)
def tyJ0 : Nat → FieldType := fun k => match k with
  | _ => .int
abbrev wsJ00 : List Cond := u_ws RJ0 TJ0 0
theorem nmJ0 : ∀ a, a < 0 → ∀ b, b < 0 → a ≠ b → (TJ0 a).2.1 ≠ (TJ0 b).2.1 := by decide +kernel
theorem tyJ0_ok : ∀ k, k < 0 → parseFieldDescriptor (TJ0 k).2.2.1 = some (tyJ0 k) := by decide +kernel
def RJ10 : String := "java/lang/System"
def TJ10 : u_T := fun k => match k with
  | _ => ("", "", "", false)
def tyJ10 : Nat → FieldType := fun k => match k with
  | _ => .int
abbrev wsJ100 : List Cond := u_ws RJ10 TJ10 0
theorem nmJ10 : ∀ a, a < 0 → ∀ b, b < 0 → a ≠ b → (TJ10 a).2.1 ≠ (TJ10 b).2.1 := by decide +kernel
theorem tyJ10_ok : ∀ k, k < 0 → parseFieldDescriptor (TJ10 k).2.2.1 = some (tyJ10 k) := by decide +kernel
def RL : String := "MoorWatchLaw"
abbrev cL_from : ByteArray := method_2_code
def yL_from : MethodName := ⟨RL, "from", "([III)I"⟩
abbrev cL_root : ByteArray := method_3_code
def yL_root : MethodName := ⟨RL, "root", "(J)I"⟩
abbrev cL_away : ByteArray := method_4_code
def yL_away : MethodName := ⟨RL, "away", "([I[III)I"⟩
abbrev cL_length : ByteArray := method_5_code
def yL_length : MethodName := ⟨RL, "length", "([I[IIII)I"⟩
abbrev cL_tension : ByteArray := method_6_code
def yL_tension : MethodName := ⟨RL, "tension", "([I[IIII)I"⟩
abbrev cL_force : ByteArray := method_7_code
def yL_force : MethodName := ⟨RL, "force", "([I[I[IIII)I"⟩
abbrev cL_shift : ByteArray := method_8_code
def yL_shift : MethodName := ⟨RL, "shift", "([I[I[III)I"⟩
abbrev cL_isAdrift : ByteArray := method_9_code
def yL_isAdrift : MethodName := ⟨RL, "isAdrift", "([I[I[III)Z"⟩
abbrev cL_onBollard : ByteArray := method_10_code
def yL_onBollard : MethodName := ⟨RL, "onBollard", "([I[I[IIII)I"⟩
abbrev cL_isSafe : ByteArray := method_11_code
def yL_isSafe : MethodName := ⟨RL, "isSafe", "([I[I[III)Z"⟩
abbrev cL_tended : ByteArray := method_12_code
def yL_tended : MethodName := ⟨RL, "tended", "([I[I[III)I"⟩
abbrev cL_plan : ByteArray := method_13_code
def yL_plan : MethodName := ⟨RL, "plan", "([I[I[I[I[I[III)I"⟩
abbrev cL_isTold : ByteArray := method_14_code
def yL_isTold : MethodName := ⟨RL, "isTold", "(LMoorWatch;[I[I[I[I[I[III)Z"⟩
abbrev cL_arePlans : ByteArray := method_15_code
def yL_arePlans : MethodName := ⟨RL, "arePlans", "(LMoorWatch;[I[I[I[I[I[II)Z"⟩
abbrev cL_tend : ByteArray := method_16_code
def yL_tend : MethodName := ⟨RL, "tend", "(LMoorWatch;III)I"⟩
abbrev cL_acts : ByteArray := method_17_code
def yL_acts : MethodName := ⟨RL, "acts", "(LMoorWatch;[I[I[I[I[I[III)Z"⟩
abbrev cL_holds : ByteArray := method_18_code
def yL_holds : MethodName := ⟨RL, "holds", "([I)Z"⟩
abbrev cL_isHeld : ByteArray := method_19_code
def yL_isHeld : MethodName := ⟨RL, "isHeld", "([I)Z"⟩
abbrev cL_law : ByteArray := code
def yL_law : MethodName := ⟨RL, "law", "([I)Z"⟩
end
section
def wsX0_init : List Cond := .code yX0_init cX0_init 1 none :: ([.methodLink RX0 1 objectInit, .instanceMethod objectInit, .code objectInit ⟨#[0xb1]⟩ 1 none, .arrayClass .int, .fieldLink RX0 9 "MoorWatch" "tides" "[I", .fieldLink RX0 13 "MoorWatch" "loads" "[I", .fieldLink RX0 16 "MoorWatch" "passing" "[I", .fieldLink RX0 19 "MoorWatch" "wind" "I", .fieldLink RX0 23 "MoorWatch" "bollardCount" "I", .fieldLink RX0 26 "MoorWatch" "bollardPlaces" "[I", .fieldLink RX0 29 "MoorWatch" "bollardLimits" "[I", .fieldLink RX0 32 "MoorWatch" "lineCount" "I", .fieldLink RX0 35 "MoorWatch" "lineBollards" "[I", .fieldLink RX0 38 "MoorWatch" "lineReaches" "[I", .fieldLink RX0 41 "MoorWatch" "lineStiffnesses" "[I", .fieldLink RX0 44 "MoorWatch" "lineStrengths" "[I", .fieldLink RX0 47 "MoorWatch" "lineSets" "[I", .arrayClass .boolean, .fieldLink RX0 50 "MoorWatch" "lineFast" "[Z", .fieldLink RX0 54 "MoorWatch" "setsBeforePlan" "[I"] ++ wsX00)
def wsX0_checkRange : List Cond := .code yX0_checkRange cX0_checkRange 3 none :: ([.classLink RX0 121 "java/lang/IllegalArgumentException", .initialized "java/lang/IllegalArgumentException"] ++ (vx_atS RX0 125 "java/lang/IllegalArgumentException" ["java/lang/RuntimeException", "java/lang/Exception"]).filter goodWord)
def wsX0_addBollard : List Cond := .code yX0_addBollard cX0_addBollard 4 (some .int) :: ([.classLink RX0 62 "java/lang/IllegalStateException", .initialized "java/lang/IllegalStateException", .constant RX0 61 (1000000), .fieldLink RX0 23 "MoorWatch" "bollardCount" "I", .fieldLink RX0 26 "MoorWatch" "bollardPlaces" "[I", .fieldLink RX0 29 "MoorWatch" "bollardLimits" "[I", .methodLink RX0 57 yX0_checkRange, .static yX0_checkRange, .initialized RX0, .code yX0_checkRange cX0_checkRange 3 none, .classLink RX0 121 "java/lang/IllegalArgumentException", .initialized "java/lang/IllegalArgumentException"] ++ wsX00 ++ (vx_atS RX0 66 "java/lang/IllegalStateException" ["java/lang/RuntimeException", "java/lang/Exception"]).filter goodWord ++ (vx_atS RX0 125 "java/lang/IllegalArgumentException" ["java/lang/RuntimeException", "java/lang/Exception"]).filter goodWord)
def wsX0_checkBollard : List Cond := .code yX0_checkBollard cX0_checkBollard 2 none :: ([.classLink RX0 135 "java/lang/IndexOutOfBoundsException", .initialized "java/lang/IndexOutOfBoundsException", .fieldLink RX0 23 "MoorWatch" "bollardCount" "I"] ++ wsX00 ++ (vx_atS RX0 139 "java/lang/IndexOutOfBoundsException" ["java/lang/RuntimeException", "java/lang/Exception"]).filter goodWord)
def wsX0_lengthOver : List Cond := .code yX0_lengthOver cX0_lengthOver 6 (some .int) :: ([])
def wsX0_addLine_r1 : List Cond := [Cond.classLink RX0 62 "java/lang/IllegalStateException", Cond.initialized "java/lang/IllegalStateException", Cond.constant RX0 61 (1000000), Cond.fieldLink RX0 32 "MoorWatch" "lineCount" "I", Cond.fieldLink RX0 26 "MoorWatch" "bollardPlaces" "[I", Cond.fieldLink RX0 35 "MoorWatch" "lineBollards" "[I", Cond.fieldLink RX0 38 "MoorWatch" "lineReaches" "[I", Cond.fieldLink RX0 41 "MoorWatch" "lineStiffnesses" "[I", Cond.fieldLink RX0 44 "MoorWatch" "lineStrengths" "[I", Cond.fieldLink RX0 47 "MoorWatch" "lineSets" "[I", Cond.fieldLink RX0 50 "MoorWatch" "lineFast" "[Z", Cond.methodLink RX0 69 yX0_checkBollard, Cond.instanceMethod yX0_checkBollard, Cond.selects RX0 yX0_checkBollard yX0_checkBollard, Cond.initialized RX0, Cond.code yX0_checkBollard cX0_checkBollard 2 none, Cond.classLink RX0 135 "java/lang/IndexOutOfBoundsException", Cond.initialized "java/lang/IndexOutOfBoundsException", Cond.fieldLink RX0 23 "MoorWatch" "bollardCount" "I", Cond.methodLink RX0 57 yX0_checkRange, Cond.static yX0_checkRange, Cond.code yX0_checkRange cX0_checkRange 3 none, Cond.classLink RX0 121 "java/lang/IllegalArgumentException", Cond.initialized "java/lang/IllegalArgumentException"]
def wsX0_addLine_r2 : List Cond := [Cond.methodLink RX0 75 yX0_lengthOver, Cond.static yX0_lengthOver, Cond.code yX0_lengthOver cX0_lengthOver 6 (some .int)]
def wsX0_addLine : List Cond := .code yX0_addLine cX0_addLine 7 (some .int) :: ((wsX0_addLine_r1 ++ wsX0_addLine_r2) ++ wsX00 ++ (vx_atS RX0 66 "java/lang/IllegalStateException" ["java/lang/RuntimeException", "java/lang/Exception"]).filter goodWord ++ (vx_atS RX0 139 "java/lang/IndexOutOfBoundsException" ["java/lang/RuntimeException", "java/lang/Exception"]).filter goodWord ++ (vx_atS RX0 125 "java/lang/IllegalArgumentException" ["java/lang/RuntimeException", "java/lang/Exception"]).filter goodWord)
def wsX0_checkLine : List Cond := .code yX0_checkLine cX0_checkLine 2 none :: ([.classLink RX0 135 "java/lang/IndexOutOfBoundsException", .initialized "java/lang/IndexOutOfBoundsException", .fieldLink RX0 32 "MoorWatch" "lineCount" "I"] ++ wsX00 ++ (vx_atS RX0 139 "java/lang/IndexOutOfBoundsException" ["java/lang/RuntimeException", "java/lang/Exception"]).filter goodWord)
def wsX0_toggle : List Cond := .code yX0_toggle cX0_toggle 2 (some .boolean) :: ([.fieldLink RX0 50 "MoorWatch" "lineFast" "[Z", .methodLink RX0 79 yX0_checkLine, .instanceMethod yX0_checkLine, .selects RX0 yX0_checkLine yX0_checkLine, .initialized RX0, .code yX0_checkLine cX0_checkLine 2 none, .classLink RX0 135 "java/lang/IndexOutOfBoundsException", .initialized "java/lang/IndexOutOfBoundsException", .fieldLink RX0 32 "MoorWatch" "lineCount" "I"] ++ wsX00 ++ (vx_atS RX0 139 "java/lang/IndexOutOfBoundsException" ["java/lang/RuntimeException", "java/lang/Exception"]).filter goodWord)
def wsX0_checkHour : List Cond := .code yX0_checkHour cX0_checkHour 1 none :: ([.classLink RX0 135 "java/lang/IndexOutOfBoundsException", .initialized "java/lang/IndexOutOfBoundsException"] ++ (vx_atS RX0 139 "java/lang/IndexOutOfBoundsException" ["java/lang/RuntimeException", "java/lang/Exception"]).filter goodWord)
def wsX0_setTide : List Cond := .code yX0_setTide cX0_setTide 4 (some .int) :: ([.fieldLink RX0 9 "MoorWatch" "tides" "[I", .methodLink RX0 82 yX0_checkHour, .static yX0_checkHour, .initialized RX0, .code yX0_checkHour cX0_checkHour 1 none, .classLink RX0 135 "java/lang/IndexOutOfBoundsException", .initialized "java/lang/IndexOutOfBoundsException", .methodLink RX0 57 yX0_checkRange, .static yX0_checkRange, .code yX0_checkRange cX0_checkRange 3 none, .classLink RX0 121 "java/lang/IllegalArgumentException", .initialized "java/lang/IllegalArgumentException"] ++ wsX00 ++ (vx_atS RX0 139 "java/lang/IndexOutOfBoundsException" ["java/lang/RuntimeException", "java/lang/Exception"]).filter goodWord ++ (vx_atS RX0 125 "java/lang/IllegalArgumentException" ["java/lang/RuntimeException", "java/lang/Exception"]).filter goodWord)
def wsX0_setLoad : List Cond := .code yX0_setLoad cX0_setLoad 5 (some .int) :: ([.fieldLink RX0 13 "MoorWatch" "loads" "[I", .methodLink RX0 82 yX0_checkHour, .static yX0_checkHour, .initialized RX0, .code yX0_checkHour cX0_checkHour 1 none, .classLink RX0 135 "java/lang/IndexOutOfBoundsException", .initialized "java/lang/IndexOutOfBoundsException", .methodLink RX0 57 yX0_checkRange, .static yX0_checkRange, .code yX0_checkRange cX0_checkRange 3 none, .classLink RX0 121 "java/lang/IllegalArgumentException", .initialized "java/lang/IllegalArgumentException"] ++ wsX00 ++ (vx_atS RX0 139 "java/lang/IndexOutOfBoundsException" ["java/lang/RuntimeException", "java/lang/Exception"]).filter goodWord ++ (vx_atS RX0 125 "java/lang/IllegalArgumentException" ["java/lang/RuntimeException", "java/lang/Exception"]).filter goodWord)
def wsX0_setWind : List Cond := .code yX0_setWind cX0_setWind 3 (some .int) :: ([.constant RX0 85 (-1000000), .constant RX0 61 (1000000), .fieldLink RX0 19 "MoorWatch" "wind" "I", .methodLink RX0 57 yX0_checkRange, .static yX0_checkRange, .initialized RX0, .code yX0_checkRange cX0_checkRange 3 none, .classLink RX0 121 "java/lang/IllegalArgumentException", .initialized "java/lang/IllegalArgumentException"] ++ wsX00 ++ (vx_atS RX0 125 "java/lang/IllegalArgumentException" ["java/lang/RuntimeException", "java/lang/Exception"]).filter goodWord)
def wsX0_setPassing : List Cond := .code yX0_setPassing cX0_setPassing 4 (some .int) :: ([.constant RX0 85 (-1000000), .constant RX0 61 (1000000), .fieldLink RX0 16 "MoorWatch" "passing" "[I", .methodLink RX0 82 yX0_checkHour, .static yX0_checkHour, .initialized RX0, .code yX0_checkHour cX0_checkHour 1 none, .classLink RX0 135 "java/lang/IndexOutOfBoundsException", .initialized "java/lang/IndexOutOfBoundsException", .methodLink RX0 57 yX0_checkRange, .static yX0_checkRange, .code yX0_checkRange cX0_checkRange 3 none, .classLink RX0 121 "java/lang/IllegalArgumentException", .initialized "java/lang/IllegalArgumentException"] ++ wsX00 ++ (vx_atS RX0 139 "java/lang/IndexOutOfBoundsException" ["java/lang/RuntimeException", "java/lang/Exception"]).filter goodWord ++ (vx_atS RX0 125 "java/lang/IllegalArgumentException" ["java/lang/RuntimeException", "java/lang/Exception"]).filter goodWord)
def wsX0_heightIn : List Cond := .code yX0_heightIn cX0_heightIn 2 (some .int) :: ([.fieldLink RX0 9 "MoorWatch" "tides" "[I", .fieldLink RX0 13 "MoorWatch" "loads" "[I"] ++ wsX00)
def wsX0_tensionAtLength : List Cond := .code yX0_tensionAtLength cX0_tensionAtLength 3 (some .int) :: ([.fieldLink RX0 50 "MoorWatch" "lineFast" "[Z", .fieldLink RX0 41 "MoorWatch" "lineStiffnesses" "[I", .fieldLink RX0 47 "MoorWatch" "lineSets" "[I", .methodLink RX0 113 Lib.Math.max.name, .static Lib.Math.max.name, .initialized "java/lang/Math", .code Lib.Math.max.name Lib.Math.max.code 2 (some .int)] ++ wsX00)
def wsX0_pullWith : List Cond := .code yX0_pullWith cX0_pullWith 8 (some .int) :: ([.fieldLink RX0 38 "MoorWatch" "lineReaches" "[I", .methodLink RX0 146 yX0_heightIn, .instanceMethod yX0_heightIn, .selects RX0 yX0_heightIn yX0_heightIn, .initialized RX0, .code yX0_heightIn cX0_heightIn 2 (some .int), .fieldLink RX0 9 "MoorWatch" "tides" "[I", .fieldLink RX0 13 "MoorWatch" "loads" "[I", .methodLink RX0 75 yX0_lengthOver, .static yX0_lengthOver, .code yX0_lengthOver cX0_lengthOver 6 (some .int), .methodLink RX0 101 yX0_tensionAtLength, .instanceMethod yX0_tensionAtLength, .selects RX0 yX0_tensionAtLength yX0_tensionAtLength, .code yX0_tensionAtLength cX0_tensionAtLength 3 (some .int), .fieldLink RX0 50 "MoorWatch" "lineFast" "[Z", .fieldLink RX0 41 "MoorWatch" "lineStiffnesses" "[I", .fieldLink RX0 47 "MoorWatch" "lineSets" "[I", .methodLink RX0 113 Lib.Math.max.name, .static Lib.Math.max.name, .initialized "java/lang/Math", .code Lib.Math.max.name Lib.Math.max.code 2 (some .int)] ++ wsX00)
def wsX0_forceWith_r1 : List Cond := [Cond.fieldLink RX0 19 "MoorWatch" "wind" "I", Cond.fieldLink RX0 16 "MoorWatch" "passing" "[I", Cond.fieldLink RX0 32 "MoorWatch" "lineCount" "I", Cond.methodLink RX0 149 yX0_pullWith, Cond.instanceMethod yX0_pullWith, Cond.selects RX0 yX0_pullWith yX0_pullWith, Cond.initialized RX0, Cond.code yX0_pullWith cX0_pullWith 8 (some .int), Cond.fieldLink RX0 38 "MoorWatch" "lineReaches" "[I", Cond.methodLink RX0 146 yX0_heightIn, Cond.instanceMethod yX0_heightIn, Cond.selects RX0 yX0_heightIn yX0_heightIn, Cond.code yX0_heightIn cX0_heightIn 2 (some .int), Cond.fieldLink RX0 9 "MoorWatch" "tides" "[I", Cond.fieldLink RX0 13 "MoorWatch" "loads" "[I", Cond.methodLink RX0 75 yX0_lengthOver, Cond.static yX0_lengthOver, Cond.code yX0_lengthOver cX0_lengthOver 6 (some .int), Cond.methodLink RX0 101 yX0_tensionAtLength, Cond.instanceMethod yX0_tensionAtLength, Cond.selects RX0 yX0_tensionAtLength yX0_tensionAtLength, Cond.code yX0_tensionAtLength cX0_tensionAtLength 3 (some .int), Cond.fieldLink RX0 50 "MoorWatch" "lineFast" "[Z", Cond.fieldLink RX0 41 "MoorWatch" "lineStiffnesses" "[I"]
def wsX0_forceWith_r2 : List Cond := [Cond.fieldLink RX0 47 "MoorWatch" "lineSets" "[I", Cond.methodLink RX0 113 Lib.Math.max.name, Cond.static Lib.Math.max.name, Cond.initialized "java/lang/Math", Cond.code Lib.Math.max.name Lib.Math.max.code 2 (some .int)]
def wsX0_forceWith : List Cond := .code yX0_forceWith cX0_forceWith 5 (some .int) :: ((wsX0_forceWith_r1 ++ wsX0_forceWith_r2) ++ wsX00)
def wsX0_force_r1 : List Cond := [Cond.methodLink RX0 82 yX0_checkHour, Cond.static yX0_checkHour, Cond.initialized RX0, Cond.code yX0_checkHour cX0_checkHour 1 none, Cond.classLink RX0 135 "java/lang/IndexOutOfBoundsException", Cond.initialized "java/lang/IndexOutOfBoundsException", Cond.methodLink RX0 57 yX0_checkRange, Cond.static yX0_checkRange, Cond.code yX0_checkRange cX0_checkRange 3 none, Cond.classLink RX0 121 "java/lang/IllegalArgumentException", Cond.initialized "java/lang/IllegalArgumentException", Cond.methodLink RX0 86 yX0_forceWith, Cond.instanceMethod yX0_forceWith, Cond.selects RX0 yX0_forceWith yX0_forceWith, Cond.code yX0_forceWith cX0_forceWith 5 (some .int), Cond.fieldLink RX0 19 "MoorWatch" "wind" "I", Cond.fieldLink RX0 16 "MoorWatch" "passing" "[I", Cond.fieldLink RX0 32 "MoorWatch" "lineCount" "I", Cond.methodLink RX0 149 yX0_pullWith, Cond.instanceMethod yX0_pullWith, Cond.selects RX0 yX0_pullWith yX0_pullWith, Cond.code yX0_pullWith cX0_pullWith 8 (some .int), Cond.fieldLink RX0 38 "MoorWatch" "lineReaches" "[I", Cond.methodLink RX0 146 yX0_heightIn]
def wsX0_force_r2 : List Cond := [Cond.instanceMethod yX0_heightIn, Cond.selects RX0 yX0_heightIn yX0_heightIn, Cond.code yX0_heightIn cX0_heightIn 2 (some .int), Cond.fieldLink RX0 9 "MoorWatch" "tides" "[I", Cond.fieldLink RX0 13 "MoorWatch" "loads" "[I", Cond.methodLink RX0 75 yX0_lengthOver, Cond.static yX0_lengthOver, Cond.code yX0_lengthOver cX0_lengthOver 6 (some .int), Cond.methodLink RX0 101 yX0_tensionAtLength, Cond.instanceMethod yX0_tensionAtLength, Cond.selects RX0 yX0_tensionAtLength yX0_tensionAtLength, Cond.code yX0_tensionAtLength cX0_tensionAtLength 3 (some .int), Cond.fieldLink RX0 50 "MoorWatch" "lineFast" "[Z", Cond.fieldLink RX0 41 "MoorWatch" "lineStiffnesses" "[I", Cond.fieldLink RX0 47 "MoorWatch" "lineSets" "[I", Cond.methodLink RX0 113 Lib.Math.max.name, Cond.static Lib.Math.max.name, Cond.initialized "java/lang/Math", Cond.code Lib.Math.max.name Lib.Math.max.code 2 (some .int)]
def wsX0_force : List Cond := .code yX0_force cX0_force 3 (some .int) :: ((wsX0_force_r1 ++ wsX0_force_r2) ++ wsX00 ++ (vx_atS RX0 139 "java/lang/IndexOutOfBoundsException" ["java/lang/RuntimeException", "java/lang/Exception"]).filter goodWord ++ (vx_atS RX0 125 "java/lang/IllegalArgumentException" ["java/lang/RuntimeException", "java/lang/Exception"]).filter goodWord)
def wsJ9_floorDiv_7cf53 : List Cond := .code yJ9_floorDiv_7cf53 cJ9_floorDiv_7cf53 3 (some .int) :: ([])
def wsX0_balanceOf_r1 : List Cond := [Cond.methodLink RX0 152 yJ9_floorDiv_7cf53, Cond.static yJ9_floorDiv_7cf53, Cond.initialized RJ9, Cond.code yJ9_floorDiv_7cf53 cJ9_floorDiv_7cf53 3 (some .int), Cond.methodLink RX0 86 yX0_forceWith, Cond.instanceMethod yX0_forceWith, Cond.selects RX0 yX0_forceWith yX0_forceWith, Cond.initialized RX0, Cond.code yX0_forceWith cX0_forceWith 5 (some .int), Cond.fieldLink RX0 19 "MoorWatch" "wind" "I", Cond.fieldLink RX0 16 "MoorWatch" "passing" "[I", Cond.fieldLink RX0 32 "MoorWatch" "lineCount" "I", Cond.methodLink RX0 149 yX0_pullWith, Cond.instanceMethod yX0_pullWith, Cond.selects RX0 yX0_pullWith yX0_pullWith, Cond.code yX0_pullWith cX0_pullWith 8 (some .int), Cond.fieldLink RX0 38 "MoorWatch" "lineReaches" "[I", Cond.methodLink RX0 146 yX0_heightIn, Cond.instanceMethod yX0_heightIn, Cond.selects RX0 yX0_heightIn yX0_heightIn, Cond.code yX0_heightIn cX0_heightIn 2 (some .int), Cond.fieldLink RX0 9 "MoorWatch" "tides" "[I", Cond.fieldLink RX0 13 "MoorWatch" "loads" "[I", Cond.methodLink RX0 75 yX0_lengthOver]
def wsX0_balanceOf_r2 : List Cond := [Cond.static yX0_lengthOver, Cond.code yX0_lengthOver cX0_lengthOver 6 (some .int), Cond.methodLink RX0 101 yX0_tensionAtLength, Cond.instanceMethod yX0_tensionAtLength, Cond.selects RX0 yX0_tensionAtLength yX0_tensionAtLength, Cond.code yX0_tensionAtLength cX0_tensionAtLength 3 (some .int), Cond.fieldLink RX0 50 "MoorWatch" "lineFast" "[Z", Cond.fieldLink RX0 41 "MoorWatch" "lineStiffnesses" "[I", Cond.fieldLink RX0 47 "MoorWatch" "lineSets" "[I", Cond.methodLink RX0 113 Lib.Math.max.name, Cond.static Lib.Math.max.name, Cond.initialized "java/lang/Math", Cond.code Lib.Math.max.name Lib.Math.max.code 2 (some .int)]
def wsX0_balanceOf : List Cond := .code yX0_balanceOf cX0_balanceOf 6 (some .int) :: ((wsX0_balanceOf_r1 ++ wsX0_balanceOf_r2) ++ wsX00)
def wsX0_shift_r1 : List Cond := [Cond.methodLink RX0 82 yX0_checkHour, Cond.static yX0_checkHour, Cond.initialized RX0, Cond.code yX0_checkHour cX0_checkHour 1 none, Cond.classLink RX0 135 "java/lang/IndexOutOfBoundsException", Cond.initialized "java/lang/IndexOutOfBoundsException", Cond.methodLink RX0 89 yX0_balanceOf, Cond.instanceMethod yX0_balanceOf, Cond.selects RX0 yX0_balanceOf yX0_balanceOf, Cond.code yX0_balanceOf cX0_balanceOf 6 (some .int), Cond.methodLink RX0 152 yJ9_floorDiv_7cf53, Cond.static yJ9_floorDiv_7cf53, Cond.initialized RJ9, Cond.code yJ9_floorDiv_7cf53 cJ9_floorDiv_7cf53 3 (some .int), Cond.methodLink RX0 86 yX0_forceWith, Cond.instanceMethod yX0_forceWith, Cond.selects RX0 yX0_forceWith yX0_forceWith, Cond.code yX0_forceWith cX0_forceWith 5 (some .int), Cond.fieldLink RX0 19 "MoorWatch" "wind" "I", Cond.fieldLink RX0 16 "MoorWatch" "passing" "[I", Cond.fieldLink RX0 32 "MoorWatch" "lineCount" "I", Cond.methodLink RX0 149 yX0_pullWith, Cond.instanceMethod yX0_pullWith, Cond.selects RX0 yX0_pullWith yX0_pullWith]
def wsX0_shift_r2 : List Cond := [Cond.code yX0_pullWith cX0_pullWith 8 (some .int), Cond.fieldLink RX0 38 "MoorWatch" "lineReaches" "[I", Cond.methodLink RX0 146 yX0_heightIn, Cond.instanceMethod yX0_heightIn, Cond.selects RX0 yX0_heightIn yX0_heightIn, Cond.code yX0_heightIn cX0_heightIn 2 (some .int), Cond.fieldLink RX0 9 "MoorWatch" "tides" "[I", Cond.fieldLink RX0 13 "MoorWatch" "loads" "[I", Cond.methodLink RX0 75 yX0_lengthOver, Cond.static yX0_lengthOver, Cond.code yX0_lengthOver cX0_lengthOver 6 (some .int), Cond.methodLink RX0 101 yX0_tensionAtLength, Cond.instanceMethod yX0_tensionAtLength, Cond.selects RX0 yX0_tensionAtLength yX0_tensionAtLength, Cond.code yX0_tensionAtLength cX0_tensionAtLength 3 (some .int), Cond.fieldLink RX0 50 "MoorWatch" "lineFast" "[Z", Cond.fieldLink RX0 41 "MoorWatch" "lineStiffnesses" "[I", Cond.fieldLink RX0 47 "MoorWatch" "lineSets" "[I", Cond.methodLink RX0 113 Lib.Math.max.name, Cond.static Lib.Math.max.name, Cond.initialized "java/lang/Math", Cond.code Lib.Math.max.name Lib.Math.max.code 2 (some .int)]
def wsX0_shift : List Cond := .code yX0_shift cX0_shift 2 (some .int) :: ((wsX0_shift_r1 ++ wsX0_shift_r2) ++ wsX00 ++ (vx_atS RX0 139 "java/lang/IndexOutOfBoundsException" ["java/lang/RuntimeException", "java/lang/Exception"]).filter goodWord)
def wsX0_driftsWith_r1 : List Cond := [Cond.methodLink RX0 86 yX0_forceWith, Cond.instanceMethod yX0_forceWith, Cond.selects RX0 yX0_forceWith yX0_forceWith, Cond.initialized RX0, Cond.code yX0_forceWith cX0_forceWith 5 (some .int), Cond.fieldLink RX0 19 "MoorWatch" "wind" "I", Cond.fieldLink RX0 16 "MoorWatch" "passing" "[I", Cond.fieldLink RX0 32 "MoorWatch" "lineCount" "I", Cond.methodLink RX0 149 yX0_pullWith, Cond.instanceMethod yX0_pullWith, Cond.selects RX0 yX0_pullWith yX0_pullWith, Cond.code yX0_pullWith cX0_pullWith 8 (some .int), Cond.fieldLink RX0 38 "MoorWatch" "lineReaches" "[I", Cond.methodLink RX0 146 yX0_heightIn, Cond.instanceMethod yX0_heightIn, Cond.selects RX0 yX0_heightIn yX0_heightIn, Cond.code yX0_heightIn cX0_heightIn 2 (some .int), Cond.fieldLink RX0 9 "MoorWatch" "tides" "[I", Cond.fieldLink RX0 13 "MoorWatch" "loads" "[I", Cond.methodLink RX0 75 yX0_lengthOver, Cond.static yX0_lengthOver, Cond.code yX0_lengthOver cX0_lengthOver 6 (some .int), Cond.methodLink RX0 101 yX0_tensionAtLength, Cond.instanceMethod yX0_tensionAtLength]
def wsX0_driftsWith_r2 : List Cond := [Cond.selects RX0 yX0_tensionAtLength yX0_tensionAtLength, Cond.code yX0_tensionAtLength cX0_tensionAtLength 3 (some .int), Cond.fieldLink RX0 50 "MoorWatch" "lineFast" "[Z", Cond.fieldLink RX0 41 "MoorWatch" "lineStiffnesses" "[I", Cond.fieldLink RX0 47 "MoorWatch" "lineSets" "[I", Cond.methodLink RX0 113 Lib.Math.max.name, Cond.static Lib.Math.max.name, Cond.initialized "java/lang/Math", Cond.code Lib.Math.max.name Lib.Math.max.code 2 (some .int)]
def wsX0_driftsWith : List Cond := .code yX0_driftsWith cX0_driftsWith 3 (some .boolean) :: ((wsX0_driftsWith_r1 ++ wsX0_driftsWith_r2) ++ wsX00)
def wsX0_isAdrift_r1 : List Cond := [Cond.methodLink RX0 82 yX0_checkHour, Cond.static yX0_checkHour, Cond.initialized RX0, Cond.code yX0_checkHour cX0_checkHour 1 none, Cond.classLink RX0 135 "java/lang/IndexOutOfBoundsException", Cond.initialized "java/lang/IndexOutOfBoundsException", Cond.methodLink RX0 89 yX0_balanceOf, Cond.instanceMethod yX0_balanceOf, Cond.selects RX0 yX0_balanceOf yX0_balanceOf, Cond.code yX0_balanceOf cX0_balanceOf 6 (some .int), Cond.methodLink RX0 152 yJ9_floorDiv_7cf53, Cond.static yJ9_floorDiv_7cf53, Cond.initialized RJ9, Cond.code yJ9_floorDiv_7cf53 cJ9_floorDiv_7cf53 3 (some .int), Cond.methodLink RX0 86 yX0_forceWith, Cond.instanceMethod yX0_forceWith, Cond.selects RX0 yX0_forceWith yX0_forceWith, Cond.code yX0_forceWith cX0_forceWith 5 (some .int), Cond.fieldLink RX0 19 "MoorWatch" "wind" "I", Cond.fieldLink RX0 16 "MoorWatch" "passing" "[I", Cond.fieldLink RX0 32 "MoorWatch" "lineCount" "I", Cond.methodLink RX0 149 yX0_pullWith, Cond.instanceMethod yX0_pullWith, Cond.selects RX0 yX0_pullWith yX0_pullWith]
def wsX0_isAdrift_r2 : List Cond := [Cond.code yX0_pullWith cX0_pullWith 8 (some .int), Cond.fieldLink RX0 38 "MoorWatch" "lineReaches" "[I", Cond.methodLink RX0 146 yX0_heightIn, Cond.instanceMethod yX0_heightIn, Cond.selects RX0 yX0_heightIn yX0_heightIn, Cond.code yX0_heightIn cX0_heightIn 2 (some .int), Cond.fieldLink RX0 9 "MoorWatch" "tides" "[I", Cond.fieldLink RX0 13 "MoorWatch" "loads" "[I", Cond.methodLink RX0 75 yX0_lengthOver, Cond.static yX0_lengthOver, Cond.code yX0_lengthOver cX0_lengthOver 6 (some .int), Cond.methodLink RX0 101 yX0_tensionAtLength, Cond.instanceMethod yX0_tensionAtLength, Cond.selects RX0 yX0_tensionAtLength yX0_tensionAtLength, Cond.code yX0_tensionAtLength cX0_tensionAtLength 3 (some .int), Cond.fieldLink RX0 50 "MoorWatch" "lineFast" "[Z", Cond.fieldLink RX0 41 "MoorWatch" "lineStiffnesses" "[I", Cond.fieldLink RX0 47 "MoorWatch" "lineSets" "[I", Cond.methodLink RX0 113 Lib.Math.max.name, Cond.static Lib.Math.max.name, Cond.initialized "java/lang/Math", Cond.code Lib.Math.max.name Lib.Math.max.code 2 (some .int), Cond.methodLink RX0 93 yX0_driftsWith, Cond.instanceMethod yX0_driftsWith]
def wsX0_isAdrift_r3 : List Cond := [Cond.selects RX0 yX0_driftsWith yX0_driftsWith, Cond.code yX0_driftsWith cX0_driftsWith 3 (some .boolean)]
def wsX0_isAdrift : List Cond := .code yX0_isAdrift cX0_isAdrift 2 (some .boolean) :: ((wsX0_isAdrift_r1 ++ (wsX0_isAdrift_r2 ++ wsX0_isAdrift_r3)) ++ wsX00 ++ (vx_atS RX0 139 "java/lang/IndexOutOfBoundsException" ["java/lang/RuntimeException", "java/lang/Exception"]).filter goodWord)
def wsX0_lengthWith : List Cond := .code yX0_lengthWith cX0_lengthWith 4 (some .int) :: ([.fieldLink RX0 38 "MoorWatch" "lineReaches" "[I", .methodLink RX0 146 yX0_heightIn, .instanceMethod yX0_heightIn, .selects RX0 yX0_heightIn yX0_heightIn, .initialized RX0, .code yX0_heightIn cX0_heightIn 2 (some .int), .fieldLink RX0 9 "MoorWatch" "tides" "[I", .fieldLink RX0 13 "MoorWatch" "loads" "[I", .methodLink RX0 75 yX0_lengthOver, .static yX0_lengthOver, .code yX0_lengthOver cX0_lengthOver 6 (some .int)] ++ wsX00)
def wsX0_length_r1 : List Cond := [Cond.methodLink RX0 79 yX0_checkLine, Cond.instanceMethod yX0_checkLine, Cond.selects RX0 yX0_checkLine yX0_checkLine, Cond.initialized RX0, Cond.code yX0_checkLine cX0_checkLine 2 none, Cond.classLink RX0 135 "java/lang/IndexOutOfBoundsException", Cond.initialized "java/lang/IndexOutOfBoundsException", Cond.fieldLink RX0 32 "MoorWatch" "lineCount" "I", Cond.methodLink RX0 82 yX0_checkHour, Cond.static yX0_checkHour, Cond.code yX0_checkHour cX0_checkHour 1 none, Cond.methodLink RX0 89 yX0_balanceOf, Cond.instanceMethod yX0_balanceOf, Cond.selects RX0 yX0_balanceOf yX0_balanceOf, Cond.code yX0_balanceOf cX0_balanceOf 6 (some .int), Cond.methodLink RX0 152 yJ9_floorDiv_7cf53, Cond.static yJ9_floorDiv_7cf53, Cond.initialized RJ9, Cond.code yJ9_floorDiv_7cf53 cJ9_floorDiv_7cf53 3 (some .int), Cond.methodLink RX0 86 yX0_forceWith, Cond.instanceMethod yX0_forceWith, Cond.selects RX0 yX0_forceWith yX0_forceWith, Cond.code yX0_forceWith cX0_forceWith 5 (some .int), Cond.fieldLink RX0 19 "MoorWatch" "wind" "I"]
def wsX0_length_r2 : List Cond := [Cond.fieldLink RX0 16 "MoorWatch" "passing" "[I", Cond.methodLink RX0 149 yX0_pullWith, Cond.instanceMethod yX0_pullWith, Cond.selects RX0 yX0_pullWith yX0_pullWith, Cond.code yX0_pullWith cX0_pullWith 8 (some .int), Cond.fieldLink RX0 38 "MoorWatch" "lineReaches" "[I", Cond.methodLink RX0 146 yX0_heightIn, Cond.instanceMethod yX0_heightIn, Cond.selects RX0 yX0_heightIn yX0_heightIn, Cond.code yX0_heightIn cX0_heightIn 2 (some .int), Cond.fieldLink RX0 9 "MoorWatch" "tides" "[I", Cond.fieldLink RX0 13 "MoorWatch" "loads" "[I", Cond.methodLink RX0 75 yX0_lengthOver, Cond.static yX0_lengthOver, Cond.code yX0_lengthOver cX0_lengthOver 6 (some .int), Cond.methodLink RX0 101 yX0_tensionAtLength, Cond.instanceMethod yX0_tensionAtLength, Cond.selects RX0 yX0_tensionAtLength yX0_tensionAtLength, Cond.code yX0_tensionAtLength cX0_tensionAtLength 3 (some .int), Cond.fieldLink RX0 50 "MoorWatch" "lineFast" "[Z", Cond.fieldLink RX0 41 "MoorWatch" "lineStiffnesses" "[I", Cond.fieldLink RX0 47 "MoorWatch" "lineSets" "[I", Cond.methodLink RX0 113 Lib.Math.max.name, Cond.static Lib.Math.max.name]
def wsX0_length_r3 : List Cond := [Cond.initialized "java/lang/Math", Cond.code Lib.Math.max.name Lib.Math.max.code 2 (some .int), Cond.methodLink RX0 97 yX0_lengthWith, Cond.instanceMethod yX0_lengthWith, Cond.selects RX0 yX0_lengthWith yX0_lengthWith, Cond.code yX0_lengthWith cX0_lengthWith 4 (some .int)]
def wsX0_length : List Cond := .code yX0_length cX0_length 3 (some .int) :: ((wsX0_length_r1 ++ (wsX0_length_r2 ++ wsX0_length_r3)) ++ wsX00 ++ (vx_atS RX0 139 "java/lang/IndexOutOfBoundsException" ["java/lang/RuntimeException", "java/lang/Exception"]).filter goodWord)
def wsX0_tension_r1 : List Cond := [Cond.methodLink RX0 79 yX0_checkLine, Cond.instanceMethod yX0_checkLine, Cond.selects RX0 yX0_checkLine yX0_checkLine, Cond.initialized RX0, Cond.code yX0_checkLine cX0_checkLine 2 none, Cond.classLink RX0 135 "java/lang/IndexOutOfBoundsException", Cond.initialized "java/lang/IndexOutOfBoundsException", Cond.fieldLink RX0 32 "MoorWatch" "lineCount" "I", Cond.methodLink RX0 82 yX0_checkHour, Cond.static yX0_checkHour, Cond.code yX0_checkHour cX0_checkHour 1 none, Cond.methodLink RX0 89 yX0_balanceOf, Cond.instanceMethod yX0_balanceOf, Cond.selects RX0 yX0_balanceOf yX0_balanceOf, Cond.code yX0_balanceOf cX0_balanceOf 6 (some .int), Cond.methodLink RX0 152 yJ9_floorDiv_7cf53, Cond.static yJ9_floorDiv_7cf53, Cond.initialized RJ9, Cond.code yJ9_floorDiv_7cf53 cJ9_floorDiv_7cf53 3 (some .int), Cond.methodLink RX0 86 yX0_forceWith, Cond.instanceMethod yX0_forceWith, Cond.selects RX0 yX0_forceWith yX0_forceWith, Cond.code yX0_forceWith cX0_forceWith 5 (some .int), Cond.fieldLink RX0 19 "MoorWatch" "wind" "I"]
def wsX0_tension_r2 : List Cond := [Cond.fieldLink RX0 16 "MoorWatch" "passing" "[I", Cond.methodLink RX0 149 yX0_pullWith, Cond.instanceMethod yX0_pullWith, Cond.selects RX0 yX0_pullWith yX0_pullWith, Cond.code yX0_pullWith cX0_pullWith 8 (some .int), Cond.fieldLink RX0 38 "MoorWatch" "lineReaches" "[I", Cond.methodLink RX0 146 yX0_heightIn, Cond.instanceMethod yX0_heightIn, Cond.selects RX0 yX0_heightIn yX0_heightIn, Cond.code yX0_heightIn cX0_heightIn 2 (some .int), Cond.fieldLink RX0 9 "MoorWatch" "tides" "[I", Cond.fieldLink RX0 13 "MoorWatch" "loads" "[I", Cond.methodLink RX0 75 yX0_lengthOver, Cond.static yX0_lengthOver, Cond.code yX0_lengthOver cX0_lengthOver 6 (some .int), Cond.methodLink RX0 101 yX0_tensionAtLength, Cond.instanceMethod yX0_tensionAtLength, Cond.selects RX0 yX0_tensionAtLength yX0_tensionAtLength, Cond.code yX0_tensionAtLength cX0_tensionAtLength 3 (some .int), Cond.fieldLink RX0 50 "MoorWatch" "lineFast" "[Z", Cond.fieldLink RX0 41 "MoorWatch" "lineStiffnesses" "[I", Cond.fieldLink RX0 47 "MoorWatch" "lineSets" "[I", Cond.methodLink RX0 113 Lib.Math.max.name, Cond.static Lib.Math.max.name]
def wsX0_tension_r3 : List Cond := [Cond.initialized "java/lang/Math", Cond.code Lib.Math.max.name Lib.Math.max.code 2 (some .int), Cond.methodLink RX0 97 yX0_lengthWith, Cond.instanceMethod yX0_lengthWith, Cond.selects RX0 yX0_lengthWith yX0_lengthWith, Cond.code yX0_lengthWith cX0_lengthWith 4 (some .int)]
def wsX0_tension : List Cond := .code yX0_tension cX0_tension 3 (some .int) :: ((wsX0_tension_r1 ++ (wsX0_tension_r2 ++ wsX0_tension_r3)) ++ wsX00 ++ (vx_atS RX0 139 "java/lang/IndexOutOfBoundsException" ["java/lang/RuntimeException", "java/lang/Exception"]).filter goodWord)
def wsX0_bollardTension_r1 : List Cond := [Cond.fieldLink RX0 32 "MoorWatch" "lineCount" "I", Cond.fieldLink RX0 35 "MoorWatch" "lineBollards" "[I", Cond.methodLink RX0 97 yX0_lengthWith, Cond.instanceMethod yX0_lengthWith, Cond.selects RX0 yX0_lengthWith yX0_lengthWith, Cond.initialized RX0, Cond.code yX0_lengthWith cX0_lengthWith 4 (some .int), Cond.fieldLink RX0 38 "MoorWatch" "lineReaches" "[I", Cond.methodLink RX0 146 yX0_heightIn, Cond.instanceMethod yX0_heightIn, Cond.selects RX0 yX0_heightIn yX0_heightIn, Cond.code yX0_heightIn cX0_heightIn 2 (some .int), Cond.fieldLink RX0 9 "MoorWatch" "tides" "[I", Cond.fieldLink RX0 13 "MoorWatch" "loads" "[I", Cond.methodLink RX0 75 yX0_lengthOver, Cond.static yX0_lengthOver, Cond.code yX0_lengthOver cX0_lengthOver 6 (some .int), Cond.methodLink RX0 101 yX0_tensionAtLength, Cond.instanceMethod yX0_tensionAtLength, Cond.selects RX0 yX0_tensionAtLength yX0_tensionAtLength, Cond.code yX0_tensionAtLength cX0_tensionAtLength 3 (some .int), Cond.fieldLink RX0 50 "MoorWatch" "lineFast" "[Z", Cond.fieldLink RX0 41 "MoorWatch" "lineStiffnesses" "[I", Cond.fieldLink RX0 47 "MoorWatch" "lineSets" "[I"]
def wsX0_bollardTension_r2 : List Cond := [Cond.methodLink RX0 113 Lib.Math.max.name, Cond.static Lib.Math.max.name, Cond.initialized "java/lang/Math", Cond.code Lib.Math.max.name Lib.Math.max.code 2 (some .int)]
def wsX0_bollardTension : List Cond := .code yX0_bollardTension cX0_bollardTension 6 (some .int) :: ((wsX0_bollardTension_r1 ++ wsX0_bollardTension_r2) ++ wsX00)
def wsX0_onBollard_r1 : List Cond := [Cond.methodLink RX0 69 yX0_checkBollard, Cond.instanceMethod yX0_checkBollard, Cond.selects RX0 yX0_checkBollard yX0_checkBollard, Cond.initialized RX0, Cond.code yX0_checkBollard cX0_checkBollard 2 none, Cond.classLink RX0 135 "java/lang/IndexOutOfBoundsException", Cond.initialized "java/lang/IndexOutOfBoundsException", Cond.fieldLink RX0 23 "MoorWatch" "bollardCount" "I", Cond.methodLink RX0 82 yX0_checkHour, Cond.static yX0_checkHour, Cond.code yX0_checkHour cX0_checkHour 1 none, Cond.methodLink RX0 89 yX0_balanceOf, Cond.instanceMethod yX0_balanceOf, Cond.selects RX0 yX0_balanceOf yX0_balanceOf, Cond.code yX0_balanceOf cX0_balanceOf 6 (some .int), Cond.methodLink RX0 152 yJ9_floorDiv_7cf53, Cond.static yJ9_floorDiv_7cf53, Cond.initialized RJ9, Cond.code yJ9_floorDiv_7cf53 cJ9_floorDiv_7cf53 3 (some .int), Cond.methodLink RX0 86 yX0_forceWith, Cond.instanceMethod yX0_forceWith, Cond.selects RX0 yX0_forceWith yX0_forceWith, Cond.code yX0_forceWith cX0_forceWith 5 (some .int), Cond.fieldLink RX0 19 "MoorWatch" "wind" "I"]
def wsX0_onBollard_r2 : List Cond := [Cond.fieldLink RX0 16 "MoorWatch" "passing" "[I", Cond.fieldLink RX0 32 "MoorWatch" "lineCount" "I", Cond.methodLink RX0 149 yX0_pullWith, Cond.instanceMethod yX0_pullWith, Cond.selects RX0 yX0_pullWith yX0_pullWith, Cond.code yX0_pullWith cX0_pullWith 8 (some .int), Cond.fieldLink RX0 38 "MoorWatch" "lineReaches" "[I", Cond.methodLink RX0 146 yX0_heightIn, Cond.instanceMethod yX0_heightIn, Cond.selects RX0 yX0_heightIn yX0_heightIn, Cond.code yX0_heightIn cX0_heightIn 2 (some .int), Cond.fieldLink RX0 9 "MoorWatch" "tides" "[I", Cond.fieldLink RX0 13 "MoorWatch" "loads" "[I", Cond.methodLink RX0 75 yX0_lengthOver, Cond.static yX0_lengthOver, Cond.code yX0_lengthOver cX0_lengthOver 6 (some .int), Cond.methodLink RX0 101 yX0_tensionAtLength, Cond.instanceMethod yX0_tensionAtLength, Cond.selects RX0 yX0_tensionAtLength yX0_tensionAtLength, Cond.code yX0_tensionAtLength cX0_tensionAtLength 3 (some .int), Cond.fieldLink RX0 50 "MoorWatch" "lineFast" "[Z", Cond.fieldLink RX0 41 "MoorWatch" "lineStiffnesses" "[I", Cond.fieldLink RX0 47 "MoorWatch" "lineSets" "[I", Cond.methodLink RX0 113 Lib.Math.max.name]
def wsX0_onBollard_r3 : List Cond := [Cond.static Lib.Math.max.name, Cond.initialized "java/lang/Math", Cond.code Lib.Math.max.name Lib.Math.max.code 2 (some .int), Cond.methodLink RX0 104 yX0_bollardTension, Cond.instanceMethod yX0_bollardTension, Cond.selects RX0 yX0_bollardTension yX0_bollardTension, Cond.code yX0_bollardTension cX0_bollardTension 6 (some .int), Cond.fieldLink RX0 35 "MoorWatch" "lineBollards" "[I", Cond.methodLink RX0 97 yX0_lengthWith, Cond.instanceMethod yX0_lengthWith, Cond.selects RX0 yX0_lengthWith yX0_lengthWith, Cond.code yX0_lengthWith cX0_lengthWith 4 (some .int)]
def wsX0_onBollard : List Cond := .code yX0_onBollard cX0_onBollard 3 (some .int) :: ((wsX0_onBollard_r1 ++ (wsX0_onBollard_r2 ++ wsX0_onBollard_r3)) ++ wsX00 ++ (vx_atS RX0 139 "java/lang/IndexOutOfBoundsException" ["java/lang/RuntimeException", "java/lang/Exception"]).filter goodWord)
def wsX0_linesHold_r1 : List Cond := [Cond.fieldLink RX0 32 "MoorWatch" "lineCount" "I", Cond.fieldLink RX0 44 "MoorWatch" "lineStrengths" "[I", Cond.methodLink RX0 97 yX0_lengthWith, Cond.instanceMethod yX0_lengthWith, Cond.selects RX0 yX0_lengthWith yX0_lengthWith, Cond.initialized RX0, Cond.code yX0_lengthWith cX0_lengthWith 4 (some .int), Cond.fieldLink RX0 38 "MoorWatch" "lineReaches" "[I", Cond.methodLink RX0 146 yX0_heightIn, Cond.instanceMethod yX0_heightIn, Cond.selects RX0 yX0_heightIn yX0_heightIn, Cond.code yX0_heightIn cX0_heightIn 2 (some .int), Cond.fieldLink RX0 9 "MoorWatch" "tides" "[I", Cond.fieldLink RX0 13 "MoorWatch" "loads" "[I", Cond.methodLink RX0 75 yX0_lengthOver, Cond.static yX0_lengthOver, Cond.code yX0_lengthOver cX0_lengthOver 6 (some .int), Cond.methodLink RX0 101 yX0_tensionAtLength, Cond.instanceMethod yX0_tensionAtLength, Cond.selects RX0 yX0_tensionAtLength yX0_tensionAtLength, Cond.code yX0_tensionAtLength cX0_tensionAtLength 3 (some .int), Cond.fieldLink RX0 50 "MoorWatch" "lineFast" "[Z", Cond.fieldLink RX0 41 "MoorWatch" "lineStiffnesses" "[I", Cond.fieldLink RX0 47 "MoorWatch" "lineSets" "[I"]
def wsX0_linesHold_r2 : List Cond := [Cond.methodLink RX0 113 Lib.Math.max.name, Cond.static Lib.Math.max.name, Cond.initialized "java/lang/Math", Cond.code Lib.Math.max.name Lib.Math.max.code 2 (some .int)]
def wsX0_linesHold : List Cond := .code yX0_linesHold cX0_linesHold 5 (some .boolean) :: ((wsX0_linesHold_r1 ++ wsX0_linesHold_r2) ++ wsX00)
def wsX0_bollardsHold_r1 : List Cond := [Cond.fieldLink RX0 23 "MoorWatch" "bollardCount" "I", Cond.fieldLink RX0 29 "MoorWatch" "bollardLimits" "[I", Cond.methodLink RX0 104 yX0_bollardTension, Cond.instanceMethod yX0_bollardTension, Cond.selects RX0 yX0_bollardTension yX0_bollardTension, Cond.initialized RX0, Cond.code yX0_bollardTension cX0_bollardTension 6 (some .int), Cond.fieldLink RX0 32 "MoorWatch" "lineCount" "I", Cond.fieldLink RX0 35 "MoorWatch" "lineBollards" "[I", Cond.methodLink RX0 97 yX0_lengthWith, Cond.instanceMethod yX0_lengthWith, Cond.selects RX0 yX0_lengthWith yX0_lengthWith, Cond.code yX0_lengthWith cX0_lengthWith 4 (some .int), Cond.fieldLink RX0 38 "MoorWatch" "lineReaches" "[I", Cond.methodLink RX0 146 yX0_heightIn, Cond.instanceMethod yX0_heightIn, Cond.selects RX0 yX0_heightIn yX0_heightIn, Cond.code yX0_heightIn cX0_heightIn 2 (some .int), Cond.fieldLink RX0 9 "MoorWatch" "tides" "[I", Cond.fieldLink RX0 13 "MoorWatch" "loads" "[I", Cond.methodLink RX0 75 yX0_lengthOver, Cond.static yX0_lengthOver, Cond.code yX0_lengthOver cX0_lengthOver 6 (some .int), Cond.methodLink RX0 101 yX0_tensionAtLength]
def wsX0_bollardsHold_r2 : List Cond := [Cond.instanceMethod yX0_tensionAtLength, Cond.selects RX0 yX0_tensionAtLength yX0_tensionAtLength, Cond.code yX0_tensionAtLength cX0_tensionAtLength 3 (some .int), Cond.fieldLink RX0 50 "MoorWatch" "lineFast" "[Z", Cond.fieldLink RX0 41 "MoorWatch" "lineStiffnesses" "[I", Cond.fieldLink RX0 47 "MoorWatch" "lineSets" "[I", Cond.methodLink RX0 113 Lib.Math.max.name, Cond.static Lib.Math.max.name, Cond.initialized "java/lang/Math", Cond.code Lib.Math.max.name Lib.Math.max.code 2 (some .int)]
def wsX0_bollardsHold : List Cond := .code yX0_bollardsHold cX0_bollardsHold 4 (some .boolean) :: ((wsX0_bollardsHold_r1 ++ wsX0_bollardsHold_r2) ++ wsX00)
def wsX0_holdsIn_r1 : List Cond := [Cond.methodLink RX0 89 yX0_balanceOf, Cond.instanceMethod yX0_balanceOf, Cond.selects RX0 yX0_balanceOf yX0_balanceOf, Cond.initialized RX0, Cond.code yX0_balanceOf cX0_balanceOf 6 (some .int), Cond.methodLink RX0 152 yJ9_floorDiv_7cf53, Cond.static yJ9_floorDiv_7cf53, Cond.initialized RJ9, Cond.code yJ9_floorDiv_7cf53 cJ9_floorDiv_7cf53 3 (some .int), Cond.methodLink RX0 86 yX0_forceWith, Cond.instanceMethod yX0_forceWith, Cond.selects RX0 yX0_forceWith yX0_forceWith, Cond.code yX0_forceWith cX0_forceWith 5 (some .int), Cond.fieldLink RX0 19 "MoorWatch" "wind" "I", Cond.fieldLink RX0 16 "MoorWatch" "passing" "[I", Cond.fieldLink RX0 32 "MoorWatch" "lineCount" "I", Cond.methodLink RX0 149 yX0_pullWith, Cond.instanceMethod yX0_pullWith, Cond.selects RX0 yX0_pullWith yX0_pullWith, Cond.code yX0_pullWith cX0_pullWith 8 (some .int), Cond.fieldLink RX0 38 "MoorWatch" "lineReaches" "[I", Cond.methodLink RX0 146 yX0_heightIn, Cond.instanceMethod yX0_heightIn, Cond.selects RX0 yX0_heightIn yX0_heightIn]
def wsX0_holdsIn_r2 : List Cond := [Cond.code yX0_heightIn cX0_heightIn 2 (some .int), Cond.fieldLink RX0 9 "MoorWatch" "tides" "[I", Cond.fieldLink RX0 13 "MoorWatch" "loads" "[I", Cond.methodLink RX0 75 yX0_lengthOver, Cond.static yX0_lengthOver, Cond.code yX0_lengthOver cX0_lengthOver 6 (some .int), Cond.methodLink RX0 101 yX0_tensionAtLength, Cond.instanceMethod yX0_tensionAtLength, Cond.selects RX0 yX0_tensionAtLength yX0_tensionAtLength, Cond.code yX0_tensionAtLength cX0_tensionAtLength 3 (some .int), Cond.fieldLink RX0 50 "MoorWatch" "lineFast" "[Z", Cond.fieldLink RX0 41 "MoorWatch" "lineStiffnesses" "[I", Cond.fieldLink RX0 47 "MoorWatch" "lineSets" "[I", Cond.methodLink RX0 113 Lib.Math.max.name, Cond.static Lib.Math.max.name, Cond.initialized "java/lang/Math", Cond.code Lib.Math.max.name Lib.Math.max.code 2 (some .int), Cond.methodLink RX0 93 yX0_driftsWith, Cond.instanceMethod yX0_driftsWith, Cond.selects RX0 yX0_driftsWith yX0_driftsWith, Cond.code yX0_driftsWith cX0_driftsWith 3 (some .boolean), Cond.methodLink RX0 155 yX0_linesHold, Cond.instanceMethod yX0_linesHold, Cond.selects RX0 yX0_linesHold yX0_linesHold]
def wsX0_holdsIn_r3 : List Cond := [Cond.code yX0_linesHold cX0_linesHold 5 (some .boolean), Cond.fieldLink RX0 44 "MoorWatch" "lineStrengths" "[I", Cond.methodLink RX0 97 yX0_lengthWith, Cond.instanceMethod yX0_lengthWith, Cond.selects RX0 yX0_lengthWith yX0_lengthWith, Cond.code yX0_lengthWith cX0_lengthWith 4 (some .int), Cond.methodLink RX0 158 yX0_bollardsHold, Cond.instanceMethod yX0_bollardsHold, Cond.selects RX0 yX0_bollardsHold yX0_bollardsHold, Cond.code yX0_bollardsHold cX0_bollardsHold 4 (some .boolean), Cond.fieldLink RX0 23 "MoorWatch" "bollardCount" "I", Cond.fieldLink RX0 29 "MoorWatch" "bollardLimits" "[I", Cond.methodLink RX0 104 yX0_bollardTension, Cond.instanceMethod yX0_bollardTension, Cond.selects RX0 yX0_bollardTension yX0_bollardTension, Cond.code yX0_bollardTension cX0_bollardTension 6 (some .int), Cond.fieldLink RX0 35 "MoorWatch" "lineBollards" "[I"]
def wsX0_holdsIn : List Cond := .code yX0_holdsIn cX0_holdsIn 3 (some .boolean) :: ((wsX0_holdsIn_r1 ++ (wsX0_holdsIn_r2 ++ wsX0_holdsIn_r3)) ++ wsX00)
def wsX0_isSafe_r1 : List Cond := [Cond.methodLink RX0 82 yX0_checkHour, Cond.static yX0_checkHour, Cond.initialized RX0, Cond.code yX0_checkHour cX0_checkHour 1 none, Cond.classLink RX0 135 "java/lang/IndexOutOfBoundsException", Cond.initialized "java/lang/IndexOutOfBoundsException", Cond.methodLink RX0 107 yX0_holdsIn, Cond.instanceMethod yX0_holdsIn, Cond.selects RX0 yX0_holdsIn yX0_holdsIn, Cond.code yX0_holdsIn cX0_holdsIn 3 (some .boolean), Cond.methodLink RX0 89 yX0_balanceOf, Cond.instanceMethod yX0_balanceOf, Cond.selects RX0 yX0_balanceOf yX0_balanceOf, Cond.code yX0_balanceOf cX0_balanceOf 6 (some .int), Cond.methodLink RX0 152 yJ9_floorDiv_7cf53, Cond.static yJ9_floorDiv_7cf53, Cond.initialized RJ9, Cond.code yJ9_floorDiv_7cf53 cJ9_floorDiv_7cf53 3 (some .int), Cond.methodLink RX0 86 yX0_forceWith, Cond.instanceMethod yX0_forceWith, Cond.selects RX0 yX0_forceWith yX0_forceWith, Cond.code yX0_forceWith cX0_forceWith 5 (some .int), Cond.fieldLink RX0 19 "MoorWatch" "wind" "I", Cond.fieldLink RX0 16 "MoorWatch" "passing" "[I"]
def wsX0_isSafe_r2 : List Cond := [Cond.fieldLink RX0 32 "MoorWatch" "lineCount" "I", Cond.methodLink RX0 149 yX0_pullWith, Cond.instanceMethod yX0_pullWith, Cond.selects RX0 yX0_pullWith yX0_pullWith, Cond.code yX0_pullWith cX0_pullWith 8 (some .int), Cond.fieldLink RX0 38 "MoorWatch" "lineReaches" "[I", Cond.methodLink RX0 146 yX0_heightIn, Cond.instanceMethod yX0_heightIn, Cond.selects RX0 yX0_heightIn yX0_heightIn, Cond.code yX0_heightIn cX0_heightIn 2 (some .int), Cond.fieldLink RX0 9 "MoorWatch" "tides" "[I", Cond.fieldLink RX0 13 "MoorWatch" "loads" "[I", Cond.methodLink RX0 75 yX0_lengthOver, Cond.static yX0_lengthOver, Cond.code yX0_lengthOver cX0_lengthOver 6 (some .int), Cond.methodLink RX0 101 yX0_tensionAtLength, Cond.instanceMethod yX0_tensionAtLength, Cond.selects RX0 yX0_tensionAtLength yX0_tensionAtLength, Cond.code yX0_tensionAtLength cX0_tensionAtLength 3 (some .int), Cond.fieldLink RX0 50 "MoorWatch" "lineFast" "[Z", Cond.fieldLink RX0 41 "MoorWatch" "lineStiffnesses" "[I", Cond.fieldLink RX0 47 "MoorWatch" "lineSets" "[I", Cond.methodLink RX0 113 Lib.Math.max.name, Cond.static Lib.Math.max.name]
def wsX0_isSafe_r3 : List Cond := [Cond.initialized "java/lang/Math", Cond.code Lib.Math.max.name Lib.Math.max.code 2 (some .int), Cond.methodLink RX0 93 yX0_driftsWith, Cond.instanceMethod yX0_driftsWith, Cond.selects RX0 yX0_driftsWith yX0_driftsWith, Cond.code yX0_driftsWith cX0_driftsWith 3 (some .boolean), Cond.methodLink RX0 155 yX0_linesHold, Cond.instanceMethod yX0_linesHold, Cond.selects RX0 yX0_linesHold yX0_linesHold, Cond.code yX0_linesHold cX0_linesHold 5 (some .boolean), Cond.fieldLink RX0 44 "MoorWatch" "lineStrengths" "[I", Cond.methodLink RX0 97 yX0_lengthWith, Cond.instanceMethod yX0_lengthWith, Cond.selects RX0 yX0_lengthWith yX0_lengthWith, Cond.code yX0_lengthWith cX0_lengthWith 4 (some .int), Cond.methodLink RX0 158 yX0_bollardsHold, Cond.instanceMethod yX0_bollardsHold, Cond.selects RX0 yX0_bollardsHold yX0_bollardsHold, Cond.code yX0_bollardsHold cX0_bollardsHold 4 (some .boolean), Cond.fieldLink RX0 23 "MoorWatch" "bollardCount" "I", Cond.fieldLink RX0 29 "MoorWatch" "bollardLimits" "[I", Cond.methodLink RX0 104 yX0_bollardTension, Cond.instanceMethod yX0_bollardTension, Cond.selects RX0 yX0_bollardTension yX0_bollardTension]
def wsX0_isSafe_r4 : List Cond := [Cond.code yX0_bollardTension cX0_bollardTension 6 (some .int), Cond.fieldLink RX0 35 "MoorWatch" "lineBollards" "[I"]
def wsX0_isSafe : List Cond := .code yX0_isSafe cX0_isSafe 2 (some .boolean) :: ((wsX0_isSafe_r1 ++ (wsX0_isSafe_r2 ++ (wsX0_isSafe_r3 ++ wsX0_isSafe_r4))) ++ wsX00 ++ (vx_atS RX0 139 "java/lang/IndexOutOfBoundsException" ["java/lang/RuntimeException", "java/lang/Exception"]).filter goodWord)
def wsX0_firstUnsafe_r1 : List Cond := [Cond.methodLink RX0 82 yX0_checkHour, Cond.static yX0_checkHour, Cond.initialized RX0, Cond.code yX0_checkHour cX0_checkHour 1 none, Cond.classLink RX0 135 "java/lang/IndexOutOfBoundsException", Cond.initialized "java/lang/IndexOutOfBoundsException", Cond.methodLink RX0 107 yX0_holdsIn, Cond.instanceMethod yX0_holdsIn, Cond.selects RX0 yX0_holdsIn yX0_holdsIn, Cond.code yX0_holdsIn cX0_holdsIn 3 (some .boolean), Cond.methodLink RX0 89 yX0_balanceOf, Cond.instanceMethod yX0_balanceOf, Cond.selects RX0 yX0_balanceOf yX0_balanceOf, Cond.code yX0_balanceOf cX0_balanceOf 6 (some .int), Cond.methodLink RX0 152 yJ9_floorDiv_7cf53, Cond.static yJ9_floorDiv_7cf53, Cond.initialized RJ9, Cond.code yJ9_floorDiv_7cf53 cJ9_floorDiv_7cf53 3 (some .int), Cond.methodLink RX0 86 yX0_forceWith, Cond.instanceMethod yX0_forceWith, Cond.selects RX0 yX0_forceWith yX0_forceWith, Cond.code yX0_forceWith cX0_forceWith 5 (some .int), Cond.fieldLink RX0 19 "MoorWatch" "wind" "I", Cond.fieldLink RX0 16 "MoorWatch" "passing" "[I"]
def wsX0_firstUnsafe_r2 : List Cond := [Cond.fieldLink RX0 32 "MoorWatch" "lineCount" "I", Cond.methodLink RX0 149 yX0_pullWith, Cond.instanceMethod yX0_pullWith, Cond.selects RX0 yX0_pullWith yX0_pullWith, Cond.code yX0_pullWith cX0_pullWith 8 (some .int), Cond.fieldLink RX0 38 "MoorWatch" "lineReaches" "[I", Cond.methodLink RX0 146 yX0_heightIn, Cond.instanceMethod yX0_heightIn, Cond.selects RX0 yX0_heightIn yX0_heightIn, Cond.code yX0_heightIn cX0_heightIn 2 (some .int), Cond.fieldLink RX0 9 "MoorWatch" "tides" "[I", Cond.fieldLink RX0 13 "MoorWatch" "loads" "[I", Cond.methodLink RX0 75 yX0_lengthOver, Cond.static yX0_lengthOver, Cond.code yX0_lengthOver cX0_lengthOver 6 (some .int), Cond.methodLink RX0 101 yX0_tensionAtLength, Cond.instanceMethod yX0_tensionAtLength, Cond.selects RX0 yX0_tensionAtLength yX0_tensionAtLength, Cond.code yX0_tensionAtLength cX0_tensionAtLength 3 (some .int), Cond.fieldLink RX0 50 "MoorWatch" "lineFast" "[Z", Cond.fieldLink RX0 41 "MoorWatch" "lineStiffnesses" "[I", Cond.fieldLink RX0 47 "MoorWatch" "lineSets" "[I", Cond.methodLink RX0 113 Lib.Math.max.name, Cond.static Lib.Math.max.name]
def wsX0_firstUnsafe_r3 : List Cond := [Cond.initialized "java/lang/Math", Cond.code Lib.Math.max.name Lib.Math.max.code 2 (some .int), Cond.methodLink RX0 93 yX0_driftsWith, Cond.instanceMethod yX0_driftsWith, Cond.selects RX0 yX0_driftsWith yX0_driftsWith, Cond.code yX0_driftsWith cX0_driftsWith 3 (some .boolean), Cond.methodLink RX0 155 yX0_linesHold, Cond.instanceMethod yX0_linesHold, Cond.selects RX0 yX0_linesHold yX0_linesHold, Cond.code yX0_linesHold cX0_linesHold 5 (some .boolean), Cond.fieldLink RX0 44 "MoorWatch" "lineStrengths" "[I", Cond.methodLink RX0 97 yX0_lengthWith, Cond.instanceMethod yX0_lengthWith, Cond.selects RX0 yX0_lengthWith yX0_lengthWith, Cond.code yX0_lengthWith cX0_lengthWith 4 (some .int), Cond.methodLink RX0 158 yX0_bollardsHold, Cond.instanceMethod yX0_bollardsHold, Cond.selects RX0 yX0_bollardsHold yX0_bollardsHold, Cond.code yX0_bollardsHold cX0_bollardsHold 4 (some .boolean), Cond.fieldLink RX0 23 "MoorWatch" "bollardCount" "I", Cond.fieldLink RX0 29 "MoorWatch" "bollardLimits" "[I", Cond.methodLink RX0 104 yX0_bollardTension, Cond.instanceMethod yX0_bollardTension, Cond.selects RX0 yX0_bollardTension yX0_bollardTension]
def wsX0_firstUnsafe_r4 : List Cond := [Cond.code yX0_bollardTension cX0_bollardTension 6 (some .int), Cond.fieldLink RX0 35 "MoorWatch" "lineBollards" "[I"]
def wsX0_firstUnsafe : List Cond := .code yX0_firstUnsafe cX0_firstUnsafe 3 (some .int) :: ((wsX0_firstUnsafe_r1 ++ (wsX0_firstUnsafe_r2 ++ (wsX0_firstUnsafe_r3 ++ wsX0_firstUnsafe_r4))) ++ wsX00 ++ (vx_atS RX0 139 "java/lang/IndexOutOfBoundsException" ["java/lang/RuntimeException", "java/lang/Exception"]).filter goodWord)
def wsX0_tend_r1 : List Cond := [Cond.classLink RX0 62 "java/lang/IllegalStateException", Cond.initialized "java/lang/IllegalStateException", Cond.fieldLink RX0 50 "MoorWatch" "lineFast" "[Z", Cond.fieldLink RX0 47 "MoorWatch" "lineSets" "[I", Cond.methodLink RX0 113 Lib.Math.max.name, Cond.static Lib.Math.max.name, Cond.initialized "java/lang/Math", Cond.code Lib.Math.max.name Lib.Math.max.code 2 (some .int), Cond.methodLink RX0 79 yX0_checkLine, Cond.instanceMethod yX0_checkLine, Cond.selects RX0 yX0_checkLine yX0_checkLine, Cond.initialized RX0, Cond.code yX0_checkLine cX0_checkLine 2 none, Cond.classLink RX0 135 "java/lang/IndexOutOfBoundsException", Cond.initialized "java/lang/IndexOutOfBoundsException", Cond.fieldLink RX0 32 "MoorWatch" "lineCount" "I", Cond.methodLink RX0 82 yX0_checkHour, Cond.static yX0_checkHour, Cond.code yX0_checkHour cX0_checkHour 1 none, Cond.methodLink RX0 57 yX0_checkRange, Cond.static yX0_checkRange, Cond.code yX0_checkRange cX0_checkRange 3 none, Cond.classLink RX0 121 "java/lang/IllegalArgumentException", Cond.initialized "java/lang/IllegalArgumentException"]
def wsX0_tend_r2 : List Cond := [Cond.methodLink RX0 89 yX0_balanceOf, Cond.instanceMethod yX0_balanceOf, Cond.selects RX0 yX0_balanceOf yX0_balanceOf, Cond.code yX0_balanceOf cX0_balanceOf 6 (some .int), Cond.methodLink RX0 152 yJ9_floorDiv_7cf53, Cond.static yJ9_floorDiv_7cf53, Cond.initialized RJ9, Cond.code yJ9_floorDiv_7cf53 cJ9_floorDiv_7cf53 3 (some .int), Cond.methodLink RX0 86 yX0_forceWith, Cond.instanceMethod yX0_forceWith, Cond.selects RX0 yX0_forceWith yX0_forceWith, Cond.code yX0_forceWith cX0_forceWith 5 (some .int), Cond.fieldLink RX0 19 "MoorWatch" "wind" "I", Cond.fieldLink RX0 16 "MoorWatch" "passing" "[I", Cond.methodLink RX0 149 yX0_pullWith, Cond.instanceMethod yX0_pullWith, Cond.selects RX0 yX0_pullWith yX0_pullWith, Cond.code yX0_pullWith cX0_pullWith 8 (some .int), Cond.fieldLink RX0 38 "MoorWatch" "lineReaches" "[I", Cond.methodLink RX0 146 yX0_heightIn, Cond.instanceMethod yX0_heightIn, Cond.selects RX0 yX0_heightIn yX0_heightIn, Cond.code yX0_heightIn cX0_heightIn 2 (some .int), Cond.fieldLink RX0 9 "MoorWatch" "tides" "[I"]
def wsX0_tend_r3 : List Cond := [Cond.fieldLink RX0 13 "MoorWatch" "loads" "[I", Cond.methodLink RX0 75 yX0_lengthOver, Cond.static yX0_lengthOver, Cond.code yX0_lengthOver cX0_lengthOver 6 (some .int), Cond.methodLink RX0 101 yX0_tensionAtLength, Cond.instanceMethod yX0_tensionAtLength, Cond.selects RX0 yX0_tensionAtLength yX0_tensionAtLength, Cond.code yX0_tensionAtLength cX0_tensionAtLength 3 (some .int), Cond.fieldLink RX0 41 "MoorWatch" "lineStiffnesses" "[I", Cond.methodLink RX0 97 yX0_lengthWith, Cond.instanceMethod yX0_lengthWith, Cond.selects RX0 yX0_lengthWith yX0_lengthWith, Cond.code yX0_lengthWith cX0_lengthWith 4 (some .int)]
def wsX0_tend : List Cond := .code yX0_tend cX0_tend 4 (some .int) :: ((wsX0_tend_r1 ++ (wsX0_tend_r2 ++ wsX0_tend_r3)) ++ wsX00 ++ (vx_atS RX0 66 "java/lang/IllegalStateException" ["java/lang/RuntimeException", "java/lang/Exception"]).filter goodWord ++ (vx_atS RX0 139 "java/lang/IndexOutOfBoundsException" ["java/lang/RuntimeException", "java/lang/Exception"]).filter goodWord ++ (vx_atS RX0 125 "java/lang/IllegalArgumentException" ["java/lang/RuntimeException", "java/lang/Exception"]).filter goodWord)
def wsX0_tendFastLines_r1 : List Cond := [Cond.fieldLink RX0 32 "MoorWatch" "lineCount" "I", Cond.fieldLink RX0 50 "MoorWatch" "lineFast" "[Z", Cond.fieldLink RX0 47 "MoorWatch" "lineSets" "[I", Cond.methodLink RX0 89 yX0_balanceOf, Cond.instanceMethod yX0_balanceOf, Cond.selects RX0 yX0_balanceOf yX0_balanceOf, Cond.initialized RX0, Cond.code yX0_balanceOf cX0_balanceOf 6 (some .int), Cond.methodLink RX0 152 yJ9_floorDiv_7cf53, Cond.static yJ9_floorDiv_7cf53, Cond.initialized RJ9, Cond.code yJ9_floorDiv_7cf53 cJ9_floorDiv_7cf53 3 (some .int), Cond.methodLink RX0 86 yX0_forceWith, Cond.instanceMethod yX0_forceWith, Cond.selects RX0 yX0_forceWith yX0_forceWith, Cond.code yX0_forceWith cX0_forceWith 5 (some .int), Cond.fieldLink RX0 19 "MoorWatch" "wind" "I", Cond.fieldLink RX0 16 "MoorWatch" "passing" "[I", Cond.methodLink RX0 149 yX0_pullWith, Cond.instanceMethod yX0_pullWith, Cond.selects RX0 yX0_pullWith yX0_pullWith, Cond.code yX0_pullWith cX0_pullWith 8 (some .int), Cond.fieldLink RX0 38 "MoorWatch" "lineReaches" "[I", Cond.methodLink RX0 146 yX0_heightIn]
def wsX0_tendFastLines_r2 : List Cond := [Cond.instanceMethod yX0_heightIn, Cond.selects RX0 yX0_heightIn yX0_heightIn, Cond.code yX0_heightIn cX0_heightIn 2 (some .int), Cond.fieldLink RX0 9 "MoorWatch" "tides" "[I", Cond.fieldLink RX0 13 "MoorWatch" "loads" "[I", Cond.methodLink RX0 75 yX0_lengthOver, Cond.static yX0_lengthOver, Cond.code yX0_lengthOver cX0_lengthOver 6 (some .int), Cond.methodLink RX0 101 yX0_tensionAtLength, Cond.instanceMethod yX0_tensionAtLength, Cond.selects RX0 yX0_tensionAtLength yX0_tensionAtLength, Cond.code yX0_tensionAtLength cX0_tensionAtLength 3 (some .int), Cond.fieldLink RX0 41 "MoorWatch" "lineStiffnesses" "[I", Cond.methodLink RX0 113 Lib.Math.max.name, Cond.static Lib.Math.max.name, Cond.initialized "java/lang/Math", Cond.code Lib.Math.max.name Lib.Math.max.code 2 (some .int), Cond.methodLink RX0 97 yX0_lengthWith, Cond.instanceMethod yX0_lengthWith, Cond.selects RX0 yX0_lengthWith yX0_lengthWith, Cond.code yX0_lengthWith cX0_lengthWith 4 (some .int)]
def wsX0_tendFastLines : List Cond := .code yX0_tendFastLines cX0_tendFastLines 6 (some .int) :: ((wsX0_tendFastLines_r1 ++ wsX0_tendFastLines_r2) ++ wsX00)
def wsX0_tendAll_r1 : List Cond := [Cond.methodLink RX0 82 yX0_checkHour, Cond.static yX0_checkHour, Cond.initialized RX0, Cond.code yX0_checkHour cX0_checkHour 1 none, Cond.classLink RX0 135 "java/lang/IndexOutOfBoundsException", Cond.initialized "java/lang/IndexOutOfBoundsException", Cond.methodLink RX0 118 yX0_tendFastLines, Cond.instanceMethod yX0_tendFastLines, Cond.selects RX0 yX0_tendFastLines yX0_tendFastLines, Cond.code yX0_tendFastLines cX0_tendFastLines 6 (some .int), Cond.fieldLink RX0 32 "MoorWatch" "lineCount" "I", Cond.fieldLink RX0 50 "MoorWatch" "lineFast" "[Z", Cond.fieldLink RX0 47 "MoorWatch" "lineSets" "[I", Cond.methodLink RX0 89 yX0_balanceOf, Cond.instanceMethod yX0_balanceOf, Cond.selects RX0 yX0_balanceOf yX0_balanceOf, Cond.code yX0_balanceOf cX0_balanceOf 6 (some .int), Cond.methodLink RX0 152 yJ9_floorDiv_7cf53, Cond.static yJ9_floorDiv_7cf53, Cond.initialized RJ9, Cond.code yJ9_floorDiv_7cf53 cJ9_floorDiv_7cf53 3 (some .int), Cond.methodLink RX0 86 yX0_forceWith, Cond.instanceMethod yX0_forceWith, Cond.selects RX0 yX0_forceWith yX0_forceWith]
def wsX0_tendAll_r2 : List Cond := [Cond.code yX0_forceWith cX0_forceWith 5 (some .int), Cond.fieldLink RX0 19 "MoorWatch" "wind" "I", Cond.fieldLink RX0 16 "MoorWatch" "passing" "[I", Cond.methodLink RX0 149 yX0_pullWith, Cond.instanceMethod yX0_pullWith, Cond.selects RX0 yX0_pullWith yX0_pullWith, Cond.code yX0_pullWith cX0_pullWith 8 (some .int), Cond.fieldLink RX0 38 "MoorWatch" "lineReaches" "[I", Cond.methodLink RX0 146 yX0_heightIn, Cond.instanceMethod yX0_heightIn, Cond.selects RX0 yX0_heightIn yX0_heightIn, Cond.code yX0_heightIn cX0_heightIn 2 (some .int), Cond.fieldLink RX0 9 "MoorWatch" "tides" "[I", Cond.fieldLink RX0 13 "MoorWatch" "loads" "[I", Cond.methodLink RX0 75 yX0_lengthOver, Cond.static yX0_lengthOver, Cond.code yX0_lengthOver cX0_lengthOver 6 (some .int), Cond.methodLink RX0 101 yX0_tensionAtLength, Cond.instanceMethod yX0_tensionAtLength, Cond.selects RX0 yX0_tensionAtLength yX0_tensionAtLength, Cond.code yX0_tensionAtLength cX0_tensionAtLength 3 (some .int), Cond.fieldLink RX0 41 "MoorWatch" "lineStiffnesses" "[I", Cond.methodLink RX0 113 Lib.Math.max.name, Cond.static Lib.Math.max.name]
def wsX0_tendAll_r3 : List Cond := [Cond.initialized "java/lang/Math", Cond.code Lib.Math.max.name Lib.Math.max.code 2 (some .int), Cond.methodLink RX0 97 yX0_lengthWith, Cond.instanceMethod yX0_lengthWith, Cond.selects RX0 yX0_lengthWith yX0_lengthWith, Cond.code yX0_lengthWith cX0_lengthWith 4 (some .int)]
def wsX0_tendAll : List Cond := .code yX0_tendAll cX0_tendAll 2 (some .int) :: ((wsX0_tendAll_r1 ++ (wsX0_tendAll_r2 ++ wsX0_tendAll_r3)) ++ wsX00 ++ (vx_atS RX0 139 "java/lang/IndexOutOfBoundsException" ["java/lang/RuntimeException", "java/lang/Exception"]).filter goodWord)
def wsX0_tendThrough_r1 : List Cond := [Cond.methodLink RX0 107 yX0_holdsIn, Cond.instanceMethod yX0_holdsIn, Cond.selects RX0 yX0_holdsIn yX0_holdsIn, Cond.initialized RX0, Cond.code yX0_holdsIn cX0_holdsIn 3 (some .boolean), Cond.methodLink RX0 89 yX0_balanceOf, Cond.instanceMethod yX0_balanceOf, Cond.selects RX0 yX0_balanceOf yX0_balanceOf, Cond.code yX0_balanceOf cX0_balanceOf 6 (some .int), Cond.methodLink RX0 152 yJ9_floorDiv_7cf53, Cond.static yJ9_floorDiv_7cf53, Cond.initialized RJ9, Cond.code yJ9_floorDiv_7cf53 cJ9_floorDiv_7cf53 3 (some .int), Cond.methodLink RX0 86 yX0_forceWith, Cond.instanceMethod yX0_forceWith, Cond.selects RX0 yX0_forceWith yX0_forceWith, Cond.code yX0_forceWith cX0_forceWith 5 (some .int), Cond.fieldLink RX0 19 "MoorWatch" "wind" "I", Cond.fieldLink RX0 16 "MoorWatch" "passing" "[I", Cond.fieldLink RX0 32 "MoorWatch" "lineCount" "I", Cond.methodLink RX0 149 yX0_pullWith, Cond.instanceMethod yX0_pullWith, Cond.selects RX0 yX0_pullWith yX0_pullWith, Cond.code yX0_pullWith cX0_pullWith 8 (some .int)]
def wsX0_tendThrough_r2 : List Cond := [Cond.fieldLink RX0 38 "MoorWatch" "lineReaches" "[I", Cond.methodLink RX0 146 yX0_heightIn, Cond.instanceMethod yX0_heightIn, Cond.selects RX0 yX0_heightIn yX0_heightIn, Cond.code yX0_heightIn cX0_heightIn 2 (some .int), Cond.fieldLink RX0 9 "MoorWatch" "tides" "[I", Cond.fieldLink RX0 13 "MoorWatch" "loads" "[I", Cond.methodLink RX0 75 yX0_lengthOver, Cond.static yX0_lengthOver, Cond.code yX0_lengthOver cX0_lengthOver 6 (some .int), Cond.methodLink RX0 101 yX0_tensionAtLength, Cond.instanceMethod yX0_tensionAtLength, Cond.selects RX0 yX0_tensionAtLength yX0_tensionAtLength, Cond.code yX0_tensionAtLength cX0_tensionAtLength 3 (some .int), Cond.fieldLink RX0 50 "MoorWatch" "lineFast" "[Z", Cond.fieldLink RX0 41 "MoorWatch" "lineStiffnesses" "[I", Cond.fieldLink RX0 47 "MoorWatch" "lineSets" "[I", Cond.methodLink RX0 113 Lib.Math.max.name, Cond.static Lib.Math.max.name, Cond.initialized "java/lang/Math", Cond.code Lib.Math.max.name Lib.Math.max.code 2 (some .int), Cond.methodLink RX0 93 yX0_driftsWith, Cond.instanceMethod yX0_driftsWith, Cond.selects RX0 yX0_driftsWith yX0_driftsWith]
def wsX0_tendThrough_r3 : List Cond := [Cond.code yX0_driftsWith cX0_driftsWith 3 (some .boolean), Cond.methodLink RX0 155 yX0_linesHold, Cond.instanceMethod yX0_linesHold, Cond.selects RX0 yX0_linesHold yX0_linesHold, Cond.code yX0_linesHold cX0_linesHold 5 (some .boolean), Cond.fieldLink RX0 44 "MoorWatch" "lineStrengths" "[I", Cond.methodLink RX0 97 yX0_lengthWith, Cond.instanceMethod yX0_lengthWith, Cond.selects RX0 yX0_lengthWith yX0_lengthWith, Cond.code yX0_lengthWith cX0_lengthWith 4 (some .int), Cond.methodLink RX0 158 yX0_bollardsHold, Cond.instanceMethod yX0_bollardsHold, Cond.selects RX0 yX0_bollardsHold yX0_bollardsHold, Cond.code yX0_bollardsHold cX0_bollardsHold 4 (some .boolean), Cond.fieldLink RX0 23 "MoorWatch" "bollardCount" "I", Cond.fieldLink RX0 29 "MoorWatch" "bollardLimits" "[I", Cond.methodLink RX0 104 yX0_bollardTension, Cond.instanceMethod yX0_bollardTension, Cond.selects RX0 yX0_bollardTension yX0_bollardTension, Cond.code yX0_bollardTension cX0_bollardTension 6 (some .int), Cond.fieldLink RX0 35 "MoorWatch" "lineBollards" "[I", Cond.methodLink RX0 118 yX0_tendFastLines, Cond.instanceMethod yX0_tendFastLines, Cond.selects RX0 yX0_tendFastLines yX0_tendFastLines]
def wsX0_tendThrough_r4 : List Cond := [Cond.code yX0_tendFastLines cX0_tendFastLines 6 (some .int)]
def wsX0_tendThrough : List Cond := .code yX0_tendThrough cX0_tendThrough 5 (some .int) :: ((wsX0_tendThrough_r1 ++ (wsX0_tendThrough_r2 ++ (wsX0_tendThrough_r3 ++ wsX0_tendThrough_r4))) ++ wsX00)
def wsX0_plan_r1 : List Cond := [Cond.classLink RX0 121 "java/lang/IllegalArgumentException", Cond.initialized "java/lang/IllegalArgumentException", Cond.fieldLink RX0 47 "MoorWatch" "lineSets" "[I", Cond.fieldLink RX0 54 "MoorWatch" "setsBeforePlan" "[I", Cond.methodLink RX0 126 arraycopyName, Cond.native arraycopyName, Cond.static arraycopyName, Cond.initialized "java/lang/System", Cond.methodLink RX0 82 yX0_checkHour, Cond.static yX0_checkHour, Cond.initialized RX0, Cond.code yX0_checkHour cX0_checkHour 1 none, Cond.classLink RX0 135 "java/lang/IndexOutOfBoundsException", Cond.initialized "java/lang/IndexOutOfBoundsException", Cond.methodLink RX0 132 yX0_tendThrough, Cond.instanceMethod yX0_tendThrough, Cond.selects RX0 yX0_tendThrough yX0_tendThrough, Cond.code yX0_tendThrough cX0_tendThrough 5 (some .int), Cond.methodLink RX0 107 yX0_holdsIn, Cond.instanceMethod yX0_holdsIn, Cond.selects RX0 yX0_holdsIn yX0_holdsIn, Cond.code yX0_holdsIn cX0_holdsIn 3 (some .boolean), Cond.methodLink RX0 89 yX0_balanceOf, Cond.instanceMethod yX0_balanceOf]
def wsX0_plan_r2 : List Cond := [Cond.selects RX0 yX0_balanceOf yX0_balanceOf, Cond.code yX0_balanceOf cX0_balanceOf 6 (some .int), Cond.methodLink RX0 152 yJ9_floorDiv_7cf53, Cond.static yJ9_floorDiv_7cf53, Cond.initialized RJ9, Cond.code yJ9_floorDiv_7cf53 cJ9_floorDiv_7cf53 3 (some .int), Cond.methodLink RX0 86 yX0_forceWith, Cond.instanceMethod yX0_forceWith, Cond.selects RX0 yX0_forceWith yX0_forceWith, Cond.code yX0_forceWith cX0_forceWith 5 (some .int), Cond.fieldLink RX0 19 "MoorWatch" "wind" "I", Cond.fieldLink RX0 16 "MoorWatch" "passing" "[I", Cond.fieldLink RX0 32 "MoorWatch" "lineCount" "I", Cond.methodLink RX0 149 yX0_pullWith, Cond.instanceMethod yX0_pullWith, Cond.selects RX0 yX0_pullWith yX0_pullWith, Cond.code yX0_pullWith cX0_pullWith 8 (some .int), Cond.fieldLink RX0 38 "MoorWatch" "lineReaches" "[I", Cond.methodLink RX0 146 yX0_heightIn, Cond.instanceMethod yX0_heightIn, Cond.selects RX0 yX0_heightIn yX0_heightIn, Cond.code yX0_heightIn cX0_heightIn 2 (some .int), Cond.fieldLink RX0 9 "MoorWatch" "tides" "[I", Cond.fieldLink RX0 13 "MoorWatch" "loads" "[I"]
def wsX0_plan_r3 : List Cond := [Cond.methodLink RX0 75 yX0_lengthOver, Cond.static yX0_lengthOver, Cond.code yX0_lengthOver cX0_lengthOver 6 (some .int), Cond.methodLink RX0 101 yX0_tensionAtLength, Cond.instanceMethod yX0_tensionAtLength, Cond.selects RX0 yX0_tensionAtLength yX0_tensionAtLength, Cond.code yX0_tensionAtLength cX0_tensionAtLength 3 (some .int), Cond.fieldLink RX0 50 "MoorWatch" "lineFast" "[Z", Cond.fieldLink RX0 41 "MoorWatch" "lineStiffnesses" "[I", Cond.methodLink RX0 113 Lib.Math.max.name, Cond.static Lib.Math.max.name, Cond.initialized "java/lang/Math", Cond.code Lib.Math.max.name Lib.Math.max.code 2 (some .int), Cond.methodLink RX0 93 yX0_driftsWith, Cond.instanceMethod yX0_driftsWith, Cond.selects RX0 yX0_driftsWith yX0_driftsWith, Cond.code yX0_driftsWith cX0_driftsWith 3 (some .boolean), Cond.methodLink RX0 155 yX0_linesHold, Cond.instanceMethod yX0_linesHold, Cond.selects RX0 yX0_linesHold yX0_linesHold, Cond.code yX0_linesHold cX0_linesHold 5 (some .boolean), Cond.fieldLink RX0 44 "MoorWatch" "lineStrengths" "[I", Cond.methodLink RX0 97 yX0_lengthWith, Cond.instanceMethod yX0_lengthWith]
def wsX0_plan_r4 : List Cond := [Cond.selects RX0 yX0_lengthWith yX0_lengthWith, Cond.code yX0_lengthWith cX0_lengthWith 4 (some .int), Cond.methodLink RX0 158 yX0_bollardsHold, Cond.instanceMethod yX0_bollardsHold, Cond.selects RX0 yX0_bollardsHold yX0_bollardsHold, Cond.code yX0_bollardsHold cX0_bollardsHold 4 (some .boolean), Cond.fieldLink RX0 23 "MoorWatch" "bollardCount" "I", Cond.fieldLink RX0 29 "MoorWatch" "bollardLimits" "[I", Cond.methodLink RX0 104 yX0_bollardTension, Cond.instanceMethod yX0_bollardTension, Cond.selects RX0 yX0_bollardTension yX0_bollardTension, Cond.code yX0_bollardTension cX0_bollardTension 6 (some .int), Cond.fieldLink RX0 35 "MoorWatch" "lineBollards" "[I", Cond.methodLink RX0 118 yX0_tendFastLines, Cond.instanceMethod yX0_tendFastLines, Cond.selects RX0 yX0_tendFastLines yX0_tendFastLines, Cond.code yX0_tendFastLines cX0_tendFastLines 6 (some .int)]
def wsX0_plan : List Cond := .code yX0_plan cX0_plan 4 (some .int) :: ((wsX0_plan_r1 ++ (wsX0_plan_r2 ++ (wsX0_plan_r3 ++ wsX0_plan_r4))) ++ wsX00 ++ (vx_atS RX0 125 "java/lang/IllegalArgumentException" ["java/lang/RuntimeException", "java/lang/Exception"]).filter goodWord ++ (vx_atS RX0 139 "java/lang/IndexOutOfBoundsException" ["java/lang/RuntimeException", "java/lang/Exception"]).filter goodWord)
def wsJ9_max_7cf53 : List Cond := .code yJ9_max_7cf53 cJ9_max_7cf53 2 (some .int) :: ([])
def wsL_from : List Cond := .code yL_from cL_from 4 (some .int) :: ([.constant RL 7 (203233), .constant RL 8 (2147483647)])
def wsL_root : List Cond := .code yL_root cL_root 6 (some .int) :: ([.constantLong RL 9 (16384), .constantLong RL 11 (2)])
def wsL_away : List Cond := .code yL_away cL_away 4 (some .int) :: ([])
def wsL_length : List Cond := .code yL_length cL_length 7 (some .int) :: ([.methodLink RL 13 yL_away, .static yL_away, .initialized RL, .code yL_away cL_away 4 (some .int), .methodLink RL 19 yL_root, .static yL_root, .code yL_root cL_root 6 (some .int), .constantLong RL 9 (16384), .constantLong RL 11 (2)])
def wsL_tension : List Cond := .code yL_tension cL_tension 6 (some .int) :: ([.methodLink RL 23 yL_length, .static yL_length, .initialized RL, .code yL_length cL_length 7 (some .int), .methodLink RL 13 yL_away, .static yL_away, .code yL_away cL_away 4 (some .int), .methodLink RL 19 yL_root, .static yL_root, .code yL_root cL_root 6 (some .int), .constantLong RL 9 (16384), .constantLong RL 11 (2)])
def wsL_force : List Cond := .code yL_force cL_force 15 (some .int) :: ([.methodLink RL 23 yL_length, .static yL_length, .initialized RL, .code yL_length cL_length 7 (some .int), .methodLink RL 13 yL_away, .static yL_away, .code yL_away cL_away 4 (some .int), .methodLink RL 19 yL_root, .static yL_root, .code yL_root cL_root 6 (some .int), .constantLong RL 9 (16384), .constantLong RL 11 (2), .methodLink RL 27 yL_tension, .static yL_tension, .code yL_tension cL_tension 6 (some .int)])
def wsL_shift : List Cond := .code yL_shift cL_shift 9 (some .int) :: ([.methodLink RL 30 yL_force, .static yL_force, .initialized RL, .code yL_force cL_force 15 (some .int), .methodLink RL 23 yL_length, .static yL_length, .code yL_length cL_length 7 (some .int), .methodLink RL 13 yL_away, .static yL_away, .code yL_away cL_away 4 (some .int), .methodLink RL 19 yL_root, .static yL_root, .code yL_root cL_root 6 (some .int), .constantLong RL 9 (16384), .constantLong RL 11 (2), .methodLink RL 27 yL_tension, .static yL_tension, .code yL_tension cL_tension 6 (some .int)])
def wsL_isAdrift : List Cond := .code yL_isAdrift cL_isAdrift 7 (some .boolean) :: ([.methodLink RL 34 yL_shift, .static yL_shift, .initialized RL, .code yL_shift cL_shift 9 (some .int), .methodLink RL 30 yL_force, .static yL_force, .code yL_force cL_force 15 (some .int), .methodLink RL 23 yL_length, .static yL_length, .code yL_length cL_length 7 (some .int), .methodLink RL 13 yL_away, .static yL_away, .code yL_away cL_away 4 (some .int), .methodLink RL 19 yL_root, .static yL_root, .code yL_root cL_root 6 (some .int), .constantLong RL 9 (16384), .constantLong RL 11 (2), .methodLink RL 27 yL_tension, .static yL_tension, .code yL_tension cL_tension 6 (some .int)])
def wsL_onBollard : List Cond := .code yL_onBollard cL_onBollard 8 (some .int) :: ([.methodLink RL 27 yL_tension, .static yL_tension, .initialized RL, .code yL_tension cL_tension 6 (some .int), .methodLink RL 23 yL_length, .static yL_length, .code yL_length cL_length 7 (some .int), .methodLink RL 13 yL_away, .static yL_away, .code yL_away cL_away 4 (some .int), .methodLink RL 19 yL_root, .static yL_root, .code yL_root cL_root 6 (some .int), .constantLong RL 9 (16384), .constantLong RL 11 (2)])
def wsL_isSafe_r1 : List Cond := [Cond.constantLong RL 42 (20), Cond.constantLong RL 44 (11), Cond.methodLink RL 34 yL_shift, Cond.static yL_shift, Cond.initialized RL, Cond.code yL_shift cL_shift 9 (some .int), Cond.methodLink RL 30 yL_force, Cond.static yL_force, Cond.code yL_force cL_force 15 (some .int), Cond.methodLink RL 23 yL_length, Cond.static yL_length, Cond.code yL_length cL_length 7 (some .int), Cond.methodLink RL 13 yL_away, Cond.static yL_away, Cond.code yL_away cL_away 4 (some .int), Cond.methodLink RL 19 yL_root, Cond.static yL_root, Cond.code yL_root cL_root 6 (some .int), Cond.constantLong RL 9 (16384), Cond.constantLong RL 11 (2), Cond.methodLink RL 27 yL_tension, Cond.static yL_tension, Cond.code yL_tension cL_tension 6 (some .int), Cond.methodLink RL 38 yL_isAdrift]
def wsL_isSafe_r2 : List Cond := [Cond.static yL_isAdrift, Cond.code yL_isAdrift cL_isAdrift 7 (some .boolean), Cond.methodLink RL 46 yL_onBollard, Cond.static yL_onBollard, Cond.code yL_onBollard cL_onBollard 8 (some .int)]
def wsL_isSafe : List Cond := .code yL_isSafe cL_isSafe 8 (some .boolean) :: ((wsL_isSafe_r1 ++ wsL_isSafe_r2))
def wsL_tended : List Cond := .code yL_tended cL_tended 10 (some .int) :: ([.arrayClass .int, .methodLink RL 34 yL_shift, .static yL_shift, .initialized RL, .code yL_shift cL_shift 9 (some .int), .methodLink RL 30 yL_force, .static yL_force, .code yL_force cL_force 15 (some .int), .methodLink RL 23 yL_length, .static yL_length, .code yL_length cL_length 7 (some .int), .methodLink RL 13 yL_away, .static yL_away, .code yL_away cL_away 4 (some .int), .methodLink RL 19 yL_root, .static yL_root, .code yL_root cL_root 6 (some .int), .constantLong RL 9 (16384), .constantLong RL 11 (2), .methodLink RL 27 yL_tension, .static yL_tension, .code yL_tension cL_tension 6 (some .int)])
def wsL_plan_r1 : List Cond := [Cond.arrayClass .int, Cond.methodLink RL 49 yL_isSafe, Cond.static yL_isSafe, Cond.initialized RL, Cond.code yL_isSafe cL_isSafe 8 (some .boolean), Cond.constantLong RL 42 (20), Cond.constantLong RL 44 (11), Cond.methodLink RL 34 yL_shift, Cond.static yL_shift, Cond.code yL_shift cL_shift 9 (some .int), Cond.methodLink RL 30 yL_force, Cond.static yL_force, Cond.code yL_force cL_force 15 (some .int), Cond.methodLink RL 23 yL_length, Cond.static yL_length, Cond.code yL_length cL_length 7 (some .int), Cond.methodLink RL 13 yL_away, Cond.static yL_away, Cond.code yL_away cL_away 4 (some .int), Cond.methodLink RL 19 yL_root, Cond.static yL_root, Cond.code yL_root cL_root 6 (some .int), Cond.constantLong RL 9 (16384), Cond.constantLong RL 11 (2)]
def wsL_plan_r2 : List Cond := [Cond.methodLink RL 27 yL_tension, Cond.static yL_tension, Cond.code yL_tension cL_tension 6 (some .int), Cond.methodLink RL 38 yL_isAdrift, Cond.static yL_isAdrift, Cond.code yL_isAdrift cL_isAdrift 7 (some .boolean), Cond.methodLink RL 46 yL_onBollard, Cond.static yL_onBollard, Cond.code yL_onBollard cL_onBollard 8 (some .int), Cond.methodLink RL 52 yL_tended, Cond.static yL_tended, Cond.code yL_tended cL_tended 10 (some .int)]
def wsL_plan : List Cond := .code yL_plan cL_plan 12 (some .int) :: ((wsL_plan_r1 ++ wsL_plan_r2))
def wsL_isTold_r1 : List Cond := [Cond.methodLink RL 34 yL_shift, Cond.static yL_shift, Cond.initialized RL, Cond.code yL_shift cL_shift 9 (some .int), Cond.methodLink RL 30 yL_force, Cond.static yL_force, Cond.code yL_force cL_force 15 (some .int), Cond.methodLink RL 23 yL_length, Cond.static yL_length, Cond.code yL_length cL_length 7 (some .int), Cond.methodLink RL 13 yL_away, Cond.static yL_away, Cond.code yL_away cL_away 4 (some .int), Cond.methodLink RL 19 yL_root, Cond.static yL_root, Cond.code yL_root cL_root 6 (some .int), Cond.constantLong RL 9 (16384), Cond.constantLong RL 11 (2), Cond.methodLink RL 27 yL_tension, Cond.static yL_tension, Cond.code yL_tension cL_tension 6 (some .int), Cond.methodLink RL 55 yX0_shift, Cond.instanceMethod yX0_shift, Cond.selects RX0 yX0_shift yX0_shift]
def wsL_isTold_r2 : List Cond := [Cond.initialized RX0, Cond.code yX0_shift cX0_shift 2 (some .int), Cond.methodLink RX0 82 yX0_checkHour, Cond.static yX0_checkHour, Cond.code yX0_checkHour cX0_checkHour 1 none, Cond.classLink RX0 135 "java/lang/IndexOutOfBoundsException", Cond.initialized "java/lang/IndexOutOfBoundsException", Cond.methodLink RX0 89 yX0_balanceOf, Cond.instanceMethod yX0_balanceOf, Cond.selects RX0 yX0_balanceOf yX0_balanceOf, Cond.code yX0_balanceOf cX0_balanceOf 6 (some .int), Cond.methodLink RX0 152 yJ9_floorDiv_7cf53, Cond.static yJ9_floorDiv_7cf53, Cond.initialized RJ9, Cond.code yJ9_floorDiv_7cf53 cJ9_floorDiv_7cf53 3 (some .int), Cond.methodLink RX0 86 yX0_forceWith, Cond.instanceMethod yX0_forceWith, Cond.selects RX0 yX0_forceWith yX0_forceWith, Cond.code yX0_forceWith cX0_forceWith 5 (some .int), Cond.fieldLink RX0 19 "MoorWatch" "wind" "I", Cond.fieldLink RX0 16 "MoorWatch" "passing" "[I", Cond.fieldLink RX0 32 "MoorWatch" "lineCount" "I", Cond.methodLink RX0 149 yX0_pullWith, Cond.instanceMethod yX0_pullWith]
def wsL_isTold_r3 : List Cond := [Cond.selects RX0 yX0_pullWith yX0_pullWith, Cond.code yX0_pullWith cX0_pullWith 8 (some .int), Cond.fieldLink RX0 38 "MoorWatch" "lineReaches" "[I", Cond.methodLink RX0 146 yX0_heightIn, Cond.instanceMethod yX0_heightIn, Cond.selects RX0 yX0_heightIn yX0_heightIn, Cond.code yX0_heightIn cX0_heightIn 2 (some .int), Cond.fieldLink RX0 9 "MoorWatch" "tides" "[I", Cond.fieldLink RX0 13 "MoorWatch" "loads" "[I", Cond.methodLink RX0 75 yX0_lengthOver, Cond.static yX0_lengthOver, Cond.code yX0_lengthOver cX0_lengthOver 6 (some .int), Cond.methodLink RX0 101 yX0_tensionAtLength, Cond.instanceMethod yX0_tensionAtLength, Cond.selects RX0 yX0_tensionAtLength yX0_tensionAtLength, Cond.code yX0_tensionAtLength cX0_tensionAtLength 3 (some .int), Cond.fieldLink RX0 50 "MoorWatch" "lineFast" "[Z", Cond.fieldLink RX0 41 "MoorWatch" "lineStiffnesses" "[I", Cond.fieldLink RX0 47 "MoorWatch" "lineSets" "[I", Cond.methodLink RX0 113 Lib.Math.max.name, Cond.static Lib.Math.max.name, Cond.initialized "java/lang/Math", Cond.code Lib.Math.max.name Lib.Math.max.code 2 (some .int), Cond.methodLink RL 60 yX0_isAdrift]
def wsL_isTold_r4 : List Cond := [Cond.instanceMethod yX0_isAdrift, Cond.selects RX0 yX0_isAdrift yX0_isAdrift, Cond.code yX0_isAdrift cX0_isAdrift 2 (some .boolean), Cond.methodLink RX0 93 yX0_driftsWith, Cond.instanceMethod yX0_driftsWith, Cond.selects RX0 yX0_driftsWith yX0_driftsWith, Cond.code yX0_driftsWith cX0_driftsWith 3 (some .boolean), Cond.methodLink RL 38 yL_isAdrift, Cond.static yL_isAdrift, Cond.code yL_isAdrift cL_isAdrift 7 (some .boolean), Cond.methodLink RL 63 yX0_isSafe, Cond.instanceMethod yX0_isSafe, Cond.selects RX0 yX0_isSafe yX0_isSafe, Cond.code yX0_isSafe cX0_isSafe 2 (some .boolean), Cond.methodLink RX0 107 yX0_holdsIn, Cond.instanceMethod yX0_holdsIn, Cond.selects RX0 yX0_holdsIn yX0_holdsIn, Cond.code yX0_holdsIn cX0_holdsIn 3 (some .boolean), Cond.methodLink RX0 155 yX0_linesHold, Cond.instanceMethod yX0_linesHold, Cond.selects RX0 yX0_linesHold yX0_linesHold, Cond.code yX0_linesHold cX0_linesHold 5 (some .boolean), Cond.fieldLink RX0 44 "MoorWatch" "lineStrengths" "[I", Cond.methodLink RX0 97 yX0_lengthWith]
def wsL_isTold_r5 : List Cond := [Cond.instanceMethod yX0_lengthWith, Cond.selects RX0 yX0_lengthWith yX0_lengthWith, Cond.code yX0_lengthWith cX0_lengthWith 4 (some .int), Cond.methodLink RX0 158 yX0_bollardsHold, Cond.instanceMethod yX0_bollardsHold, Cond.selects RX0 yX0_bollardsHold yX0_bollardsHold, Cond.code yX0_bollardsHold cX0_bollardsHold 4 (some .boolean), Cond.fieldLink RX0 23 "MoorWatch" "bollardCount" "I", Cond.fieldLink RX0 29 "MoorWatch" "bollardLimits" "[I", Cond.methodLink RX0 104 yX0_bollardTension, Cond.instanceMethod yX0_bollardTension, Cond.selects RX0 yX0_bollardTension yX0_bollardTension, Cond.code yX0_bollardTension cX0_bollardTension 6 (some .int), Cond.fieldLink RX0 35 "MoorWatch" "lineBollards" "[I", Cond.methodLink RL 49 yL_isSafe, Cond.static yL_isSafe, Cond.code yL_isSafe cL_isSafe 8 (some .boolean), Cond.constantLong RL 42 (20), Cond.constantLong RL 44 (11), Cond.methodLink RL 46 yL_onBollard, Cond.static yL_onBollard, Cond.code yL_onBollard cL_onBollard 8 (some .int), Cond.methodLink RL 65 yX0_force, Cond.instanceMethod yX0_force]
def wsL_isTold_r6 : List Cond := [Cond.selects RX0 yX0_force yX0_force, Cond.code yX0_force cX0_force 3 (some .int), Cond.methodLink RX0 57 yX0_checkRange, Cond.static yX0_checkRange, Cond.code yX0_checkRange cX0_checkRange 3 none, Cond.classLink RX0 121 "java/lang/IllegalArgumentException", Cond.initialized "java/lang/IllegalArgumentException", Cond.methodLink RL 68 yX0_length, Cond.instanceMethod yX0_length, Cond.selects RX0 yX0_length yX0_length, Cond.code yX0_length cX0_length 3 (some .int), Cond.methodLink RX0 79 yX0_checkLine, Cond.instanceMethod yX0_checkLine, Cond.selects RX0 yX0_checkLine yX0_checkLine, Cond.code yX0_checkLine cX0_checkLine 2 none, Cond.methodLink RL 70 yX0_tension, Cond.instanceMethod yX0_tension, Cond.selects RX0 yX0_tension yX0_tension, Cond.code yX0_tension cX0_tension 3 (some .int), Cond.methodLink RL 72 yX0_onBollard, Cond.instanceMethod yX0_onBollard, Cond.selects RX0 yX0_onBollard yX0_onBollard, Cond.code yX0_onBollard cX0_onBollard 3 (some .int), Cond.methodLink RX0 69 yX0_checkBollard]
def wsL_isTold_r7 : List Cond := [Cond.instanceMethod yX0_checkBollard, Cond.selects RX0 yX0_checkBollard yX0_checkBollard, Cond.code yX0_checkBollard cX0_checkBollard 2 none]
def wsL_isTold : List Cond := .code yL_isTold cL_isTold 14 (some .boolean) :: ((wsL_isTold_r1 ++ (wsL_isTold_r2 ++ (wsL_isTold_r3 ++ (wsL_isTold_r4 ++ (wsL_isTold_r5 ++ (wsL_isTold_r6 ++ wsL_isTold_r7)))))) ++ wsX00 ++ (vx_atS RX0 139 "java/lang/IndexOutOfBoundsException" ["java/lang/RuntimeException", "java/lang/Exception"]).filter goodWord ++ (vx_atS RX0 125 "java/lang/IllegalArgumentException" ["java/lang/RuntimeException", "java/lang/Exception"]).filter goodWord)
def wsL_arePlans_r1 : List Cond := [Cond.methodLink RL 49 yL_isSafe, Cond.static yL_isSafe, Cond.initialized RL, Cond.code yL_isSafe cL_isSafe 8 (some .boolean), Cond.constantLong RL 42 (20), Cond.constantLong RL 44 (11), Cond.methodLink RL 34 yL_shift, Cond.static yL_shift, Cond.code yL_shift cL_shift 9 (some .int), Cond.methodLink RL 30 yL_force, Cond.static yL_force, Cond.code yL_force cL_force 15 (some .int), Cond.methodLink RL 23 yL_length, Cond.static yL_length, Cond.code yL_length cL_length 7 (some .int), Cond.methodLink RL 13 yL_away, Cond.static yL_away, Cond.code yL_away cL_away 4 (some .int), Cond.methodLink RL 19 yL_root, Cond.static yL_root, Cond.code yL_root cL_root 6 (some .int), Cond.constantLong RL 9 (16384), Cond.constantLong RL 11 (2), Cond.methodLink RL 27 yL_tension]
def wsL_arePlans_r2 : List Cond := [Cond.static yL_tension, Cond.code yL_tension cL_tension 6 (some .int), Cond.methodLink RL 38 yL_isAdrift, Cond.static yL_isAdrift, Cond.code yL_isAdrift cL_isAdrift 7 (some .boolean), Cond.methodLink RL 46 yL_onBollard, Cond.static yL_onBollard, Cond.code yL_onBollard cL_onBollard 8 (some .int), Cond.methodLink RL 74 yX0_plan, Cond.instanceMethod yX0_plan, Cond.selects RX0 yX0_plan yX0_plan, Cond.initialized RX0, Cond.code yX0_plan cX0_plan 4 (some .int), Cond.classLink RX0 121 "java/lang/IllegalArgumentException", Cond.initialized "java/lang/IllegalArgumentException", Cond.fieldLink RX0 47 "MoorWatch" "lineSets" "[I", Cond.fieldLink RX0 54 "MoorWatch" "setsBeforePlan" "[I", Cond.methodLink RX0 126 arraycopyName, Cond.native arraycopyName, Cond.static arraycopyName, Cond.initialized "java/lang/System", Cond.methodLink RX0 82 yX0_checkHour, Cond.static yX0_checkHour, Cond.code yX0_checkHour cX0_checkHour 1 none]
def wsL_arePlans_r3 : List Cond := [Cond.classLink RX0 135 "java/lang/IndexOutOfBoundsException", Cond.initialized "java/lang/IndexOutOfBoundsException", Cond.methodLink RX0 132 yX0_tendThrough, Cond.instanceMethod yX0_tendThrough, Cond.selects RX0 yX0_tendThrough yX0_tendThrough, Cond.code yX0_tendThrough cX0_tendThrough 5 (some .int), Cond.methodLink RX0 107 yX0_holdsIn, Cond.instanceMethod yX0_holdsIn, Cond.selects RX0 yX0_holdsIn yX0_holdsIn, Cond.code yX0_holdsIn cX0_holdsIn 3 (some .boolean), Cond.methodLink RX0 89 yX0_balanceOf, Cond.instanceMethod yX0_balanceOf, Cond.selects RX0 yX0_balanceOf yX0_balanceOf, Cond.code yX0_balanceOf cX0_balanceOf 6 (some .int), Cond.methodLink RX0 152 yJ9_floorDiv_7cf53, Cond.static yJ9_floorDiv_7cf53, Cond.initialized RJ9, Cond.code yJ9_floorDiv_7cf53 cJ9_floorDiv_7cf53 3 (some .int), Cond.methodLink RX0 86 yX0_forceWith, Cond.instanceMethod yX0_forceWith, Cond.selects RX0 yX0_forceWith yX0_forceWith, Cond.code yX0_forceWith cX0_forceWith 5 (some .int), Cond.fieldLink RX0 19 "MoorWatch" "wind" "I", Cond.fieldLink RX0 16 "MoorWatch" "passing" "[I"]
def wsL_arePlans_r4 : List Cond := [Cond.fieldLink RX0 32 "MoorWatch" "lineCount" "I", Cond.methodLink RX0 149 yX0_pullWith, Cond.instanceMethod yX0_pullWith, Cond.selects RX0 yX0_pullWith yX0_pullWith, Cond.code yX0_pullWith cX0_pullWith 8 (some .int), Cond.fieldLink RX0 38 "MoorWatch" "lineReaches" "[I", Cond.methodLink RX0 146 yX0_heightIn, Cond.instanceMethod yX0_heightIn, Cond.selects RX0 yX0_heightIn yX0_heightIn, Cond.code yX0_heightIn cX0_heightIn 2 (some .int), Cond.fieldLink RX0 9 "MoorWatch" "tides" "[I", Cond.fieldLink RX0 13 "MoorWatch" "loads" "[I", Cond.methodLink RX0 75 yX0_lengthOver, Cond.static yX0_lengthOver, Cond.code yX0_lengthOver cX0_lengthOver 6 (some .int), Cond.methodLink RX0 101 yX0_tensionAtLength, Cond.instanceMethod yX0_tensionAtLength, Cond.selects RX0 yX0_tensionAtLength yX0_tensionAtLength, Cond.code yX0_tensionAtLength cX0_tensionAtLength 3 (some .int), Cond.fieldLink RX0 50 "MoorWatch" "lineFast" "[Z", Cond.fieldLink RX0 41 "MoorWatch" "lineStiffnesses" "[I", Cond.methodLink RX0 113 Lib.Math.max.name, Cond.static Lib.Math.max.name, Cond.initialized "java/lang/Math"]
def wsL_arePlans_r5 : List Cond := [Cond.code Lib.Math.max.name Lib.Math.max.code 2 (some .int), Cond.methodLink RX0 93 yX0_driftsWith, Cond.instanceMethod yX0_driftsWith, Cond.selects RX0 yX0_driftsWith yX0_driftsWith, Cond.code yX0_driftsWith cX0_driftsWith 3 (some .boolean), Cond.methodLink RX0 155 yX0_linesHold, Cond.instanceMethod yX0_linesHold, Cond.selects RX0 yX0_linesHold yX0_linesHold, Cond.code yX0_linesHold cX0_linesHold 5 (some .boolean), Cond.fieldLink RX0 44 "MoorWatch" "lineStrengths" "[I", Cond.methodLink RX0 97 yX0_lengthWith, Cond.instanceMethod yX0_lengthWith, Cond.selects RX0 yX0_lengthWith yX0_lengthWith, Cond.code yX0_lengthWith cX0_lengthWith 4 (some .int), Cond.methodLink RX0 158 yX0_bollardsHold, Cond.instanceMethod yX0_bollardsHold, Cond.selects RX0 yX0_bollardsHold yX0_bollardsHold, Cond.code yX0_bollardsHold cX0_bollardsHold 4 (some .boolean), Cond.fieldLink RX0 23 "MoorWatch" "bollardCount" "I", Cond.fieldLink RX0 29 "MoorWatch" "bollardLimits" "[I", Cond.methodLink RX0 104 yX0_bollardTension, Cond.instanceMethod yX0_bollardTension, Cond.selects RX0 yX0_bollardTension yX0_bollardTension, Cond.code yX0_bollardTension cX0_bollardTension 6 (some .int)]
def wsL_arePlans_r6 : List Cond := [Cond.fieldLink RX0 35 "MoorWatch" "lineBollards" "[I", Cond.methodLink RX0 118 yX0_tendFastLines, Cond.instanceMethod yX0_tendFastLines, Cond.selects RX0 yX0_tendFastLines yX0_tendFastLines, Cond.code yX0_tendFastLines cX0_tendFastLines 6 (some .int), Cond.methodLink RL 77 yL_plan, Cond.static yL_plan, Cond.code yL_plan cL_plan 12 (some .int), Cond.arrayClass .int, Cond.methodLink RL 52 yL_tended, Cond.static yL_tended, Cond.code yL_tended cL_tended 10 (some .int), Cond.methodLink RL 80 yX0_firstUnsafe, Cond.instanceMethod yX0_firstUnsafe, Cond.selects RX0 yX0_firstUnsafe yX0_firstUnsafe, Cond.code yX0_firstUnsafe cX0_firstUnsafe 3 (some .int)]
def wsL_arePlans : List Cond := .code yL_arePlans cL_arePlans 12 (some .boolean) :: ((wsL_arePlans_r1 ++ (wsL_arePlans_r2 ++ (wsL_arePlans_r3 ++ (wsL_arePlans_r4 ++ (wsL_arePlans_r5 ++ wsL_arePlans_r6))))) ++ wsX00 ++ (vx_atS RX0 125 "java/lang/IllegalArgumentException" ["java/lang/RuntimeException", "java/lang/Exception"]).filter goodWord ++ (vx_atS RX0 139 "java/lang/IndexOutOfBoundsException" ["java/lang/RuntimeException", "java/lang/Exception"]).filter goodWord)
def wsL_tend_r1 : List Cond := [Cond.classLink RL 87 "java/lang/IllegalStateException", Cond.methodLink RL 83 yX0_tend, Cond.instanceMethod yX0_tend, Cond.selects RX0 yX0_tend yX0_tend, Cond.initialized RX0, Cond.code yX0_tend cX0_tend 4 (some .int), Cond.classLink RX0 62 "java/lang/IllegalStateException", Cond.initialized "java/lang/IllegalStateException", Cond.fieldLink RX0 50 "MoorWatch" "lineFast" "[Z", Cond.fieldLink RX0 47 "MoorWatch" "lineSets" "[I", Cond.methodLink RX0 113 Lib.Math.max.name, Cond.static Lib.Math.max.name, Cond.initialized "java/lang/Math", Cond.code Lib.Math.max.name Lib.Math.max.code 2 (some .int), Cond.methodLink RX0 79 yX0_checkLine, Cond.instanceMethod yX0_checkLine, Cond.selects RX0 yX0_checkLine yX0_checkLine, Cond.code yX0_checkLine cX0_checkLine 2 none, Cond.classLink RX0 135 "java/lang/IndexOutOfBoundsException", Cond.initialized "java/lang/IndexOutOfBoundsException", Cond.fieldLink RX0 32 "MoorWatch" "lineCount" "I", Cond.methodLink RX0 82 yX0_checkHour, Cond.static yX0_checkHour, Cond.code yX0_checkHour cX0_checkHour 1 none]
def wsL_tend_r2 : List Cond := [Cond.methodLink RX0 57 yX0_checkRange, Cond.static yX0_checkRange, Cond.code yX0_checkRange cX0_checkRange 3 none, Cond.classLink RX0 121 "java/lang/IllegalArgumentException", Cond.initialized "java/lang/IllegalArgumentException", Cond.methodLink RX0 89 yX0_balanceOf, Cond.instanceMethod yX0_balanceOf, Cond.selects RX0 yX0_balanceOf yX0_balanceOf, Cond.code yX0_balanceOf cX0_balanceOf 6 (some .int), Cond.methodLink RX0 152 yJ9_floorDiv_7cf53, Cond.static yJ9_floorDiv_7cf53, Cond.initialized RJ9, Cond.code yJ9_floorDiv_7cf53 cJ9_floorDiv_7cf53 3 (some .int), Cond.methodLink RX0 86 yX0_forceWith, Cond.instanceMethod yX0_forceWith, Cond.selects RX0 yX0_forceWith yX0_forceWith, Cond.code yX0_forceWith cX0_forceWith 5 (some .int), Cond.fieldLink RX0 19 "MoorWatch" "wind" "I", Cond.fieldLink RX0 16 "MoorWatch" "passing" "[I", Cond.methodLink RX0 149 yX0_pullWith, Cond.instanceMethod yX0_pullWith, Cond.selects RX0 yX0_pullWith yX0_pullWith, Cond.code yX0_pullWith cX0_pullWith 8 (some .int), Cond.fieldLink RX0 38 "MoorWatch" "lineReaches" "[I"]
def wsL_tend_r3 : List Cond := [Cond.methodLink RX0 146 yX0_heightIn, Cond.instanceMethod yX0_heightIn, Cond.selects RX0 yX0_heightIn yX0_heightIn, Cond.code yX0_heightIn cX0_heightIn 2 (some .int), Cond.fieldLink RX0 9 "MoorWatch" "tides" "[I", Cond.fieldLink RX0 13 "MoorWatch" "loads" "[I", Cond.methodLink RX0 75 yX0_lengthOver, Cond.static yX0_lengthOver, Cond.code yX0_lengthOver cX0_lengthOver 6 (some .int), Cond.methodLink RX0 101 yX0_tensionAtLength, Cond.instanceMethod yX0_tensionAtLength, Cond.selects RX0 yX0_tensionAtLength yX0_tensionAtLength, Cond.code yX0_tensionAtLength cX0_tensionAtLength 3 (some .int), Cond.fieldLink RX0 41 "MoorWatch" "lineStiffnesses" "[I", Cond.methodLink RX0 97 yX0_lengthWith, Cond.instanceMethod yX0_lengthWith, Cond.selects RX0 yX0_lengthWith yX0_lengthWith, Cond.code yX0_lengthWith cX0_lengthWith 4 (some .int)]
def wsL_tend : List Cond := .codeWith yL_tend cL_tend 5 (some .int) [(0, 7, 8, 87)] :: ((wsL_tend_r1 ++ (wsL_tend_r2 ++ wsL_tend_r3)) ++ wsX00 ++ (vx_atS RX0 66 "java/lang/IllegalStateException" ["java/lang/RuntimeException", "java/lang/Exception"]).filter goodWord ++ (vx_atS RX0 139 "java/lang/IndexOutOfBoundsException" ["java/lang/RuntimeException", "java/lang/Exception"]).filter goodWord ++ (vx_atS RX0 125 "java/lang/IllegalArgumentException" ["java/lang/RuntimeException", "java/lang/Exception"]).filter goodWord)
def wsL_acts_r1 : List Cond := [Cond.constant RL 89 (200000), Cond.constant RL 93 (300000), Cond.constant RL 104 (2000001), Cond.constant RL 105 (1000000), Cond.methodLink RL 90 yX0_addBollard, Cond.instanceMethod yX0_addBollard, Cond.selects RX0 yX0_addBollard yX0_addBollard, Cond.initialized RX0, Cond.code yX0_addBollard cX0_addBollard 4 (some .int), Cond.classLink RX0 62 "java/lang/IllegalStateException", Cond.initialized "java/lang/IllegalStateException", Cond.constant RX0 61 (1000000), Cond.fieldLink RX0 23 "MoorWatch" "bollardCount" "I", Cond.fieldLink RX0 26 "MoorWatch" "bollardPlaces" "[I", Cond.fieldLink RX0 29 "MoorWatch" "bollardLimits" "[I", Cond.methodLink RX0 57 yX0_checkRange, Cond.static yX0_checkRange, Cond.code yX0_checkRange cX0_checkRange 3 none, Cond.classLink RX0 121 "java/lang/IllegalArgumentException", Cond.initialized "java/lang/IllegalArgumentException", Cond.methodLink RL 23 yL_length, Cond.static yL_length, Cond.initialized RL, Cond.code yL_length cL_length 7 (some .int)]
def wsL_acts_r2 : List Cond := [Cond.methodLink RL 13 yL_away, Cond.static yL_away, Cond.code yL_away cL_away 4 (some .int), Cond.methodLink RL 19 yL_root, Cond.static yL_root, Cond.code yL_root cL_root 6 (some .int), Cond.constantLong RL 9 (16384), Cond.constantLong RL 11 (2), Cond.methodLink RL 94 yX0_addLine, Cond.instanceMethod yX0_addLine, Cond.selects RX0 yX0_addLine yX0_addLine, Cond.code yX0_addLine cX0_addLine 7 (some .int), Cond.fieldLink RX0 32 "MoorWatch" "lineCount" "I", Cond.fieldLink RX0 35 "MoorWatch" "lineBollards" "[I", Cond.fieldLink RX0 38 "MoorWatch" "lineReaches" "[I", Cond.fieldLink RX0 41 "MoorWatch" "lineStiffnesses" "[I", Cond.fieldLink RX0 44 "MoorWatch" "lineStrengths" "[I", Cond.fieldLink RX0 47 "MoorWatch" "lineSets" "[I", Cond.fieldLink RX0 50 "MoorWatch" "lineFast" "[Z", Cond.methodLink RX0 69 yX0_checkBollard, Cond.instanceMethod yX0_checkBollard, Cond.selects RX0 yX0_checkBollard yX0_checkBollard, Cond.code yX0_checkBollard cX0_checkBollard 2 none, Cond.classLink RX0 135 "java/lang/IndexOutOfBoundsException"]
def wsL_acts_r3 : List Cond := [Cond.initialized "java/lang/IndexOutOfBoundsException", Cond.methodLink RX0 75 yX0_lengthOver, Cond.static yX0_lengthOver, Cond.code yX0_lengthOver cX0_lengthOver 6 (some .int), Cond.methodLink RL 98 yX0_setTide, Cond.instanceMethod yX0_setTide, Cond.selects RX0 yX0_setTide yX0_setTide, Cond.code yX0_setTide cX0_setTide 4 (some .int), Cond.fieldLink RX0 9 "MoorWatch" "tides" "[I", Cond.methodLink RX0 82 yX0_checkHour, Cond.static yX0_checkHour, Cond.code yX0_checkHour cX0_checkHour 1 none, Cond.methodLink RL 101 yX0_setLoad, Cond.instanceMethod yX0_setLoad, Cond.selects RX0 yX0_setLoad yX0_setLoad, Cond.code yX0_setLoad cX0_setLoad 5 (some .int), Cond.fieldLink RX0 13 "MoorWatch" "loads" "[I", Cond.methodLink RL 106 yX0_setWind, Cond.instanceMethod yX0_setWind, Cond.selects RX0 yX0_setWind yX0_setWind, Cond.code yX0_setWind cX0_setWind 3 (some .int), Cond.constant RX0 85 (-1000000), Cond.fieldLink RX0 19 "MoorWatch" "wind" "I", Cond.methodLink RL 109 yX0_setPassing]
def wsL_acts_r4 : List Cond := [Cond.instanceMethod yX0_setPassing, Cond.selects RX0 yX0_setPassing yX0_setPassing, Cond.code yX0_setPassing cX0_setPassing 4 (some .int), Cond.fieldLink RX0 16 "MoorWatch" "passing" "[I", Cond.methodLink RL 112 yX0_tendAll, Cond.instanceMethod yX0_tendAll, Cond.selects RX0 yX0_tendAll yX0_tendAll, Cond.code yX0_tendAll cX0_tendAll 2 (some .int), Cond.methodLink RX0 118 yX0_tendFastLines, Cond.instanceMethod yX0_tendFastLines, Cond.selects RX0 yX0_tendFastLines yX0_tendFastLines, Cond.code yX0_tendFastLines cX0_tendFastLines 6 (some .int), Cond.methodLink RX0 89 yX0_balanceOf, Cond.instanceMethod yX0_balanceOf, Cond.selects RX0 yX0_balanceOf yX0_balanceOf, Cond.code yX0_balanceOf cX0_balanceOf 6 (some .int), Cond.methodLink RX0 152 yJ9_floorDiv_7cf53, Cond.static yJ9_floorDiv_7cf53, Cond.initialized RJ9, Cond.code yJ9_floorDiv_7cf53 cJ9_floorDiv_7cf53 3 (some .int), Cond.methodLink RX0 86 yX0_forceWith, Cond.instanceMethod yX0_forceWith, Cond.selects RX0 yX0_forceWith yX0_forceWith, Cond.code yX0_forceWith cX0_forceWith 5 (some .int)]
def wsL_acts_r5 : List Cond := [Cond.methodLink RX0 149 yX0_pullWith, Cond.instanceMethod yX0_pullWith, Cond.selects RX0 yX0_pullWith yX0_pullWith, Cond.code yX0_pullWith cX0_pullWith 8 (some .int), Cond.methodLink RX0 146 yX0_heightIn, Cond.instanceMethod yX0_heightIn, Cond.selects RX0 yX0_heightIn yX0_heightIn, Cond.code yX0_heightIn cX0_heightIn 2 (some .int), Cond.methodLink RX0 101 yX0_tensionAtLength, Cond.instanceMethod yX0_tensionAtLength, Cond.selects RX0 yX0_tensionAtLength yX0_tensionAtLength, Cond.code yX0_tensionAtLength cX0_tensionAtLength 3 (some .int), Cond.methodLink RX0 113 Lib.Math.max.name, Cond.static Lib.Math.max.name, Cond.initialized "java/lang/Math", Cond.code Lib.Math.max.name Lib.Math.max.code 2 (some .int), Cond.methodLink RX0 97 yX0_lengthWith, Cond.instanceMethod yX0_lengthWith, Cond.selects RX0 yX0_lengthWith yX0_lengthWith, Cond.code yX0_lengthWith cX0_lengthWith 4 (some .int), Cond.methodLink RL 52 yL_tended, Cond.static yL_tended, Cond.code yL_tended cL_tended 10 (some .int), Cond.arrayClass .int]
def wsL_acts_r6 : List Cond := [Cond.methodLink RL 34 yL_shift, Cond.static yL_shift, Cond.code yL_shift cL_shift 9 (some .int), Cond.methodLink RL 30 yL_force, Cond.static yL_force, Cond.code yL_force cL_force 15 (some .int), Cond.methodLink RL 27 yL_tension, Cond.static yL_tension, Cond.code yL_tension cL_tension 6 (some .int), Cond.methodLink RL 115 yX0_toggle, Cond.instanceMethod yX0_toggle, Cond.selects RX0 yX0_toggle yX0_toggle, Cond.code yX0_toggle cX0_toggle 2 (some .boolean), Cond.methodLink RX0 79 yX0_checkLine, Cond.instanceMethod yX0_checkLine, Cond.selects RX0 yX0_checkLine yX0_checkLine, Cond.code yX0_checkLine cX0_checkLine 2 none, Cond.methodLink RL 118 yL_tend, Cond.static yL_tend, Cond.codeWith yL_tend cL_tend 5 (some .int) [(0, 7, 8, 87)], Cond.classLink RL 87 "java/lang/IllegalStateException", Cond.methodLink RL 83 yX0_tend, Cond.instanceMethod yX0_tend, Cond.selects RX0 yX0_tend yX0_tend]
def wsL_acts_r7 : List Cond := [Cond.code yX0_tend cX0_tend 4 (some .int)]
def wsL_acts : List Cond := .code yL_acts cL_acts 15 (some .boolean) :: ((wsL_acts_r1 ++ (wsL_acts_r2 ++ (wsL_acts_r3 ++ (wsL_acts_r4 ++ (wsL_acts_r5 ++ (wsL_acts_r6 ++ wsL_acts_r7)))))) ++ wsX00 ++ (vx_atS RX0 66 "java/lang/IllegalStateException" ["java/lang/RuntimeException", "java/lang/Exception"]).filter goodWord ++ (vx_atS RX0 125 "java/lang/IllegalArgumentException" ["java/lang/RuntimeException", "java/lang/Exception"]).filter goodWord ++ (vx_atS RX0 139 "java/lang/IndexOutOfBoundsException" ["java/lang/RuntimeException", "java/lang/Exception"]).filter goodWord)
def wsL_holds_r1 : List Cond := [Cond.classLink RL 56 RX0, Cond.instantiable RX0 15, Cond.initialized RX0, Cond.arrayClass .int, Cond.constant RL 122 (100000000), Cond.methodLink RL 121 yX0_init, Cond.instanceMethod yX0_init, Cond.code yX0_init cX0_init 1 none, Cond.methodLink RX0 1 objectInit, Cond.instanceMethod objectInit, Cond.code objectInit ⟨#[0xb1]⟩ 1 none, Cond.fieldLink RX0 9 "MoorWatch" "tides" "[I", Cond.fieldLink RX0 13 "MoorWatch" "loads" "[I", Cond.fieldLink RX0 16 "MoorWatch" "passing" "[I", Cond.fieldLink RX0 19 "MoorWatch" "wind" "I", Cond.fieldLink RX0 23 "MoorWatch" "bollardCount" "I", Cond.fieldLink RX0 26 "MoorWatch" "bollardPlaces" "[I", Cond.fieldLink RX0 29 "MoorWatch" "bollardLimits" "[I", Cond.fieldLink RX0 32 "MoorWatch" "lineCount" "I", Cond.fieldLink RX0 35 "MoorWatch" "lineBollards" "[I", Cond.fieldLink RX0 38 "MoorWatch" "lineReaches" "[I", Cond.fieldLink RX0 41 "MoorWatch" "lineStiffnesses" "[I", Cond.fieldLink RX0 44 "MoorWatch" "lineStrengths" "[I", Cond.fieldLink RX0 47 "MoorWatch" "lineSets" "[I"]
def wsL_holds_r2 : List Cond := [Cond.arrayClass .boolean, Cond.fieldLink RX0 50 "MoorWatch" "lineFast" "[Z", Cond.fieldLink RX0 54 "MoorWatch" "setsBeforePlan" "[I", Cond.methodLink RL 123 yL_from, Cond.static yL_from, Cond.initialized RL, Cond.code yL_from cL_from 4 (some .int), Cond.constant RL 7 (203233), Cond.constant RL 8 (2147483647), Cond.methodLink RL 127 yL_acts, Cond.static yL_acts, Cond.code yL_acts cL_acts 15 (some .boolean), Cond.constant RL 89 (200000), Cond.constant RL 93 (300000), Cond.constant RL 104 (2000001), Cond.constant RL 105 (1000000), Cond.methodLink RL 90 yX0_addBollard, Cond.instanceMethod yX0_addBollard, Cond.selects RX0 yX0_addBollard yX0_addBollard, Cond.code yX0_addBollard cX0_addBollard 4 (some .int), Cond.classLink RX0 62 "java/lang/IllegalStateException", Cond.initialized "java/lang/IllegalStateException", Cond.constant RX0 61 (1000000), Cond.methodLink RX0 57 yX0_checkRange]
def wsL_holds_r3 : List Cond := [Cond.static yX0_checkRange, Cond.code yX0_checkRange cX0_checkRange 3 none, Cond.classLink RX0 121 "java/lang/IllegalArgumentException", Cond.initialized "java/lang/IllegalArgumentException", Cond.methodLink RL 23 yL_length, Cond.static yL_length, Cond.code yL_length cL_length 7 (some .int), Cond.methodLink RL 13 yL_away, Cond.static yL_away, Cond.code yL_away cL_away 4 (some .int), Cond.methodLink RL 19 yL_root, Cond.static yL_root, Cond.code yL_root cL_root 6 (some .int), Cond.constantLong RL 9 (16384), Cond.constantLong RL 11 (2), Cond.methodLink RL 94 yX0_addLine, Cond.instanceMethod yX0_addLine, Cond.selects RX0 yX0_addLine yX0_addLine, Cond.code yX0_addLine cX0_addLine 7 (some .int), Cond.methodLink RX0 69 yX0_checkBollard, Cond.instanceMethod yX0_checkBollard, Cond.selects RX0 yX0_checkBollard yX0_checkBollard, Cond.code yX0_checkBollard cX0_checkBollard 2 none, Cond.classLink RX0 135 "java/lang/IndexOutOfBoundsException"]
def wsL_holds_r4 : List Cond := [Cond.initialized "java/lang/IndexOutOfBoundsException", Cond.methodLink RX0 75 yX0_lengthOver, Cond.static yX0_lengthOver, Cond.code yX0_lengthOver cX0_lengthOver 6 (some .int), Cond.methodLink RL 98 yX0_setTide, Cond.instanceMethod yX0_setTide, Cond.selects RX0 yX0_setTide yX0_setTide, Cond.code yX0_setTide cX0_setTide 4 (some .int), Cond.methodLink RX0 82 yX0_checkHour, Cond.static yX0_checkHour, Cond.code yX0_checkHour cX0_checkHour 1 none, Cond.methodLink RL 101 yX0_setLoad, Cond.instanceMethod yX0_setLoad, Cond.selects RX0 yX0_setLoad yX0_setLoad, Cond.code yX0_setLoad cX0_setLoad 5 (some .int), Cond.methodLink RL 106 yX0_setWind, Cond.instanceMethod yX0_setWind, Cond.selects RX0 yX0_setWind yX0_setWind, Cond.code yX0_setWind cX0_setWind 3 (some .int), Cond.constant RX0 85 (-1000000), Cond.methodLink RL 109 yX0_setPassing, Cond.instanceMethod yX0_setPassing, Cond.selects RX0 yX0_setPassing yX0_setPassing, Cond.code yX0_setPassing cX0_setPassing 4 (some .int)]
def wsL_holds_r5 : List Cond := [Cond.methodLink RL 112 yX0_tendAll, Cond.instanceMethod yX0_tendAll, Cond.selects RX0 yX0_tendAll yX0_tendAll, Cond.code yX0_tendAll cX0_tendAll 2 (some .int), Cond.methodLink RX0 118 yX0_tendFastLines, Cond.instanceMethod yX0_tendFastLines, Cond.selects RX0 yX0_tendFastLines yX0_tendFastLines, Cond.code yX0_tendFastLines cX0_tendFastLines 6 (some .int), Cond.methodLink RX0 89 yX0_balanceOf, Cond.instanceMethod yX0_balanceOf, Cond.selects RX0 yX0_balanceOf yX0_balanceOf, Cond.code yX0_balanceOf cX0_balanceOf 6 (some .int), Cond.methodLink RX0 152 yJ9_floorDiv_7cf53, Cond.static yJ9_floorDiv_7cf53, Cond.initialized RJ9, Cond.code yJ9_floorDiv_7cf53 cJ9_floorDiv_7cf53 3 (some .int), Cond.methodLink RX0 86 yX0_forceWith, Cond.instanceMethod yX0_forceWith, Cond.selects RX0 yX0_forceWith yX0_forceWith, Cond.code yX0_forceWith cX0_forceWith 5 (some .int), Cond.methodLink RX0 149 yX0_pullWith, Cond.instanceMethod yX0_pullWith, Cond.selects RX0 yX0_pullWith yX0_pullWith, Cond.code yX0_pullWith cX0_pullWith 8 (some .int)]
def wsL_holds_r6 : List Cond := [Cond.methodLink RX0 146 yX0_heightIn, Cond.instanceMethod yX0_heightIn, Cond.selects RX0 yX0_heightIn yX0_heightIn, Cond.code yX0_heightIn cX0_heightIn 2 (some .int), Cond.methodLink RX0 101 yX0_tensionAtLength, Cond.instanceMethod yX0_tensionAtLength, Cond.selects RX0 yX0_tensionAtLength yX0_tensionAtLength, Cond.code yX0_tensionAtLength cX0_tensionAtLength 3 (some .int), Cond.methodLink RX0 113 Lib.Math.max.name, Cond.static Lib.Math.max.name, Cond.initialized "java/lang/Math", Cond.code Lib.Math.max.name Lib.Math.max.code 2 (some .int), Cond.methodLink RX0 97 yX0_lengthWith, Cond.instanceMethod yX0_lengthWith, Cond.selects RX0 yX0_lengthWith yX0_lengthWith, Cond.code yX0_lengthWith cX0_lengthWith 4 (some .int), Cond.methodLink RL 52 yL_tended, Cond.static yL_tended, Cond.code yL_tended cL_tended 10 (some .int), Cond.methodLink RL 34 yL_shift, Cond.static yL_shift, Cond.code yL_shift cL_shift 9 (some .int), Cond.methodLink RL 30 yL_force, Cond.static yL_force]
def wsL_holds_r7 : List Cond := [Cond.code yL_force cL_force 15 (some .int), Cond.methodLink RL 27 yL_tension, Cond.static yL_tension, Cond.code yL_tension cL_tension 6 (some .int), Cond.methodLink RL 115 yX0_toggle, Cond.instanceMethod yX0_toggle, Cond.selects RX0 yX0_toggle yX0_toggle, Cond.code yX0_toggle cX0_toggle 2 (some .boolean), Cond.methodLink RX0 79 yX0_checkLine, Cond.instanceMethod yX0_checkLine, Cond.selects RX0 yX0_checkLine yX0_checkLine, Cond.code yX0_checkLine cX0_checkLine 2 none, Cond.methodLink RL 118 yL_tend, Cond.static yL_tend, Cond.codeWith yL_tend cL_tend 5 (some .int) [(0, 7, 8, 87)], Cond.classLink RL 87 "java/lang/IllegalStateException", Cond.methodLink RL 83 yX0_tend, Cond.instanceMethod yX0_tend, Cond.selects RX0 yX0_tend yX0_tend, Cond.code yX0_tend cX0_tend 4 (some .int), Cond.methodLink RL 131 yL_isTold, Cond.static yL_isTold, Cond.code yL_isTold cL_isTold 14 (some .boolean), Cond.methodLink RL 55 yX0_shift]
def wsL_holds_r8 : List Cond := [Cond.instanceMethod yX0_shift, Cond.selects RX0 yX0_shift yX0_shift, Cond.code yX0_shift cX0_shift 2 (some .int), Cond.methodLink RL 60 yX0_isAdrift, Cond.instanceMethod yX0_isAdrift, Cond.selects RX0 yX0_isAdrift yX0_isAdrift, Cond.code yX0_isAdrift cX0_isAdrift 2 (some .boolean), Cond.methodLink RX0 93 yX0_driftsWith, Cond.instanceMethod yX0_driftsWith, Cond.selects RX0 yX0_driftsWith yX0_driftsWith, Cond.code yX0_driftsWith cX0_driftsWith 3 (some .boolean), Cond.methodLink RL 38 yL_isAdrift, Cond.static yL_isAdrift, Cond.code yL_isAdrift cL_isAdrift 7 (some .boolean), Cond.methodLink RL 63 yX0_isSafe, Cond.instanceMethod yX0_isSafe, Cond.selects RX0 yX0_isSafe yX0_isSafe, Cond.code yX0_isSafe cX0_isSafe 2 (some .boolean), Cond.methodLink RX0 107 yX0_holdsIn, Cond.instanceMethod yX0_holdsIn, Cond.selects RX0 yX0_holdsIn yX0_holdsIn, Cond.code yX0_holdsIn cX0_holdsIn 3 (some .boolean), Cond.methodLink RX0 155 yX0_linesHold, Cond.instanceMethod yX0_linesHold]
def wsL_holds_r9 : List Cond := [Cond.selects RX0 yX0_linesHold yX0_linesHold, Cond.code yX0_linesHold cX0_linesHold 5 (some .boolean), Cond.methodLink RX0 158 yX0_bollardsHold, Cond.instanceMethod yX0_bollardsHold, Cond.selects RX0 yX0_bollardsHold yX0_bollardsHold, Cond.code yX0_bollardsHold cX0_bollardsHold 4 (some .boolean), Cond.methodLink RX0 104 yX0_bollardTension, Cond.instanceMethod yX0_bollardTension, Cond.selects RX0 yX0_bollardTension yX0_bollardTension, Cond.code yX0_bollardTension cX0_bollardTension 6 (some .int), Cond.methodLink RL 49 yL_isSafe, Cond.static yL_isSafe, Cond.code yL_isSafe cL_isSafe 8 (some .boolean), Cond.constantLong RL 42 (20), Cond.constantLong RL 44 (11), Cond.methodLink RL 46 yL_onBollard, Cond.static yL_onBollard, Cond.code yL_onBollard cL_onBollard 8 (some .int), Cond.methodLink RL 65 yX0_force, Cond.instanceMethod yX0_force, Cond.selects RX0 yX0_force yX0_force, Cond.code yX0_force cX0_force 3 (some .int), Cond.methodLink RL 68 yX0_length, Cond.instanceMethod yX0_length]
def wsL_holds_r10 : List Cond := [Cond.selects RX0 yX0_length yX0_length, Cond.code yX0_length cX0_length 3 (some .int), Cond.methodLink RL 70 yX0_tension, Cond.instanceMethod yX0_tension, Cond.selects RX0 yX0_tension yX0_tension, Cond.code yX0_tension cX0_tension 3 (some .int), Cond.methodLink RL 72 yX0_onBollard, Cond.instanceMethod yX0_onBollard, Cond.selects RX0 yX0_onBollard yX0_onBollard, Cond.code yX0_onBollard cX0_onBollard 3 (some .int), Cond.methodLink RL 134 yL_arePlans, Cond.static yL_arePlans, Cond.code yL_arePlans cL_arePlans 12 (some .boolean), Cond.methodLink RL 74 yX0_plan, Cond.instanceMethod yX0_plan, Cond.selects RX0 yX0_plan yX0_plan, Cond.code yX0_plan cX0_plan 4 (some .int), Cond.methodLink RX0 126 arraycopyName, Cond.native arraycopyName, Cond.static arraycopyName, Cond.initialized "java/lang/System", Cond.methodLink RX0 132 yX0_tendThrough, Cond.instanceMethod yX0_tendThrough, Cond.selects RX0 yX0_tendThrough yX0_tendThrough]
def wsL_holds_r11 : List Cond := [Cond.code yX0_tendThrough cX0_tendThrough 5 (some .int), Cond.methodLink RL 77 yL_plan, Cond.static yL_plan, Cond.code yL_plan cL_plan 12 (some .int), Cond.methodLink RL 80 yX0_firstUnsafe, Cond.instanceMethod yX0_firstUnsafe, Cond.selects RX0 yX0_firstUnsafe yX0_firstUnsafe, Cond.code yX0_firstUnsafe cX0_firstUnsafe 3 (some .int)]
def wsL_holds : List Cond := .code yL_holds cL_holds 11 (some .boolean) :: ((wsL_holds_r1 ++ (wsL_holds_r2 ++ (wsL_holds_r3 ++ (wsL_holds_r4 ++ (wsL_holds_r5 ++ (wsL_holds_r6 ++ (wsL_holds_r7 ++ (wsL_holds_r8 ++ (wsL_holds_r9 ++ (wsL_holds_r10 ++ wsL_holds_r11)))))))))) ++ wsX00 ++ (vx_atS RX0 66 "java/lang/IllegalStateException" ["java/lang/RuntimeException", "java/lang/Exception"]).filter goodWord ++ (vx_atS RX0 125 "java/lang/IllegalArgumentException" ["java/lang/RuntimeException", "java/lang/Exception"]).filter goodWord ++ (vx_atS RX0 139 "java/lang/IndexOutOfBoundsException" ["java/lang/RuntimeException", "java/lang/Exception"]).filter goodWord)
def wsL_isHeld_r1 : List Cond := [Cond.classLink RL 142 "java/lang/IndexOutOfBoundsException", Cond.classLink RL 144 "java/lang/IllegalArgumentException", Cond.classLink RL 87 "java/lang/IllegalStateException", Cond.methodLink RL 138 yL_holds, Cond.static yL_holds, Cond.initialized RL, Cond.code yL_holds cL_holds 11 (some .boolean), Cond.classLink RL 56 RX0, Cond.instantiable RX0 15, Cond.initialized RX0, Cond.arrayClass .int, Cond.constant RL 122 (100000000), Cond.methodLink RL 121 yX0_init, Cond.instanceMethod yX0_init, Cond.code yX0_init cX0_init 1 none, Cond.methodLink RX0 1 objectInit, Cond.instanceMethod objectInit, Cond.code objectInit ⟨#[0xb1]⟩ 1 none, Cond.fieldLink RX0 9 "MoorWatch" "tides" "[I", Cond.fieldLink RX0 13 "MoorWatch" "loads" "[I", Cond.fieldLink RX0 16 "MoorWatch" "passing" "[I", Cond.fieldLink RX0 19 "MoorWatch" "wind" "I", Cond.fieldLink RX0 23 "MoorWatch" "bollardCount" "I", Cond.fieldLink RX0 26 "MoorWatch" "bollardPlaces" "[I"]
def wsL_isHeld_r2 : List Cond := [Cond.fieldLink RX0 29 "MoorWatch" "bollardLimits" "[I", Cond.fieldLink RX0 32 "MoorWatch" "lineCount" "I", Cond.fieldLink RX0 35 "MoorWatch" "lineBollards" "[I", Cond.fieldLink RX0 38 "MoorWatch" "lineReaches" "[I", Cond.fieldLink RX0 41 "MoorWatch" "lineStiffnesses" "[I", Cond.fieldLink RX0 44 "MoorWatch" "lineStrengths" "[I", Cond.fieldLink RX0 47 "MoorWatch" "lineSets" "[I", Cond.arrayClass .boolean, Cond.fieldLink RX0 50 "MoorWatch" "lineFast" "[Z", Cond.fieldLink RX0 54 "MoorWatch" "setsBeforePlan" "[I", Cond.methodLink RL 123 yL_from, Cond.static yL_from, Cond.code yL_from cL_from 4 (some .int), Cond.constant RL 7 (203233), Cond.constant RL 8 (2147483647), Cond.methodLink RL 127 yL_acts, Cond.static yL_acts, Cond.code yL_acts cL_acts 15 (some .boolean), Cond.constant RL 89 (200000), Cond.constant RL 93 (300000), Cond.constant RL 104 (2000001), Cond.constant RL 105 (1000000), Cond.methodLink RL 90 yX0_addBollard, Cond.instanceMethod yX0_addBollard]
def wsL_isHeld_r3 : List Cond := [Cond.selects RX0 yX0_addBollard yX0_addBollard, Cond.code yX0_addBollard cX0_addBollard 4 (some .int), Cond.classLink RX0 62 "java/lang/IllegalStateException", Cond.initialized "java/lang/IllegalStateException", Cond.constant RX0 61 (1000000), Cond.methodLink RX0 57 yX0_checkRange, Cond.static yX0_checkRange, Cond.code yX0_checkRange cX0_checkRange 3 none, Cond.classLink RX0 121 "java/lang/IllegalArgumentException", Cond.initialized "java/lang/IllegalArgumentException", Cond.methodLink RL 23 yL_length, Cond.static yL_length, Cond.code yL_length cL_length 7 (some .int), Cond.methodLink RL 13 yL_away, Cond.static yL_away, Cond.code yL_away cL_away 4 (some .int), Cond.methodLink RL 19 yL_root, Cond.static yL_root, Cond.code yL_root cL_root 6 (some .int), Cond.constantLong RL 9 (16384), Cond.constantLong RL 11 (2), Cond.methodLink RL 94 yX0_addLine, Cond.instanceMethod yX0_addLine, Cond.selects RX0 yX0_addLine yX0_addLine]
def wsL_isHeld_r4 : List Cond := [Cond.code yX0_addLine cX0_addLine 7 (some .int), Cond.methodLink RX0 69 yX0_checkBollard, Cond.instanceMethod yX0_checkBollard, Cond.selects RX0 yX0_checkBollard yX0_checkBollard, Cond.code yX0_checkBollard cX0_checkBollard 2 none, Cond.classLink RX0 135 "java/lang/IndexOutOfBoundsException", Cond.initialized "java/lang/IndexOutOfBoundsException", Cond.methodLink RX0 75 yX0_lengthOver, Cond.static yX0_lengthOver, Cond.code yX0_lengthOver cX0_lengthOver 6 (some .int), Cond.methodLink RL 98 yX0_setTide, Cond.instanceMethod yX0_setTide, Cond.selects RX0 yX0_setTide yX0_setTide, Cond.code yX0_setTide cX0_setTide 4 (some .int), Cond.methodLink RX0 82 yX0_checkHour, Cond.static yX0_checkHour, Cond.code yX0_checkHour cX0_checkHour 1 none, Cond.methodLink RL 101 yX0_setLoad, Cond.instanceMethod yX0_setLoad, Cond.selects RX0 yX0_setLoad yX0_setLoad, Cond.code yX0_setLoad cX0_setLoad 5 (some .int), Cond.methodLink RL 106 yX0_setWind, Cond.instanceMethod yX0_setWind, Cond.selects RX0 yX0_setWind yX0_setWind]
def wsL_isHeld_r5 : List Cond := [Cond.code yX0_setWind cX0_setWind 3 (some .int), Cond.constant RX0 85 (-1000000), Cond.methodLink RL 109 yX0_setPassing, Cond.instanceMethod yX0_setPassing, Cond.selects RX0 yX0_setPassing yX0_setPassing, Cond.code yX0_setPassing cX0_setPassing 4 (some .int), Cond.methodLink RL 112 yX0_tendAll, Cond.instanceMethod yX0_tendAll, Cond.selects RX0 yX0_tendAll yX0_tendAll, Cond.code yX0_tendAll cX0_tendAll 2 (some .int), Cond.methodLink RX0 118 yX0_tendFastLines, Cond.instanceMethod yX0_tendFastLines, Cond.selects RX0 yX0_tendFastLines yX0_tendFastLines, Cond.code yX0_tendFastLines cX0_tendFastLines 6 (some .int), Cond.methodLink RX0 89 yX0_balanceOf, Cond.instanceMethod yX0_balanceOf, Cond.selects RX0 yX0_balanceOf yX0_balanceOf, Cond.code yX0_balanceOf cX0_balanceOf 6 (some .int), Cond.methodLink RX0 152 yJ9_floorDiv_7cf53, Cond.static yJ9_floorDiv_7cf53, Cond.initialized RJ9, Cond.code yJ9_floorDiv_7cf53 cJ9_floorDiv_7cf53 3 (some .int), Cond.methodLink RX0 86 yX0_forceWith, Cond.instanceMethod yX0_forceWith]
def wsL_isHeld_r6 : List Cond := [Cond.selects RX0 yX0_forceWith yX0_forceWith, Cond.code yX0_forceWith cX0_forceWith 5 (some .int), Cond.methodLink RX0 149 yX0_pullWith, Cond.instanceMethod yX0_pullWith, Cond.selects RX0 yX0_pullWith yX0_pullWith, Cond.code yX0_pullWith cX0_pullWith 8 (some .int), Cond.methodLink RX0 146 yX0_heightIn, Cond.instanceMethod yX0_heightIn, Cond.selects RX0 yX0_heightIn yX0_heightIn, Cond.code yX0_heightIn cX0_heightIn 2 (some .int), Cond.methodLink RX0 101 yX0_tensionAtLength, Cond.instanceMethod yX0_tensionAtLength, Cond.selects RX0 yX0_tensionAtLength yX0_tensionAtLength, Cond.code yX0_tensionAtLength cX0_tensionAtLength 3 (some .int), Cond.methodLink RX0 113 Lib.Math.max.name, Cond.static Lib.Math.max.name, Cond.initialized "java/lang/Math", Cond.code Lib.Math.max.name Lib.Math.max.code 2 (some .int), Cond.methodLink RX0 97 yX0_lengthWith, Cond.instanceMethod yX0_lengthWith, Cond.selects RX0 yX0_lengthWith yX0_lengthWith, Cond.code yX0_lengthWith cX0_lengthWith 4 (some .int), Cond.methodLink RL 52 yL_tended, Cond.static yL_tended]
def wsL_isHeld_r7 : List Cond := [Cond.code yL_tended cL_tended 10 (some .int), Cond.methodLink RL 34 yL_shift, Cond.static yL_shift, Cond.code yL_shift cL_shift 9 (some .int), Cond.methodLink RL 30 yL_force, Cond.static yL_force, Cond.code yL_force cL_force 15 (some .int), Cond.methodLink RL 27 yL_tension, Cond.static yL_tension, Cond.code yL_tension cL_tension 6 (some .int), Cond.methodLink RL 115 yX0_toggle, Cond.instanceMethod yX0_toggle, Cond.selects RX0 yX0_toggle yX0_toggle, Cond.code yX0_toggle cX0_toggle 2 (some .boolean), Cond.methodLink RX0 79 yX0_checkLine, Cond.instanceMethod yX0_checkLine, Cond.selects RX0 yX0_checkLine yX0_checkLine, Cond.code yX0_checkLine cX0_checkLine 2 none, Cond.methodLink RL 118 yL_tend, Cond.static yL_tend, Cond.codeWith yL_tend cL_tend 5 (some .int) [(0, 7, 8, 87)], Cond.methodLink RL 83 yX0_tend, Cond.instanceMethod yX0_tend, Cond.selects RX0 yX0_tend yX0_tend]
def wsL_isHeld_r8 : List Cond := [Cond.code yX0_tend cX0_tend 4 (some .int), Cond.methodLink RL 131 yL_isTold, Cond.static yL_isTold, Cond.code yL_isTold cL_isTold 14 (some .boolean), Cond.methodLink RL 55 yX0_shift, Cond.instanceMethod yX0_shift, Cond.selects RX0 yX0_shift yX0_shift, Cond.code yX0_shift cX0_shift 2 (some .int), Cond.methodLink RL 60 yX0_isAdrift, Cond.instanceMethod yX0_isAdrift, Cond.selects RX0 yX0_isAdrift yX0_isAdrift, Cond.code yX0_isAdrift cX0_isAdrift 2 (some .boolean), Cond.methodLink RX0 93 yX0_driftsWith, Cond.instanceMethod yX0_driftsWith, Cond.selects RX0 yX0_driftsWith yX0_driftsWith, Cond.code yX0_driftsWith cX0_driftsWith 3 (some .boolean), Cond.methodLink RL 38 yL_isAdrift, Cond.static yL_isAdrift, Cond.code yL_isAdrift cL_isAdrift 7 (some .boolean), Cond.methodLink RL 63 yX0_isSafe, Cond.instanceMethod yX0_isSafe, Cond.selects RX0 yX0_isSafe yX0_isSafe, Cond.code yX0_isSafe cX0_isSafe 2 (some .boolean), Cond.methodLink RX0 107 yX0_holdsIn]
def wsL_isHeld_r9 : List Cond := [Cond.instanceMethod yX0_holdsIn, Cond.selects RX0 yX0_holdsIn yX0_holdsIn, Cond.code yX0_holdsIn cX0_holdsIn 3 (some .boolean), Cond.methodLink RX0 155 yX0_linesHold, Cond.instanceMethod yX0_linesHold, Cond.selects RX0 yX0_linesHold yX0_linesHold, Cond.code yX0_linesHold cX0_linesHold 5 (some .boolean), Cond.methodLink RX0 158 yX0_bollardsHold, Cond.instanceMethod yX0_bollardsHold, Cond.selects RX0 yX0_bollardsHold yX0_bollardsHold, Cond.code yX0_bollardsHold cX0_bollardsHold 4 (some .boolean), Cond.methodLink RX0 104 yX0_bollardTension, Cond.instanceMethod yX0_bollardTension, Cond.selects RX0 yX0_bollardTension yX0_bollardTension, Cond.code yX0_bollardTension cX0_bollardTension 6 (some .int), Cond.methodLink RL 49 yL_isSafe, Cond.static yL_isSafe, Cond.code yL_isSafe cL_isSafe 8 (some .boolean), Cond.constantLong RL 42 (20), Cond.constantLong RL 44 (11), Cond.methodLink RL 46 yL_onBollard, Cond.static yL_onBollard, Cond.code yL_onBollard cL_onBollard 8 (some .int), Cond.methodLink RL 65 yX0_force]
def wsL_isHeld_r10 : List Cond := [Cond.instanceMethod yX0_force, Cond.selects RX0 yX0_force yX0_force, Cond.code yX0_force cX0_force 3 (some .int), Cond.methodLink RL 68 yX0_length, Cond.instanceMethod yX0_length, Cond.selects RX0 yX0_length yX0_length, Cond.code yX0_length cX0_length 3 (some .int), Cond.methodLink RL 70 yX0_tension, Cond.instanceMethod yX0_tension, Cond.selects RX0 yX0_tension yX0_tension, Cond.code yX0_tension cX0_tension 3 (some .int), Cond.methodLink RL 72 yX0_onBollard, Cond.instanceMethod yX0_onBollard, Cond.selects RX0 yX0_onBollard yX0_onBollard, Cond.code yX0_onBollard cX0_onBollard 3 (some .int), Cond.methodLink RL 134 yL_arePlans, Cond.static yL_arePlans, Cond.code yL_arePlans cL_arePlans 12 (some .boolean), Cond.methodLink RL 74 yX0_plan, Cond.instanceMethod yX0_plan, Cond.selects RX0 yX0_plan yX0_plan, Cond.code yX0_plan cX0_plan 4 (some .int), Cond.methodLink RX0 126 arraycopyName, Cond.native arraycopyName]
def wsL_isHeld_r11 : List Cond := [Cond.static arraycopyName, Cond.initialized "java/lang/System", Cond.methodLink RX0 132 yX0_tendThrough, Cond.instanceMethod yX0_tendThrough, Cond.selects RX0 yX0_tendThrough yX0_tendThrough, Cond.code yX0_tendThrough cX0_tendThrough 5 (some .int), Cond.methodLink RL 77 yL_plan, Cond.static yL_plan, Cond.code yL_plan cL_plan 12 (some .int), Cond.methodLink RL 80 yX0_firstUnsafe, Cond.instanceMethod yX0_firstUnsafe, Cond.selects RX0 yX0_firstUnsafe yX0_firstUnsafe, Cond.code yX0_firstUnsafe cX0_firstUnsafe 3 (some .int)]
def wsL_isHeld : List Cond := .codeWith yL_isHeld cL_isHeld 2 (some .boolean) [(0, 4, 5, 142), (0, 4, 8, 144), (0, 4, 11, 87)] :: ((wsL_isHeld_r1 ++ (wsL_isHeld_r2 ++ (wsL_isHeld_r3 ++ (wsL_isHeld_r4 ++ (wsL_isHeld_r5 ++ (wsL_isHeld_r6 ++ (wsL_isHeld_r7 ++ (wsL_isHeld_r8 ++ (wsL_isHeld_r9 ++ (wsL_isHeld_r10 ++ wsL_isHeld_r11)))))))))) ++ wsX00 ++ (vx_atS RX0 66 "java/lang/IllegalStateException" ["java/lang/RuntimeException", "java/lang/Exception"]).filter goodWord ++ (vx_atS RX0 125 "java/lang/IllegalArgumentException" ["java/lang/RuntimeException", "java/lang/Exception"]).filter goodWord ++ (vx_atS RX0 139 "java/lang/IndexOutOfBoundsException" ["java/lang/RuntimeException", "java/lang/Exception"]).filter goodWord)
def wsL_law0_r1 : List Cond := [Cond.methodLink RL 146 yL_isHeld, Cond.static yL_isHeld, Cond.initialized RL, Cond.codeWith yL_isHeld cL_isHeld 2 (some .boolean) [(0, 4, 5, 142), (0, 4, 8, 144), (0, 4, 11, 87)], Cond.classLink RL 142 "java/lang/IndexOutOfBoundsException", Cond.classLink RL 144 "java/lang/IllegalArgumentException", Cond.classLink RL 87 "java/lang/IllegalStateException", Cond.methodLink RL 138 yL_holds, Cond.static yL_holds, Cond.code yL_holds cL_holds 11 (some .boolean), Cond.classLink RL 56 RX0, Cond.instantiable RX0 15, Cond.initialized RX0, Cond.arrayClass .int, Cond.constant RL 122 (100000000), Cond.methodLink RL 121 yX0_init, Cond.instanceMethod yX0_init, Cond.code yX0_init cX0_init 1 none, Cond.methodLink RX0 1 objectInit, Cond.instanceMethod objectInit, Cond.code objectInit ⟨#[0xb1]⟩ 1 none, Cond.fieldLink RX0 9 "MoorWatch" "tides" "[I", Cond.fieldLink RX0 13 "MoorWatch" "loads" "[I", Cond.fieldLink RX0 16 "MoorWatch" "passing" "[I"]
def wsL_law0_r2 : List Cond := [Cond.fieldLink RX0 19 "MoorWatch" "wind" "I", Cond.fieldLink RX0 23 "MoorWatch" "bollardCount" "I", Cond.fieldLink RX0 26 "MoorWatch" "bollardPlaces" "[I", Cond.fieldLink RX0 29 "MoorWatch" "bollardLimits" "[I", Cond.fieldLink RX0 32 "MoorWatch" "lineCount" "I", Cond.fieldLink RX0 35 "MoorWatch" "lineBollards" "[I", Cond.fieldLink RX0 38 "MoorWatch" "lineReaches" "[I", Cond.fieldLink RX0 41 "MoorWatch" "lineStiffnesses" "[I", Cond.fieldLink RX0 44 "MoorWatch" "lineStrengths" "[I", Cond.fieldLink RX0 47 "MoorWatch" "lineSets" "[I", Cond.arrayClass .boolean, Cond.fieldLink RX0 50 "MoorWatch" "lineFast" "[Z", Cond.fieldLink RX0 54 "MoorWatch" "setsBeforePlan" "[I", Cond.methodLink RL 123 yL_from, Cond.static yL_from, Cond.code yL_from cL_from 4 (some .int), Cond.constant RL 7 (203233), Cond.constant RL 8 (2147483647), Cond.methodLink RL 127 yL_acts, Cond.static yL_acts, Cond.code yL_acts cL_acts 15 (some .boolean), Cond.constant RL 89 (200000), Cond.constant RL 93 (300000), Cond.constant RL 104 (2000001)]
def wsL_law0_r3 : List Cond := [Cond.constant RL 105 (1000000), Cond.methodLink RL 90 yX0_addBollard, Cond.instanceMethod yX0_addBollard, Cond.selects RX0 yX0_addBollard yX0_addBollard, Cond.code yX0_addBollard cX0_addBollard 4 (some .int), Cond.classLink RX0 62 "java/lang/IllegalStateException", Cond.initialized "java/lang/IllegalStateException", Cond.constant RX0 61 (1000000), Cond.methodLink RX0 57 yX0_checkRange, Cond.static yX0_checkRange, Cond.code yX0_checkRange cX0_checkRange 3 none, Cond.classLink RX0 121 "java/lang/IllegalArgumentException", Cond.initialized "java/lang/IllegalArgumentException", Cond.methodLink RL 23 yL_length, Cond.static yL_length, Cond.code yL_length cL_length 7 (some .int), Cond.methodLink RL 13 yL_away, Cond.static yL_away, Cond.code yL_away cL_away 4 (some .int), Cond.methodLink RL 19 yL_root, Cond.static yL_root, Cond.code yL_root cL_root 6 (some .int), Cond.constantLong RL 9 (16384), Cond.constantLong RL 11 (2)]
def wsL_law0_r4 : List Cond := [Cond.methodLink RL 94 yX0_addLine, Cond.instanceMethod yX0_addLine, Cond.selects RX0 yX0_addLine yX0_addLine, Cond.code yX0_addLine cX0_addLine 7 (some .int), Cond.methodLink RX0 69 yX0_checkBollard, Cond.instanceMethod yX0_checkBollard, Cond.selects RX0 yX0_checkBollard yX0_checkBollard, Cond.code yX0_checkBollard cX0_checkBollard 2 none, Cond.classLink RX0 135 "java/lang/IndexOutOfBoundsException", Cond.initialized "java/lang/IndexOutOfBoundsException", Cond.methodLink RX0 75 yX0_lengthOver, Cond.static yX0_lengthOver, Cond.code yX0_lengthOver cX0_lengthOver 6 (some .int), Cond.methodLink RL 98 yX0_setTide, Cond.instanceMethod yX0_setTide, Cond.selects RX0 yX0_setTide yX0_setTide, Cond.code yX0_setTide cX0_setTide 4 (some .int), Cond.methodLink RX0 82 yX0_checkHour, Cond.static yX0_checkHour, Cond.code yX0_checkHour cX0_checkHour 1 none, Cond.methodLink RL 101 yX0_setLoad, Cond.instanceMethod yX0_setLoad, Cond.selects RX0 yX0_setLoad yX0_setLoad, Cond.code yX0_setLoad cX0_setLoad 5 (some .int)]
def wsL_law0_r5 : List Cond := [Cond.methodLink RL 106 yX0_setWind, Cond.instanceMethod yX0_setWind, Cond.selects RX0 yX0_setWind yX0_setWind, Cond.code yX0_setWind cX0_setWind 3 (some .int), Cond.constant RX0 85 (-1000000), Cond.methodLink RL 109 yX0_setPassing, Cond.instanceMethod yX0_setPassing, Cond.selects RX0 yX0_setPassing yX0_setPassing, Cond.code yX0_setPassing cX0_setPassing 4 (some .int), Cond.methodLink RL 112 yX0_tendAll, Cond.instanceMethod yX0_tendAll, Cond.selects RX0 yX0_tendAll yX0_tendAll, Cond.code yX0_tendAll cX0_tendAll 2 (some .int), Cond.methodLink RX0 118 yX0_tendFastLines, Cond.instanceMethod yX0_tendFastLines, Cond.selects RX0 yX0_tendFastLines yX0_tendFastLines, Cond.code yX0_tendFastLines cX0_tendFastLines 6 (some .int), Cond.methodLink RX0 89 yX0_balanceOf, Cond.instanceMethod yX0_balanceOf, Cond.selects RX0 yX0_balanceOf yX0_balanceOf, Cond.code yX0_balanceOf cX0_balanceOf 6 (some .int), Cond.methodLink RX0 152 yJ9_floorDiv_7cf53, Cond.static yJ9_floorDiv_7cf53, Cond.initialized RJ9]
def wsL_law0_r6 : List Cond := [Cond.code yJ9_floorDiv_7cf53 cJ9_floorDiv_7cf53 3 (some .int), Cond.methodLink RX0 86 yX0_forceWith, Cond.instanceMethod yX0_forceWith, Cond.selects RX0 yX0_forceWith yX0_forceWith, Cond.code yX0_forceWith cX0_forceWith 5 (some .int), Cond.methodLink RX0 149 yX0_pullWith, Cond.instanceMethod yX0_pullWith, Cond.selects RX0 yX0_pullWith yX0_pullWith, Cond.code yX0_pullWith cX0_pullWith 8 (some .int), Cond.methodLink RX0 146 yX0_heightIn, Cond.instanceMethod yX0_heightIn, Cond.selects RX0 yX0_heightIn yX0_heightIn, Cond.code yX0_heightIn cX0_heightIn 2 (some .int), Cond.methodLink RX0 101 yX0_tensionAtLength, Cond.instanceMethod yX0_tensionAtLength, Cond.selects RX0 yX0_tensionAtLength yX0_tensionAtLength, Cond.code yX0_tensionAtLength cX0_tensionAtLength 3 (some .int), Cond.methodLink RX0 113 Lib.Math.max.name, Cond.static Lib.Math.max.name, Cond.initialized "java/lang/Math", Cond.code Lib.Math.max.name Lib.Math.max.code 2 (some .int), Cond.methodLink RX0 97 yX0_lengthWith, Cond.instanceMethod yX0_lengthWith, Cond.selects RX0 yX0_lengthWith yX0_lengthWith]
def wsL_law0_r7 : List Cond := [Cond.code yX0_lengthWith cX0_lengthWith 4 (some .int), Cond.methodLink RL 52 yL_tended, Cond.static yL_tended, Cond.code yL_tended cL_tended 10 (some .int), Cond.methodLink RL 34 yL_shift, Cond.static yL_shift, Cond.code yL_shift cL_shift 9 (some .int), Cond.methodLink RL 30 yL_force, Cond.static yL_force, Cond.code yL_force cL_force 15 (some .int), Cond.methodLink RL 27 yL_tension, Cond.static yL_tension, Cond.code yL_tension cL_tension 6 (some .int), Cond.methodLink RL 115 yX0_toggle, Cond.instanceMethod yX0_toggle, Cond.selects RX0 yX0_toggle yX0_toggle, Cond.code yX0_toggle cX0_toggle 2 (some .boolean), Cond.methodLink RX0 79 yX0_checkLine, Cond.instanceMethod yX0_checkLine, Cond.selects RX0 yX0_checkLine yX0_checkLine, Cond.code yX0_checkLine cX0_checkLine 2 none, Cond.methodLink RL 118 yL_tend, Cond.static yL_tend, Cond.codeWith yL_tend cL_tend 5 (some .int) [(0, 7, 8, 87)]]
def wsL_law0_r8 : List Cond := [Cond.methodLink RL 83 yX0_tend, Cond.instanceMethod yX0_tend, Cond.selects RX0 yX0_tend yX0_tend, Cond.code yX0_tend cX0_tend 4 (some .int), Cond.methodLink RL 131 yL_isTold, Cond.static yL_isTold, Cond.code yL_isTold cL_isTold 14 (some .boolean), Cond.methodLink RL 55 yX0_shift, Cond.instanceMethod yX0_shift, Cond.selects RX0 yX0_shift yX0_shift, Cond.code yX0_shift cX0_shift 2 (some .int), Cond.methodLink RL 60 yX0_isAdrift, Cond.instanceMethod yX0_isAdrift, Cond.selects RX0 yX0_isAdrift yX0_isAdrift, Cond.code yX0_isAdrift cX0_isAdrift 2 (some .boolean), Cond.methodLink RX0 93 yX0_driftsWith, Cond.instanceMethod yX0_driftsWith, Cond.selects RX0 yX0_driftsWith yX0_driftsWith, Cond.code yX0_driftsWith cX0_driftsWith 3 (some .boolean), Cond.methodLink RL 38 yL_isAdrift, Cond.static yL_isAdrift, Cond.code yL_isAdrift cL_isAdrift 7 (some .boolean), Cond.methodLink RL 63 yX0_isSafe, Cond.instanceMethod yX0_isSafe]
def wsL_law0_r9 : List Cond := [Cond.selects RX0 yX0_isSafe yX0_isSafe, Cond.code yX0_isSafe cX0_isSafe 2 (some .boolean), Cond.methodLink RX0 107 yX0_holdsIn, Cond.instanceMethod yX0_holdsIn, Cond.selects RX0 yX0_holdsIn yX0_holdsIn, Cond.code yX0_holdsIn cX0_holdsIn 3 (some .boolean), Cond.methodLink RX0 155 yX0_linesHold, Cond.instanceMethod yX0_linesHold, Cond.selects RX0 yX0_linesHold yX0_linesHold, Cond.code yX0_linesHold cX0_linesHold 5 (some .boolean), Cond.methodLink RX0 158 yX0_bollardsHold, Cond.instanceMethod yX0_bollardsHold, Cond.selects RX0 yX0_bollardsHold yX0_bollardsHold, Cond.code yX0_bollardsHold cX0_bollardsHold 4 (some .boolean), Cond.methodLink RX0 104 yX0_bollardTension, Cond.instanceMethod yX0_bollardTension, Cond.selects RX0 yX0_bollardTension yX0_bollardTension, Cond.code yX0_bollardTension cX0_bollardTension 6 (some .int), Cond.methodLink RL 49 yL_isSafe, Cond.static yL_isSafe, Cond.code yL_isSafe cL_isSafe 8 (some .boolean), Cond.constantLong RL 42 (20), Cond.constantLong RL 44 (11), Cond.methodLink RL 46 yL_onBollard]
def wsL_law0_r10 : List Cond := [Cond.static yL_onBollard, Cond.code yL_onBollard cL_onBollard 8 (some .int), Cond.methodLink RL 65 yX0_force, Cond.instanceMethod yX0_force, Cond.selects RX0 yX0_force yX0_force, Cond.code yX0_force cX0_force 3 (some .int), Cond.methodLink RL 68 yX0_length, Cond.instanceMethod yX0_length, Cond.selects RX0 yX0_length yX0_length, Cond.code yX0_length cX0_length 3 (some .int), Cond.methodLink RL 70 yX0_tension, Cond.instanceMethod yX0_tension, Cond.selects RX0 yX0_tension yX0_tension, Cond.code yX0_tension cX0_tension 3 (some .int), Cond.methodLink RL 72 yX0_onBollard, Cond.instanceMethod yX0_onBollard, Cond.selects RX0 yX0_onBollard yX0_onBollard, Cond.code yX0_onBollard cX0_onBollard 3 (some .int), Cond.methodLink RL 134 yL_arePlans, Cond.static yL_arePlans, Cond.code yL_arePlans cL_arePlans 12 (some .boolean), Cond.methodLink RL 74 yX0_plan, Cond.instanceMethod yX0_plan, Cond.selects RX0 yX0_plan yX0_plan]
def wsL_law0_r11 : List Cond := [Cond.code yX0_plan cX0_plan 4 (some .int), Cond.methodLink RX0 126 arraycopyName, Cond.native arraycopyName, Cond.static arraycopyName, Cond.initialized "java/lang/System", Cond.methodLink RX0 132 yX0_tendThrough, Cond.instanceMethod yX0_tendThrough, Cond.selects RX0 yX0_tendThrough yX0_tendThrough, Cond.code yX0_tendThrough cX0_tendThrough 5 (some .int), Cond.methodLink RL 77 yL_plan, Cond.static yL_plan, Cond.code yL_plan cL_plan 12 (some .int), Cond.methodLink RL 80 yX0_firstUnsafe, Cond.instanceMethod yX0_firstUnsafe, Cond.selects RX0 yX0_firstUnsafe yX0_firstUnsafe, Cond.code yX0_firstUnsafe cX0_firstUnsafe 3 (some .int)]
def wsL_law0 : List Cond := (wsL_law0_r1 ++ (wsL_law0_r2 ++ (wsL_law0_r3 ++ (wsL_law0_r4 ++ (wsL_law0_r5 ++ (wsL_law0_r6 ++ (wsL_law0_r7 ++ (wsL_law0_r8 ++ (wsL_law0_r9 ++ (wsL_law0_r10 ++ wsL_law0_r11)))))))))) ++ wsX00 ++ ([] : List Cond)
def wsL_law : List Cond := wsL_law0 ++ (vx_atS RX0 66 "java/lang/IllegalStateException" ["java/lang/RuntimeException", "java/lang/Exception"]).filter goodWord ++ (vx_atS RX0 125 "java/lang/IllegalArgumentException" ["java/lang/RuntimeException", "java/lang/Exception"]).filter goodWord ++ (vx_atS RX0 139 "java/lang/IndexOutOfBoundsException" ["java/lang/RuntimeException", "java/lang/Exception"]).filter goodWord
end
section
set_option maxRecDepth 20000 in
theorem wi_r1 : ∀ w ∈ wsL_law0_r1, w ∈ lw_tbl := fun w h => (goodIn_p wsL_law0_r1 [34, 39, 42] (by decide +kernel) (by decide +kernel) w h).1
set_option maxRecDepth 20000 in
theorem wi_r2 : ∀ w ∈ wsL_law0_r2, w ∈ lw_tbl := fun w h => (goodIn_p wsL_law0_r2 [94, 99] rfl (by decide +kernel) w h).1
set_option maxRecDepth 20000 in
theorem wi_r3 : ∀ w ∈ wsL_law0_r3, w ∈ lw_tbl := fun w h => (goodIn_p wsL_law0_r3 [104, 107, 196, 199, 202] (by decide +kernel) (by decide +kernel) w h).1
set_option maxRecDepth 20000 in
theorem wi_r4 : ∀ w ∈ wsL_law0_r4, w ∈ lw_tbl := fun w h => (goodIn_p wsL_law0_r4 [208, 212, 232, 236, 239, 244] (by decide +kernel) (by decide +kernel) w h).1
set_option maxRecDepth 20000 in
theorem wi_r5 : ∀ w ∈ wsL_law0_r5, w ∈ lw_tbl := fun w h => (goodIn_p wsL_law0_r5 [250, 255, 259, 263, 267] (by decide +kernel) (by decide +kernel) w h).1
set_option maxRecDepth 20000 in
theorem wi_r6 : ∀ w ∈ wsL_law0_r6, w ∈ lw_tbl := fun w h => (goodIn_p wsL_law0_r6 [270, 274, 278, 282, 286, 289] (by decide +kernel) (by decide +kernel) w h).1
set_option maxRecDepth 20000 in
theorem wi_r7 : ∀ w ∈ wsL_law0_r7, w ∈ lw_tbl := fun w h => (goodIn_p wsL_law0_r7 [293, 296, 299, 302, 305, 309, 313] (by decide +kernel) (by decide +kernel) w h).1
set_option maxRecDepth 20000 in
theorem wi_r8 : ∀ w ∈ wsL_law0_r8, w ∈ lw_tbl := fun w h => (goodIn_p wsL_law0_r8 [321, 325, 329, 333, 337, 340] (by decide +kernel) (by decide +kernel) w h).1
set_option maxRecDepth 20000 in
theorem wi_r9 : ∀ w ∈ wsL_law0_r9, w ∈ lw_tbl := fun w h => (goodIn_p wsL_law0_r9 [344, 348, 352, 356, 360, 363] (by decide +kernel) (by decide +kernel) w h).1
set_option maxRecDepth 20000 in
theorem wi_r10 : ∀ w ∈ wsL_law0_r10, w ∈ lw_tbl := fun w h => (goodIn_p wsL_law0_r10 [368, 372, 376, 380, 384, 387] (by decide +kernel) (by decide +kernel) w h).1
set_option maxRecDepth 20000 in
theorem wi_r11 : ∀ w ∈ wsL_law0_r11, w ∈ lw_tbl := fun w h => (goodIn_p wsL_law0_r11 [391, 399, 402, 406] (by decide +kernel) (by decide +kernel) w h).1
theorem wi_x0 : ∀ w ∈ wsX00, w ∈ lw_tbl := by decide +kernel
theorem wi_all : ∀ w ∈ (wsL_law0_r1 ++ (wsL_law0_r2 ++ (wsL_law0_r3 ++ (wsL_law0_r4 ++ (wsL_law0_r5 ++ (wsL_law0_r6 ++ (wsL_law0_r7 ++ (wsL_law0_r8 ++ (wsL_law0_r9 ++ (wsL_law0_r10 ++ wsL_law0_r11)))))))))), w ∈ lw_tbl := fun w h => (List.mem_append.mp h).elim (fun h => wi_r1 w h) (fun h => (List.mem_append.mp h).elim (fun h => wi_r2 w h) (fun h => (List.mem_append.mp h).elim (fun h => wi_r3 w h) (fun h => (List.mem_append.mp h).elim (fun h => wi_r4 w h) (fun h => (List.mem_append.mp h).elim (fun h => wi_r5 w h) (fun h => (List.mem_append.mp h).elim (fun h => wi_r6 w h) (fun h => (List.mem_append.mp h).elim (fun h => wi_r7 w h) (fun h => (List.mem_append.mp h).elim (fun h => wi_r8 w h) (fun h => (List.mem_append.mp h).elim (fun h => wi_r9 w h) (fun h => (List.mem_append.mp h).elim (fun h => wi_r10 w h) (fun h => wi_r11 w h))))))))))
theorem wsL_law_in0 : ∀ w ∈ wsL_law0, w ∈ lw_tbl := fun w h => (List.mem_append.mp h).elim (fun h => (List.mem_append.mp h).elim (fun h => wi_all w h) (fun h => wi_x0 w h)) (fun h => absurd h List.not_mem_nil)
theorem wsL_law_x0 : ∀ w ∈ (vx_atS RX0 66 "java/lang/IllegalStateException" ["java/lang/RuntimeException", "java/lang/Exception"]).filter goodWord, w ∈ lw_tbl := by decide +kernel
theorem wsL_law_x1 : ∀ w ∈ (vx_atS RX0 125 "java/lang/IllegalArgumentException" ["java/lang/RuntimeException", "java/lang/Exception"]).filter goodWord, w ∈ lw_tbl := by decide +kernel
theorem wsL_law_x2 : ∀ w ∈ (vx_atS RX0 139 "java/lang/IndexOutOfBoundsException" ["java/lang/RuntimeException", "java/lang/Exception"]).filter goodWord, w ∈ lw_tbl := by decide +kernel
theorem wsL_law_in : ∀ w ∈ wsL_law, w ∈ lw_tbl := fun w h => (List.mem_append.mp h).elim (fun h => (List.mem_append.mp h).elim (fun h => (List.mem_append.mp h).elim (fun h => wsL_law_in0 w h) (fun h => wsL_law_x0 w h)) (fun h => wsL_law_x1 w h)) (fun h => wsL_law_x2 w h)
theorem inlX0 : ∀ w ∈ wsX00, w ∈ wsL_law := fun _ h => List.mem_append_left _ (List.mem_append_left _ (List.mem_append_left _ (List.mem_append_left _ (List.mem_append_right _ h))))
theorem inX0 : ∀ w ∈ wsX00, w ∈ lw_tbl := fun w h => wsL_law_in w (inlX0 w h)
end
section
theorem inX1 : ∀ w ∈ wsX10, w ∈ lw_tbl := by decide +kernel
theorem inJ9 : ∀ w ∈ wsJ90, w ∈ lw_tbl := by decide +kernel
theorem inJ0 : ∀ w ∈ wsJ00, w ∈ lw_tbl := by decide +kernel
theorem inJ10 : ∀ w ∈ wsJ100, w ∈ lw_tbl := by decide +kernel
theorem dX0_init_0 : decode cX0_init 0 = .ok (.aload_n 0, 1) := by decide +kernel
theorem dX0_init_1 : decode cX0_init 1 = .ok (.invokespecial 1, 3) := by decide +kernel
theorem dX0_init_4 : decode cX0_init 4 = .ok (.aload_n 0, 1) := by decide +kernel
theorem dX0_init_5 : decode cX0_init 5 = .ok (.bipush 48, 2) := by decide +kernel
theorem dX0_init_7 : decode cX0_init 7 = .ok (.newarray .int, 2) := by decide +kernel
theorem dX0_init_9 : decode cX0_init 9 = .ok (.putfield 9, 3) := by decide +kernel
theorem dX0_init_12 : decode cX0_init 12 = .ok (.aload_n 0, 1) := by decide +kernel
theorem dX0_init_13 : decode cX0_init 13 = .ok (.bipush 48, 2) := by decide +kernel
theorem dX0_init_15 : decode cX0_init 15 = .ok (.newarray .int, 2) := by decide +kernel
theorem dX0_init_17 : decode cX0_init 17 = .ok (.putfield 13, 3) := by decide +kernel
theorem dX0_init_20 : decode cX0_init 20 = .ok (.aload_n 0, 1) := by decide +kernel
theorem dX0_init_21 : decode cX0_init 21 = .ok (.bipush 48, 2) := by decide +kernel
theorem dX0_init_23 : decode cX0_init 23 = .ok (.newarray .int, 2) := by decide +kernel
theorem dX0_init_25 : decode cX0_init 25 = .ok (.putfield 16, 3) := by decide +kernel
theorem dX0_init_28 : decode cX0_init 28 = .ok (.aload_n 0, 1) := by decide +kernel
theorem dX0_init_29 : decode cX0_init 29 = .ok (.iconst 0, 1) := by decide +kernel
theorem dX0_init_30 : decode cX0_init 30 = .ok (.putfield 19, 3) := by decide +kernel
theorem dX0_init_33 : decode cX0_init 33 = .ok (.aload_n 0, 1) := by decide +kernel
theorem dX0_init_34 : decode cX0_init 34 = .ok (.iconst 0, 1) := by decide +kernel
theorem dX0_init_35 : decode cX0_init 35 = .ok (.putfield 23, 3) := by decide +kernel
theorem dX0_init_38 : decode cX0_init 38 = .ok (.aload_n 0, 1) := by decide +kernel
theorem dX0_init_39 : decode cX0_init 39 = .ok (.bipush 6, 2) := by decide +kernel
theorem dX0_init_41 : decode cX0_init 41 = .ok (.newarray .int, 2) := by decide +kernel
theorem dX0_init_43 : decode cX0_init 43 = .ok (.putfield 26, 3) := by decide +kernel
theorem dX0_init_46 : decode cX0_init 46 = .ok (.aload_n 0, 1) := by decide +kernel
theorem dX0_init_47 : decode cX0_init 47 = .ok (.bipush 6, 2) := by decide +kernel
theorem dX0_init_49 : decode cX0_init 49 = .ok (.newarray .int, 2) := by decide +kernel
theorem dX0_init_51 : decode cX0_init 51 = .ok (.putfield 29, 3) := by decide +kernel
theorem dX0_init_54 : decode cX0_init 54 = .ok (.aload_n 0, 1) := by decide +kernel
theorem dX0_init_55 : decode cX0_init 55 = .ok (.iconst 0, 1) := by decide +kernel
theorem dX0_init_56 : decode cX0_init 56 = .ok (.putfield 32, 3) := by decide +kernel
theorem dX0_init_59 : decode cX0_init 59 = .ok (.aload_n 0, 1) := by decide +kernel
theorem dX0_init_60 : decode cX0_init 60 = .ok (.bipush 10, 2) := by decide +kernel
theorem dX0_init_62 : decode cX0_init 62 = .ok (.newarray .int, 2) := by decide +kernel
theorem dX0_init_64 : decode cX0_init 64 = .ok (.putfield 35, 3) := by decide +kernel
theorem dX0_init_67 : decode cX0_init 67 = .ok (.aload_n 0, 1) := by decide +kernel
theorem dX0_init_68 : decode cX0_init 68 = .ok (.bipush 10, 2) := by decide +kernel
theorem dX0_init_70 : decode cX0_init 70 = .ok (.newarray .int, 2) := by decide +kernel
theorem dX0_init_72 : decode cX0_init 72 = .ok (.putfield 38, 3) := by decide +kernel
theorem dX0_init_75 : decode cX0_init 75 = .ok (.aload_n 0, 1) := by decide +kernel
theorem dX0_init_76 : decode cX0_init 76 = .ok (.bipush 10, 2) := by decide +kernel
theorem dX0_init_78 : decode cX0_init 78 = .ok (.newarray .int, 2) := by decide +kernel
theorem dX0_init_80 : decode cX0_init 80 = .ok (.putfield 41, 3) := by decide +kernel
theorem dX0_init_83 : decode cX0_init 83 = .ok (.aload_n 0, 1) := by decide +kernel
theorem dX0_init_84 : decode cX0_init 84 = .ok (.bipush 10, 2) := by decide +kernel
theorem dX0_init_86 : decode cX0_init 86 = .ok (.newarray .int, 2) := by decide +kernel
theorem dX0_init_88 : decode cX0_init 88 = .ok (.putfield 44, 3) := by decide +kernel
theorem dX0_init_91 : decode cX0_init 91 = .ok (.aload_n 0, 1) := by decide +kernel
theorem dX0_init_92 : decode cX0_init 92 = .ok (.bipush 10, 2) := by decide +kernel
theorem dX0_init_94 : decode cX0_init 94 = .ok (.newarray .int, 2) := by decide +kernel
theorem dX0_init_96 : decode cX0_init 96 = .ok (.putfield 47, 3) := by decide +kernel
theorem dX0_init_99 : decode cX0_init 99 = .ok (.aload_n 0, 1) := by decide +kernel
theorem dX0_init_100 : decode cX0_init 100 = .ok (.bipush 10, 2) := by decide +kernel
theorem dX0_init_102 : decode cX0_init 102 = .ok (.newarray .boolean, 2) := by decide +kernel
theorem dX0_init_104 : decode cX0_init 104 = .ok (.putfield 50, 3) := by decide +kernel
theorem dX0_init_107 : decode cX0_init 107 = .ok (.aload_n 0, 1) := by decide +kernel
theorem dX0_init_108 : decode cX0_init 108 = .ok (.bipush 10, 2) := by decide +kernel
theorem dX0_init_110 : decode cX0_init 110 = .ok (.newarray .int, 2) := by decide +kernel
theorem dX0_init_112 : decode cX0_init 112 = .ok (.putfield 54, 3) := by decide +kernel
theorem dX0_init_115 : decode cX0_init 115 = .ok (.return_, 1) := by decide +kernel
set_option maxRecDepth 20000 in
theorem ggX0_addBollard_X0_checkRange : GoodIn wsX0_addBollard wsX0_checkRange := goodIn_ca (goodIn_r _ [10, 11, 12] (by decide +kernel) (by decide +kernel)) (goodIn_sub (fun _ h => List.mem_cons_of_mem _ (List.mem_append_right _ h)) (by decide +kernel))
set_option maxRecDepth 20000 in
theorem gX0_addBollard_X0_checkRange : GoodIn wsX0_addBollard (va_wsS RX0 57 yX0_checkRange wsX0_checkRange) := goodIn_app (goodIn_of _ (by decide +kernel)) ggX0_addBollard_X0_checkRange
theorem dX0_addBollard_0 : decode cX0_addBollard 0 = .ok (.iload_n 1, 1) := by decide +kernel
theorem dX0_addBollard_1 : decode cX0_addBollard 1 = .ok (.sipush (-5000), 3) := by decide +kernel
theorem dX0_addBollard_4 : decode cX0_addBollard 4 = .ok (.sipush 5000, 3) := by decide +kernel
theorem dX0_addBollard_7 : decode cX0_addBollard 7 = .ok (.invokestatic 57, 3) := by decide +kernel
theorem dX0_addBollard_10 : decode cX0_addBollard 10 = .ok (.iload_n 2, 1) := by decide +kernel
theorem dX0_addBollard_11 : decode cX0_addBollard 11 = .ok (.iconst 1, 1) := by decide +kernel
theorem dX0_addBollard_12 : decode cX0_addBollard 12 = .ok (.ldc 61, 2) := by decide +kernel
theorem dX0_addBollard_14 : decode cX0_addBollard 14 = .ok (.invokestatic 57, 3) := by decide +kernel
theorem dX0_addBollard_17 : decode cX0_addBollard 17 = .ok (.aload_n 0, 1) := by decide +kernel
theorem dX0_addBollard_18 : decode cX0_addBollard 18 = .ok (.getfield 23, 3) := by decide +kernel
theorem dX0_addBollard_21 : decode cX0_addBollard 21 = .ok (.bipush 6, 2) := by decide +kernel
theorem dX0_addBollard_23 : decode cX0_addBollard 23 = .ok (.if_icmp .lt 13, 3) := by decide +kernel
theorem dX0_addBollard_26 : decode cX0_addBollard 26 = .ok (.new 62, 3) := by decide +kernel
theorem dX0_addBollard_29 : decode cX0_addBollard 29 = .ok (.dup, 1) := by decide +kernel
theorem dX0_addBollard_30 : decode cX0_addBollard 30 = .ok (.ldc 64, 2) := by decide +kernel
theorem dX0_addBollard_32 : decode cX0_addBollard 32 = .ok (.invokespecial 66, 3) := by decide +kernel
theorem dX0_addBollard_35 : decode cX0_addBollard 35 = .ok (.athrow, 1) := by decide +kernel
theorem dX0_addBollard_36 : decode cX0_addBollard 36 = .ok (.aload_n 0, 1) := by decide +kernel
theorem dX0_addBollard_37 : decode cX0_addBollard 37 = .ok (.getfield 23, 3) := by decide +kernel
theorem dX0_addBollard_40 : decode cX0_addBollard 40 = .ok (.istore_n 3, 1) := by decide +kernel
theorem dX0_addBollard_41 : decode cX0_addBollard 41 = .ok (.aload_n 0, 1) := by decide +kernel
theorem dX0_addBollard_42 : decode cX0_addBollard 42 = .ok (.getfield 26, 3) := by decide +kernel
theorem dX0_addBollard_45 : decode cX0_addBollard 45 = .ok (.iload_n 3, 1) := by decide +kernel
theorem dX0_addBollard_46 : decode cX0_addBollard 46 = .ok (.iload_n 1, 1) := by decide +kernel
theorem dX0_addBollard_47 : decode cX0_addBollard 47 = .ok (.iastore, 1) := by decide +kernel
theorem dX0_addBollard_48 : decode cX0_addBollard 48 = .ok (.aload_n 0, 1) := by decide +kernel
theorem dX0_addBollard_49 : decode cX0_addBollard 49 = .ok (.getfield 29, 3) := by decide +kernel
theorem dX0_addBollard_52 : decode cX0_addBollard 52 = .ok (.iload_n 3, 1) := by decide +kernel
theorem dX0_addBollard_53 : decode cX0_addBollard 53 = .ok (.iload_n 2, 1) := by decide +kernel
theorem dX0_addBollard_54 : decode cX0_addBollard 54 = .ok (.iastore, 1) := by decide +kernel
theorem dX0_addBollard_55 : decode cX0_addBollard 55 = .ok (.aload_n 0, 1) := by decide +kernel
theorem dX0_addBollard_56 : decode cX0_addBollard 56 = .ok (.iload_n 3, 1) := by decide +kernel
theorem dX0_addBollard_57 : decode cX0_addBollard 57 = .ok (.iconst 1, 1) := by decide +kernel
theorem dX0_addBollard_58 : decode cX0_addBollard 58 = .ok (.iadd, 1) := by decide +kernel
theorem dX0_addBollard_59 : decode cX0_addBollard 59 = .ok (.putfield 23, 3) := by decide +kernel
theorem dX0_addBollard_62 : decode cX0_addBollard 62 = .ok (.iload_n 3, 1) := by decide +kernel
theorem dX0_addBollard_63 : decode cX0_addBollard 63 = .ok (.ireturn, 1) := by decide +kernel
set_option maxRecDepth 20000 in
theorem ggX0_addLine_X0_checkBollard : GoodIn wsX0_addLine wsX0_checkBollard := goodIn_ca (goodIn_r _ [16, 17, 18, 19, 28, 29, 30, 31, 32, 33, 34, 35, 36, 37, 38, 39, 40, 41, 42] (by decide +kernel) (by decide +kernel)) (goodIn_sub (fun _ h => List.mem_cons_of_mem _ (List.mem_append_left _ (List.mem_append_right _ h))) (by decide +kernel))
set_option maxRecDepth 20000 in
theorem gX0_addLine_X0_checkBollard : GoodIn wsX0_addLine (wsV RX0 69 RX0 yX0_checkBollard wsX0_checkBollard) := goodIn_app (goodIn_of _ (by decide +kernel)) ggX0_addLine_X0_checkBollard
set_option maxRecDepth 20000 in
theorem ggX0_addLine_X0_checkRange : GoodIn wsX0_addLine wsX0_checkRange := goodIn_ca (goodIn_r _ [22, 23, 24] (by decide +kernel) (by decide +kernel)) (goodIn_sub (fun _ h => List.mem_cons_of_mem _ (List.mem_append_right _ h)) (by decide +kernel))
set_option maxRecDepth 20000 in
theorem gX0_addLine_X0_checkRange : GoodIn wsX0_addLine (va_wsS RX0 57 yX0_checkRange wsX0_checkRange) := goodIn_app (goodIn_of _ (by decide +kernel)) ggX0_addLine_X0_checkRange
set_option maxRecDepth 20000 in
theorem ggX0_addLine_X0_lengthOver : GoodIn wsX0_addLine wsX0_lengthOver := goodIn_r _ [27] (by decide +kernel) (by decide +kernel)
set_option maxRecDepth 20000 in
theorem gX0_addLine_X0_lengthOver : GoodIn wsX0_addLine (va_wsS RX0 75 yX0_lengthOver wsX0_lengthOver) := goodIn_app (goodIn_of _ (by decide +kernel)) ggX0_addLine_X0_lengthOver
theorem dX0_addLine_0 : decode cX0_addLine 0 = .ok (.aload_n 0, 1) := by decide +kernel
theorem dX0_addLine_1 : decode cX0_addLine 1 = .ok (.iload_n 2, 1) := by decide +kernel
theorem dX0_addLine_2 : decode cX0_addLine 2 = .ok (.invokevirtual 69, 3) := by decide +kernel
theorem dX0_addLine_5 : decode cX0_addLine 5 = .ok (.iload_n 1, 1) := by decide +kernel
theorem dX0_addLine_6 : decode cX0_addLine 6 = .ok (.sipush (-5000), 3) := by decide +kernel
theorem dX0_addLine_9 : decode cX0_addLine 9 = .ok (.sipush 5000, 3) := by decide +kernel
theorem dX0_addLine_12 : decode cX0_addLine 12 = .ok (.invokestatic 57, 3) := by decide +kernel
theorem dX0_addLine_15 : decode cX0_addLine 15 = .ok (.iload_n 3, 1) := by decide +kernel
theorem dX0_addLine_16 : decode cX0_addLine 16 = .ok (.iconst 1, 1) := by decide +kernel
theorem dX0_addLine_17 : decode cX0_addLine 17 = .ok (.bipush 100, 2) := by decide +kernel
theorem dX0_addLine_19 : decode cX0_addLine 19 = .ok (.invokestatic 57, 3) := by decide +kernel
theorem dX0_addLine_22 : decode cX0_addLine 22 = .ok (.iload 4, 2) := by decide +kernel
theorem dX0_addLine_24 : decode cX0_addLine 24 = .ok (.iconst 1, 1) := by decide +kernel
theorem dX0_addLine_25 : decode cX0_addLine 25 = .ok (.ldc 61, 2) := by decide +kernel
theorem dX0_addLine_27 : decode cX0_addLine 27 = .ok (.invokestatic 57, 3) := by decide +kernel
theorem dX0_addLine_30 : decode cX0_addLine 30 = .ok (.aload_n 0, 1) := by decide +kernel
theorem dX0_addLine_31 : decode cX0_addLine 31 = .ok (.getfield 32, 3) := by decide +kernel
theorem dX0_addLine_34 : decode cX0_addLine 34 = .ok (.bipush 10, 2) := by decide +kernel
theorem dX0_addLine_36 : decode cX0_addLine 36 = .ok (.if_icmp .lt 13, 3) := by decide +kernel
theorem dX0_addLine_39 : decode cX0_addLine 39 = .ok (.new 62, 3) := by decide +kernel
theorem dX0_addLine_42 : decode cX0_addLine 42 = .ok (.dup, 1) := by decide +kernel
theorem dX0_addLine_43 : decode cX0_addLine 43 = .ok (.ldc 73, 2) := by decide +kernel
theorem dX0_addLine_45 : decode cX0_addLine 45 = .ok (.invokespecial 66, 3) := by decide +kernel
theorem dX0_addLine_48 : decode cX0_addLine 48 = .ok (.athrow, 1) := by decide +kernel
theorem dX0_addLine_49 : decode cX0_addLine 49 = .ok (.aload_n 0, 1) := by decide +kernel
theorem dX0_addLine_50 : decode cX0_addLine 50 = .ok (.getfield 32, 3) := by decide +kernel
theorem dX0_addLine_53 : decode cX0_addLine 53 = .ok (.istore 5, 2) := by decide +kernel
theorem dX0_addLine_55 : decode cX0_addLine 55 = .ok (.aload_n 0, 1) := by decide +kernel
theorem dX0_addLine_56 : decode cX0_addLine 56 = .ok (.getfield 26, 3) := by decide +kernel
theorem dX0_addLine_59 : decode cX0_addLine 59 = .ok (.iload_n 2, 1) := by decide +kernel
theorem dX0_addLine_60 : decode cX0_addLine 60 = .ok (.iaload, 1) := by decide +kernel
theorem dX0_addLine_61 : decode cX0_addLine 61 = .ok (.iload_n 1, 1) := by decide +kernel
theorem dX0_addLine_62 : decode cX0_addLine 62 = .ok (.isub, 1) := by decide +kernel
theorem dX0_addLine_63 : decode cX0_addLine 63 = .ok (.istore 6, 2) := by decide +kernel
theorem dX0_addLine_65 : decode cX0_addLine 65 = .ok (.aload_n 0, 1) := by decide +kernel
theorem dX0_addLine_66 : decode cX0_addLine 66 = .ok (.getfield 35, 3) := by decide +kernel
theorem dX0_addLine_69 : decode cX0_addLine 69 = .ok (.iload 5, 2) := by decide +kernel
theorem dX0_addLine_71 : decode cX0_addLine 71 = .ok (.iload_n 2, 1) := by decide +kernel
theorem dX0_addLine_72 : decode cX0_addLine 72 = .ok (.iastore, 1) := by decide +kernel
theorem dX0_addLine_73 : decode cX0_addLine 73 = .ok (.aload_n 0, 1) := by decide +kernel
theorem dX0_addLine_74 : decode cX0_addLine 74 = .ok (.getfield 38, 3) := by decide +kernel
theorem dX0_addLine_77 : decode cX0_addLine 77 = .ok (.iload 5, 2) := by decide +kernel
theorem dX0_addLine_79 : decode cX0_addLine 79 = .ok (.iload 6, 2) := by decide +kernel
theorem dX0_addLine_81 : decode cX0_addLine 81 = .ok (.iastore, 1) := by decide +kernel
theorem dX0_addLine_82 : decode cX0_addLine 82 = .ok (.aload_n 0, 1) := by decide +kernel
theorem dX0_addLine_83 : decode cX0_addLine 83 = .ok (.getfield 41, 3) := by decide +kernel
theorem dX0_addLine_86 : decode cX0_addLine 86 = .ok (.iload 5, 2) := by decide +kernel
theorem dX0_addLine_88 : decode cX0_addLine 88 = .ok (.iload_n 3, 1) := by decide +kernel
theorem dX0_addLine_89 : decode cX0_addLine 89 = .ok (.iastore, 1) := by decide +kernel
theorem dX0_addLine_90 : decode cX0_addLine 90 = .ok (.aload_n 0, 1) := by decide +kernel
theorem dX0_addLine_91 : decode cX0_addLine 91 = .ok (.getfield 44, 3) := by decide +kernel
theorem dX0_addLine_94 : decode cX0_addLine 94 = .ok (.iload 5, 2) := by decide +kernel
theorem dX0_addLine_96 : decode cX0_addLine 96 = .ok (.iload 4, 2) := by decide +kernel
theorem dX0_addLine_98 : decode cX0_addLine 98 = .ok (.iastore, 1) := by decide +kernel
theorem dX0_addLine_99 : decode cX0_addLine 99 = .ok (.aload_n 0, 1) := by decide +kernel
theorem dX0_addLine_100 : decode cX0_addLine 100 = .ok (.getfield 47, 3) := by decide +kernel
theorem dX0_addLine_103 : decode cX0_addLine 103 = .ok (.iload 5, 2) := by decide +kernel
theorem dX0_addLine_105 : decode cX0_addLine 105 = .ok (.iload 6, 2) := by decide +kernel
theorem dX0_addLine_107 : decode cX0_addLine 107 = .ok (.sipush 300, 3) := by decide +kernel
theorem dX0_addLine_110 : decode cX0_addLine 110 = .ok (.invokestatic 75, 3) := by decide +kernel
theorem dX0_addLine_113 : decode cX0_addLine 113 = .ok (.iastore, 1) := by decide +kernel
theorem dX0_addLine_114 : decode cX0_addLine 114 = .ok (.aload_n 0, 1) := by decide +kernel
theorem dX0_addLine_115 : decode cX0_addLine 115 = .ok (.getfield 50, 3) := by decide +kernel
theorem dX0_addLine_118 : decode cX0_addLine 118 = .ok (.iload 5, 2) := by decide +kernel
theorem dX0_addLine_120 : decode cX0_addLine 120 = .ok (.iconst 1, 1) := by decide +kernel
theorem dX0_addLine_121 : decode cX0_addLine 121 = .ok (.bastore, 1) := by decide +kernel
theorem dX0_addLine_122 : decode cX0_addLine 122 = .ok (.aload_n 0, 1) := by decide +kernel
theorem dX0_addLine_123 : decode cX0_addLine 123 = .ok (.iload 5, 2) := by decide +kernel
theorem dX0_addLine_125 : decode cX0_addLine 125 = .ok (.iconst 1, 1) := by decide +kernel
theorem dX0_addLine_126 : decode cX0_addLine 126 = .ok (.iadd, 1) := by decide +kernel
theorem dX0_addLine_127 : decode cX0_addLine 127 = .ok (.putfield 32, 3) := by decide +kernel
theorem dX0_addLine_130 : decode cX0_addLine 130 = .ok (.iload 5, 2) := by decide +kernel
theorem dX0_addLine_132 : decode cX0_addLine 132 = .ok (.ireturn, 1) := by decide +kernel
set_option maxRecDepth 20000 in
theorem ggX0_toggle_X0_checkLine : GoodIn wsX0_toggle wsX0_checkLine := goodIn_ca (goodIn_r _ [6, 7, 8, 9, 10, 11, 12, 13, 14, 15, 16, 17, 18, 19, 20, 21, 22, 23, 24] (by decide +kernel) (by decide +kernel)) (goodIn_sub (fun _ h => List.mem_cons_of_mem _ (List.mem_append_right _ h)) (by decide +kernel))
set_option maxRecDepth 20000 in
theorem gX0_toggle_X0_checkLine : GoodIn wsX0_toggle (wsV RX0 79 RX0 yX0_checkLine wsX0_checkLine) := goodIn_app (goodIn_of _ (by decide +kernel)) ggX0_toggle_X0_checkLine
theorem dX0_toggle_0 : decode cX0_toggle 0 = .ok (.aload_n 0, 1) := by decide +kernel
theorem dX0_toggle_1 : decode cX0_toggle 1 = .ok (.iload_n 1, 1) := by decide +kernel
theorem dX0_toggle_2 : decode cX0_toggle 2 = .ok (.invokevirtual 79, 3) := by decide +kernel
theorem dX0_toggle_5 : decode cX0_toggle 5 = .ok (.aload_n 0, 1) := by decide +kernel
theorem dX0_toggle_6 : decode cX0_toggle 6 = .ok (.getfield 50, 3) := by decide +kernel
theorem dX0_toggle_9 : decode cX0_toggle 9 = .ok (.iload_n 1, 1) := by decide +kernel
theorem dX0_toggle_10 : decode cX0_toggle 10 = .ok (.aload_n 0, 1) := by decide +kernel
theorem dX0_toggle_11 : decode cX0_toggle 11 = .ok (.getfield 50, 3) := by decide +kernel
theorem dX0_toggle_14 : decode cX0_toggle 14 = .ok (.iload_n 1, 1) := by decide +kernel
theorem dX0_toggle_15 : decode cX0_toggle 15 = .ok (.baload, 1) := by decide +kernel
theorem dX0_toggle_16 : decode cX0_toggle 16 = .ok (.ifCond .ne 7, 3) := by decide +kernel
theorem dX0_toggle_19 : decode cX0_toggle 19 = .ok (.iconst 1, 1) := by decide +kernel
theorem dX0_toggle_20 : decode cX0_toggle 20 = .ok (.goto 4, 3) := by decide +kernel
theorem dX0_toggle_23 : decode cX0_toggle 23 = .ok (.iconst 0, 1) := by decide +kernel
theorem dX0_toggle_24 : decode cX0_toggle 24 = .ok (.bastore, 1) := by decide +kernel
theorem dX0_toggle_25 : decode cX0_toggle 25 = .ok (.aload_n 0, 1) := by decide +kernel
theorem dX0_toggle_26 : decode cX0_toggle 26 = .ok (.getfield 50, 3) := by decide +kernel
theorem dX0_toggle_29 : decode cX0_toggle 29 = .ok (.iload_n 1, 1) := by decide +kernel
theorem dX0_toggle_30 : decode cX0_toggle 30 = .ok (.baload, 1) := by decide +kernel
theorem dX0_toggle_31 : decode cX0_toggle 31 = .ok (.ireturn, 1) := by decide +kernel
set_option maxRecDepth 20000 in
theorem ggX0_setTide_X0_checkHour : GoodIn wsX0_setTide wsX0_checkHour := goodIn_ca (goodIn_r _ [5, 6, 7] (by decide +kernel) (by decide +kernel)) (goodIn_sub (fun _ h => List.mem_cons_of_mem _ (List.mem_append_left _ (List.mem_append_right _ h))) (by decide +kernel))
set_option maxRecDepth 20000 in
theorem gX0_setTide_X0_checkHour : GoodIn wsX0_setTide (va_wsS RX0 82 yX0_checkHour wsX0_checkHour) := goodIn_app (goodIn_of _ (by decide +kernel)) ggX0_setTide_X0_checkHour
set_option maxRecDepth 20000 in
theorem ggX0_setTide_X0_checkRange : GoodIn wsX0_setTide wsX0_checkRange := goodIn_ca (goodIn_r _ [10, 11, 12] (by decide +kernel) (by decide +kernel)) (goodIn_sub (fun _ h => List.mem_cons_of_mem _ (List.mem_append_right _ h)) (by decide +kernel))
set_option maxRecDepth 20000 in
theorem gX0_setTide_X0_checkRange : GoodIn wsX0_setTide (va_wsS RX0 57 yX0_checkRange wsX0_checkRange) := goodIn_app (goodIn_of _ (by decide +kernel)) ggX0_setTide_X0_checkRange
theorem dX0_setTide_0 : decode cX0_setTide 0 = .ok (.iload_n 1, 1) := by decide +kernel
theorem dX0_setTide_1 : decode cX0_setTide 1 = .ok (.invokestatic 82, 3) := by decide +kernel
theorem dX0_setTide_4 : decode cX0_setTide 4 = .ok (.iload_n 2, 1) := by decide +kernel
theorem dX0_setTide_5 : decode cX0_setTide 5 = .ok (.sipush (-200), 3) := by decide +kernel
theorem dX0_setTide_8 : decode cX0_setTide 8 = .ok (.sipush 200, 3) := by decide +kernel
theorem dX0_setTide_11 : decode cX0_setTide 11 = .ok (.invokestatic 57, 3) := by decide +kernel
theorem dX0_setTide_14 : decode cX0_setTide 14 = .ok (.aload_n 0, 1) := by decide +kernel
theorem dX0_setTide_15 : decode cX0_setTide 15 = .ok (.getfield 9, 3) := by decide +kernel
theorem dX0_setTide_18 : decode cX0_setTide 18 = .ok (.iload_n 1, 1) := by decide +kernel
theorem dX0_setTide_19 : decode cX0_setTide 19 = .ok (.iaload, 1) := by decide +kernel
theorem dX0_setTide_20 : decode cX0_setTide 20 = .ok (.istore_n 3, 1) := by decide +kernel
theorem dX0_setTide_21 : decode cX0_setTide 21 = .ok (.aload_n 0, 1) := by decide +kernel
theorem dX0_setTide_22 : decode cX0_setTide 22 = .ok (.getfield 9, 3) := by decide +kernel
theorem dX0_setTide_25 : decode cX0_setTide 25 = .ok (.iload_n 1, 1) := by decide +kernel
theorem dX0_setTide_26 : decode cX0_setTide 26 = .ok (.iload_n 2, 1) := by decide +kernel
theorem dX0_setTide_27 : decode cX0_setTide 27 = .ok (.iastore, 1) := by decide +kernel
theorem dX0_setTide_28 : decode cX0_setTide 28 = .ok (.iload_n 3, 1) := by decide +kernel
theorem dX0_setTide_29 : decode cX0_setTide 29 = .ok (.ireturn, 1) := by decide +kernel
set_option maxRecDepth 20000 in
theorem ggX0_setLoad_X0_checkHour : GoodIn wsX0_setLoad wsX0_checkHour := goodIn_ca (goodIn_r _ [5, 6, 7] (by decide +kernel) (by decide +kernel)) (goodIn_sub (fun _ h => List.mem_cons_of_mem _ (List.mem_append_left _ (List.mem_append_right _ h))) (by decide +kernel))
set_option maxRecDepth 20000 in
theorem gX0_setLoad_X0_checkHour : GoodIn wsX0_setLoad (va_wsS RX0 82 yX0_checkHour wsX0_checkHour) := goodIn_app (goodIn_of _ (by decide +kernel)) ggX0_setLoad_X0_checkHour
set_option maxRecDepth 20000 in
theorem ggX0_setLoad_X0_checkRange : GoodIn wsX0_setLoad wsX0_checkRange := goodIn_ca (goodIn_r _ [10, 11, 12] (by decide +kernel) (by decide +kernel)) (goodIn_sub (fun _ h => List.mem_cons_of_mem _ (List.mem_append_right _ h)) (by decide +kernel))
set_option maxRecDepth 20000 in
theorem gX0_setLoad_X0_checkRange : GoodIn wsX0_setLoad (va_wsS RX0 57 yX0_checkRange wsX0_checkRange) := goodIn_app (goodIn_of _ (by decide +kernel)) ggX0_setLoad_X0_checkRange
theorem dX0_setLoad_0 : decode cX0_setLoad 0 = .ok (.iload_n 1, 1) := by decide +kernel
theorem dX0_setLoad_1 : decode cX0_setLoad 1 = .ok (.invokestatic 82, 3) := by decide +kernel
theorem dX0_setLoad_4 : decode cX0_setLoad 4 = .ok (.iload_n 2, 1) := by decide +kernel
theorem dX0_setLoad_5 : decode cX0_setLoad 5 = .ok (.sipush (-200), 3) := by decide +kernel
theorem dX0_setLoad_8 : decode cX0_setLoad 8 = .ok (.sipush 200, 3) := by decide +kernel
theorem dX0_setLoad_11 : decode cX0_setLoad 11 = .ok (.invokestatic 57, 3) := by decide +kernel
theorem dX0_setLoad_14 : decode cX0_setLoad 14 = .ok (.aload_n 0, 1) := by decide +kernel
theorem dX0_setLoad_15 : decode cX0_setLoad 15 = .ok (.getfield 13, 3) := by decide +kernel
theorem dX0_setLoad_18 : decode cX0_setLoad 18 = .ok (.iload_n 1, 1) := by decide +kernel
theorem dX0_setLoad_19 : decode cX0_setLoad 19 = .ok (.iaload, 1) := by decide +kernel
theorem dX0_setLoad_20 : decode cX0_setLoad 20 = .ok (.istore_n 3, 1) := by decide +kernel
theorem dX0_setLoad_21 : decode cX0_setLoad 21 = .ok (.iload_n 1, 1) := by decide +kernel
theorem dX0_setLoad_22 : decode cX0_setLoad 22 = .ok (.istore 4, 2) := by decide +kernel
theorem dX0_setLoad_24 : decode cX0_setLoad 24 = .ok (.iload 4, 2) := by decide +kernel
theorem dX0_setLoad_26 : decode cX0_setLoad 26 = .ok (.bipush 48, 2) := by decide +kernel
theorem dX0_setLoad_28 : decode cX0_setLoad 28 = .ok (.if_icmp .ge 17, 3) := by decide +kernel
theorem dX0_setLoad_31 : decode cX0_setLoad 31 = .ok (.aload_n 0, 1) := by decide +kernel
theorem dX0_setLoad_32 : decode cX0_setLoad 32 = .ok (.getfield 13, 3) := by decide +kernel
theorem dX0_setLoad_35 : decode cX0_setLoad 35 = .ok (.iload 4, 2) := by decide +kernel
theorem dX0_setLoad_37 : decode cX0_setLoad 37 = .ok (.iload_n 2, 1) := by decide +kernel
theorem dX0_setLoad_38 : decode cX0_setLoad 38 = .ok (.iastore, 1) := by decide +kernel
theorem dX0_setLoad_39 : decode cX0_setLoad 39 = .ok (.iinc 4 1, 3) := by decide +kernel
theorem dX0_setLoad_42 : decode cX0_setLoad 42 = .ok (.goto (-18), 3) := by decide +kernel
theorem dX0_setLoad_45 : decode cX0_setLoad 45 = .ok (.iload_n 3, 1) := by decide +kernel
theorem dX0_setLoad_46 : decode cX0_setLoad 46 = .ok (.ireturn, 1) := by decide +kernel
set_option maxRecDepth 20000 in
theorem ggX0_setWind_X0_checkRange : GoodIn wsX0_setWind wsX0_checkRange := goodIn_ca (goodIn_r _ [7, 8, 9] (by decide +kernel) (by decide +kernel)) (goodIn_sub (fun _ h => List.mem_cons_of_mem _ (List.mem_append_right _ h)) (by decide +kernel))
set_option maxRecDepth 20000 in
theorem gX0_setWind_X0_checkRange : GoodIn wsX0_setWind (va_wsS RX0 57 yX0_checkRange wsX0_checkRange) := goodIn_app (goodIn_of _ (by decide +kernel)) ggX0_setWind_X0_checkRange
theorem dX0_setWind_0 : decode cX0_setWind 0 = .ok (.iload_n 1, 1) := by decide +kernel
theorem dX0_setWind_1 : decode cX0_setWind 1 = .ok (.ldc 85, 2) := by decide +kernel
theorem dX0_setWind_3 : decode cX0_setWind 3 = .ok (.ldc 61, 2) := by decide +kernel
theorem dX0_setWind_5 : decode cX0_setWind 5 = .ok (.invokestatic 57, 3) := by decide +kernel
theorem dX0_setWind_8 : decode cX0_setWind 8 = .ok (.aload_n 0, 1) := by decide +kernel
theorem dX0_setWind_9 : decode cX0_setWind 9 = .ok (.getfield 19, 3) := by decide +kernel
theorem dX0_setWind_12 : decode cX0_setWind 12 = .ok (.istore_n 2, 1) := by decide +kernel
theorem dX0_setWind_13 : decode cX0_setWind 13 = .ok (.aload_n 0, 1) := by decide +kernel
theorem dX0_setWind_14 : decode cX0_setWind 14 = .ok (.iload_n 1, 1) := by decide +kernel
theorem dX0_setWind_15 : decode cX0_setWind 15 = .ok (.putfield 19, 3) := by decide +kernel
theorem dX0_setWind_18 : decode cX0_setWind 18 = .ok (.iload_n 2, 1) := by decide +kernel
theorem dX0_setWind_19 : decode cX0_setWind 19 = .ok (.ireturn, 1) := by decide +kernel
set_option maxRecDepth 20000 in
theorem ggX0_setPassing_X0_checkHour : GoodIn wsX0_setPassing wsX0_checkHour := goodIn_ca (goodIn_r _ [7, 8, 9] (by decide +kernel) (by decide +kernel)) (goodIn_sub (fun _ h => List.mem_cons_of_mem _ (List.mem_append_left _ (List.mem_append_right _ h))) (by decide +kernel))
set_option maxRecDepth 20000 in
theorem gX0_setPassing_X0_checkHour : GoodIn wsX0_setPassing (va_wsS RX0 82 yX0_checkHour wsX0_checkHour) := goodIn_app (goodIn_of _ (by decide +kernel)) ggX0_setPassing_X0_checkHour
set_option maxRecDepth 20000 in
theorem ggX0_setPassing_X0_checkRange : GoodIn wsX0_setPassing wsX0_checkRange := goodIn_ca (goodIn_r _ [12, 13, 14] (by decide +kernel) (by decide +kernel)) (goodIn_sub (fun _ h => List.mem_cons_of_mem _ (List.mem_append_right _ h)) (by decide +kernel))
set_option maxRecDepth 20000 in
theorem gX0_setPassing_X0_checkRange : GoodIn wsX0_setPassing (va_wsS RX0 57 yX0_checkRange wsX0_checkRange) := goodIn_app (goodIn_of _ (by decide +kernel)) ggX0_setPassing_X0_checkRange
theorem dX0_setPassing_0 : decode cX0_setPassing 0 = .ok (.iload_n 1, 1) := by decide +kernel
theorem dX0_setPassing_1 : decode cX0_setPassing 1 = .ok (.invokestatic 82, 3) := by decide +kernel
theorem dX0_setPassing_4 : decode cX0_setPassing 4 = .ok (.iload_n 2, 1) := by decide +kernel
theorem dX0_setPassing_5 : decode cX0_setPassing 5 = .ok (.ldc 85, 2) := by decide +kernel
theorem dX0_setPassing_7 : decode cX0_setPassing 7 = .ok (.ldc 61, 2) := by decide +kernel
theorem dX0_setPassing_9 : decode cX0_setPassing 9 = .ok (.invokestatic 57, 3) := by decide +kernel
theorem dX0_setPassing_12 : decode cX0_setPassing 12 = .ok (.aload_n 0, 1) := by decide +kernel
theorem dX0_setPassing_13 : decode cX0_setPassing 13 = .ok (.getfield 16, 3) := by decide +kernel
theorem dX0_setPassing_16 : decode cX0_setPassing 16 = .ok (.iload_n 1, 1) := by decide +kernel
theorem dX0_setPassing_17 : decode cX0_setPassing 17 = .ok (.iaload, 1) := by decide +kernel
theorem dX0_setPassing_18 : decode cX0_setPassing 18 = .ok (.istore_n 3, 1) := by decide +kernel
theorem dX0_setPassing_19 : decode cX0_setPassing 19 = .ok (.aload_n 0, 1) := by decide +kernel
theorem dX0_setPassing_20 : decode cX0_setPassing 20 = .ok (.getfield 16, 3) := by decide +kernel
theorem dX0_setPassing_23 : decode cX0_setPassing 23 = .ok (.iload_n 1, 1) := by decide +kernel
theorem dX0_setPassing_24 : decode cX0_setPassing 24 = .ok (.iload_n 2, 1) := by decide +kernel
theorem dX0_setPassing_25 : decode cX0_setPassing 25 = .ok (.iastore, 1) := by decide +kernel
theorem dX0_setPassing_26 : decode cX0_setPassing 26 = .ok (.iload_n 3, 1) := by decide +kernel
theorem dX0_setPassing_27 : decode cX0_setPassing 27 = .ok (.ireturn, 1) := by decide +kernel
set_option maxRecDepth 20000 in
theorem ggX0_force_X0_checkHour : GoodIn wsX0_force wsX0_checkHour := goodIn_ca (goodIn_r _ [4, 5, 6] (by decide +kernel) (by decide +kernel)) (goodIn_sub (fun _ h => List.mem_cons_of_mem _ (List.mem_append_left _ (List.mem_append_right _ h))) (by decide +kernel))
set_option maxRecDepth 20000 in
theorem gX0_force_X0_checkHour : GoodIn wsX0_force (va_wsS RX0 82 yX0_checkHour wsX0_checkHour) := goodIn_app (goodIn_of _ (by decide +kernel)) ggX0_force_X0_checkHour
set_option maxRecDepth 20000 in
theorem ggX0_force_X0_checkRange : GoodIn wsX0_force wsX0_checkRange := goodIn_ca (goodIn_r _ [9, 10, 11] (by decide +kernel) (by decide +kernel)) (goodIn_sub (fun _ h => List.mem_cons_of_mem _ (List.mem_append_right _ h)) (by decide +kernel))
set_option maxRecDepth 20000 in
theorem gX0_force_X0_checkRange : GoodIn wsX0_force (va_wsS RX0 57 yX0_checkRange wsX0_checkRange) := goodIn_app (goodIn_of _ (by decide +kernel)) ggX0_force_X0_checkRange
set_option maxRecDepth 20000 in
theorem ggX0_force_X0_forceWith : GoodIn wsX0_force wsX0_forceWith := goodIn_r _ [15, 16, 17, 18, 19, 20, 21, 3, 22, 23, 24, 25, 26, 27, 28, 29, 30, 31, 32, 33, 34, 35, 36, 37, 38, 39, 40, 41, 42, 43, 44, 45, 46, 47, 48, 49, 50, 51, 52, 53, 54, 55, 56, 57, 58] (by decide +kernel) (by decide +kernel)
set_option maxRecDepth 20000 in
theorem gX0_force_X0_forceWith : GoodIn wsX0_force (wsV RX0 86 RX0 yX0_forceWith wsX0_forceWith) := goodIn_app (goodIn_of _ (by decide +kernel)) ggX0_force_X0_forceWith
theorem dX0_force_0 : decode cX0_force 0 = .ok (.iload_n 1, 1) := by decide +kernel
theorem dX0_force_1 : decode cX0_force 1 = .ok (.invokestatic 82, 3) := by decide +kernel
theorem dX0_force_4 : decode cX0_force 4 = .ok (.iload_n 2, 1) := by decide +kernel
theorem dX0_force_5 : decode cX0_force 5 = .ok (.sipush (-200), 3) := by decide +kernel
theorem dX0_force_8 : decode cX0_force 8 = .ok (.sipush 200, 3) := by decide +kernel
theorem dX0_force_11 : decode cX0_force 11 = .ok (.invokestatic 57, 3) := by decide +kernel
theorem dX0_force_14 : decode cX0_force 14 = .ok (.aload_n 0, 1) := by decide +kernel
theorem dX0_force_15 : decode cX0_force 15 = .ok (.iload_n 1, 1) := by decide +kernel
theorem dX0_force_16 : decode cX0_force 16 = .ok (.iload_n 2, 1) := by decide +kernel
theorem dX0_force_17 : decode cX0_force 17 = .ok (.invokevirtual 86, 3) := by decide +kernel
theorem dX0_force_20 : decode cX0_force 20 = .ok (.ireturn, 1) := by decide +kernel
set_option maxRecDepth 20000 in
theorem ggX0_shift_X0_checkHour : GoodIn wsX0_shift wsX0_checkHour := goodIn_ca (goodIn_r _ [4, 5, 6] (by decide +kernel) (by decide +kernel)) (goodIn_sub (fun _ h => List.mem_cons_of_mem _ (List.mem_append_right _ h)) (by decide +kernel))
set_option maxRecDepth 20000 in
theorem gX0_shift_X0_checkHour : GoodIn wsX0_shift (va_wsS RX0 82 yX0_checkHour wsX0_checkHour) := goodIn_app (goodIn_of _ (by decide +kernel)) ggX0_shift_X0_checkHour
set_option maxRecDepth 20000 in
theorem ggX0_shift_X0_balanceOf : GoodIn wsX0_shift wsX0_balanceOf := goodIn_r _ [10, 11, 12, 13, 14, 15, 16, 17, 3, 18, 19, 20, 21, 22, 23, 24, 25, 26, 27, 28, 29, 30, 31, 32, 33, 34, 35, 36, 37, 38, 39, 40, 41, 42, 43, 44, 45, 46, 47, 48, 49, 50, 51, 52, 53, 54, 55, 56, 57, 58, 59, 60, 61] (by decide +kernel) (by decide +kernel)
set_option maxRecDepth 20000 in
theorem gX0_shift_X0_balanceOf : GoodIn wsX0_shift (wsV RX0 89 RX0 yX0_balanceOf wsX0_balanceOf) := goodIn_app (goodIn_of _ (by decide +kernel)) ggX0_shift_X0_balanceOf
theorem dX0_shift_0 : decode cX0_shift 0 = .ok (.iload_n 1, 1) := by decide +kernel
theorem dX0_shift_1 : decode cX0_shift 1 = .ok (.invokestatic 82, 3) := by decide +kernel
theorem dX0_shift_4 : decode cX0_shift 4 = .ok (.aload_n 0, 1) := by decide +kernel
theorem dX0_shift_5 : decode cX0_shift 5 = .ok (.iload_n 1, 1) := by decide +kernel
theorem dX0_shift_6 : decode cX0_shift 6 = .ok (.invokevirtual 89, 3) := by decide +kernel
theorem dX0_shift_9 : decode cX0_shift 9 = .ok (.ireturn, 1) := by decide +kernel
set_option maxRecDepth 20000 in
theorem ggX0_isAdrift_X0_checkHour : GoodIn wsX0_isAdrift wsX0_checkHour := goodIn_ca (goodIn_r _ [4, 5, 6] (by decide +kernel) (by decide +kernel)) (goodIn_sub (fun _ h => List.mem_cons_of_mem _ (List.mem_append_right _ h)) (by decide +kernel))
set_option maxRecDepth 20000 in
theorem gX0_isAdrift_X0_checkHour : GoodIn wsX0_isAdrift (va_wsS RX0 82 yX0_checkHour wsX0_checkHour) := goodIn_app (goodIn_of _ (by decide +kernel)) ggX0_isAdrift_X0_checkHour
set_option maxRecDepth 20000 in
theorem ggX0_isAdrift_X0_balanceOf : GoodIn wsX0_isAdrift wsX0_balanceOf := goodIn_r _ [10, 11, 12, 13, 14, 15, 16, 17, 3, 18, 19, 20, 21, 22, 23, 24, 25, 26, 27, 28, 29, 30, 31, 32, 33, 34, 35, 36, 37, 38, 39, 40, 41, 42, 43, 44, 45, 46, 51, 52, 53, 54, 55, 56, 57, 58, 59, 60, 61, 62, 63, 64, 65] (by decide +kernel) (by decide +kernel)
set_option maxRecDepth 20000 in
theorem gX0_isAdrift_X0_balanceOf : GoodIn wsX0_isAdrift (wsV RX0 89 RX0 yX0_balanceOf wsX0_balanceOf) := goodIn_app (goodIn_of _ (by decide +kernel)) ggX0_isAdrift_X0_balanceOf
set_option maxRecDepth 20000 in
theorem ggX0_isAdrift_X0_driftsWith : GoodIn wsX0_isAdrift wsX0_driftsWith := goodIn_r _ [50, 15, 16, 17, 3, 18, 19, 20, 21, 22, 23, 24, 25, 26, 27, 28, 29, 30, 31, 32, 33, 34, 35, 36, 37, 38, 39, 40, 41, 42, 43, 44, 45, 46, 51, 52, 53, 54, 55, 56, 57, 58, 59, 60, 61, 62, 63, 64, 65] (by decide +kernel) (by decide +kernel)
set_option maxRecDepth 20000 in
theorem gX0_isAdrift_X0_driftsWith : GoodIn wsX0_isAdrift (wsV RX0 93 RX0 yX0_driftsWith wsX0_driftsWith) := goodIn_app (goodIn_of _ (by decide +kernel)) ggX0_isAdrift_X0_driftsWith
theorem dX0_isAdrift_0 : decode cX0_isAdrift 0 = .ok (.iload_n 1, 1) := by decide +kernel
theorem dX0_isAdrift_1 : decode cX0_isAdrift 1 = .ok (.invokestatic 82, 3) := by decide +kernel
theorem dX0_isAdrift_4 : decode cX0_isAdrift 4 = .ok (.aload_n 0, 1) := by decide +kernel
theorem dX0_isAdrift_5 : decode cX0_isAdrift 5 = .ok (.iload_n 1, 1) := by decide +kernel
theorem dX0_isAdrift_6 : decode cX0_isAdrift 6 = .ok (.aload_n 0, 1) := by decide +kernel
theorem dX0_isAdrift_7 : decode cX0_isAdrift 7 = .ok (.iload_n 1, 1) := by decide +kernel
theorem dX0_isAdrift_8 : decode cX0_isAdrift 8 = .ok (.invokevirtual 89, 3) := by decide +kernel
theorem dX0_isAdrift_11 : decode cX0_isAdrift 11 = .ok (.invokevirtual 93, 3) := by decide +kernel
theorem dX0_isAdrift_14 : decode cX0_isAdrift 14 = .ok (.ireturn, 1) := by decide +kernel
set_option maxRecDepth 20000 in
theorem ggX0_length_X0_checkLine : GoodIn wsX0_length wsX0_checkLine := goodIn_ca (goodIn_r _ [5, 6, 7, 8, 55, 56, 57, 58, 59, 60, 61, 62, 63, 64, 65, 66, 67, 68, 69] (by decide +kernel) (by decide +kernel)) (goodIn_sub (fun _ h => List.mem_cons_of_mem _ (List.mem_append_right _ h)) (by decide +kernel))
set_option maxRecDepth 20000 in
theorem gX0_length_X0_checkLine : GoodIn wsX0_length (wsV RX0 79 RX0 yX0_checkLine wsX0_checkLine) := goodIn_app (goodIn_of _ (by decide +kernel)) ggX0_length_X0_checkLine
set_option maxRecDepth 20000 in
theorem ggX0_length_X0_checkHour : GoodIn wsX0_length wsX0_checkHour := goodIn_ca (goodIn_r _ [11, 6, 7] (by decide +kernel) (by decide +kernel)) (goodIn_sub (fun _ h => List.mem_cons_of_mem _ (List.mem_append_right _ h)) (by decide +kernel))
set_option maxRecDepth 20000 in
theorem gX0_length_X0_checkHour : GoodIn wsX0_length (va_wsS RX0 82 yX0_checkHour wsX0_checkHour) := goodIn_app (goodIn_of _ (by decide +kernel)) ggX0_length_X0_checkHour
set_option maxRecDepth 20000 in
theorem ggX0_length_X0_balanceOf : GoodIn wsX0_length wsX0_balanceOf := goodIn_r _ [15, 16, 17, 18, 19, 20, 21, 22, 4, 23, 24, 25, 8, 26, 27, 28, 29, 30, 31, 32, 33, 34, 35, 36, 37, 38, 39, 40, 41, 42, 43, 44, 45, 46, 47, 48, 49, 50, 55, 56, 57, 58, 59, 60, 61, 62, 63, 64, 65, 66, 67, 68, 69] (by decide +kernel) (by decide +kernel)
set_option maxRecDepth 20000 in
theorem gX0_length_X0_balanceOf : GoodIn wsX0_length (wsV RX0 89 RX0 yX0_balanceOf wsX0_balanceOf) := goodIn_app (goodIn_of _ (by decide +kernel)) ggX0_length_X0_balanceOf
set_option maxRecDepth 20000 in
theorem ggX0_length_X0_lengthWith : GoodIn wsX0_length wsX0_lengthWith := goodIn_r _ [54, 30, 31, 32, 33, 4, 34, 35, 36, 37, 38, 39, 55, 56, 57, 58, 59, 60, 61, 62, 63, 64, 65, 66, 67, 68, 69] (by decide +kernel) (by decide +kernel)
set_option maxRecDepth 20000 in
theorem gX0_length_X0_lengthWith : GoodIn wsX0_length (wsV RX0 97 RX0 yX0_lengthWith wsX0_lengthWith) := goodIn_app (goodIn_of _ (by decide +kernel)) ggX0_length_X0_lengthWith
theorem dX0_length_0 : decode cX0_length 0 = .ok (.aload_n 0, 1) := by decide +kernel
theorem dX0_length_1 : decode cX0_length 1 = .ok (.iload_n 1, 1) := by decide +kernel
theorem dX0_length_2 : decode cX0_length 2 = .ok (.invokevirtual 79, 3) := by decide +kernel
theorem dX0_length_5 : decode cX0_length 5 = .ok (.iload_n 2, 1) := by decide +kernel
theorem dX0_length_6 : decode cX0_length 6 = .ok (.invokestatic 82, 3) := by decide +kernel
theorem dX0_length_9 : decode cX0_length 9 = .ok (.aload_n 0, 1) := by decide +kernel
theorem dX0_length_10 : decode cX0_length 10 = .ok (.iload_n 1, 1) := by decide +kernel
theorem dX0_length_11 : decode cX0_length 11 = .ok (.iload_n 2, 1) := by decide +kernel
theorem dX0_length_12 : decode cX0_length 12 = .ok (.aload_n 0, 1) := by decide +kernel
theorem dX0_length_13 : decode cX0_length 13 = .ok (.iload_n 2, 1) := by decide +kernel
theorem dX0_length_14 : decode cX0_length 14 = .ok (.invokevirtual 89, 3) := by decide +kernel
theorem dX0_length_17 : decode cX0_length 17 = .ok (.invokevirtual 97, 3) := by decide +kernel
theorem dX0_length_20 : decode cX0_length 20 = .ok (.ireturn, 1) := by decide +kernel
set_option maxRecDepth 20000 in
theorem ggX0_tension_X0_checkLine : GoodIn wsX0_tension wsX0_checkLine := goodIn_ca (goodIn_r _ [5, 6, 7, 8, 55, 56, 57, 58, 59, 60, 61, 62, 63, 64, 65, 66, 67, 68, 69] (by decide +kernel) (by decide +kernel)) (goodIn_sub (fun _ h => List.mem_cons_of_mem _ (List.mem_append_right _ h)) (by decide +kernel))
set_option maxRecDepth 20000 in
theorem gX0_tension_X0_checkLine : GoodIn wsX0_tension (wsV RX0 79 RX0 yX0_checkLine wsX0_checkLine) := goodIn_app (goodIn_of _ (by decide +kernel)) ggX0_tension_X0_checkLine
set_option maxRecDepth 20000 in
theorem ggX0_tension_X0_checkHour : GoodIn wsX0_tension wsX0_checkHour := goodIn_ca (goodIn_r _ [11, 6, 7] (by decide +kernel) (by decide +kernel)) (goodIn_sub (fun _ h => List.mem_cons_of_mem _ (List.mem_append_right _ h)) (by decide +kernel))
set_option maxRecDepth 20000 in
theorem gX0_tension_X0_checkHour : GoodIn wsX0_tension (va_wsS RX0 82 yX0_checkHour wsX0_checkHour) := goodIn_app (goodIn_of _ (by decide +kernel)) ggX0_tension_X0_checkHour
set_option maxRecDepth 20000 in
theorem ggX0_tension_X0_balanceOf : GoodIn wsX0_tension wsX0_balanceOf := goodIn_r _ [15, 16, 17, 18, 19, 20, 21, 22, 4, 23, 24, 25, 8, 26, 27, 28, 29, 30, 31, 32, 33, 34, 35, 36, 37, 38, 39, 40, 41, 42, 43, 44, 45, 46, 47, 48, 49, 50, 55, 56, 57, 58, 59, 60, 61, 62, 63, 64, 65, 66, 67, 68, 69] (by decide +kernel) (by decide +kernel)
set_option maxRecDepth 20000 in
theorem gX0_tension_X0_balanceOf : GoodIn wsX0_tension (wsV RX0 89 RX0 yX0_balanceOf wsX0_balanceOf) := goodIn_app (goodIn_of _ (by decide +kernel)) ggX0_tension_X0_balanceOf
set_option maxRecDepth 20000 in
theorem ggX0_tension_X0_lengthWith : GoodIn wsX0_tension wsX0_lengthWith := goodIn_r _ [54, 30, 31, 32, 33, 4, 34, 35, 36, 37, 38, 39, 55, 56, 57, 58, 59, 60, 61, 62, 63, 64, 65, 66, 67, 68, 69] (by decide +kernel) (by decide +kernel)
set_option maxRecDepth 20000 in
theorem gX0_tension_X0_lengthWith : GoodIn wsX0_tension (wsV RX0 97 RX0 yX0_lengthWith wsX0_lengthWith) := goodIn_app (goodIn_of _ (by decide +kernel)) ggX0_tension_X0_lengthWith
set_option maxRecDepth 20000 in
theorem ggX0_tension_X0_tensionAtLength : GoodIn wsX0_tension wsX0_tensionAtLength := goodIn_r _ [43, 44, 45, 46, 47, 48, 49, 50, 55, 56, 57, 58, 59, 60, 61, 62, 63, 64, 65, 66, 67, 68, 69] (by decide +kernel) (by decide +kernel)
set_option maxRecDepth 20000 in
theorem gX0_tension_X0_tensionAtLength : GoodIn wsX0_tension (wsV RX0 101 RX0 yX0_tensionAtLength wsX0_tensionAtLength) := goodIn_app (goodIn_of _ (by decide +kernel)) ggX0_tension_X0_tensionAtLength
theorem dX0_tension_0 : decode cX0_tension 0 = .ok (.aload_n 0, 1) := by decide +kernel
theorem dX0_tension_1 : decode cX0_tension 1 = .ok (.iload_n 1, 1) := by decide +kernel
theorem dX0_tension_2 : decode cX0_tension 2 = .ok (.invokevirtual 79, 3) := by decide +kernel
theorem dX0_tension_5 : decode cX0_tension 5 = .ok (.iload_n 2, 1) := by decide +kernel
theorem dX0_tension_6 : decode cX0_tension 6 = .ok (.invokestatic 82, 3) := by decide +kernel
theorem dX0_tension_9 : decode cX0_tension 9 = .ok (.aload_n 0, 1) := by decide +kernel
theorem dX0_tension_10 : decode cX0_tension 10 = .ok (.iload_n 1, 1) := by decide +kernel
theorem dX0_tension_11 : decode cX0_tension 11 = .ok (.aload_n 0, 1) := by decide +kernel
theorem dX0_tension_12 : decode cX0_tension 12 = .ok (.iload_n 1, 1) := by decide +kernel
theorem dX0_tension_13 : decode cX0_tension 13 = .ok (.iload_n 2, 1) := by decide +kernel
theorem dX0_tension_14 : decode cX0_tension 14 = .ok (.aload_n 0, 1) := by decide +kernel
theorem dX0_tension_15 : decode cX0_tension 15 = .ok (.iload_n 2, 1) := by decide +kernel
theorem dX0_tension_16 : decode cX0_tension 16 = .ok (.invokevirtual 89, 3) := by decide +kernel
theorem dX0_tension_19 : decode cX0_tension 19 = .ok (.invokevirtual 97, 3) := by decide +kernel
theorem dX0_tension_22 : decode cX0_tension 22 = .ok (.invokevirtual 101, 3) := by decide +kernel
theorem dX0_tension_25 : decode cX0_tension 25 = .ok (.ireturn, 1) := by decide +kernel
set_option maxRecDepth 20000 in
theorem ggX0_onBollard_X0_checkBollard : GoodIn wsX0_onBollard wsX0_checkBollard := goodIn_ca (goodIn_r _ [5, 6, 7, 8, 61, 62, 63, 64, 65, 66, 67, 68, 69, 70, 71, 72, 73, 74, 75] (by decide +kernel) (by decide +kernel)) (goodIn_sub (fun _ h => List.mem_cons_of_mem _ (List.mem_append_right _ h)) (by decide +kernel))
set_option maxRecDepth 20000 in
theorem gX0_onBollard_X0_checkBollard : GoodIn wsX0_onBollard (wsV RX0 69 RX0 yX0_checkBollard wsX0_checkBollard) := goodIn_app (goodIn_of _ (by decide +kernel)) ggX0_onBollard_X0_checkBollard
set_option maxRecDepth 20000 in
theorem ggX0_onBollard_X0_checkHour : GoodIn wsX0_onBollard wsX0_checkHour := goodIn_ca (goodIn_r _ [11, 6, 7] (by decide +kernel) (by decide +kernel)) (goodIn_sub (fun _ h => List.mem_cons_of_mem _ (List.mem_append_right _ h)) (by decide +kernel))
set_option maxRecDepth 20000 in
theorem gX0_onBollard_X0_checkHour : GoodIn wsX0_onBollard (va_wsS RX0 82 yX0_checkHour wsX0_checkHour) := goodIn_app (goodIn_of _ (by decide +kernel)) ggX0_onBollard_X0_checkHour
set_option maxRecDepth 20000 in
theorem ggX0_onBollard_X0_balanceOf : GoodIn wsX0_onBollard wsX0_balanceOf := goodIn_r _ [15, 16, 17, 18, 19, 20, 21, 22, 4, 23, 24, 25, 26, 27, 28, 29, 30, 31, 32, 33, 34, 35, 36, 37, 38, 39, 40, 41, 42, 43, 44, 45, 46, 47, 48, 49, 50, 51, 61, 62, 63, 64, 65, 66, 67, 68, 69, 70, 71, 72, 73, 74, 75] (by decide +kernel) (by decide +kernel)
set_option maxRecDepth 20000 in
theorem gX0_onBollard_X0_balanceOf : GoodIn wsX0_onBollard (wsV RX0 89 RX0 yX0_balanceOf wsX0_balanceOf) := goodIn_app (goodIn_of _ (by decide +kernel)) ggX0_onBollard_X0_balanceOf
set_option maxRecDepth 20000 in
theorem ggX0_onBollard_X0_bollardTension : GoodIn wsX0_onBollard wsX0_bollardTension := goodIn_r _ [55, 26, 56, 57, 58, 59, 4, 60, 31, 32, 33, 34, 35, 36, 37, 38, 39, 40, 41, 42, 43, 44, 45, 46, 47, 48, 49, 50, 51, 61, 62, 63, 64, 65, 66, 67, 68, 69, 70, 71, 72, 73, 74, 75] (by decide +kernel) (by decide +kernel)
set_option maxRecDepth 20000 in
theorem gX0_onBollard_X0_bollardTension : GoodIn wsX0_onBollard (wsV RX0 104 RX0 yX0_bollardTension wsX0_bollardTension) := goodIn_app (goodIn_of _ (by decide +kernel)) ggX0_onBollard_X0_bollardTension
theorem dX0_onBollard_0 : decode cX0_onBollard 0 = .ok (.aload_n 0, 1) := by decide +kernel
theorem dX0_onBollard_1 : decode cX0_onBollard 1 = .ok (.iload_n 1, 1) := by decide +kernel
theorem dX0_onBollard_2 : decode cX0_onBollard 2 = .ok (.invokevirtual 69, 3) := by decide +kernel
theorem dX0_onBollard_5 : decode cX0_onBollard 5 = .ok (.iload_n 2, 1) := by decide +kernel
theorem dX0_onBollard_6 : decode cX0_onBollard 6 = .ok (.invokestatic 82, 3) := by decide +kernel
theorem dX0_onBollard_9 : decode cX0_onBollard 9 = .ok (.aload_n 0, 1) := by decide +kernel
theorem dX0_onBollard_10 : decode cX0_onBollard 10 = .ok (.iload_n 1, 1) := by decide +kernel
theorem dX0_onBollard_11 : decode cX0_onBollard 11 = .ok (.iload_n 2, 1) := by decide +kernel
theorem dX0_onBollard_12 : decode cX0_onBollard 12 = .ok (.aload_n 0, 1) := by decide +kernel
theorem dX0_onBollard_13 : decode cX0_onBollard 13 = .ok (.iload_n 2, 1) := by decide +kernel
theorem dX0_onBollard_14 : decode cX0_onBollard 14 = .ok (.invokevirtual 89, 3) := by decide +kernel
theorem dX0_onBollard_17 : decode cX0_onBollard 17 = .ok (.invokevirtual 104, 3) := by decide +kernel
theorem dX0_onBollard_20 : decode cX0_onBollard 20 = .ok (.ireturn, 1) := by decide +kernel
set_option maxRecDepth 20000 in
theorem ggX0_isSafe_X0_checkHour : GoodIn wsX0_isSafe wsX0_checkHour := goodIn_ca (goodIn_r _ [4, 5, 6] (by decide +kernel) (by decide +kernel)) (goodIn_sub (fun _ h => List.mem_cons_of_mem _ (List.mem_append_right _ h)) (by decide +kernel))
set_option maxRecDepth 20000 in
theorem gX0_isSafe_X0_checkHour : GoodIn wsX0_isSafe (va_wsS RX0 82 yX0_checkHour wsX0_checkHour) := goodIn_app (goodIn_of _ (by decide +kernel)) ggX0_isSafe_X0_checkHour
set_option maxRecDepth 20000 in
theorem ggX0_isSafe_X0_holdsIn : GoodIn wsX0_isSafe wsX0_holdsIn := goodIn_r _ [10, 11, 12, 13, 3, 14, 15, 16, 17, 18, 19, 20, 21, 22, 23, 24, 25, 26, 27, 28, 29, 30, 31, 32, 33, 34, 35, 36, 37, 38, 39, 40, 41, 42, 43, 44, 45, 46, 47, 48, 49, 50, 51, 52, 53, 54, 55, 56, 57, 58, 59, 60, 61, 62, 63, 64, 65, 66, 67, 68, 69, 70, 71, 72, 73, 74, 75, 76, 77, 78, 79, 80, 81, 82, 83, 84, 85, 86, 87, 88, 89] (by decide +kernel) (by decide +kernel)
set_option maxRecDepth 20000 in
theorem gX0_isSafe_X0_holdsIn : GoodIn wsX0_isSafe (wsV RX0 107 RX0 yX0_holdsIn wsX0_holdsIn) := goodIn_app (goodIn_of _ (by decide +kernel)) ggX0_isSafe_X0_holdsIn
theorem dX0_isSafe_0 : decode cX0_isSafe 0 = .ok (.iload_n 1, 1) := by decide +kernel
theorem dX0_isSafe_1 : decode cX0_isSafe 1 = .ok (.invokestatic 82, 3) := by decide +kernel
theorem dX0_isSafe_4 : decode cX0_isSafe 4 = .ok (.aload_n 0, 1) := by decide +kernel
theorem dX0_isSafe_5 : decode cX0_isSafe 5 = .ok (.iload_n 1, 1) := by decide +kernel
theorem dX0_isSafe_6 : decode cX0_isSafe 6 = .ok (.invokevirtual 107, 3) := by decide +kernel
theorem dX0_isSafe_9 : decode cX0_isSafe 9 = .ok (.ireturn, 1) := by decide +kernel
set_option maxRecDepth 20000 in
theorem ggX0_firstUnsafe_X0_checkHour : GoodIn wsX0_firstUnsafe wsX0_checkHour := goodIn_ca (goodIn_r _ [4, 5, 6] (by decide +kernel) (by decide +kernel)) (goodIn_sub (fun _ h => List.mem_cons_of_mem _ (List.mem_append_right _ h)) (by decide +kernel))
set_option maxRecDepth 20000 in
theorem gX0_firstUnsafe_X0_checkHour : GoodIn wsX0_firstUnsafe (va_wsS RX0 82 yX0_checkHour wsX0_checkHour) := goodIn_app (goodIn_of _ (by decide +kernel)) ggX0_firstUnsafe_X0_checkHour
set_option maxRecDepth 20000 in
theorem ggX0_firstUnsafe_X0_holdsIn : GoodIn wsX0_firstUnsafe wsX0_holdsIn := goodIn_r _ [10, 11, 12, 13, 3, 14, 15, 16, 17, 18, 19, 20, 21, 22, 23, 24, 25, 26, 27, 28, 29, 30, 31, 32, 33, 34, 35, 36, 37, 38, 39, 40, 41, 42, 43, 44, 45, 46, 47, 48, 49, 50, 51, 52, 53, 54, 55, 56, 57, 58, 59, 60, 61, 62, 63, 64, 65, 66, 67, 68, 69, 70, 71, 72, 73, 74, 75, 76, 77, 78, 79, 80, 81, 82, 83, 84, 85, 86, 87, 88, 89] (by decide +kernel) (by decide +kernel)
set_option maxRecDepth 20000 in
theorem gX0_firstUnsafe_X0_holdsIn : GoodIn wsX0_firstUnsafe (wsV RX0 107 RX0 yX0_holdsIn wsX0_holdsIn) := goodIn_app (goodIn_of _ (by decide +kernel)) ggX0_firstUnsafe_X0_holdsIn
theorem dX0_firstUnsafe_0 : decode cX0_firstUnsafe 0 = .ok (.iload_n 1, 1) := by decide +kernel
theorem dX0_firstUnsafe_1 : decode cX0_firstUnsafe 1 = .ok (.invokestatic 82, 3) := by decide +kernel
theorem dX0_firstUnsafe_4 : decode cX0_firstUnsafe 4 = .ok (.iload_n 1, 1) := by decide +kernel
theorem dX0_firstUnsafe_5 : decode cX0_firstUnsafe 5 = .ok (.istore_n 2, 1) := by decide +kernel
theorem dX0_firstUnsafe_6 : decode cX0_firstUnsafe 6 = .ok (.iload_n 2, 1) := by decide +kernel
theorem dX0_firstUnsafe_7 : decode cX0_firstUnsafe 7 = .ok (.bipush 48, 2) := by decide +kernel
theorem dX0_firstUnsafe_9 : decode cX0_firstUnsafe 9 = .ok (.if_icmp .ge 19, 3) := by decide +kernel
theorem dX0_firstUnsafe_12 : decode cX0_firstUnsafe 12 = .ok (.aload_n 0, 1) := by decide +kernel
theorem dX0_firstUnsafe_13 : decode cX0_firstUnsafe 13 = .ok (.iload_n 2, 1) := by decide +kernel
theorem dX0_firstUnsafe_14 : decode cX0_firstUnsafe 14 = .ok (.invokevirtual 107, 3) := by decide +kernel
theorem dX0_firstUnsafe_17 : decode cX0_firstUnsafe 17 = .ok (.ifCond .ne 5, 3) := by decide +kernel
theorem dX0_firstUnsafe_20 : decode cX0_firstUnsafe 20 = .ok (.iload_n 2, 1) := by decide +kernel
theorem dX0_firstUnsafe_21 : decode cX0_firstUnsafe 21 = .ok (.ireturn, 1) := by decide +kernel
theorem dX0_firstUnsafe_22 : decode cX0_firstUnsafe 22 = .ok (.iinc 2 1, 3) := by decide +kernel
theorem dX0_firstUnsafe_25 : decode cX0_firstUnsafe 25 = .ok (.goto (-19), 3) := by decide +kernel
theorem dX0_firstUnsafe_28 : decode cX0_firstUnsafe 28 = .ok (.iconst (-1), 1) := by decide +kernel
theorem dX0_firstUnsafe_29 : decode cX0_firstUnsafe 29 = .ok (.ireturn, 1) := by decide +kernel
set_option maxRecDepth 20000 in
theorem ggX0_tend_X0_checkLine : GoodIn wsX0_tend wsX0_checkLine := goodIn_ca (goodIn_r _ [13, 14, 15, 16, 62, 63, 64, 65, 66, 67, 68, 69, 70, 71, 72, 73, 74, 75, 76] (by decide +kernel) (by decide +kernel)) (goodIn_sub (fun _ h => List.mem_cons_of_mem _ (List.mem_append_left _ (List.mem_append_right _ h))) (by decide +kernel))
set_option maxRecDepth 20000 in
theorem gX0_tend_X0_checkLine : GoodIn wsX0_tend (wsV RX0 79 RX0 yX0_checkLine wsX0_checkLine) := goodIn_app (goodIn_of _ (by decide +kernel)) ggX0_tend_X0_checkLine
set_option maxRecDepth 20000 in
theorem ggX0_tend_X0_checkHour : GoodIn wsX0_tend wsX0_checkHour := goodIn_ca (goodIn_r _ [19, 14, 15] (by decide +kernel) (by decide +kernel)) (goodIn_sub (fun _ h => List.mem_cons_of_mem _ (List.mem_append_left _ (List.mem_append_right _ h))) (by decide +kernel))
set_option maxRecDepth 20000 in
theorem gX0_tend_X0_checkHour : GoodIn wsX0_tend (va_wsS RX0 82 yX0_checkHour wsX0_checkHour) := goodIn_app (goodIn_of _ (by decide +kernel)) ggX0_tend_X0_checkHour
set_option maxRecDepth 20000 in
theorem ggX0_tend_X0_checkRange : GoodIn wsX0_tend wsX0_checkRange := goodIn_ca (goodIn_r _ [22, 23, 24] (by decide +kernel) (by decide +kernel)) (goodIn_sub (fun _ h => List.mem_cons_of_mem _ (List.mem_append_right _ h)) (by decide +kernel))
set_option maxRecDepth 20000 in
theorem gX0_tend_X0_checkRange : GoodIn wsX0_tend (va_wsS RX0 57 yX0_checkRange wsX0_checkRange) := goodIn_app (goodIn_of _ (by decide +kernel)) ggX0_tend_X0_checkRange
set_option maxRecDepth 20000 in
theorem ggX0_tend_X0_balanceOf : GoodIn wsX0_tend wsX0_balanceOf := goodIn_r _ [28, 29, 30, 31, 32, 33, 34, 35, 12, 36, 37, 38, 16, 39, 40, 41, 42, 43, 44, 45, 46, 47, 48, 49, 50, 51, 52, 53, 54, 55, 56, 3, 57, 4, 5, 6, 7, 8, 62, 63, 64, 65, 66, 67, 68, 69, 70, 71, 72, 73, 74, 75, 76] (by decide +kernel) (by decide +kernel)
set_option maxRecDepth 20000 in
theorem gX0_tend_X0_balanceOf : GoodIn wsX0_tend (wsV RX0 89 RX0 yX0_balanceOf wsX0_balanceOf) := goodIn_app (goodIn_of _ (by decide +kernel)) ggX0_tend_X0_balanceOf
set_option maxRecDepth 20000 in
theorem ggX0_tend_X0_lengthWith : GoodIn wsX0_tend wsX0_lengthWith := goodIn_r _ [61, 43, 44, 45, 46, 12, 47, 48, 49, 50, 51, 52, 62, 63, 64, 65, 66, 67, 68, 69, 70, 71, 72, 73, 74, 75, 76] (by decide +kernel) (by decide +kernel)
set_option maxRecDepth 20000 in
theorem gX0_tend_X0_lengthWith : GoodIn wsX0_tend (wsV RX0 97 RX0 yX0_lengthWith wsX0_lengthWith) := goodIn_app (goodIn_of _ (by decide +kernel)) ggX0_tend_X0_lengthWith
theorem dX0_tend_0 : decode cX0_tend 0 = .ok (.aload_n 0, 1) := by decide +kernel
theorem dX0_tend_1 : decode cX0_tend 1 = .ok (.iload_n 1, 1) := by decide +kernel
theorem dX0_tend_2 : decode cX0_tend 2 = .ok (.invokevirtual 79, 3) := by decide +kernel
theorem dX0_tend_5 : decode cX0_tend 5 = .ok (.iload_n 2, 1) := by decide +kernel
theorem dX0_tend_6 : decode cX0_tend 6 = .ok (.invokestatic 82, 3) := by decide +kernel
theorem dX0_tend_9 : decode cX0_tend 9 = .ok (.iload_n 3, 1) := by decide +kernel
theorem dX0_tend_10 : decode cX0_tend 10 = .ok (.bipush (-100), 2) := by decide +kernel
theorem dX0_tend_12 : decode cX0_tend 12 = .ok (.bipush 100, 2) := by decide +kernel
theorem dX0_tend_14 : decode cX0_tend 14 = .ok (.invokestatic 57, 3) := by decide +kernel
theorem dX0_tend_17 : decode cX0_tend 17 = .ok (.aload_n 0, 1) := by decide +kernel
theorem dX0_tend_18 : decode cX0_tend 18 = .ok (.getfield 50, 3) := by decide +kernel
theorem dX0_tend_21 : decode cX0_tend 21 = .ok (.iload_n 1, 1) := by decide +kernel
theorem dX0_tend_22 : decode cX0_tend 22 = .ok (.baload, 1) := by decide +kernel
theorem dX0_tend_23 : decode cX0_tend 23 = .ok (.ifCond .ne 13, 3) := by decide +kernel
theorem dX0_tend_26 : decode cX0_tend 26 = .ok (.new 62, 3) := by decide +kernel
theorem dX0_tend_29 : decode cX0_tend 29 = .ok (.dup, 1) := by decide +kernel
theorem dX0_tend_30 : decode cX0_tend 30 = .ok (.ldc 111, 2) := by decide +kernel
theorem dX0_tend_32 : decode cX0_tend 32 = .ok (.invokespecial 66, 3) := by decide +kernel
theorem dX0_tend_35 : decode cX0_tend 35 = .ok (.athrow, 1) := by decide +kernel
theorem dX0_tend_36 : decode cX0_tend 36 = .ok (.aload_n 0, 1) := by decide +kernel
theorem dX0_tend_37 : decode cX0_tend 37 = .ok (.getfield 47, 3) := by decide +kernel
theorem dX0_tend_40 : decode cX0_tend 40 = .ok (.iload_n 1, 1) := by decide +kernel
theorem dX0_tend_41 : decode cX0_tend 41 = .ok (.iconst 0, 1) := by decide +kernel
theorem dX0_tend_42 : decode cX0_tend 42 = .ok (.aload_n 0, 1) := by decide +kernel
theorem dX0_tend_43 : decode cX0_tend 43 = .ok (.iload_n 1, 1) := by decide +kernel
theorem dX0_tend_44 : decode cX0_tend 44 = .ok (.iload_n 2, 1) := by decide +kernel
theorem dX0_tend_45 : decode cX0_tend 45 = .ok (.aload_n 0, 1) := by decide +kernel
theorem dX0_tend_46 : decode cX0_tend 46 = .ok (.iload_n 2, 1) := by decide +kernel
theorem dX0_tend_47 : decode cX0_tend 47 = .ok (.invokevirtual 89, 3) := by decide +kernel
theorem dX0_tend_50 : decode cX0_tend 50 = .ok (.invokevirtual 97, 3) := by decide +kernel
theorem dX0_tend_53 : decode cX0_tend 53 = .ok (.iload_n 3, 1) := by decide +kernel
theorem dX0_tend_54 : decode cX0_tend 54 = .ok (.iadd, 1) := by decide +kernel
theorem dX0_tend_55 : decode cX0_tend 55 = .ok (.invokestatic 113, 3) := by decide +kernel
theorem dX0_tend_58 : decode cX0_tend 58 = .ok (.iastore, 1) := by decide +kernel
theorem dX0_tend_59 : decode cX0_tend 59 = .ok (.aload_n 0, 1) := by decide +kernel
theorem dX0_tend_60 : decode cX0_tend 60 = .ok (.getfield 47, 3) := by decide +kernel
theorem dX0_tend_63 : decode cX0_tend 63 = .ok (.iload_n 1, 1) := by decide +kernel
theorem dX0_tend_64 : decode cX0_tend 64 = .ok (.iaload, 1) := by decide +kernel
theorem dX0_tend_65 : decode cX0_tend 65 = .ok (.ireturn, 1) := by decide +kernel
set_option maxRecDepth 20000 in
theorem ggX0_tendAll_X0_checkHour : GoodIn wsX0_tendAll wsX0_checkHour := goodIn_ca (goodIn_r _ [4, 5, 6] (by decide +kernel) (by decide +kernel)) (goodIn_sub (fun _ h => List.mem_cons_of_mem _ (List.mem_append_right _ h)) (by decide +kernel))
set_option maxRecDepth 20000 in
theorem gX0_tendAll_X0_checkHour : GoodIn wsX0_tendAll (va_wsS RX0 82 yX0_checkHour wsX0_checkHour) := goodIn_app (goodIn_of _ (by decide +kernel)) ggX0_tendAll_X0_checkHour
set_option maxRecDepth 20000 in
theorem ggX0_tendAll_X0_tendFastLines : GoodIn wsX0_tendAll wsX0_tendFastLines := goodIn_r _ [10, 11, 12, 13, 14, 15, 16, 3, 17, 18, 19, 20, 21, 22, 23, 24, 25, 26, 27, 28, 29, 30, 31, 32, 33, 34, 35, 36, 37, 38, 39, 40, 41, 42, 43, 44, 45, 46, 47, 48, 49, 50, 51, 52, 53, 54, 55, 56, 57, 58, 59, 60, 61, 62, 63, 64, 65, 66, 67, 68, 69] (by decide +kernel) (by decide +kernel)
set_option maxRecDepth 20000 in
theorem gX0_tendAll_X0_tendFastLines : GoodIn wsX0_tendAll (wsV RX0 118 RX0 yX0_tendFastLines wsX0_tendFastLines) := goodIn_app (goodIn_of _ (by decide +kernel)) ggX0_tendAll_X0_tendFastLines
theorem dX0_tendAll_0 : decode cX0_tendAll 0 = .ok (.iload_n 1, 1) := by decide +kernel
theorem dX0_tendAll_1 : decode cX0_tendAll 1 = .ok (.invokestatic 82, 3) := by decide +kernel
theorem dX0_tendAll_4 : decode cX0_tendAll 4 = .ok (.aload_n 0, 1) := by decide +kernel
theorem dX0_tendAll_5 : decode cX0_tendAll 5 = .ok (.iload_n 1, 1) := by decide +kernel
theorem dX0_tendAll_6 : decode cX0_tendAll 6 = .ok (.invokevirtual 118, 3) := by decide +kernel
theorem dX0_tendAll_9 : decode cX0_tendAll 9 = .ok (.ireturn, 1) := by decide +kernel
set_option maxRecDepth 20000 in
theorem ggX0_plan_X0_checkHour : GoodIn wsX0_plan wsX0_checkHour := goodIn_ca (goodIn_r _ [12, 13, 14] (by decide +kernel) (by decide +kernel)) (goodIn_sub (fun _ h => List.mem_cons_of_mem _ (List.mem_append_right _ h)) (by decide +kernel))
set_option maxRecDepth 20000 in
theorem gX0_plan_X0_checkHour : GoodIn wsX0_plan (va_wsS RX0 82 yX0_checkHour wsX0_checkHour) := goodIn_app (goodIn_of _ (by decide +kernel)) ggX0_plan_X0_checkHour
set_option maxRecDepth 20000 in
theorem ggX0_plan_X0_tendThrough : GoodIn wsX0_plan wsX0_tendThrough := goodIn_r _ [18, 19, 20, 21, 11, 22, 23, 24, 25, 26, 27, 28, 29, 30, 31, 32, 33, 34, 35, 36, 37, 38, 39, 40, 41, 42, 43, 44, 45, 46, 47, 48, 49, 50, 51, 52, 53, 54, 55, 56, 57, 3, 58, 59, 60, 61, 62, 63, 64, 65, 66, 67, 68, 69, 70, 71, 72, 73, 74, 75, 76, 77, 78, 79, 80, 81, 82, 83, 84, 85, 86, 87, 88, 89, 90, 91, 92, 93, 94, 95, 96, 97, 98, 99, 100, 101, 102, 103, 104] (by decide +kernel) (by decide +kernel)
set_option maxRecDepth 20000 in
theorem gX0_plan_X0_tendThrough : GoodIn wsX0_plan (wsV RX0 132 RX0 yX0_tendThrough wsX0_tendThrough) := goodIn_app (goodIn_of _ (by decide +kernel)) ggX0_plan_X0_tendThrough
theorem dX0_plan_0 : decode cX0_plan 0 = .ok (.iload_n 1, 1) := by decide +kernel
theorem dX0_plan_1 : decode cX0_plan 1 = .ok (.invokestatic 82, 3) := by decide +kernel
theorem dX0_plan_4 : decode cX0_plan 4 = .ok (.iload_n 2, 1) := by decide +kernel
theorem dX0_plan_5 : decode cX0_plan 5 = .ok (.invokestatic 82, 3) := by decide +kernel
theorem dX0_plan_8 : decode cX0_plan 8 = .ok (.iload_n 2, 1) := by decide +kernel
theorem dX0_plan_9 : decode cX0_plan 9 = .ok (.iload_n 1, 1) := by decide +kernel
theorem dX0_plan_10 : decode cX0_plan 10 = .ok (.if_icmp .ge 13, 3) := by decide +kernel
theorem dX0_plan_13 : decode cX0_plan 13 = .ok (.new 121, 3) := by decide +kernel
theorem dX0_plan_16 : decode cX0_plan 16 = .ok (.dup, 1) := by decide +kernel
theorem dX0_plan_17 : decode cX0_plan 17 = .ok (.ldc 123, 2) := by decide +kernel
theorem dX0_plan_19 : decode cX0_plan 19 = .ok (.invokespecial 125, 3) := by decide +kernel
theorem dX0_plan_22 : decode cX0_plan 22 = .ok (.athrow, 1) := by decide +kernel
theorem dX0_plan_23 : decode cX0_plan 23 = .ok (.aload_n 0, 1) := by decide +kernel
theorem dX0_plan_24 : decode cX0_plan 24 = .ok (.getfield 47, 3) := by decide +kernel
theorem dX0_plan_27 : decode cX0_plan 27 = .ok (.iconst 0, 1) := by decide +kernel
theorem dX0_plan_28 : decode cX0_plan 28 = .ok (.aload_n 0, 1) := by decide +kernel
theorem dX0_plan_29 : decode cX0_plan 29 = .ok (.getfield 54, 3) := by decide +kernel
theorem dX0_plan_32 : decode cX0_plan 32 = .ok (.iconst 0, 1) := by decide +kernel
theorem dX0_plan_33 : decode cX0_plan 33 = .ok (.bipush 10, 2) := by decide +kernel
theorem dX0_plan_35 : decode cX0_plan 35 = .ok (.invokestatic 126, 3) := by decide +kernel
theorem dX0_plan_38 : decode cX0_plan 38 = .ok (.aload_n 0, 1) := by decide +kernel
theorem dX0_plan_39 : decode cX0_plan 39 = .ok (.iload_n 1, 1) := by decide +kernel
theorem dX0_plan_40 : decode cX0_plan 40 = .ok (.iload_n 2, 1) := by decide +kernel
theorem dX0_plan_41 : decode cX0_plan 41 = .ok (.invokevirtual 132, 3) := by decide +kernel
theorem dX0_plan_44 : decode cX0_plan 44 = .ok (.istore_n 3, 1) := by decide +kernel
theorem dX0_plan_45 : decode cX0_plan 45 = .ok (.aload_n 0, 1) := by decide +kernel
theorem dX0_plan_46 : decode cX0_plan 46 = .ok (.getfield 54, 3) := by decide +kernel
theorem dX0_plan_49 : decode cX0_plan 49 = .ok (.iconst 0, 1) := by decide +kernel
theorem dX0_plan_50 : decode cX0_plan 50 = .ok (.aload_n 0, 1) := by decide +kernel
theorem dX0_plan_51 : decode cX0_plan 51 = .ok (.getfield 47, 3) := by decide +kernel
theorem dX0_plan_54 : decode cX0_plan 54 = .ok (.iconst 0, 1) := by decide +kernel
theorem dX0_plan_55 : decode cX0_plan 55 = .ok (.bipush 10, 2) := by decide +kernel
theorem dX0_plan_57 : decode cX0_plan 57 = .ok (.invokestatic 126, 3) := by decide +kernel
theorem dX0_plan_60 : decode cX0_plan 60 = .ok (.iload_n 3, 1) := by decide +kernel
theorem dX0_plan_61 : decode cX0_plan 61 = .ok (.ireturn, 1) := by decide +kernel
theorem dX0_checkHour_0 : decode cX0_checkHour 0 = .ok (.iload_n 0, 1) := by decide +kernel
theorem dX0_checkHour_1 : decode cX0_checkHour 1 = .ok (.ifCond .lt 9, 3) := by decide +kernel
theorem dX0_checkHour_4 : decode cX0_checkHour 4 = .ok (.iload_n 0, 1) := by decide +kernel
theorem dX0_checkHour_5 : decode cX0_checkHour 5 = .ok (.bipush 48, 2) := by decide +kernel
theorem dX0_checkHour_7 : decode cX0_checkHour 7 = .ok (.if_icmp .lt 13, 3) := by decide +kernel
theorem dX0_checkHour_10 : decode cX0_checkHour 10 = .ok (.new 135, 3) := by decide +kernel
theorem dX0_checkHour_13 : decode cX0_checkHour 13 = .ok (.dup, 1) := by decide +kernel
theorem dX0_checkHour_14 : decode cX0_checkHour 14 = .ok (.ldc 137, 2) := by decide +kernel
theorem dX0_checkHour_16 : decode cX0_checkHour 16 = .ok (.invokespecial 139, 3) := by decide +kernel
theorem dX0_checkHour_19 : decode cX0_checkHour 19 = .ok (.athrow, 1) := by decide +kernel
theorem dX0_checkHour_20 : decode cX0_checkHour 20 = .ok (.return_, 1) := by decide +kernel
theorem dX0_checkBollard_0 : decode cX0_checkBollard 0 = .ok (.iload_n 1, 1) := by decide +kernel
theorem dX0_checkBollard_1 : decode cX0_checkBollard 1 = .ok (.ifCond .lt 11, 3) := by decide +kernel
theorem dX0_checkBollard_4 : decode cX0_checkBollard 4 = .ok (.iload_n 1, 1) := by decide +kernel
theorem dX0_checkBollard_5 : decode cX0_checkBollard 5 = .ok (.aload_n 0, 1) := by decide +kernel
theorem dX0_checkBollard_6 : decode cX0_checkBollard 6 = .ok (.getfield 23, 3) := by decide +kernel
theorem dX0_checkBollard_9 : decode cX0_checkBollard 9 = .ok (.if_icmp .lt 13, 3) := by decide +kernel
theorem dX0_checkBollard_12 : decode cX0_checkBollard 12 = .ok (.new 135, 3) := by decide +kernel
theorem dX0_checkBollard_15 : decode cX0_checkBollard 15 = .ok (.dup, 1) := by decide +kernel
theorem dX0_checkBollard_16 : decode cX0_checkBollard 16 = .ok (.ldc 140, 2) := by decide +kernel
theorem dX0_checkBollard_18 : decode cX0_checkBollard 18 = .ok (.invokespecial 139, 3) := by decide +kernel
theorem dX0_checkBollard_21 : decode cX0_checkBollard 21 = .ok (.athrow, 1) := by decide +kernel
theorem dX0_checkBollard_22 : decode cX0_checkBollard 22 = .ok (.return_, 1) := by decide +kernel
theorem dX0_checkLine_0 : decode cX0_checkLine 0 = .ok (.iload_n 1, 1) := by decide +kernel
theorem dX0_checkLine_1 : decode cX0_checkLine 1 = .ok (.ifCond .lt 11, 3) := by decide +kernel
theorem dX0_checkLine_4 : decode cX0_checkLine 4 = .ok (.iload_n 1, 1) := by decide +kernel
theorem dX0_checkLine_5 : decode cX0_checkLine 5 = .ok (.aload_n 0, 1) := by decide +kernel
theorem dX0_checkLine_6 : decode cX0_checkLine 6 = .ok (.getfield 32, 3) := by decide +kernel
theorem dX0_checkLine_9 : decode cX0_checkLine 9 = .ok (.if_icmp .lt 13, 3) := by decide +kernel
theorem dX0_checkLine_12 : decode cX0_checkLine 12 = .ok (.new 135, 3) := by decide +kernel
theorem dX0_checkLine_15 : decode cX0_checkLine 15 = .ok (.dup, 1) := by decide +kernel
theorem dX0_checkLine_16 : decode cX0_checkLine 16 = .ok (.ldc 142, 2) := by decide +kernel
theorem dX0_checkLine_18 : decode cX0_checkLine 18 = .ok (.invokespecial 139, 3) := by decide +kernel
theorem dX0_checkLine_21 : decode cX0_checkLine 21 = .ok (.athrow, 1) := by decide +kernel
theorem dX0_checkLine_22 : decode cX0_checkLine 22 = .ok (.return_, 1) := by decide +kernel
theorem dX0_checkRange_0 : decode cX0_checkRange 0 = .ok (.iload_n 0, 1) := by decide +kernel
theorem dX0_checkRange_1 : decode cX0_checkRange 1 = .ok (.iload_n 1, 1) := by decide +kernel
theorem dX0_checkRange_2 : decode cX0_checkRange 2 = .ok (.if_icmp .lt 8, 3) := by decide +kernel
theorem dX0_checkRange_5 : decode cX0_checkRange 5 = .ok (.iload_n 0, 1) := by decide +kernel
theorem dX0_checkRange_6 : decode cX0_checkRange 6 = .ok (.iload_n 2, 1) := by decide +kernel
theorem dX0_checkRange_7 : decode cX0_checkRange 7 = .ok (.if_icmp .le 13, 3) := by decide +kernel
theorem dX0_checkRange_10 : decode cX0_checkRange 10 = .ok (.new 121, 3) := by decide +kernel
theorem dX0_checkRange_13 : decode cX0_checkRange 13 = .ok (.dup, 1) := by decide +kernel
theorem dX0_checkRange_14 : decode cX0_checkRange 14 = .ok (.ldc 144, 2) := by decide +kernel
theorem dX0_checkRange_16 : decode cX0_checkRange 16 = .ok (.invokespecial 125, 3) := by decide +kernel
theorem dX0_checkRange_19 : decode cX0_checkRange 19 = .ok (.athrow, 1) := by decide +kernel
theorem dX0_checkRange_20 : decode cX0_checkRange 20 = .ok (.return_, 1) := by decide +kernel
theorem dX0_heightIn_0 : decode cX0_heightIn 0 = .ok (.sipush 300, 3) := by decide +kernel
theorem dX0_heightIn_3 : decode cX0_heightIn 3 = .ok (.aload_n 0, 1) := by decide +kernel
theorem dX0_heightIn_4 : decode cX0_heightIn 4 = .ok (.getfield 9, 3) := by decide +kernel
theorem dX0_heightIn_7 : decode cX0_heightIn 7 = .ok (.iload_n 1, 1) := by decide +kernel
theorem dX0_heightIn_8 : decode cX0_heightIn 8 = .ok (.iaload, 1) := by decide +kernel
theorem dX0_heightIn_9 : decode cX0_heightIn 9 = .ok (.iadd, 1) := by decide +kernel
theorem dX0_heightIn_10 : decode cX0_heightIn 10 = .ok (.aload_n 0, 1) := by decide +kernel
theorem dX0_heightIn_11 : decode cX0_heightIn 11 = .ok (.getfield 13, 3) := by decide +kernel
theorem dX0_heightIn_14 : decode cX0_heightIn 14 = .ok (.iload_n 1, 1) := by decide +kernel
theorem dX0_heightIn_15 : decode cX0_heightIn 15 = .ok (.iaload, 1) := by decide +kernel
theorem dX0_heightIn_16 : decode cX0_heightIn 16 = .ok (.iadd, 1) := by decide +kernel
theorem dX0_heightIn_17 : decode cX0_heightIn 17 = .ok (.ireturn, 1) := by decide +kernel
theorem dX0_lengthOver_0 : decode cX0_lengthOver 0 = .ok (.iload_n 0, 1) := by decide +kernel
theorem dX0_lengthOver_1 : decode cX0_lengthOver 1 = .ok (.iload_n 0, 1) := by decide +kernel
theorem dX0_lengthOver_2 : decode cX0_lengthOver 2 = .ok (.imul, 1) := by decide +kernel
theorem dX0_lengthOver_3 : decode cX0_lengthOver 3 = .ok (.iload_n 1, 1) := by decide +kernel
theorem dX0_lengthOver_4 : decode cX0_lengthOver 4 = .ok (.iload_n 1, 1) := by decide +kernel
theorem dX0_lengthOver_5 : decode cX0_lengthOver 5 = .ok (.imul, 1) := by decide +kernel
theorem dX0_lengthOver_6 : decode cX0_lengthOver 6 = .ok (.iadd, 1) := by decide +kernel
theorem dX0_lengthOver_7 : decode cX0_lengthOver 7 = .ok (.istore_n 2, 1) := by decide +kernel
theorem dX0_lengthOver_8 : decode cX0_lengthOver 8 = .ok (.iconst 0, 1) := by decide +kernel
theorem dX0_lengthOver_9 : decode cX0_lengthOver 9 = .ok (.istore_n 3, 1) := by decide +kernel
theorem dX0_lengthOver_10 : decode cX0_lengthOver 10 = .ok (.sipush 8192, 3) := by decide +kernel
theorem dX0_lengthOver_13 : decode cX0_lengthOver 13 = .ok (.istore 4, 2) := by decide +kernel
theorem dX0_lengthOver_15 : decode cX0_lengthOver 15 = .ok (.iload 4, 2) := by decide +kernel
theorem dX0_lengthOver_17 : decode cX0_lengthOver 17 = .ok (.ifCond .le 30, 3) := by decide +kernel
theorem dX0_lengthOver_20 : decode cX0_lengthOver 20 = .ok (.iload_n 3, 1) := by decide +kernel
theorem dX0_lengthOver_21 : decode cX0_lengthOver 21 = .ok (.iload 4, 2) := by decide +kernel
theorem dX0_lengthOver_23 : decode cX0_lengthOver 23 = .ok (.iadd, 1) := by decide +kernel
theorem dX0_lengthOver_24 : decode cX0_lengthOver 24 = .ok (.istore 5, 2) := by decide +kernel
theorem dX0_lengthOver_26 : decode cX0_lengthOver 26 = .ok (.iload 5, 2) := by decide +kernel
theorem dX0_lengthOver_28 : decode cX0_lengthOver 28 = .ok (.iload 5, 2) := by decide +kernel
theorem dX0_lengthOver_30 : decode cX0_lengthOver 30 = .ok (.imul, 1) := by decide +kernel
theorem dX0_lengthOver_31 : decode cX0_lengthOver 31 = .ok (.iload_n 2, 1) := by decide +kernel
theorem dX0_lengthOver_32 : decode cX0_lengthOver 32 = .ok (.if_icmp .gt 6, 3) := by decide +kernel
theorem dX0_lengthOver_35 : decode cX0_lengthOver 35 = .ok (.iload 5, 2) := by decide +kernel
theorem dX0_lengthOver_37 : decode cX0_lengthOver 37 = .ok (.istore_n 3, 1) := by decide +kernel
theorem dX0_lengthOver_38 : decode cX0_lengthOver 38 = .ok (.iload 4, 2) := by decide +kernel
end
section
theorem dX0_lengthOver_40 : decode cX0_lengthOver 40 = .ok (.iconst 2, 1) := by decide +kernel
theorem dX0_lengthOver_41 : decode cX0_lengthOver 41 = .ok (.idiv, 1) := by decide +kernel
theorem dX0_lengthOver_42 : decode cX0_lengthOver 42 = .ok (.istore 4, 2) := by decide +kernel
theorem dX0_lengthOver_44 : decode cX0_lengthOver 44 = .ok (.goto (-29), 3) := by decide +kernel
theorem dX0_lengthOver_47 : decode cX0_lengthOver 47 = .ok (.iload_n 3, 1) := by decide +kernel
theorem dX0_lengthOver_48 : decode cX0_lengthOver 48 = .ok (.ireturn, 1) := by decide +kernel
set_option maxRecDepth 20000 in
theorem ggX0_lengthWith_X0_heightIn : GoodIn wsX0_lengthWith wsX0_heightIn := goodIn_r _ [6, 7, 8, 12, 13, 14, 15, 16, 17, 18, 19, 20, 21, 22, 23, 24, 25, 26] (by decide +kernel) (by decide +kernel)
set_option maxRecDepth 20000 in
theorem gX0_lengthWith_X0_heightIn : GoodIn wsX0_lengthWith (wsV RX0 146 RX0 yX0_heightIn wsX0_heightIn) := goodIn_app (goodIn_of _ (by decide +kernel)) ggX0_lengthWith_X0_heightIn
set_option maxRecDepth 20000 in
theorem ggX0_lengthWith_X0_lengthOver : GoodIn wsX0_lengthWith wsX0_lengthOver := goodIn_r _ [11] (by decide +kernel) (by decide +kernel)
set_option maxRecDepth 20000 in
theorem gX0_lengthWith_X0_lengthOver : GoodIn wsX0_lengthWith (va_wsS RX0 75 yX0_lengthOver wsX0_lengthOver) := goodIn_app (goodIn_of _ (by decide +kernel)) ggX0_lengthWith_X0_lengthOver
theorem dX0_lengthWith_0 : decode cX0_lengthWith 0 = .ok (.aload_n 0, 1) := by decide +kernel
theorem dX0_lengthWith_1 : decode cX0_lengthWith 1 = .ok (.getfield 38, 3) := by decide +kernel
theorem dX0_lengthWith_4 : decode cX0_lengthWith 4 = .ok (.iload_n 1, 1) := by decide +kernel
theorem dX0_lengthWith_5 : decode cX0_lengthWith 5 = .ok (.iaload, 1) := by decide +kernel
theorem dX0_lengthWith_6 : decode cX0_lengthWith 6 = .ok (.iload_n 3, 1) := by decide +kernel
theorem dX0_lengthWith_7 : decode cX0_lengthWith 7 = .ok (.isub, 1) := by decide +kernel
theorem dX0_lengthWith_8 : decode cX0_lengthWith 8 = .ok (.aload_n 0, 1) := by decide +kernel
theorem dX0_lengthWith_9 : decode cX0_lengthWith 9 = .ok (.iload_n 2, 1) := by decide +kernel
theorem dX0_lengthWith_10 : decode cX0_lengthWith 10 = .ok (.invokevirtual 146, 3) := by decide +kernel
theorem dX0_lengthWith_13 : decode cX0_lengthWith 13 = .ok (.invokestatic 75, 3) := by decide +kernel
theorem dX0_lengthWith_16 : decode cX0_lengthWith 16 = .ok (.ireturn, 1) := by decide +kernel
theorem dX0_tensionAtLength_0 : decode cX0_tensionAtLength 0 = .ok (.aload_n 0, 1) := by decide +kernel
theorem dX0_tensionAtLength_1 : decode cX0_tensionAtLength 1 = .ok (.getfield 50, 3) := by decide +kernel
theorem dX0_tensionAtLength_4 : decode cX0_tensionAtLength 4 = .ok (.iload_n 1, 1) := by decide +kernel
theorem dX0_tensionAtLength_5 : decode cX0_tensionAtLength 5 = .ok (.baload, 1) := by decide +kernel
theorem dX0_tensionAtLength_6 : decode cX0_tensionAtLength 6 = .ok (.ifCond .ne 5, 3) := by decide +kernel
theorem dX0_tensionAtLength_9 : decode cX0_tensionAtLength 9 = .ok (.iconst 0, 1) := by decide +kernel
theorem dX0_tensionAtLength_10 : decode cX0_tensionAtLength 10 = .ok (.ireturn, 1) := by decide +kernel
theorem dX0_tensionAtLength_11 : decode cX0_tensionAtLength 11 = .ok (.aload_n 0, 1) := by decide +kernel
theorem dX0_tensionAtLength_12 : decode cX0_tensionAtLength 12 = .ok (.getfield 41, 3) := by decide +kernel
theorem dX0_tensionAtLength_15 : decode cX0_tensionAtLength 15 = .ok (.iload_n 1, 1) := by decide +kernel
theorem dX0_tensionAtLength_16 : decode cX0_tensionAtLength 16 = .ok (.iaload, 1) := by decide +kernel
theorem dX0_tensionAtLength_17 : decode cX0_tensionAtLength 17 = .ok (.iconst 0, 1) := by decide +kernel
theorem dX0_tensionAtLength_18 : decode cX0_tensionAtLength 18 = .ok (.iload_n 2, 1) := by decide +kernel
theorem dX0_tensionAtLength_19 : decode cX0_tensionAtLength 19 = .ok (.aload_n 0, 1) := by decide +kernel
theorem dX0_tensionAtLength_20 : decode cX0_tensionAtLength 20 = .ok (.getfield 47, 3) := by decide +kernel
theorem dX0_tensionAtLength_23 : decode cX0_tensionAtLength 23 = .ok (.iload_n 1, 1) := by decide +kernel
theorem dX0_tensionAtLength_24 : decode cX0_tensionAtLength 24 = .ok (.iaload, 1) := by decide +kernel
theorem dX0_tensionAtLength_25 : decode cX0_tensionAtLength 25 = .ok (.isub, 1) := by decide +kernel
theorem dX0_tensionAtLength_26 : decode cX0_tensionAtLength 26 = .ok (.invokestatic 113, 3) := by decide +kernel
theorem dX0_tensionAtLength_29 : decode cX0_tensionAtLength 29 = .ok (.imul, 1) := by decide +kernel
theorem dX0_tensionAtLength_30 : decode cX0_tensionAtLength 30 = .ok (.ireturn, 1) := by decide +kernel
set_option maxRecDepth 20000 in
theorem ggX0_pullWith_X0_heightIn : GoodIn wsX0_pullWith wsX0_heightIn := goodIn_r _ [6, 7, 8, 23, 24, 25, 26, 27, 28, 29, 30, 31, 32, 33, 34, 35, 36, 37] (by decide +kernel) (by decide +kernel)
set_option maxRecDepth 20000 in
theorem gX0_pullWith_X0_heightIn : GoodIn wsX0_pullWith (wsV RX0 146 RX0 yX0_heightIn wsX0_heightIn) := goodIn_app (goodIn_of _ (by decide +kernel)) ggX0_pullWith_X0_heightIn
set_option maxRecDepth 20000 in
theorem ggX0_pullWith_X0_lengthOver : GoodIn wsX0_pullWith wsX0_lengthOver := goodIn_r _ [11] (by decide +kernel) (by decide +kernel)
set_option maxRecDepth 20000 in
theorem gX0_pullWith_X0_lengthOver : GoodIn wsX0_pullWith (va_wsS RX0 75 yX0_lengthOver wsX0_lengthOver) := goodIn_app (goodIn_of _ (by decide +kernel)) ggX0_pullWith_X0_lengthOver
set_option maxRecDepth 20000 in
theorem ggX0_pullWith_X0_tensionAtLength : GoodIn wsX0_pullWith wsX0_tensionAtLength := goodIn_r _ [15, 16, 17, 18, 19, 20, 21, 22, 23, 24, 25, 26, 27, 28, 29, 30, 31, 32, 33, 34, 35, 36, 37] (by decide +kernel) (by decide +kernel)
set_option maxRecDepth 20000 in
theorem gX0_pullWith_X0_tensionAtLength : GoodIn wsX0_pullWith (wsV RX0 101 RX0 yX0_tensionAtLength wsX0_tensionAtLength) := goodIn_app (goodIn_of _ (by decide +kernel)) ggX0_pullWith_X0_tensionAtLength
theorem dX0_pullWith_0 : decode cX0_pullWith 0 = .ok (.aload_n 0, 1) := by decide +kernel
theorem dX0_pullWith_1 : decode cX0_pullWith 1 = .ok (.getfield 38, 3) := by decide +kernel
theorem dX0_pullWith_4 : decode cX0_pullWith 4 = .ok (.iload_n 1, 1) := by decide +kernel
theorem dX0_pullWith_5 : decode cX0_pullWith 5 = .ok (.iaload, 1) := by decide +kernel
theorem dX0_pullWith_6 : decode cX0_pullWith 6 = .ok (.iload_n 3, 1) := by decide +kernel
theorem dX0_pullWith_7 : decode cX0_pullWith 7 = .ok (.isub, 1) := by decide +kernel
theorem dX0_pullWith_8 : decode cX0_pullWith 8 = .ok (.istore 4, 2) := by decide +kernel
theorem dX0_pullWith_10 : decode cX0_pullWith 10 = .ok (.iload 4, 2) := by decide +kernel
theorem dX0_pullWith_12 : decode cX0_pullWith 12 = .ok (.aload_n 0, 1) := by decide +kernel
theorem dX0_pullWith_13 : decode cX0_pullWith 13 = .ok (.iload_n 2, 1) := by decide +kernel
theorem dX0_pullWith_14 : decode cX0_pullWith 14 = .ok (.invokevirtual 146, 3) := by decide +kernel
theorem dX0_pullWith_17 : decode cX0_pullWith 17 = .ok (.invokestatic 75, 3) := by decide +kernel
theorem dX0_pullWith_20 : decode cX0_pullWith 20 = .ok (.istore 5, 2) := by decide +kernel
theorem dX0_pullWith_22 : decode cX0_pullWith 22 = .ok (.iload 5, 2) := by decide +kernel
theorem dX0_pullWith_24 : decode cX0_pullWith 24 = .ok (.ifCond .gt 5, 3) := by decide +kernel
theorem dX0_pullWith_27 : decode cX0_pullWith 27 = .ok (.iconst 0, 1) := by decide +kernel
theorem dX0_pullWith_28 : decode cX0_pullWith 28 = .ok (.ireturn, 1) := by decide +kernel
theorem dX0_pullWith_29 : decode cX0_pullWith 29 = .ok (.aload_n 0, 1) := by decide +kernel
theorem dX0_pullWith_30 : decode cX0_pullWith 30 = .ok (.iload_n 1, 1) := by decide +kernel
theorem dX0_pullWith_31 : decode cX0_pullWith 31 = .ok (.iload 5, 2) := by decide +kernel
theorem dX0_pullWith_33 : decode cX0_pullWith 33 = .ok (.invokevirtual 101, 3) := by decide +kernel
theorem dX0_pullWith_36 : decode cX0_pullWith 36 = .ok (.i2l, 1) := by decide +kernel
theorem dX0_pullWith_37 : decode cX0_pullWith 37 = .ok (.iload 4, 2) := by decide +kernel
theorem dX0_pullWith_39 : decode cX0_pullWith 39 = .ok (.i2l, 1) := by decide +kernel
theorem dX0_pullWith_40 : decode cX0_pullWith 40 = .ok (.lmul, 1) := by decide +kernel
theorem dX0_pullWith_41 : decode cX0_pullWith 41 = .ok (.lstore 6, 2) := by decide +kernel
theorem dX0_pullWith_43 : decode cX0_pullWith 43 = .ok (.lload 6, 2) := by decide +kernel
theorem dX0_pullWith_45 : decode cX0_pullWith 45 = .ok (.iload 5, 2) := by decide +kernel
theorem dX0_pullWith_47 : decode cX0_pullWith 47 = .ok (.i2l, 1) := by decide +kernel
theorem dX0_pullWith_48 : decode cX0_pullWith 48 = .ok (.ldiv, 1) := by decide +kernel
theorem dX0_pullWith_49 : decode cX0_pullWith 49 = .ok (.l2i, 1) := by decide +kernel
theorem dX0_pullWith_50 : decode cX0_pullWith 50 = .ok (.ireturn, 1) := by decide +kernel
set_option maxRecDepth 20000 in
theorem ggX0_bollardTension_X0_lengthWith : GoodIn wsX0_bollardTension wsX0_lengthWith := goodIn_r _ [7, 8, 9, 10, 11, 6, 12, 13, 14, 15, 16, 17, 29, 30, 31, 32, 33, 34, 35, 36, 37, 38, 39, 40, 41, 42, 43] (by decide +kernel) (by decide +kernel)
set_option maxRecDepth 20000 in
theorem gX0_bollardTension_X0_lengthWith : GoodIn wsX0_bollardTension (wsV RX0 97 RX0 yX0_lengthWith wsX0_lengthWith) := goodIn_app (goodIn_of _ (by decide +kernel)) ggX0_bollardTension_X0_lengthWith
set_option maxRecDepth 20000 in
theorem ggX0_bollardTension_X0_tensionAtLength : GoodIn wsX0_bollardTension wsX0_tensionAtLength := goodIn_r _ [21, 22, 23, 24, 25, 26, 27, 28, 29, 30, 31, 32, 33, 34, 35, 36, 37, 38, 39, 40, 41, 42, 43] (by decide +kernel) (by decide +kernel)
set_option maxRecDepth 20000 in
theorem gX0_bollardTension_X0_tensionAtLength : GoodIn wsX0_bollardTension (wsV RX0 101 RX0 yX0_tensionAtLength wsX0_tensionAtLength) := goodIn_app (goodIn_of _ (by decide +kernel)) ggX0_bollardTension_X0_tensionAtLength
theorem dX0_bollardTension_0 : decode cX0_bollardTension 0 = .ok (.iconst 0, 1) := by decide +kernel
theorem dX0_bollardTension_1 : decode cX0_bollardTension 1 = .ok (.istore 4, 2) := by decide +kernel
theorem dX0_bollardTension_3 : decode cX0_bollardTension 3 = .ok (.iconst 0, 1) := by decide +kernel
theorem dX0_bollardTension_4 : decode cX0_bollardTension 4 = .ok (.istore 5, 2) := by decide +kernel
theorem dX0_bollardTension_6 : decode cX0_bollardTension 6 = .ok (.iload 5, 2) := by decide +kernel
theorem dX0_bollardTension_8 : decode cX0_bollardTension 8 = .ok (.aload_n 0, 1) := by decide +kernel
theorem dX0_bollardTension_9 : decode cX0_bollardTension 9 = .ok (.getfield 32, 3) := by decide +kernel
theorem dX0_bollardTension_12 : decode cX0_bollardTension 12 = .ok (.if_icmp .ge 39, 3) := by decide +kernel
theorem dX0_bollardTension_15 : decode cX0_bollardTension 15 = .ok (.aload_n 0, 1) := by decide +kernel
theorem dX0_bollardTension_16 : decode cX0_bollardTension 16 = .ok (.getfield 35, 3) := by decide +kernel
theorem dX0_bollardTension_19 : decode cX0_bollardTension 19 = .ok (.iload 5, 2) := by decide +kernel
theorem dX0_bollardTension_21 : decode cX0_bollardTension 21 = .ok (.iaload, 1) := by decide +kernel
theorem dX0_bollardTension_22 : decode cX0_bollardTension 22 = .ok (.iload_n 1, 1) := by decide +kernel
theorem dX0_bollardTension_23 : decode cX0_bollardTension 23 = .ok (.if_icmp .ne 22, 3) := by decide +kernel
theorem dX0_bollardTension_26 : decode cX0_bollardTension 26 = .ok (.iload 4, 2) := by decide +kernel
theorem dX0_bollardTension_28 : decode cX0_bollardTension 28 = .ok (.aload_n 0, 1) := by decide +kernel
theorem dX0_bollardTension_29 : decode cX0_bollardTension 29 = .ok (.iload 5, 2) := by decide +kernel
theorem dX0_bollardTension_31 : decode cX0_bollardTension 31 = .ok (.aload_n 0, 1) := by decide +kernel
theorem dX0_bollardTension_32 : decode cX0_bollardTension 32 = .ok (.iload 5, 2) := by decide +kernel
theorem dX0_bollardTension_34 : decode cX0_bollardTension 34 = .ok (.iload_n 2, 1) := by decide +kernel
theorem dX0_bollardTension_35 : decode cX0_bollardTension 35 = .ok (.iload_n 3, 1) := by decide +kernel
theorem dX0_bollardTension_36 : decode cX0_bollardTension 36 = .ok (.invokevirtual 97, 3) := by decide +kernel
theorem dX0_bollardTension_39 : decode cX0_bollardTension 39 = .ok (.invokevirtual 101, 3) := by decide +kernel
theorem dX0_bollardTension_42 : decode cX0_bollardTension 42 = .ok (.iadd, 1) := by decide +kernel
theorem dX0_bollardTension_43 : decode cX0_bollardTension 43 = .ok (.istore 4, 2) := by decide +kernel
theorem dX0_bollardTension_45 : decode cX0_bollardTension 45 = .ok (.iinc 5 1, 3) := by decide +kernel
theorem dX0_bollardTension_48 : decode cX0_bollardTension 48 = .ok (.goto (-42), 3) := by decide +kernel
theorem dX0_bollardTension_51 : decode cX0_bollardTension 51 = .ok (.iload 4, 2) := by decide +kernel
theorem dX0_bollardTension_53 : decode cX0_bollardTension 53 = .ok (.ireturn, 1) := by decide +kernel
set_option maxRecDepth 20000 in
theorem ggX0_forceWith_X0_pullWith : GoodIn wsX0_forceWith wsX0_pullWith := goodIn_r _ [8, 9, 10, 11, 12, 7, 13, 14, 15, 16, 17, 18, 19, 20, 21, 22, 23, 24, 25, 26, 27, 28, 29, 30, 31, 32, 33, 34, 35, 36, 37, 38, 39, 40, 41, 42, 43, 44] (by decide +kernel) (by decide +kernel)
set_option maxRecDepth 20000 in
theorem gX0_forceWith_X0_pullWith : GoodIn wsX0_forceWith (wsV RX0 149 RX0 yX0_pullWith wsX0_pullWith) := goodIn_app (goodIn_of _ (by decide +kernel)) ggX0_forceWith_X0_pullWith
theorem dX0_forceWith_0 : decode cX0_forceWith 0 = .ok (.aload_n 0, 1) := by decide +kernel
theorem dX0_forceWith_1 : decode cX0_forceWith 1 = .ok (.getfield 19, 3) := by decide +kernel
theorem dX0_forceWith_4 : decode cX0_forceWith 4 = .ok (.aload_n 0, 1) := by decide +kernel
theorem dX0_forceWith_5 : decode cX0_forceWith 5 = .ok (.getfield 16, 3) := by decide +kernel
theorem dX0_forceWith_8 : decode cX0_forceWith 8 = .ok (.iload_n 1, 1) := by decide +kernel
theorem dX0_forceWith_9 : decode cX0_forceWith 9 = .ok (.iaload, 1) := by decide +kernel
theorem dX0_forceWith_10 : decode cX0_forceWith 10 = .ok (.iadd, 1) := by decide +kernel
theorem dX0_forceWith_11 : decode cX0_forceWith 11 = .ok (.istore_n 3, 1) := by decide +kernel
theorem dX0_forceWith_12 : decode cX0_forceWith 12 = .ok (.iconst 0, 1) := by decide +kernel
theorem dX0_forceWith_13 : decode cX0_forceWith 13 = .ok (.istore 4, 2) := by decide +kernel
theorem dX0_forceWith_15 : decode cX0_forceWith 15 = .ok (.iload 4, 2) := by decide +kernel
theorem dX0_forceWith_17 : decode cX0_forceWith 17 = .ok (.aload_n 0, 1) := by decide +kernel
theorem dX0_forceWith_18 : decode cX0_forceWith 18 = .ok (.getfield 32, 3) := by decide +kernel
theorem dX0_forceWith_21 : decode cX0_forceWith 21 = .ok (.if_icmp .ge 20, 3) := by decide +kernel
theorem dX0_forceWith_24 : decode cX0_forceWith 24 = .ok (.iload_n 3, 1) := by decide +kernel
theorem dX0_forceWith_25 : decode cX0_forceWith 25 = .ok (.aload_n 0, 1) := by decide +kernel
theorem dX0_forceWith_26 : decode cX0_forceWith 26 = .ok (.iload 4, 2) := by decide +kernel
theorem dX0_forceWith_28 : decode cX0_forceWith 28 = .ok (.iload_n 1, 1) := by decide +kernel
theorem dX0_forceWith_29 : decode cX0_forceWith 29 = .ok (.iload_n 2, 1) := by decide +kernel
theorem dX0_forceWith_30 : decode cX0_forceWith 30 = .ok (.invokevirtual 149, 3) := by decide +kernel
theorem dX0_forceWith_33 : decode cX0_forceWith 33 = .ok (.iadd, 1) := by decide +kernel
theorem dX0_forceWith_34 : decode cX0_forceWith 34 = .ok (.istore_n 3, 1) := by decide +kernel
theorem dX0_forceWith_35 : decode cX0_forceWith 35 = .ok (.iinc 4 1, 3) := by decide +kernel
theorem dX0_forceWith_38 : decode cX0_forceWith 38 = .ok (.goto (-23), 3) := by decide +kernel
theorem dX0_forceWith_41 : decode cX0_forceWith 41 = .ok (.iload_n 3, 1) := by decide +kernel
theorem dX0_forceWith_42 : decode cX0_forceWith 42 = .ok (.ireturn, 1) := by decide +kernel
set_option maxRecDepth 20000 in
theorem ggX0_balanceOf_J9_floorDiv_7cf53 : GoodIn wsX0_balanceOf wsJ9_floorDiv_7cf53 := goodIn_r _ [4] (by decide +kernel) (by decide +kernel)
set_option maxRecDepth 20000 in
theorem gX0_balanceOf_J9_floorDiv_7cf53 : GoodIn wsX0_balanceOf (va_wsS RX0 152 yJ9_floorDiv_7cf53 wsJ9_floorDiv_7cf53) := goodIn_app (goodIn_of _ (by decide +kernel)) ggX0_balanceOf_J9_floorDiv_7cf53
set_option maxRecDepth 20000 in
theorem ggX0_balanceOf_X0_forceWith : GoodIn wsX0_balanceOf wsX0_forceWith := goodIn_r _ [9, 10, 11, 12, 13, 14, 15, 8, 16, 17, 18, 19, 20, 21, 22, 23, 24, 25, 26, 27, 28, 29, 30, 31, 32, 33, 34, 35, 36, 37, 38, 39, 40, 41, 42, 43, 44, 45, 46, 47, 48, 49, 50, 51, 52] (by decide +kernel) (by decide +kernel)
set_option maxRecDepth 20000 in
theorem gX0_balanceOf_X0_forceWith : GoodIn wsX0_balanceOf (wsV RX0 86 RX0 yX0_forceWith wsX0_forceWith) := goodIn_app (goodIn_of _ (by decide +kernel)) ggX0_balanceOf_X0_forceWith
theorem dX0_balanceOf_0 : decode cX0_balanceOf 0 = .ok (.sipush (-200), 3) := by decide +kernel
theorem dX0_balanceOf_3 : decode cX0_balanceOf 3 = .ok (.istore_n 2, 1) := by decide +kernel
theorem dX0_balanceOf_4 : decode cX0_balanceOf 4 = .ok (.sipush 200, 3) := by decide +kernel
theorem dX0_balanceOf_7 : decode cX0_balanceOf 7 = .ok (.istore_n 3, 1) := by decide +kernel
theorem dX0_balanceOf_8 : decode cX0_balanceOf 8 = .ok (.iconst 0, 1) := by decide +kernel
theorem dX0_balanceOf_9 : decode cX0_balanceOf 9 = .ok (.istore 4, 2) := by decide +kernel
theorem dX0_balanceOf_11 : decode cX0_balanceOf 11 = .ok (.iload_n 2, 1) := by decide +kernel
theorem dX0_balanceOf_12 : decode cX0_balanceOf 12 = .ok (.iload_n 3, 1) := by decide +kernel
theorem dX0_balanceOf_13 : decode cX0_balanceOf 13 = .ok (.if_icmp .ge 47, 3) := by decide +kernel
theorem dX0_balanceOf_16 : decode cX0_balanceOf 16 = .ok (.iload 4, 2) := by decide +kernel
theorem dX0_balanceOf_18 : decode cX0_balanceOf 18 = .ok (.sipush 401, 3) := by decide +kernel
theorem dX0_balanceOf_21 : decode cX0_balanceOf 21 = .ok (.if_icmp .ge 39, 3) := by decide +kernel
theorem dX0_balanceOf_24 : decode cX0_balanceOf 24 = .ok (.iload_n 2, 1) := by decide +kernel
theorem dX0_balanceOf_25 : decode cX0_balanceOf 25 = .ok (.iload_n 3, 1) := by decide +kernel
theorem dX0_balanceOf_26 : decode cX0_balanceOf 26 = .ok (.iadd, 1) := by decide +kernel
theorem dX0_balanceOf_27 : decode cX0_balanceOf 27 = .ok (.iconst 2, 1) := by decide +kernel
theorem dX0_balanceOf_28 : decode cX0_balanceOf 28 = .ok (.invokestatic 152, 3) := by decide +kernel
theorem dX0_balanceOf_31 : decode cX0_balanceOf 31 = .ok (.istore 5, 2) := by decide +kernel
theorem dX0_balanceOf_33 : decode cX0_balanceOf 33 = .ok (.aload_n 0, 1) := by decide +kernel
theorem dX0_balanceOf_34 : decode cX0_balanceOf 34 = .ok (.iload_n 1, 1) := by decide +kernel
theorem dX0_balanceOf_35 : decode cX0_balanceOf 35 = .ok (.iload 5, 2) := by decide +kernel
theorem dX0_balanceOf_37 : decode cX0_balanceOf 37 = .ok (.invokevirtual 86, 3) := by decide +kernel
theorem dX0_balanceOf_40 : decode cX0_balanceOf 40 = .ok (.ifCond .le 11, 3) := by decide +kernel
theorem dX0_balanceOf_43 : decode cX0_balanceOf 43 = .ok (.iload 5, 2) := by decide +kernel
theorem dX0_balanceOf_45 : decode cX0_balanceOf 45 = .ok (.iconst 1, 1) := by decide +kernel
theorem dX0_balanceOf_46 : decode cX0_balanceOf 46 = .ok (.iadd, 1) := by decide +kernel
theorem dX0_balanceOf_47 : decode cX0_balanceOf 47 = .ok (.istore_n 2, 1) := by decide +kernel
theorem dX0_balanceOf_48 : decode cX0_balanceOf 48 = .ok (.goto 6, 3) := by decide +kernel
theorem dX0_balanceOf_51 : decode cX0_balanceOf 51 = .ok (.iload 5, 2) := by decide +kernel
theorem dX0_balanceOf_53 : decode cX0_balanceOf 53 = .ok (.istore_n 3, 1) := by decide +kernel
theorem dX0_balanceOf_54 : decode cX0_balanceOf 54 = .ok (.iinc 4 1, 3) := by decide +kernel
theorem dX0_balanceOf_57 : decode cX0_balanceOf 57 = .ok (.goto (-46), 3) := by decide +kernel
theorem dX0_balanceOf_60 : decode cX0_balanceOf 60 = .ok (.iload_n 2, 1) := by decide +kernel
theorem dX0_balanceOf_61 : decode cX0_balanceOf 61 = .ok (.ireturn, 1) := by decide +kernel
set_option maxRecDepth 20000 in
theorem ggX0_driftsWith_X0_forceWith : GoodIn wsX0_driftsWith wsX0_forceWith := goodIn_r _ [5, 6, 7, 8, 9, 10, 11, 4, 12, 13, 14, 15, 16, 17, 18, 19, 20, 21, 22, 23, 24, 25, 26, 27, 28, 29, 30, 31, 32, 33, 34, 35, 36, 37, 38, 39, 40, 41, 42, 43, 44, 45, 46, 47, 48] (by decide +kernel) (by decide +kernel)
set_option maxRecDepth 20000 in
theorem gX0_driftsWith_X0_forceWith : GoodIn wsX0_driftsWith (wsV RX0 86 RX0 yX0_forceWith wsX0_forceWith) := goodIn_app (goodIn_of _ (by decide +kernel)) ggX0_driftsWith_X0_forceWith
theorem dX0_driftsWith_0 : decode cX0_driftsWith 0 = .ok (.iload_n 2, 1) := by decide +kernel
theorem dX0_driftsWith_1 : decode cX0_driftsWith 1 = .ok (.sipush 200, 3) := by decide +kernel
theorem dX0_driftsWith_4 : decode cX0_driftsWith 4 = .ok (.if_icmp .ne 18, 3) := by decide +kernel
theorem dX0_driftsWith_7 : decode cX0_driftsWith 7 = .ok (.aload_n 0, 1) := by decide +kernel
theorem dX0_driftsWith_8 : decode cX0_driftsWith 8 = .ok (.iload_n 1, 1) := by decide +kernel
theorem dX0_driftsWith_9 : decode cX0_driftsWith 9 = .ok (.iload_n 2, 1) := by decide +kernel
theorem dX0_driftsWith_10 : decode cX0_driftsWith 10 = .ok (.invokevirtual 86, 3) := by decide +kernel
theorem dX0_driftsWith_13 : decode cX0_driftsWith 13 = .ok (.ifCond .le 7, 3) := by decide +kernel
theorem dX0_driftsWith_16 : decode cX0_driftsWith 16 = .ok (.iconst 1, 1) := by decide +kernel
theorem dX0_driftsWith_17 : decode cX0_driftsWith 17 = .ok (.goto 4, 3) := by decide +kernel
theorem dX0_driftsWith_20 : decode cX0_driftsWith 20 = .ok (.iconst 0, 1) := by decide +kernel
theorem dX0_driftsWith_21 : decode cX0_driftsWith 21 = .ok (.ireturn, 1) := by decide +kernel
theorem dX0_driftsWith_22 : decode cX0_driftsWith 22 = .ok (.iload_n 2, 1) := by decide +kernel
theorem dX0_driftsWith_23 : decode cX0_driftsWith 23 = .ok (.sipush (-200), 3) := by decide +kernel
theorem dX0_driftsWith_26 : decode cX0_driftsWith 26 = .ok (.if_icmp .ne 18, 3) := by decide +kernel
theorem dX0_driftsWith_29 : decode cX0_driftsWith 29 = .ok (.aload_n 0, 1) := by decide +kernel
theorem dX0_driftsWith_30 : decode cX0_driftsWith 30 = .ok (.iload_n 1, 1) := by decide +kernel
theorem dX0_driftsWith_31 : decode cX0_driftsWith 31 = .ok (.iload_n 2, 1) := by decide +kernel
theorem dX0_driftsWith_32 : decode cX0_driftsWith 32 = .ok (.invokevirtual 86, 3) := by decide +kernel
theorem dX0_driftsWith_35 : decode cX0_driftsWith 35 = .ok (.ifCond .ge 7, 3) := by decide +kernel
theorem dX0_driftsWith_38 : decode cX0_driftsWith 38 = .ok (.iconst 1, 1) := by decide +kernel
theorem dX0_driftsWith_39 : decode cX0_driftsWith 39 = .ok (.goto 4, 3) := by decide +kernel
theorem dX0_driftsWith_42 : decode cX0_driftsWith 42 = .ok (.iconst 0, 1) := by decide +kernel
theorem dX0_driftsWith_43 : decode cX0_driftsWith 43 = .ok (.ireturn, 1) := by decide +kernel
theorem dX0_driftsWith_44 : decode cX0_driftsWith 44 = .ok (.iconst 0, 1) := by decide +kernel
theorem dX0_driftsWith_45 : decode cX0_driftsWith 45 = .ok (.ireturn, 1) := by decide +kernel
set_option maxRecDepth 20000 in
theorem ggX0_holdsIn_X0_balanceOf : GoodIn wsX0_holdsIn wsX0_balanceOf := goodIn_r _ [5, 6, 7, 8, 9, 10, 11, 12, 4, 13, 14, 15, 16, 17, 18, 19, 20, 21, 22, 23, 24, 25, 26, 27, 28, 29, 30, 31, 32, 33, 34, 35, 36, 37, 38, 39, 40, 41, 66, 67, 68, 69, 70, 71, 72, 73, 74, 75, 76, 77, 78, 79, 80] (by decide +kernel) (by decide +kernel)
set_option maxRecDepth 20000 in
theorem gX0_holdsIn_X0_balanceOf : GoodIn wsX0_holdsIn (wsV RX0 89 RX0 yX0_balanceOf wsX0_balanceOf) := goodIn_app (goodIn_of _ (by decide +kernel)) ggX0_holdsIn_X0_balanceOf
set_option maxRecDepth 20000 in
theorem ggX0_holdsIn_X0_driftsWith : GoodIn wsX0_holdsIn wsX0_driftsWith := goodIn_r _ [45, 10, 11, 12, 4, 13, 14, 15, 16, 17, 18, 19, 20, 21, 22, 23, 24, 25, 26, 27, 28, 29, 30, 31, 32, 33, 34, 35, 36, 37, 38, 39, 40, 41, 66, 67, 68, 69, 70, 71, 72, 73, 74, 75, 76, 77, 78, 79, 80] (by decide +kernel) (by decide +kernel)
set_option maxRecDepth 20000 in
theorem gX0_holdsIn_X0_driftsWith : GoodIn wsX0_holdsIn (wsV RX0 93 RX0 yX0_driftsWith wsX0_driftsWith) := goodIn_app (goodIn_of _ (by decide +kernel)) ggX0_holdsIn_X0_driftsWith
set_option maxRecDepth 20000 in
theorem ggX0_holdsIn_X0_linesHold : GoodIn wsX0_holdsIn wsX0_linesHold := goodIn_r _ [49, 16, 50, 51, 52, 53, 4, 54, 21, 22, 23, 24, 25, 26, 27, 28, 29, 30, 31, 32, 33, 34, 35, 36, 37, 38, 39, 40, 41, 66, 67, 68, 69, 70, 71, 72, 73, 74, 75, 76, 77, 78, 79, 80] (by decide +kernel) (by decide +kernel)
set_option maxRecDepth 20000 in
theorem gX0_holdsIn_X0_linesHold : GoodIn wsX0_holdsIn (wsV RX0 155 RX0 yX0_linesHold wsX0_linesHold) := goodIn_app (goodIn_of _ (by decide +kernel)) ggX0_holdsIn_X0_linesHold
set_option maxRecDepth 20000 in
theorem ggX0_holdsIn_X0_bollardsHold : GoodIn wsX0_holdsIn wsX0_bollardsHold := goodIn_r _ [58, 59, 60, 61, 62, 63, 4, 64, 16, 65, 51, 52, 53, 54, 21, 22, 23, 24, 25, 26, 27, 28, 29, 30, 31, 32, 33, 34, 35, 36, 37, 38, 39, 40, 41, 66, 67, 68, 69, 70, 71, 72, 73, 74, 75, 76, 77, 78, 79, 80] (by decide +kernel) (by decide +kernel)
set_option maxRecDepth 20000 in
theorem gX0_holdsIn_X0_bollardsHold : GoodIn wsX0_holdsIn (wsV RX0 158 RX0 yX0_bollardsHold wsX0_bollardsHold) := goodIn_app (goodIn_of _ (by decide +kernel)) ggX0_holdsIn_X0_bollardsHold
theorem dX0_holdsIn_0 : decode cX0_holdsIn 0 = .ok (.aload_n 0, 1) := by decide +kernel
theorem dX0_holdsIn_1 : decode cX0_holdsIn 1 = .ok (.iload_n 1, 1) := by decide +kernel
theorem dX0_holdsIn_2 : decode cX0_holdsIn 2 = .ok (.invokevirtual 89, 3) := by decide +kernel
theorem dX0_holdsIn_5 : decode cX0_holdsIn 5 = .ok (.istore_n 2, 1) := by decide +kernel
theorem dX0_holdsIn_6 : decode cX0_holdsIn 6 = .ok (.aload_n 0, 1) := by decide +kernel
theorem dX0_holdsIn_7 : decode cX0_holdsIn 7 = .ok (.iload_n 1, 1) := by decide +kernel
theorem dX0_holdsIn_8 : decode cX0_holdsIn 8 = .ok (.iload_n 2, 1) := by decide +kernel
theorem dX0_holdsIn_9 : decode cX0_holdsIn 9 = .ok (.invokevirtual 93, 3) := by decide +kernel
theorem dX0_holdsIn_12 : decode cX0_holdsIn 12 = .ok (.ifCond .ne 25, 3) := by decide +kernel
theorem dX0_holdsIn_15 : decode cX0_holdsIn 15 = .ok (.aload_n 0, 1) := by decide +kernel
theorem dX0_holdsIn_16 : decode cX0_holdsIn 16 = .ok (.iload_n 1, 1) := by decide +kernel
theorem dX0_holdsIn_17 : decode cX0_holdsIn 17 = .ok (.iload_n 2, 1) := by decide +kernel
theorem dX0_holdsIn_18 : decode cX0_holdsIn 18 = .ok (.invokevirtual 155, 3) := by decide +kernel
theorem dX0_holdsIn_21 : decode cX0_holdsIn 21 = .ok (.ifCond .eq 16, 3) := by decide +kernel
theorem dX0_holdsIn_24 : decode cX0_holdsIn 24 = .ok (.aload_n 0, 1) := by decide +kernel
theorem dX0_holdsIn_25 : decode cX0_holdsIn 25 = .ok (.iload_n 1, 1) := by decide +kernel
theorem dX0_holdsIn_26 : decode cX0_holdsIn 26 = .ok (.iload_n 2, 1) := by decide +kernel
theorem dX0_holdsIn_27 : decode cX0_holdsIn 27 = .ok (.invokevirtual 158, 3) := by decide +kernel
theorem dX0_holdsIn_30 : decode cX0_holdsIn 30 = .ok (.ifCond .eq 7, 3) := by decide +kernel
theorem dX0_holdsIn_33 : decode cX0_holdsIn 33 = .ok (.iconst 1, 1) := by decide +kernel
theorem dX0_holdsIn_34 : decode cX0_holdsIn 34 = .ok (.goto 4, 3) := by decide +kernel
theorem dX0_holdsIn_37 : decode cX0_holdsIn 37 = .ok (.iconst 0, 1) := by decide +kernel
theorem dX0_holdsIn_38 : decode cX0_holdsIn 38 = .ok (.ireturn, 1) := by decide +kernel
set_option maxRecDepth 20000 in
theorem ggX0_linesHold_X0_lengthWith : GoodIn wsX0_linesHold wsX0_lengthWith := goodIn_r _ [7, 8, 9, 10, 11, 6, 12, 13, 14, 15, 16, 17, 29, 30, 31, 32, 33, 34, 35, 36, 37, 38, 39, 40, 41, 42, 43] (by decide +kernel) (by decide +kernel)
set_option maxRecDepth 20000 in
theorem gX0_linesHold_X0_lengthWith : GoodIn wsX0_linesHold (wsV RX0 97 RX0 yX0_lengthWith wsX0_lengthWith) := goodIn_app (goodIn_of _ (by decide +kernel)) ggX0_linesHold_X0_lengthWith
set_option maxRecDepth 20000 in
theorem ggX0_linesHold_X0_tensionAtLength : GoodIn wsX0_linesHold wsX0_tensionAtLength := goodIn_r _ [21, 22, 23, 24, 25, 26, 27, 28, 29, 30, 31, 32, 33, 34, 35, 36, 37, 38, 39, 40, 41, 42, 43] (by decide +kernel) (by decide +kernel)
set_option maxRecDepth 20000 in
theorem gX0_linesHold_X0_tensionAtLength : GoodIn wsX0_linesHold (wsV RX0 101 RX0 yX0_tensionAtLength wsX0_tensionAtLength) := goodIn_app (goodIn_of _ (by decide +kernel)) ggX0_linesHold_X0_tensionAtLength
theorem dX0_linesHold_0 : decode cX0_linesHold 0 = .ok (.iconst 0, 1) := by decide +kernel
theorem dX0_linesHold_1 : decode cX0_linesHold 1 = .ok (.istore_n 3, 1) := by decide +kernel
theorem dX0_linesHold_2 : decode cX0_linesHold 2 = .ok (.iload_n 3, 1) := by decide +kernel
theorem dX0_linesHold_3 : decode cX0_linesHold 3 = .ok (.aload_n 0, 1) := by decide +kernel
theorem dX0_linesHold_4 : decode cX0_linesHold 4 = .ok (.getfield 32, 3) := by decide +kernel
theorem dX0_linesHold_7 : decode cX0_linesHold 7 = .ok (.if_icmp .ge 42, 3) := by decide +kernel
theorem dX0_linesHold_10 : decode cX0_linesHold 10 = .ok (.aload_n 0, 1) := by decide +kernel
theorem dX0_linesHold_11 : decode cX0_linesHold 11 = .ok (.iload_n 3, 1) := by decide +kernel
theorem dX0_linesHold_12 : decode cX0_linesHold 12 = .ok (.aload_n 0, 1) := by decide +kernel
theorem dX0_linesHold_13 : decode cX0_linesHold 13 = .ok (.iload_n 3, 1) := by decide +kernel
theorem dX0_linesHold_14 : decode cX0_linesHold 14 = .ok (.iload_n 1, 1) := by decide +kernel
theorem dX0_linesHold_15 : decode cX0_linesHold 15 = .ok (.iload_n 2, 1) := by decide +kernel
theorem dX0_linesHold_16 : decode cX0_linesHold 16 = .ok (.invokevirtual 97, 3) := by decide +kernel
theorem dX0_linesHold_19 : decode cX0_linesHold 19 = .ok (.invokevirtual 101, 3) := by decide +kernel
theorem dX0_linesHold_22 : decode cX0_linesHold 22 = .ok (.istore 4, 2) := by decide +kernel
theorem dX0_linesHold_24 : decode cX0_linesHold 24 = .ok (.iload 4, 2) := by decide +kernel
theorem dX0_linesHold_26 : decode cX0_linesHold 26 = .ok (.bipush 100, 2) := by decide +kernel
theorem dX0_linesHold_28 : decode cX0_linesHold 28 = .ok (.imul, 1) := by decide +kernel
theorem dX0_linesHold_29 : decode cX0_linesHold 29 = .ok (.aload_n 0, 1) := by decide +kernel
theorem dX0_linesHold_30 : decode cX0_linesHold 30 = .ok (.getfield 44, 3) := by decide +kernel
theorem dX0_linesHold_33 : decode cX0_linesHold 33 = .ok (.iload_n 3, 1) := by decide +kernel
theorem dX0_linesHold_34 : decode cX0_linesHold 34 = .ok (.iaload, 1) := by decide +kernel
theorem dX0_linesHold_35 : decode cX0_linesHold 35 = .ok (.bipush 55, 2) := by decide +kernel
theorem dX0_linesHold_37 : decode cX0_linesHold 37 = .ok (.imul, 1) := by decide +kernel
theorem dX0_linesHold_38 : decode cX0_linesHold 38 = .ok (.if_icmp .le 5, 3) := by decide +kernel
theorem dX0_linesHold_41 : decode cX0_linesHold 41 = .ok (.iconst 0, 1) := by decide +kernel
theorem dX0_linesHold_42 : decode cX0_linesHold 42 = .ok (.ireturn, 1) := by decide +kernel
theorem dX0_linesHold_43 : decode cX0_linesHold 43 = .ok (.iinc 3 1, 3) := by decide +kernel
theorem dX0_linesHold_46 : decode cX0_linesHold 46 = .ok (.goto (-44), 3) := by decide +kernel
theorem dX0_linesHold_49 : decode cX0_linesHold 49 = .ok (.iconst 1, 1) := by decide +kernel
theorem dX0_linesHold_50 : decode cX0_linesHold 50 = .ok (.ireturn, 1) := by decide +kernel
set_option maxRecDepth 20000 in
theorem ggX0_bollardsHold_X0_bollardTension : GoodIn wsX0_bollardsHold wsX0_bollardTension := goodIn_r _ [7, 8, 9, 10, 11, 12, 6, 13, 14, 15, 16, 17, 18, 19, 20, 21, 22, 23, 24, 25, 26, 27, 28, 29, 30, 31, 32, 33, 34, 35, 36, 37, 38, 39, 40, 41, 42, 43, 44, 45, 46, 47, 48, 49] (by decide +kernel) (by decide +kernel)
set_option maxRecDepth 20000 in
theorem gX0_bollardsHold_X0_bollardTension : GoodIn wsX0_bollardsHold (wsV RX0 104 RX0 yX0_bollardTension wsX0_bollardTension) := goodIn_app (goodIn_of _ (by decide +kernel)) ggX0_bollardsHold_X0_bollardTension
theorem dX0_bollardsHold_0 : decode cX0_bollardsHold 0 = .ok (.iconst 0, 1) := by decide +kernel
theorem dX0_bollardsHold_1 : decode cX0_bollardsHold 1 = .ok (.istore_n 3, 1) := by decide +kernel
theorem dX0_bollardsHold_2 : decode cX0_bollardsHold 2 = .ok (.iload_n 3, 1) := by decide +kernel
theorem dX0_bollardsHold_3 : decode cX0_bollardsHold 3 = .ok (.aload_n 0, 1) := by decide +kernel
theorem dX0_bollardsHold_4 : decode cX0_bollardsHold 4 = .ok (.getfield 23, 3) := by decide +kernel
theorem dX0_bollardsHold_7 : decode cX0_bollardsHold 7 = .ok (.if_icmp .ge 27, 3) := by decide +kernel
theorem dX0_bollardsHold_10 : decode cX0_bollardsHold 10 = .ok (.aload_n 0, 1) := by decide +kernel
theorem dX0_bollardsHold_11 : decode cX0_bollardsHold 11 = .ok (.iload_n 3, 1) := by decide +kernel
theorem dX0_bollardsHold_12 : decode cX0_bollardsHold 12 = .ok (.iload_n 1, 1) := by decide +kernel
theorem dX0_bollardsHold_13 : decode cX0_bollardsHold 13 = .ok (.iload_n 2, 1) := by decide +kernel
theorem dX0_bollardsHold_14 : decode cX0_bollardsHold 14 = .ok (.invokevirtual 104, 3) := by decide +kernel
theorem dX0_bollardsHold_17 : decode cX0_bollardsHold 17 = .ok (.aload_n 0, 1) := by decide +kernel
theorem dX0_bollardsHold_18 : decode cX0_bollardsHold 18 = .ok (.getfield 29, 3) := by decide +kernel
theorem dX0_bollardsHold_21 : decode cX0_bollardsHold 21 = .ok (.iload_n 3, 1) := by decide +kernel
theorem dX0_bollardsHold_22 : decode cX0_bollardsHold 22 = .ok (.iaload, 1) := by decide +kernel
theorem dX0_bollardsHold_23 : decode cX0_bollardsHold 23 = .ok (.if_icmp .le 5, 3) := by decide +kernel
theorem dX0_bollardsHold_26 : decode cX0_bollardsHold 26 = .ok (.iconst 0, 1) := by decide +kernel
theorem dX0_bollardsHold_27 : decode cX0_bollardsHold 27 = .ok (.ireturn, 1) := by decide +kernel
theorem dX0_bollardsHold_28 : decode cX0_bollardsHold 28 = .ok (.iinc 3 1, 3) := by decide +kernel
theorem dX0_bollardsHold_31 : decode cX0_bollardsHold 31 = .ok (.goto (-29), 3) := by decide +kernel
theorem dX0_bollardsHold_34 : decode cX0_bollardsHold 34 = .ok (.iconst 1, 1) := by decide +kernel
theorem dX0_bollardsHold_35 : decode cX0_bollardsHold 35 = .ok (.ireturn, 1) := by decide +kernel
set_option maxRecDepth 20000 in
theorem ggX0_tendFastLines_X0_balanceOf : GoodIn wsX0_tendFastLines wsX0_balanceOf := goodIn_r _ [8, 9, 10, 11, 12, 13, 14, 15, 7, 16, 17, 18, 1, 19, 20, 21, 22, 23, 24, 25, 26, 27, 28, 29, 30, 31, 32, 33, 34, 35, 36, 2, 37, 3, 38, 39, 40, 41, 46, 47, 48, 49, 50, 51, 52, 53, 54, 55, 56, 57, 58, 59, 60] (by decide +kernel) (by decide +kernel)
set_option maxRecDepth 20000 in
theorem gX0_tendFastLines_X0_balanceOf : GoodIn wsX0_tendFastLines (wsV RX0 89 RX0 yX0_balanceOf wsX0_balanceOf) := goodIn_app (goodIn_of _ (by decide +kernel)) ggX0_tendFastLines_X0_balanceOf
set_option maxRecDepth 20000 in
theorem ggX0_tendFastLines_X0_lengthWith : GoodIn wsX0_tendFastLines wsX0_lengthWith := goodIn_r _ [45, 23, 24, 25, 26, 7, 27, 28, 29, 30, 31, 32, 46, 47, 48, 49, 50, 51, 52, 53, 54, 55, 56, 57, 58, 59, 60] (by decide +kernel) (by decide +kernel)
set_option maxRecDepth 20000 in
theorem gX0_tendFastLines_X0_lengthWith : GoodIn wsX0_tendFastLines (wsV RX0 97 RX0 yX0_lengthWith wsX0_lengthWith) := goodIn_app (goodIn_of _ (by decide +kernel)) ggX0_tendFastLines_X0_lengthWith
theorem dX0_tendFastLines_0 : decode cX0_tendFastLines 0 = .ok (.aload_n 0, 1) := by decide +kernel
theorem dX0_tendFastLines_1 : decode cX0_tendFastLines 1 = .ok (.iload_n 1, 1) := by decide +kernel
theorem dX0_tendFastLines_2 : decode cX0_tendFastLines 2 = .ok (.invokevirtual 89, 3) := by decide +kernel
theorem dX0_tendFastLines_5 : decode cX0_tendFastLines 5 = .ok (.istore_n 2, 1) := by decide +kernel
theorem dX0_tendFastLines_6 : decode cX0_tendFastLines 6 = .ok (.iconst 0, 1) := by decide +kernel
theorem dX0_tendFastLines_7 : decode cX0_tendFastLines 7 = .ok (.istore_n 3, 1) := by decide +kernel
theorem dX0_tendFastLines_8 : decode cX0_tendFastLines 8 = .ok (.iconst 0, 1) := by decide +kernel
theorem dX0_tendFastLines_9 : decode cX0_tendFastLines 9 = .ok (.istore 4, 2) := by decide +kernel
theorem dX0_tendFastLines_11 : decode cX0_tendFastLines 11 = .ok (.iload 4, 2) := by decide +kernel
theorem dX0_tendFastLines_13 : decode cX0_tendFastLines 13 = .ok (.aload_n 0, 1) := by decide +kernel
theorem dX0_tendFastLines_14 : decode cX0_tendFastLines 14 = .ok (.getfield 32, 3) := by decide +kernel
theorem dX0_tendFastLines_17 : decode cX0_tendFastLines 17 = .ok (.if_icmp .ge 63, 3) := by decide +kernel
theorem dX0_tendFastLines_20 : decode cX0_tendFastLines 20 = .ok (.aload_n 0, 1) := by decide +kernel
theorem dX0_tendFastLines_21 : decode cX0_tendFastLines 21 = .ok (.getfield 50, 3) := by decide +kernel
theorem dX0_tendFastLines_24 : decode cX0_tendFastLines 24 = .ok (.iload 4, 2) := by decide +kernel
theorem dX0_tendFastLines_26 : decode cX0_tendFastLines 26 = .ok (.baload, 1) := by decide +kernel
theorem dX0_tendFastLines_27 : decode cX0_tendFastLines 27 = .ok (.ifCond .eq 47, 3) := by decide +kernel
theorem dX0_tendFastLines_30 : decode cX0_tendFastLines 30 = .ok (.aload_n 0, 1) := by decide +kernel
theorem dX0_tendFastLines_31 : decode cX0_tendFastLines 31 = .ok (.getfield 47, 3) := by decide +kernel
theorem dX0_tendFastLines_34 : decode cX0_tendFastLines 34 = .ok (.iload 4, 2) := by decide +kernel
theorem dX0_tendFastLines_36 : decode cX0_tendFastLines 36 = .ok (.iaload, 1) := by decide +kernel
theorem dX0_tendFastLines_37 : decode cX0_tendFastLines 37 = .ok (.istore 5, 2) := by decide +kernel
theorem dX0_tendFastLines_39 : decode cX0_tendFastLines 39 = .ok (.aload_n 0, 1) := by decide +kernel
theorem dX0_tendFastLines_40 : decode cX0_tendFastLines 40 = .ok (.getfield 47, 3) := by decide +kernel
theorem dX0_tendFastLines_43 : decode cX0_tendFastLines 43 = .ok (.iload 4, 2) := by decide +kernel
theorem dX0_tendFastLines_45 : decode cX0_tendFastLines 45 = .ok (.aload_n 0, 1) := by decide +kernel
theorem dX0_tendFastLines_46 : decode cX0_tendFastLines 46 = .ok (.iload 4, 2) := by decide +kernel
theorem dX0_tendFastLines_48 : decode cX0_tendFastLines 48 = .ok (.iload_n 1, 1) := by decide +kernel
theorem dX0_tendFastLines_49 : decode cX0_tendFastLines 49 = .ok (.iload_n 2, 1) := by decide +kernel
theorem dX0_tendFastLines_50 : decode cX0_tendFastLines 50 = .ok (.invokevirtual 97, 3) := by decide +kernel
theorem dX0_tendFastLines_53 : decode cX0_tendFastLines 53 = .ok (.iastore, 1) := by decide +kernel
theorem dX0_tendFastLines_54 : decode cX0_tendFastLines 54 = .ok (.iload_n 3, 1) := by decide +kernel
theorem dX0_tendFastLines_55 : decode cX0_tendFastLines 55 = .ok (.aload_n 0, 1) := by decide +kernel
theorem dX0_tendFastLines_56 : decode cX0_tendFastLines 56 = .ok (.getfield 47, 3) := by decide +kernel
theorem dX0_tendFastLines_59 : decode cX0_tendFastLines 59 = .ok (.iload 4, 2) := by decide +kernel
theorem dX0_tendFastLines_61 : decode cX0_tendFastLines 61 = .ok (.iaload, 1) := by decide +kernel
theorem dX0_tendFastLines_62 : decode cX0_tendFastLines 62 = .ok (.iload 5, 2) := by decide +kernel
theorem dX0_tendFastLines_64 : decode cX0_tendFastLines 64 = .ok (.if_icmp .ne 7, 3) := by decide +kernel
theorem dX0_tendFastLines_67 : decode cX0_tendFastLines 67 = .ok (.iconst 0, 1) := by decide +kernel
theorem dX0_tendFastLines_68 : decode cX0_tendFastLines 68 = .ok (.goto 4, 3) := by decide +kernel
theorem dX0_tendFastLines_71 : decode cX0_tendFastLines 71 = .ok (.iconst 1, 1) := by decide +kernel
theorem dX0_tendFastLines_72 : decode cX0_tendFastLines 72 = .ok (.iadd, 1) := by decide +kernel
theorem dX0_tendFastLines_73 : decode cX0_tendFastLines 73 = .ok (.istore_n 3, 1) := by decide +kernel
theorem dX0_tendFastLines_74 : decode cX0_tendFastLines 74 = .ok (.iinc 4 1, 3) := by decide +kernel
theorem dX0_tendFastLines_77 : decode cX0_tendFastLines 77 = .ok (.goto (-66), 3) := by decide +kernel
theorem dX0_tendFastLines_80 : decode cX0_tendFastLines 80 = .ok (.iload_n 3, 1) := by decide +kernel
theorem dX0_tendFastLines_81 : decode cX0_tendFastLines 81 = .ok (.ireturn, 1) := by decide +kernel
set_option maxRecDepth 20000 in
theorem ggX0_tendThrough_X0_holdsIn : GoodIn wsX0_tendThrough wsX0_holdsIn := goodIn_r _ [5, 6, 7, 8, 4, 9, 10, 11, 12, 13, 14, 15, 16, 17, 18, 19, 20, 21, 22, 23, 24, 25, 26, 27, 28, 29, 30, 31, 32, 33, 34, 35, 36, 37, 38, 39, 40, 41, 42, 43, 44, 45, 46, 47, 48, 49, 50, 51, 52, 53, 54, 55, 56, 57, 58, 59, 60, 61, 62, 63, 64, 65, 66, 67, 68, 69, 74, 75, 76, 77, 78, 79, 80, 81, 82, 83, 84, 85, 86, 87, 88] (by decide +kernel) (by decide +kernel)
set_option maxRecDepth 20000 in
theorem gX0_tendThrough_X0_holdsIn : GoodIn wsX0_tendThrough (wsV RX0 107 RX0 yX0_holdsIn wsX0_holdsIn) := goodIn_app (goodIn_of _ (by decide +kernel)) ggX0_tendThrough_X0_holdsIn
set_option maxRecDepth 20000 in
theorem ggX0_tendThrough_X0_tendFastLines : GoodIn wsX0_tendThrough wsX0_tendFastLines := goodIn_r _ [73, 20, 39, 41, 6, 7, 8, 4, 9, 10, 11, 12, 13, 14, 15, 16, 17, 18, 19, 21, 22, 23, 24, 25, 26, 27, 28, 29, 30, 31, 32, 33, 34, 35, 36, 37, 38, 40, 42, 43, 44, 45, 55, 56, 57, 58, 74, 75, 76, 77, 78, 79, 80, 81, 82, 83, 84, 85, 86, 87, 88] (by decide +kernel) (by decide +kernel)
set_option maxRecDepth 20000 in
theorem gX0_tendThrough_X0_tendFastLines : GoodIn wsX0_tendThrough (wsV RX0 118 RX0 yX0_tendFastLines wsX0_tendFastLines) := goodIn_app (goodIn_of _ (by decide +kernel)) ggX0_tendThrough_X0_tendFastLines
theorem dX0_tendThrough_0 : decode cX0_tendThrough 0 = .ok (.iconst 0, 1) := by decide +kernel
theorem dX0_tendThrough_1 : decode cX0_tendThrough 1 = .ok (.istore_n 3, 1) := by decide +kernel
theorem dX0_tendThrough_2 : decode cX0_tendThrough 2 = .ok (.iload_n 1, 1) := by decide +kernel
theorem dX0_tendThrough_3 : decode cX0_tendThrough 3 = .ok (.istore 4, 2) := by decide +kernel
theorem dX0_tendThrough_5 : decode cX0_tendThrough 5 = .ok (.iload 4, 2) := by decide +kernel
theorem dX0_tendThrough_7 : decode cX0_tendThrough 7 = .ok (.iload_n 2, 1) := by decide +kernel
theorem dX0_tendThrough_8 : decode cX0_tendThrough 8 = .ok (.if_icmp .gt 39, 3) := by decide +kernel
theorem dX0_tendThrough_11 : decode cX0_tendThrough 11 = .ok (.aload_n 0, 1) := by decide +kernel
theorem dX0_tendThrough_12 : decode cX0_tendThrough 12 = .ok (.iload 4, 2) := by decide +kernel
theorem dX0_tendThrough_14 : decode cX0_tendThrough 14 = .ok (.invokevirtual 107, 3) := by decide +kernel
theorem dX0_tendThrough_17 : decode cX0_tendThrough 17 = .ok (.ifCond .ne 24, 3) := by decide +kernel
theorem dX0_tendThrough_20 : decode cX0_tendThrough 20 = .ok (.aload_n 0, 1) := by decide +kernel
theorem dX0_tendThrough_21 : decode cX0_tendThrough 21 = .ok (.iload 4, 2) := by decide +kernel
theorem dX0_tendThrough_23 : decode cX0_tendThrough 23 = .ok (.invokevirtual 118, 3) := by decide +kernel
theorem dX0_tendThrough_26 : decode cX0_tendThrough 26 = .ok (.pop, 1) := by decide +kernel
theorem dX0_tendThrough_27 : decode cX0_tendThrough 27 = .ok (.iinc 3 1, 3) := by decide +kernel
theorem dX0_tendThrough_30 : decode cX0_tendThrough 30 = .ok (.aload_n 0, 1) := by decide +kernel
theorem dX0_tendThrough_31 : decode cX0_tendThrough 31 = .ok (.iload 4, 2) := by decide +kernel
theorem dX0_tendThrough_33 : decode cX0_tendThrough 33 = .ok (.invokevirtual 107, 3) := by decide +kernel
theorem dX0_tendThrough_36 : decode cX0_tendThrough 36 = .ok (.ifCond .ne 5, 3) := by decide +kernel
theorem dX0_tendThrough_39 : decode cX0_tendThrough 39 = .ok (.iconst (-1), 1) := by decide +kernel
theorem dX0_tendThrough_40 : decode cX0_tendThrough 40 = .ok (.ireturn, 1) := by decide +kernel
theorem dX0_tendThrough_41 : decode cX0_tendThrough 41 = .ok (.iinc 4 1, 3) := by decide +kernel
theorem dX0_tendThrough_44 : decode cX0_tendThrough 44 = .ok (.goto (-39), 3) := by decide +kernel
theorem dX0_tendThrough_47 : decode cX0_tendThrough 47 = .ok (.iload_n 3, 1) := by decide +kernel
theorem dX0_tendThrough_48 : decode cX0_tendThrough 48 = .ok (.ireturn, 1) := by decide +kernel
theorem dJ9_floorDiv_7cf53_0 : decode cJ9_floorDiv_7cf53 0 = .ok (.iload_n 0, 1) := by decide +kernel
theorem dJ9_floorDiv_7cf53_1 : decode cJ9_floorDiv_7cf53 1 = .ok (.iload_n 1, 1) := by decide +kernel
theorem dJ9_floorDiv_7cf53_2 : decode cJ9_floorDiv_7cf53 2 = .ok (.idiv, 1) := by decide +kernel
theorem dJ9_floorDiv_7cf53_3 : decode cJ9_floorDiv_7cf53 3 = .ok (.istore_n 2, 1) := by decide +kernel
theorem dJ9_floorDiv_7cf53_4 : decode cJ9_floorDiv_7cf53 4 = .ok (.iload_n 0, 1) := by decide +kernel
theorem dJ9_floorDiv_7cf53_5 : decode cJ9_floorDiv_7cf53 5 = .ok (.iload_n 1, 1) := by decide +kernel
theorem dJ9_floorDiv_7cf53_6 : decode cJ9_floorDiv_7cf53 6 = .ok (.ixor, 1) := by decide +kernel
theorem dJ9_floorDiv_7cf53_7 : decode cJ9_floorDiv_7cf53 7 = .ok (.ifCond .ge 14, 3) := by decide +kernel
theorem dJ9_floorDiv_7cf53_10 : decode cJ9_floorDiv_7cf53 10 = .ok (.iload_n 2, 1) := by decide +kernel
theorem dJ9_floorDiv_7cf53_11 : decode cJ9_floorDiv_7cf53 11 = .ok (.iload_n 1, 1) := by decide +kernel
theorem dJ9_floorDiv_7cf53_12 : decode cJ9_floorDiv_7cf53 12 = .ok (.imul, 1) := by decide +kernel
theorem dJ9_floorDiv_7cf53_13 : decode cJ9_floorDiv_7cf53 13 = .ok (.iload_n 0, 1) := by decide +kernel
theorem dJ9_floorDiv_7cf53_14 : decode cJ9_floorDiv_7cf53 14 = .ok (.if_icmp .eq 7, 3) := by decide +kernel
theorem dJ9_floorDiv_7cf53_17 : decode cJ9_floorDiv_7cf53 17 = .ok (.iload_n 2, 1) := by decide +kernel
theorem dJ9_floorDiv_7cf53_18 : decode cJ9_floorDiv_7cf53 18 = .ok (.iconst 1, 1) := by decide +kernel
theorem dJ9_floorDiv_7cf53_19 : decode cJ9_floorDiv_7cf53 19 = .ok (.isub, 1) := by decide +kernel
theorem dJ9_floorDiv_7cf53_20 : decode cJ9_floorDiv_7cf53 20 = .ok (.ireturn, 1) := by decide +kernel
theorem dJ9_floorDiv_7cf53_21 : decode cJ9_floorDiv_7cf53 21 = .ok (.iload_n 2, 1) := by decide +kernel
theorem dJ9_floorDiv_7cf53_22 : decode cJ9_floorDiv_7cf53 22 = .ok (.ireturn, 1) := by decide +kernel
theorem dJ9_max_7cf53_0 : decode cJ9_max_7cf53 0 = .ok (.iload_n 0, 1) := by decide +kernel
theorem dJ9_max_7cf53_1 : decode cJ9_max_7cf53 1 = .ok (.iload_n 1, 1) := by decide +kernel
theorem dJ9_max_7cf53_2 : decode cJ9_max_7cf53 2 = .ok (.if_icmp .lt 7, 3) := by decide +kernel
theorem dJ9_max_7cf53_5 : decode cJ9_max_7cf53 5 = .ok (.iload_n 0, 1) := by decide +kernel
theorem dJ9_max_7cf53_6 : decode cJ9_max_7cf53 6 = .ok (.goto 4, 3) := by decide +kernel
theorem dJ9_max_7cf53_9 : decode cJ9_max_7cf53 9 = .ok (.iload_n 1, 1) := by decide +kernel
theorem dJ9_max_7cf53_10 : decode cJ9_max_7cf53 10 = .ok (.ireturn, 1) := by decide +kernel
theorem dL_from_0 : decode cL_from 0 = .ok (.aload_n 0, 1) := by decide +kernel
theorem dL_from_1 : decode cL_from 1 = .ok (.arraylength, 1) := by decide +kernel
theorem dL_from_2 : decode cL_from 2 = .ok (.ifCond .ne 15, 3) := by decide +kernel
theorem dL_from_5 : decode cL_from 5 = .ok (.sipush 263, 3) := by decide +kernel
theorem dL_from_8 : decode cL_from 8 = .ok (.iload_n 1, 1) := by decide +kernel
theorem dL_from_9 : decode cL_from 9 = .ok (.imul, 1) := by decide +kernel
theorem dL_from_10 : decode cL_from 10 = .ok (.sipush 233, 3) := by decide +kernel
theorem dL_from_13 : decode cL_from 13 = .ok (.iadd, 1) := by decide +kernel
theorem dL_from_14 : decode cL_from 14 = .ok (.goto 14, 3) := by decide +kernel
theorem dL_from_17 : decode cL_from 17 = .ok (.aload_n 0, 1) := by decide +kernel
theorem dL_from_18 : decode cL_from 18 = .ok (.iload_n 1, 1) := by decide +kernel
theorem dL_from_19 : decode cL_from 19 = .ok (.aload_n 0, 1) := by decide +kernel
theorem dL_from_20 : decode cL_from 20 = .ok (.arraylength, 1) := by decide +kernel
theorem dL_from_21 : decode cL_from 21 = .ok (.irem, 1) := by decide +kernel
theorem dL_from_22 : decode cL_from 22 = .ok (.iaload, 1) := by decide +kernel
theorem dL_from_23 : decode cL_from 23 = .ok (.ldc 7, 2) := by decide +kernel
theorem dL_from_25 : decode cL_from 25 = .ok (.iload_n 1, 1) := by decide +kernel
theorem dL_from_26 : decode cL_from 26 = .ok (.imul, 1) := by decide +kernel
theorem dL_from_27 : decode cL_from 27 = .ok (.ixor, 1) := by decide +kernel
theorem dL_from_28 : decode cL_from 28 = .ok (.istore_n 3, 1) := by decide +kernel
theorem dL_from_29 : decode cL_from 29 = .ok (.iload_n 3, 1) := by decide +kernel
theorem dL_from_30 : decode cL_from 30 = .ok (.ldc 8, 2) := by decide +kernel
theorem dL_from_32 : decode cL_from 32 = .ok (.iand, 1) := by decide +kernel
theorem dL_from_33 : decode cL_from 33 = .ok (.iload_n 2, 1) := by decide +kernel
theorem dL_from_34 : decode cL_from 34 = .ok (.irem, 1) := by decide +kernel
theorem dL_from_35 : decode cL_from 35 = .ok (.ireturn, 1) := by decide +kernel
theorem dL_root_0 : decode cL_root 0 = .ok (.lconst 0, 1) := by decide +kernel
theorem dL_root_1 : decode cL_root 1 = .ok (.lstore_n 2, 1) := by decide +kernel
theorem dL_root_2 : decode cL_root 2 = .ok (.ldc2_w 9, 3) := by decide +kernel
theorem dL_root_5 : decode cL_root 5 = .ok (.lstore 4, 2) := by decide +kernel
theorem dL_root_7 : decode cL_root 7 = .ok (.lload 4, 2) := by decide +kernel
theorem dL_root_9 : decode cL_root 9 = .ok (.lconst 0, 1) := by decide +kernel
theorem dL_root_10 : decode cL_root 10 = .ok (.lcmp, 1) := by decide +kernel
theorem dL_root_11 : decode cL_root 11 = .ok (.ifCond .le 37, 3) := by decide +kernel
theorem dL_root_14 : decode cL_root 14 = .ok (.lload_n 2, 1) := by decide +kernel
theorem dL_root_15 : decode cL_root 15 = .ok (.lload_n 2, 1) := by decide +kernel
theorem dL_root_16 : decode cL_root 16 = .ok (.lload 4, 2) := by decide +kernel
theorem dL_root_18 : decode cL_root 18 = .ok (.ladd, 1) := by decide +kernel
theorem dL_root_19 : decode cL_root 19 = .ok (.lload_n 2, 1) := by decide +kernel
theorem dL_root_20 : decode cL_root 20 = .ok (.lload 4, 2) := by decide +kernel
theorem dL_root_22 : decode cL_root 22 = .ok (.ladd, 1) := by decide +kernel
theorem dL_root_23 : decode cL_root 23 = .ok (.lmul, 1) := by decide +kernel
theorem dL_root_24 : decode cL_root 24 = .ok (.lload_n 0, 1) := by decide +kernel
theorem dL_root_25 : decode cL_root 25 = .ok (.lcmp, 1) := by decide +kernel
theorem dL_root_26 : decode cL_root 26 = .ok (.ifCond .gt 8, 3) := by decide +kernel
theorem dL_root_29 : decode cL_root 29 = .ok (.lload 4, 2) := by decide +kernel
theorem dL_root_31 : decode cL_root 31 = .ok (.goto 4, 3) := by decide +kernel
theorem dL_root_34 : decode cL_root 34 = .ok (.lconst 0, 1) := by decide +kernel
theorem dL_root_35 : decode cL_root 35 = .ok (.ladd, 1) := by decide +kernel
theorem dL_root_36 : decode cL_root 36 = .ok (.lstore_n 2, 1) := by decide +kernel
theorem dL_root_37 : decode cL_root 37 = .ok (.lload 4, 2) := by decide +kernel
theorem dL_root_39 : decode cL_root 39 = .ok (.ldc2_w 11, 3) := by decide +kernel
theorem dL_root_42 : decode cL_root 42 = .ok (.ldiv, 1) := by decide +kernel
theorem dL_root_43 : decode cL_root 43 = .ok (.lstore 4, 2) := by decide +kernel
theorem dL_root_45 : decode cL_root 45 = .ok (.goto (-38), 3) := by decide +kernel
theorem dL_root_48 : decode cL_root 48 = .ok (.lload_n 2, 1) := by decide +kernel
theorem dL_root_49 : decode cL_root 49 = .ok (.l2i, 1) := by decide +kernel
theorem dL_root_50 : decode cL_root 50 = .ok (.ireturn, 1) := by decide +kernel
theorem dL_away_0 : decode cL_away 0 = .ok (.aload_n 0, 1) := by decide +kernel
theorem dL_away_1 : decode cL_away 1 = .ok (.iconst 2, 1) := by decide +kernel
theorem dL_away_2 : decode cL_away 2 = .ok (.aload_n 1, 1) := by decide +kernel
theorem dL_away_3 : decode cL_away 3 = .ok (.bipush 6, 2) := by decide +kernel
theorem dL_away_5 : decode cL_away 5 = .ok (.iload_n 2, 1) := by decide +kernel
theorem dL_away_6 : decode cL_away 6 = .ok (.imul, 1) := by decide +kernel
theorem dL_away_7 : decode cL_away 7 = .ok (.iconst 1, 1) := by decide +kernel
theorem dL_away_8 : decode cL_away 8 = .ok (.iadd, 1) := by decide +kernel
theorem dL_away_9 : decode cL_away 9 = .ok (.iaload, 1) := by decide +kernel
theorem dL_away_10 : decode cL_away 10 = .ok (.imul, 1) := by decide +kernel
theorem dL_away_11 : decode cL_away 11 = .ok (.iaload, 1) := by decide +kernel
theorem dL_away_12 : decode cL_away 12 = .ok (.aload_n 1, 1) := by decide +kernel
theorem dL_away_13 : decode cL_away 13 = .ok (.bipush 6, 2) := by decide +kernel
theorem dL_away_15 : decode cL_away 15 = .ok (.iload_n 2, 1) := by decide +kernel
theorem dL_away_16 : decode cL_away 16 = .ok (.imul, 1) := by decide +kernel
theorem dL_away_17 : decode cL_away 17 = .ok (.iaload, 1) := by decide +kernel
theorem dL_away_18 : decode cL_away 18 = .ok (.isub, 1) := by decide +kernel
theorem dL_away_19 : decode cL_away 19 = .ok (.iload_n 3, 1) := by decide +kernel
theorem dL_away_20 : decode cL_away 20 = .ok (.isub, 1) := by decide +kernel
theorem dL_away_21 : decode cL_away 21 = .ok (.ireturn, 1) := by decide +kernel
set_option maxRecDepth 20000 in
theorem ggL_length_L_away : GoodIn wsL_length wsL_away := goodIn_r _ [4] (by decide +kernel) (by decide +kernel)
set_option maxRecDepth 20000 in
theorem gL_length_L_away : GoodIn wsL_length (va_wsS RL 13 yL_away wsL_away) := goodIn_app (goodIn_of _ (by decide +kernel)) ggL_length_L_away
set_option maxRecDepth 20000 in
theorem ggL_length_L_root : GoodIn wsL_length wsL_root := goodIn_r _ [7, 8, 9] (by decide +kernel) (by decide +kernel)
set_option maxRecDepth 20000 in
theorem gL_length_L_root : GoodIn wsL_length (va_wsS RL 19 yL_root wsL_root) := goodIn_app (goodIn_of _ (by decide +kernel)) ggL_length_L_root
theorem dL_length_0 : decode cL_length 0 = .ok (.aload_n 0, 1) := by decide +kernel
theorem dL_length_1 : decode cL_length 1 = .ok (.aload_n 1, 1) := by decide +kernel
theorem dL_length_2 : decode cL_length 2 = .ok (.iload_n 2, 1) := by decide +kernel
theorem dL_length_3 : decode cL_length 3 = .ok (.iload 4, 2) := by decide +kernel
theorem dL_length_5 : decode cL_length 5 = .ok (.invokestatic 13, 3) := by decide +kernel
theorem dL_length_8 : decode cL_length 8 = .ok (.i2l, 1) := by decide +kernel
theorem dL_length_9 : decode cL_length 9 = .ok (.lstore 5, 2) := by decide +kernel
theorem dL_length_11 : decode cL_length 11 = .ok (.lload 5, 2) := by decide +kernel
theorem dL_length_13 : decode cL_length 13 = .ok (.lload 5, 2) := by decide +kernel
theorem dL_length_15 : decode cL_length 15 = .ok (.lmul, 1) := by decide +kernel
theorem dL_length_16 : decode cL_length 16 = .ok (.iload_n 3, 1) := by decide +kernel
theorem dL_length_17 : decode cL_length 17 = .ok (.i2l, 1) := by decide +kernel
theorem dL_length_18 : decode cL_length 18 = .ok (.iload_n 3, 1) := by decide +kernel
theorem dL_length_19 : decode cL_length 19 = .ok (.i2l, 1) := by decide +kernel
theorem dL_length_20 : decode cL_length 20 = .ok (.lmul, 1) := by decide +kernel
theorem dL_length_21 : decode cL_length 21 = .ok (.ladd, 1) := by decide +kernel
theorem dL_length_22 : decode cL_length 22 = .ok (.invokestatic 19, 3) := by decide +kernel
theorem dL_length_25 : decode cL_length 25 = .ok (.ireturn, 1) := by decide +kernel
set_option maxRecDepth 20000 in
theorem ggL_tension_L_length : GoodIn wsL_tension wsL_length := goodIn_r _ [4, 5, 6, 3, 7, 8, 9, 10, 11, 12] (by decide +kernel) (by decide +kernel)
set_option maxRecDepth 20000 in
theorem gL_tension_L_length : GoodIn wsL_tension (va_wsS RL 23 yL_length wsL_length) := goodIn_app (goodIn_of _ (by decide +kernel)) ggL_tension_L_length
theorem dL_tension_0 : decode cL_tension 0 = .ok (.aload_n 0, 1) := by decide +kernel
theorem dL_tension_1 : decode cL_tension 1 = .ok (.aload_n 1, 1) := by decide +kernel
theorem dL_tension_2 : decode cL_tension 2 = .ok (.iload_n 2, 1) := by decide +kernel
theorem dL_tension_3 : decode cL_tension 3 = .ok (.iload_n 3, 1) := by decide +kernel
theorem dL_tension_4 : decode cL_tension 4 = .ok (.iload 4, 2) := by decide +kernel
theorem dL_tension_6 : decode cL_tension 6 = .ok (.invokestatic 23, 3) := by decide +kernel
theorem dL_tension_9 : decode cL_tension 9 = .ok (.aload_n 1, 1) := by decide +kernel
theorem dL_tension_10 : decode cL_tension 10 = .ok (.bipush 6, 2) := by decide +kernel
theorem dL_tension_12 : decode cL_tension 12 = .ok (.iload_n 2, 1) := by decide +kernel
theorem dL_tension_13 : decode cL_tension 13 = .ok (.imul, 1) := by decide +kernel
theorem dL_tension_14 : decode cL_tension 14 = .ok (.iconst 4, 1) := by decide +kernel
theorem dL_tension_15 : decode cL_tension 15 = .ok (.iadd, 1) := by decide +kernel
theorem dL_tension_16 : decode cL_tension 16 = .ok (.iaload, 1) := by decide +kernel
theorem dL_tension_17 : decode cL_tension 17 = .ok (.isub, 1) := by decide +kernel
theorem dL_tension_18 : decode cL_tension 18 = .ok (.istore 5, 2) := by decide +kernel
theorem dL_tension_20 : decode cL_tension 20 = .ok (.aload_n 1, 1) := by decide +kernel
theorem dL_tension_21 : decode cL_tension 21 = .ok (.bipush 6, 2) := by decide +kernel
theorem dL_tension_23 : decode cL_tension 23 = .ok (.iload_n 2, 1) := by decide +kernel
theorem dL_tension_24 : decode cL_tension 24 = .ok (.imul, 1) := by decide +kernel
theorem dL_tension_25 : decode cL_tension 25 = .ok (.iconst 5, 1) := by decide +kernel
theorem dL_tension_26 : decode cL_tension 26 = .ok (.iadd, 1) := by decide +kernel
theorem dL_tension_27 : decode cL_tension 27 = .ok (.iaload, 1) := by decide +kernel
theorem dL_tension_28 : decode cL_tension 28 = .ok (.iconst 1, 1) := by decide +kernel
theorem dL_tension_29 : decode cL_tension 29 = .ok (.if_icmp .eq 8, 3) := by decide +kernel
theorem dL_tension_32 : decode cL_tension 32 = .ok (.iload 5, 2) := by decide +kernel
theorem dL_tension_34 : decode cL_tension 34 = .ok (.ifCond .gt 7, 3) := by decide +kernel
theorem dL_tension_37 : decode cL_tension 37 = .ok (.iconst 0, 1) := by decide +kernel
theorem dL_tension_38 : decode cL_tension 38 = .ok (.goto 14, 3) := by decide +kernel
theorem dL_tension_41 : decode cL_tension 41 = .ok (.aload_n 1, 1) := by decide +kernel
theorem dL_tension_42 : decode cL_tension 42 = .ok (.bipush 6, 2) := by decide +kernel
theorem dL_tension_44 : decode cL_tension 44 = .ok (.iload_n 2, 1) := by decide +kernel
theorem dL_tension_45 : decode cL_tension 45 = .ok (.imul, 1) := by decide +kernel
theorem dL_tension_46 : decode cL_tension 46 = .ok (.iconst 2, 1) := by decide +kernel
theorem dL_tension_47 : decode cL_tension 47 = .ok (.iadd, 1) := by decide +kernel
theorem dL_tension_48 : decode cL_tension 48 = .ok (.iaload, 1) := by decide +kernel
theorem dL_tension_49 : decode cL_tension 49 = .ok (.iload 5, 2) := by decide +kernel
theorem dL_tension_51 : decode cL_tension 51 = .ok (.imul, 1) := by decide +kernel
theorem dL_tension_52 : decode cL_tension 52 = .ok (.ireturn, 1) := by decide +kernel
set_option maxRecDepth 20000 in
theorem ggL_force_L_length : GoodIn wsL_force wsL_length := goodIn_r _ [4, 5, 6, 3, 7, 8, 9, 10, 11, 12] (by decide +kernel) (by decide +kernel)
set_option maxRecDepth 20000 in
theorem gL_force_L_length : GoodIn wsL_force (va_wsS RL 23 yL_length wsL_length) := goodIn_app (goodIn_of _ (by decide +kernel)) ggL_force_L_length
set_option maxRecDepth 20000 in
theorem ggL_force_L_tension : GoodIn wsL_force wsL_tension := goodIn_r _ [15, 1, 2, 3, 4, 5, 6, 7, 8, 9, 10, 11, 12] (by decide +kernel) (by decide +kernel)
set_option maxRecDepth 20000 in
theorem gL_force_L_tension : GoodIn wsL_force (va_wsS RL 27 yL_tension wsL_tension) := goodIn_app (goodIn_of _ (by decide +kernel)) ggL_force_L_tension
set_option maxRecDepth 20000 in
theorem ggL_force_L_away : GoodIn wsL_force wsL_away := goodIn_r _ [7] (by decide +kernel) (by decide +kernel)
set_option maxRecDepth 20000 in
theorem gL_force_L_away : GoodIn wsL_force (va_wsS RL 13 yL_away wsL_away) := goodIn_app (goodIn_of _ (by decide +kernel)) ggL_force_L_away
theorem dL_force_0 : decode cL_force 0 = .ok (.aload_n 2, 1) := by decide +kernel
theorem dL_force_1 : decode cL_force 1 = .ok (.iconst 2, 1) := by decide +kernel
theorem dL_force_2 : decode cL_force 2 = .ok (.iaload, 1) := by decide +kernel
theorem dL_force_3 : decode cL_force 3 = .ok (.i2l, 1) := by decide +kernel
theorem dL_force_4 : decode cL_force 4 = .ok (.iload 4, 2) := by decide +kernel
theorem dL_force_6 : decode cL_force 6 = .ok (.i2l, 1) := by decide +kernel
theorem dL_force_7 : decode cL_force 7 = .ok (.ladd, 1) := by decide +kernel
theorem dL_force_8 : decode cL_force 8 = .ok (.lstore 6, 2) := by decide +kernel
theorem dL_force_10 : decode cL_force 10 = .ok (.iconst 0, 1) := by decide +kernel
theorem dL_force_11 : decode cL_force 11 = .ok (.istore 8, 2) := by decide +kernel
theorem dL_force_13 : decode cL_force 13 = .ok (.iload 8, 2) := by decide +kernel
theorem dL_force_15 : decode cL_force 15 = .ok (.aload_n 2, 1) := by decide +kernel
theorem dL_force_16 : decode cL_force 16 = .ok (.iconst 1, 1) := by decide +kernel
theorem dL_force_17 : decode cL_force 17 = .ok (.iaload, 1) := by decide +kernel
theorem dL_force_18 : decode cL_force 18 = .ok (.if_icmp .ge 97, 3) := by decide +kernel
theorem dL_force_21 : decode cL_force 21 = .ok (.aload_n 0, 1) := by decide +kernel
theorem dL_force_22 : decode cL_force 22 = .ok (.aload_n 1, 1) := by decide +kernel
theorem dL_force_23 : decode cL_force 23 = .ok (.iload 8, 2) := by decide +kernel
theorem dL_force_25 : decode cL_force 25 = .ok (.iload_n 3, 1) := by decide +kernel
theorem dL_force_26 : decode cL_force 26 = .ok (.iload 5, 2) := by decide +kernel
theorem dL_force_28 : decode cL_force 28 = .ok (.invokestatic 23, 3) := by decide +kernel
theorem dL_force_31 : decode cL_force 31 = .ok (.i2l, 1) := by decide +kernel
theorem dL_force_32 : decode cL_force 32 = .ok (.lstore 9, 2) := by decide +kernel
theorem dL_force_34 : decode cL_force 34 = .ok (.aload_n 0, 1) := by decide +kernel
theorem dL_force_35 : decode cL_force 35 = .ok (.aload_n 1, 1) := by decide +kernel
theorem dL_force_36 : decode cL_force 36 = .ok (.iload 8, 2) := by decide +kernel
theorem dL_force_38 : decode cL_force 38 = .ok (.iload_n 3, 1) := by decide +kernel
theorem dL_force_39 : decode cL_force 39 = .ok (.iload 5, 2) := by decide +kernel
theorem dL_force_41 : decode cL_force 41 = .ok (.invokestatic 27, 3) := by decide +kernel
theorem dL_force_44 : decode cL_force 44 = .ok (.i2l, 1) := by decide +kernel
theorem dL_force_45 : decode cL_force 45 = .ok (.aload_n 0, 1) := by decide +kernel
theorem dL_force_46 : decode cL_force 46 = .ok (.aload_n 1, 1) := by decide +kernel
theorem dL_force_47 : decode cL_force 47 = .ok (.iload 8, 2) := by decide +kernel
theorem dL_force_49 : decode cL_force 49 = .ok (.iload 5, 2) := by decide +kernel
theorem dL_force_51 : decode cL_force 51 = .ok (.invokestatic 13, 3) := by decide +kernel
theorem dL_force_54 : decode cL_force 54 = .ok (.i2l, 1) := by decide +kernel
theorem dL_force_55 : decode cL_force 55 = .ok (.lmul, 1) := by decide +kernel
theorem dL_force_56 : decode cL_force 56 = .ok (.lstore 11, 2) := by decide +kernel
theorem dL_force_58 : decode cL_force 58 = .ok (.lload 9, 2) := by decide +kernel
theorem dL_force_60 : decode cL_force 60 = .ok (.lconst 0, 1) := by decide +kernel
theorem dL_force_61 : decode cL_force 61 = .ok (.lcmp, 1) := by decide +kernel
theorem dL_force_62 : decode cL_force 62 = .ok (.ifCond .ne 7, 3) := by decide +kernel
theorem dL_force_65 : decode cL_force 65 = .ok (.lconst 0, 1) := by decide +kernel
theorem dL_force_66 : decode cL_force 66 = .ok (.goto 21, 3) := by decide +kernel
theorem dL_force_69 : decode cL_force 69 = .ok (.lload 11, 2) := by decide +kernel
theorem dL_force_71 : decode cL_force 71 = .ok (.lconst 0, 1) := by decide +kernel
theorem dL_force_72 : decode cL_force 72 = .ok (.lcmp, 1) := by decide +kernel
theorem dL_force_73 : decode cL_force 73 = .ok (.ifCond .ge 9, 3) := by decide +kernel
theorem dL_force_76 : decode cL_force 76 = .ok (.lload 11, 2) := by decide +kernel
theorem dL_force_78 : decode cL_force 78 = .ok (.lneg, 1) := by decide +kernel
theorem dL_force_79 : decode cL_force 79 = .ok (.goto 5, 3) := by decide +kernel
theorem dL_force_82 : decode cL_force 82 = .ok (.lload 11, 2) := by decide +kernel
theorem dL_force_84 : decode cL_force 84 = .ok (.lload 9, 2) := by decide +kernel
theorem dL_force_86 : decode cL_force 86 = .ok (.ldiv, 1) := by decide +kernel
theorem dL_force_87 : decode cL_force 87 = .ok (.lstore 13, 2) := by decide +kernel
theorem dL_force_89 : decode cL_force 89 = .ok (.lload 6, 2) := by decide +kernel
theorem dL_force_91 : decode cL_force 91 = .ok (.lload 11, 2) := by decide +kernel
theorem dL_force_93 : decode cL_force 93 = .ok (.lconst 0, 1) := by decide +kernel
theorem dL_force_94 : decode cL_force 94 = .ok (.lcmp, 1) := by decide +kernel
theorem dL_force_95 : decode cL_force 95 = .ok (.ifCond .ge 9, 3) := by decide +kernel
theorem dL_force_98 : decode cL_force 98 = .ok (.lload 13, 2) := by decide +kernel
theorem dL_force_100 : decode cL_force 100 = .ok (.lneg, 1) := by decide +kernel
theorem dL_force_101 : decode cL_force 101 = .ok (.goto 5, 3) := by decide +kernel
theorem dL_force_104 : decode cL_force 104 = .ok (.lload 13, 2) := by decide +kernel
theorem dL_force_106 : decode cL_force 106 = .ok (.ladd, 1) := by decide +kernel
theorem dL_force_107 : decode cL_force 107 = .ok (.lstore 6, 2) := by decide +kernel
theorem dL_force_109 : decode cL_force 109 = .ok (.iinc 8 1, 3) := by decide +kernel
theorem dL_force_112 : decode cL_force 112 = .ok (.goto (-99), 3) := by decide +kernel
theorem dL_force_115 : decode cL_force 115 = .ok (.lload 6, 2) := by decide +kernel
theorem dL_force_117 : decode cL_force 117 = .ok (.l2i, 1) := by decide +kernel
theorem dL_force_118 : decode cL_force 118 = .ok (.ireturn, 1) := by decide +kernel
set_option maxRecDepth 20000 in
theorem ggL_shift_L_force : GoodIn wsL_shift wsL_force := goodIn_r _ [4, 5, 6, 3, 7, 8, 9, 10, 11, 12, 13, 14, 15, 16, 17, 18] (by decide +kernel) (by decide +kernel)
set_option maxRecDepth 20000 in
theorem gL_shift_L_force : GoodIn wsL_shift (va_wsS RL 30 yL_force wsL_force) := goodIn_app (goodIn_of _ (by decide +kernel)) ggL_shift_L_force
theorem dL_shift_0 : decode cL_shift 0 = .ok (.sipush (-200), 3) := by decide +kernel
theorem dL_shift_3 : decode cL_shift 3 = .ok (.istore 5, 2) := by decide +kernel
theorem dL_shift_5 : decode cL_shift 5 = .ok (.sipush 200, 3) := by decide +kernel
theorem dL_shift_8 : decode cL_shift 8 = .ok (.istore 6, 2) := by decide +kernel
theorem dL_shift_10 : decode cL_shift 10 = .ok (.iload 5, 2) := by decide +kernel
theorem dL_shift_12 : decode cL_shift 12 = .ok (.iload 6, 2) := by decide +kernel
theorem dL_shift_14 : decode cL_shift 14 = .ok (.if_icmp .ge 66, 3) := by decide +kernel
theorem dL_shift_17 : decode cL_shift 17 = .ok (.iload 5, 2) := by decide +kernel
theorem dL_shift_19 : decode cL_shift 19 = .ok (.iload 6, 2) := by decide +kernel
theorem dL_shift_21 : decode cL_shift 21 = .ok (.iadd, 1) := by decide +kernel
theorem dL_shift_22 : decode cL_shift 22 = .ok (.iconst 1, 1) := by decide +kernel
theorem dL_shift_23 : decode cL_shift 23 = .ok (.ishr, 1) := by decide +kernel
theorem dL_shift_24 : decode cL_shift 24 = .ok (.istore 7, 2) := by decide +kernel
theorem dL_shift_26 : decode cL_shift 26 = .ok (.aload_n 0, 1) := by decide +kernel
theorem dL_shift_27 : decode cL_shift 27 = .ok (.aload_n 1, 1) := by decide +kernel
theorem dL_shift_28 : decode cL_shift 28 = .ok (.aload_n 2, 1) := by decide +kernel
theorem dL_shift_29 : decode cL_shift 29 = .ok (.iload_n 3, 1) := by decide +kernel
theorem dL_shift_30 : decode cL_shift 30 = .ok (.iload 4, 2) := by decide +kernel
theorem dL_shift_32 : decode cL_shift 32 = .ok (.iload 7, 2) := by decide +kernel
theorem dL_shift_34 : decode cL_shift 34 = .ok (.invokestatic 30, 3) := by decide +kernel
theorem dL_shift_37 : decode cL_shift 37 = .ok (.ifCond .le 7, 3) := by decide +kernel
theorem dL_shift_40 : decode cL_shift 40 = .ok (.iconst 1, 1) := by decide +kernel
theorem dL_shift_41 : decode cL_shift 41 = .ok (.goto 4, 3) := by decide +kernel
theorem dL_shift_44 : decode cL_shift 44 = .ok (.iconst 0, 1) := by decide +kernel
theorem dL_shift_45 : decode cL_shift 45 = .ok (.istore 8, 2) := by decide +kernel
theorem dL_shift_47 : decode cL_shift 47 = .ok (.iload 8, 2) := by decide +kernel
end
section
theorem dL_shift_49 : decode cL_shift 49 = .ok (.ifCond .eq 10, 3) := by decide +kernel
theorem dL_shift_52 : decode cL_shift 52 = .ok (.iload 7, 2) := by decide +kernel
theorem dL_shift_54 : decode cL_shift 54 = .ok (.iconst 1, 1) := by decide +kernel
theorem dL_shift_55 : decode cL_shift 55 = .ok (.iadd, 1) := by decide +kernel
theorem dL_shift_56 : decode cL_shift 56 = .ok (.goto 5, 3) := by decide +kernel
theorem dL_shift_59 : decode cL_shift 59 = .ok (.iload 5, 2) := by decide +kernel
theorem dL_shift_61 : decode cL_shift 61 = .ok (.istore 5, 2) := by decide +kernel
theorem dL_shift_63 : decode cL_shift 63 = .ok (.iload 8, 2) := by decide +kernel
theorem dL_shift_65 : decode cL_shift 65 = .ok (.ifCond .eq 8, 3) := by decide +kernel
theorem dL_shift_68 : decode cL_shift 68 = .ok (.iload 6, 2) := by decide +kernel
theorem dL_shift_70 : decode cL_shift 70 = .ok (.goto 5, 3) := by decide +kernel
theorem dL_shift_73 : decode cL_shift 73 = .ok (.iload 7, 2) := by decide +kernel
theorem dL_shift_75 : decode cL_shift 75 = .ok (.istore 6, 2) := by decide +kernel
theorem dL_shift_77 : decode cL_shift 77 = .ok (.goto (-67), 3) := by decide +kernel
theorem dL_shift_80 : decode cL_shift 80 = .ok (.iload 5, 2) := by decide +kernel
theorem dL_shift_82 : decode cL_shift 82 = .ok (.ireturn, 1) := by decide +kernel
set_option maxRecDepth 20000 in
theorem ggL_isAdrift_L_shift : GoodIn wsL_isAdrift wsL_shift := goodIn_r _ [4, 5, 6, 3, 7, 8, 9, 10, 11, 12, 13, 14, 15, 16, 17, 18, 19, 20, 21] (by decide +kernel) (by decide +kernel)
set_option maxRecDepth 20000 in
theorem gL_isAdrift_L_shift : GoodIn wsL_isAdrift (va_wsS RL 34 yL_shift wsL_shift) := goodIn_app (goodIn_of _ (by decide +kernel)) ggL_isAdrift_L_shift
set_option maxRecDepth 20000 in
theorem ggL_isAdrift_L_force : GoodIn wsL_isAdrift wsL_force := goodIn_r _ [7, 8, 9, 3, 10, 11, 12, 13, 14, 15, 16, 17, 18, 19, 20, 21] (by decide +kernel) (by decide +kernel)
set_option maxRecDepth 20000 in
theorem gL_isAdrift_L_force : GoodIn wsL_isAdrift (va_wsS RL 30 yL_force wsL_force) := goodIn_app (goodIn_of _ (by decide +kernel)) ggL_isAdrift_L_force
theorem dL_isAdrift_0 : decode cL_isAdrift 0 = .ok (.aload_n 0, 1) := by decide +kernel
theorem dL_isAdrift_1 : decode cL_isAdrift 1 = .ok (.aload_n 1, 1) := by decide +kernel
theorem dL_isAdrift_2 : decode cL_isAdrift 2 = .ok (.aload_n 2, 1) := by decide +kernel
theorem dL_isAdrift_3 : decode cL_isAdrift 3 = .ok (.iload_n 3, 1) := by decide +kernel
theorem dL_isAdrift_4 : decode cL_isAdrift 4 = .ok (.iload 4, 2) := by decide +kernel
theorem dL_isAdrift_6 : decode cL_isAdrift 6 = .ok (.invokestatic 34, 3) := by decide +kernel
theorem dL_isAdrift_9 : decode cL_isAdrift 9 = .ok (.istore 5, 2) := by decide +kernel
theorem dL_isAdrift_11 : decode cL_isAdrift 11 = .ok (.aload_n 0, 1) := by decide +kernel
theorem dL_isAdrift_12 : decode cL_isAdrift 12 = .ok (.aload_n 1, 1) := by decide +kernel
theorem dL_isAdrift_13 : decode cL_isAdrift 13 = .ok (.aload_n 2, 1) := by decide +kernel
theorem dL_isAdrift_14 : decode cL_isAdrift 14 = .ok (.iload_n 3, 1) := by decide +kernel
theorem dL_isAdrift_15 : decode cL_isAdrift 15 = .ok (.iload 4, 2) := by decide +kernel
theorem dL_isAdrift_17 : decode cL_isAdrift 17 = .ok (.iload 5, 2) := by decide +kernel
theorem dL_isAdrift_19 : decode cL_isAdrift 19 = .ok (.invokestatic 30, 3) := by decide +kernel
theorem dL_isAdrift_22 : decode cL_isAdrift 22 = .ok (.istore 6, 2) := by decide +kernel
theorem dL_isAdrift_24 : decode cL_isAdrift 24 = .ok (.iload 5, 2) := by decide +kernel
theorem dL_isAdrift_26 : decode cL_isAdrift 26 = .ok (.sipush 200, 3) := by decide +kernel
theorem dL_isAdrift_29 : decode cL_isAdrift 29 = .ok (.if_icmp .ne 16, 3) := by decide +kernel
theorem dL_isAdrift_32 : decode cL_isAdrift 32 = .ok (.iload 6, 2) := by decide +kernel
theorem dL_isAdrift_34 : decode cL_isAdrift 34 = .ok (.ifCond .le 7, 3) := by decide +kernel
theorem dL_isAdrift_37 : decode cL_isAdrift 37 = .ok (.iconst 1, 1) := by decide +kernel
theorem dL_isAdrift_38 : decode cL_isAdrift 38 = .ok (.goto 25, 3) := by decide +kernel
theorem dL_isAdrift_41 : decode cL_isAdrift 41 = .ok (.iconst 0, 1) := by decide +kernel
theorem dL_isAdrift_42 : decode cL_isAdrift 42 = .ok (.goto 21, 3) := by decide +kernel
theorem dL_isAdrift_45 : decode cL_isAdrift 45 = .ok (.iload 5, 2) := by decide +kernel
theorem dL_isAdrift_47 : decode cL_isAdrift 47 = .ok (.sipush (-200), 3) := by decide +kernel
theorem dL_isAdrift_50 : decode cL_isAdrift 50 = .ok (.if_icmp .ne 12, 3) := by decide +kernel
theorem dL_isAdrift_53 : decode cL_isAdrift 53 = .ok (.iload 6, 2) := by decide +kernel
theorem dL_isAdrift_55 : decode cL_isAdrift 55 = .ok (.ifCond .ge 7, 3) := by decide +kernel
theorem dL_isAdrift_58 : decode cL_isAdrift 58 = .ok (.iconst 1, 1) := by decide +kernel
theorem dL_isAdrift_59 : decode cL_isAdrift 59 = .ok (.goto 4, 3) := by decide +kernel
theorem dL_isAdrift_62 : decode cL_isAdrift 62 = .ok (.iconst 0, 1) := by decide +kernel
theorem dL_isAdrift_63 : decode cL_isAdrift 63 = .ok (.ireturn, 1) := by decide +kernel
set_option maxRecDepth 20000 in
theorem ggL_onBollard_L_tension : GoodIn wsL_onBollard wsL_tension := goodIn_r _ [4, 5, 6, 3, 7, 8, 9, 10, 11, 12, 13, 14, 15] (by decide +kernel) (by decide +kernel)
set_option maxRecDepth 20000 in
theorem gL_onBollard_L_tension : GoodIn wsL_onBollard (va_wsS RL 27 yL_tension wsL_tension) := goodIn_app (goodIn_of _ (by decide +kernel)) ggL_onBollard_L_tension
theorem dL_onBollard_0 : decode cL_onBollard 0 = .ok (.iconst 0, 1) := by decide +kernel
theorem dL_onBollard_1 : decode cL_onBollard 1 = .ok (.istore 6, 2) := by decide +kernel
theorem dL_onBollard_3 : decode cL_onBollard 3 = .ok (.iconst 0, 1) := by decide +kernel
theorem dL_onBollard_4 : decode cL_onBollard 4 = .ok (.istore 7, 2) := by decide +kernel
theorem dL_onBollard_6 : decode cL_onBollard 6 = .ok (.iload 7, 2) := by decide +kernel
theorem dL_onBollard_8 : decode cL_onBollard 8 = .ok (.aload_n 2, 1) := by decide +kernel
theorem dL_onBollard_9 : decode cL_onBollard 9 = .ok (.iconst 1, 1) := by decide +kernel
theorem dL_onBollard_10 : decode cL_onBollard 10 = .ok (.iaload, 1) := by decide +kernel
theorem dL_onBollard_11 : decode cL_onBollard 11 = .ok (.if_icmp .ge 42, 3) := by decide +kernel
theorem dL_onBollard_14 : decode cL_onBollard 14 = .ok (.iload 6, 2) := by decide +kernel
theorem dL_onBollard_16 : decode cL_onBollard 16 = .ok (.aload_n 1, 1) := by decide +kernel
theorem dL_onBollard_17 : decode cL_onBollard 17 = .ok (.bipush 6, 2) := by decide +kernel
theorem dL_onBollard_19 : decode cL_onBollard 19 = .ok (.iload 7, 2) := by decide +kernel
theorem dL_onBollard_21 : decode cL_onBollard 21 = .ok (.imul, 1) := by decide +kernel
theorem dL_onBollard_22 : decode cL_onBollard 22 = .ok (.iconst 1, 1) := by decide +kernel
theorem dL_onBollard_23 : decode cL_onBollard 23 = .ok (.iadd, 1) := by decide +kernel
theorem dL_onBollard_24 : decode cL_onBollard 24 = .ok (.iaload, 1) := by decide +kernel
theorem dL_onBollard_25 : decode cL_onBollard 25 = .ok (.iload 5, 2) := by decide +kernel
theorem dL_onBollard_27 : decode cL_onBollard 27 = .ok (.if_icmp .ne 16, 3) := by decide +kernel
theorem dL_onBollard_30 : decode cL_onBollard 30 = .ok (.aload_n 0, 1) := by decide +kernel
theorem dL_onBollard_31 : decode cL_onBollard 31 = .ok (.aload_n 1, 1) := by decide +kernel
theorem dL_onBollard_32 : decode cL_onBollard 32 = .ok (.iload 7, 2) := by decide +kernel
theorem dL_onBollard_34 : decode cL_onBollard 34 = .ok (.iload_n 3, 1) := by decide +kernel
theorem dL_onBollard_35 : decode cL_onBollard 35 = .ok (.iload 4, 2) := by decide +kernel
theorem dL_onBollard_37 : decode cL_onBollard 37 = .ok (.invokestatic 27, 3) := by decide +kernel
theorem dL_onBollard_40 : decode cL_onBollard 40 = .ok (.goto 4, 3) := by decide +kernel
theorem dL_onBollard_43 : decode cL_onBollard 43 = .ok (.iconst 0, 1) := by decide +kernel
theorem dL_onBollard_44 : decode cL_onBollard 44 = .ok (.iadd, 1) := by decide +kernel
theorem dL_onBollard_45 : decode cL_onBollard 45 = .ok (.istore 6, 2) := by decide +kernel
theorem dL_onBollard_47 : decode cL_onBollard 47 = .ok (.iinc 7 1, 3) := by decide +kernel
theorem dL_onBollard_50 : decode cL_onBollard 50 = .ok (.goto (-44), 3) := by decide +kernel
theorem dL_onBollard_53 : decode cL_onBollard 53 = .ok (.iload 6, 2) := by decide +kernel
theorem dL_onBollard_55 : decode cL_onBollard 55 = .ok (.ireturn, 1) := by decide +kernel
set_option maxRecDepth 20000 in
theorem ggL_isSafe_L_shift : GoodIn wsL_isSafe wsL_shift := goodIn_r _ [6, 7, 8, 5, 9, 10, 11, 12, 13, 14, 15, 16, 17, 18, 19, 20, 21, 22, 23] (by decide +kernel) (by decide +kernel)
set_option maxRecDepth 20000 in
theorem gL_isSafe_L_shift : GoodIn wsL_isSafe (va_wsS RL 34 yL_shift wsL_shift) := goodIn_app (goodIn_of _ (by decide +kernel)) ggL_isSafe_L_shift
set_option maxRecDepth 20000 in
theorem ggL_isSafe_L_isAdrift : GoodIn wsL_isSafe wsL_isAdrift := goodIn_r _ [26, 3, 4, 5, 6, 7, 8, 9, 10, 11, 12, 13, 14, 15, 16, 17, 18, 19, 20, 21, 22, 23] (by decide +kernel) (by decide +kernel)
set_option maxRecDepth 20000 in
theorem gL_isSafe_L_isAdrift : GoodIn wsL_isSafe (va_wsS RL 38 yL_isAdrift wsL_isAdrift) := goodIn_app (goodIn_of _ (by decide +kernel)) ggL_isSafe_L_isAdrift
set_option maxRecDepth 20000 in
theorem ggL_isSafe_L_tension : GoodIn wsL_isSafe wsL_tension := goodIn_r _ [23, 10, 11, 5, 12, 13, 14, 15, 16, 17, 18, 19, 20] (by decide +kernel) (by decide +kernel)
set_option maxRecDepth 20000 in
theorem gL_isSafe_L_tension : GoodIn wsL_isSafe (va_wsS RL 27 yL_tension wsL_tension) := goodIn_app (goodIn_of _ (by decide +kernel)) ggL_isSafe_L_tension
set_option maxRecDepth 20000 in
theorem ggL_isSafe_L_onBollard : GoodIn wsL_isSafe wsL_onBollard := goodIn_r _ [29, 21, 22, 5, 23, 10, 11, 12, 13, 14, 15, 16, 17, 18, 19, 20] (by decide +kernel) (by decide +kernel)
set_option maxRecDepth 20000 in
theorem gL_isSafe_L_onBollard : GoodIn wsL_isSafe (va_wsS RL 46 yL_onBollard wsL_onBollard) := goodIn_app (goodIn_of _ (by decide +kernel)) ggL_isSafe_L_onBollard
theorem dL_isSafe_0 : decode cL_isSafe 0 = .ok (.aload_n 0, 1) := by decide +kernel
theorem dL_isSafe_1 : decode cL_isSafe 1 = .ok (.aload_n 1, 1) := by decide +kernel
theorem dL_isSafe_2 : decode cL_isSafe 2 = .ok (.aload_n 2, 1) := by decide +kernel
theorem dL_isSafe_3 : decode cL_isSafe 3 = .ok (.iload_n 3, 1) := by decide +kernel
theorem dL_isSafe_4 : decode cL_isSafe 4 = .ok (.iload 4, 2) := by decide +kernel
theorem dL_isSafe_6 : decode cL_isSafe 6 = .ok (.invokestatic 34, 3) := by decide +kernel
theorem dL_isSafe_9 : decode cL_isSafe 9 = .ok (.istore 5, 2) := by decide +kernel
theorem dL_isSafe_11 : decode cL_isSafe 11 = .ok (.aload_n 0, 1) := by decide +kernel
theorem dL_isSafe_12 : decode cL_isSafe 12 = .ok (.aload_n 1, 1) := by decide +kernel
theorem dL_isSafe_13 : decode cL_isSafe 13 = .ok (.aload_n 2, 1) := by decide +kernel
theorem dL_isSafe_14 : decode cL_isSafe 14 = .ok (.iload_n 3, 1) := by decide +kernel
theorem dL_isSafe_15 : decode cL_isSafe 15 = .ok (.iload 4, 2) := by decide +kernel
theorem dL_isSafe_17 : decode cL_isSafe 17 = .ok (.invokestatic 38, 3) := by decide +kernel
theorem dL_isSafe_20 : decode cL_isSafe 20 = .ok (.ifCond .ne 7, 3) := by decide +kernel
theorem dL_isSafe_23 : decode cL_isSafe 23 = .ok (.iconst 1, 1) := by decide +kernel
theorem dL_isSafe_24 : decode cL_isSafe 24 = .ok (.goto 4, 3) := by decide +kernel
theorem dL_isSafe_27 : decode cL_isSafe 27 = .ok (.iconst 0, 1) := by decide +kernel
theorem dL_isSafe_28 : decode cL_isSafe 28 = .ok (.istore 6, 2) := by decide +kernel
theorem dL_isSafe_30 : decode cL_isSafe 30 = .ok (.iconst 0, 1) := by decide +kernel
theorem dL_isSafe_31 : decode cL_isSafe 31 = .ok (.istore 7, 2) := by decide +kernel
theorem dL_isSafe_33 : decode cL_isSafe 33 = .ok (.iload 7, 2) := by decide +kernel
theorem dL_isSafe_35 : decode cL_isSafe 35 = .ok (.aload_n 2, 1) := by decide +kernel
theorem dL_isSafe_36 : decode cL_isSafe 36 = .ok (.iconst 1, 1) := by decide +kernel
theorem dL_isSafe_37 : decode cL_isSafe 37 = .ok (.iaload, 1) := by decide +kernel
theorem dL_isSafe_38 : decode cL_isSafe 38 = .ok (.if_icmp .ge 54, 3) := by decide +kernel
theorem dL_isSafe_41 : decode cL_isSafe 41 = .ok (.iload 6, 2) := by decide +kernel
theorem dL_isSafe_43 : decode cL_isSafe 43 = .ok (.ifCond .eq 49, 3) := by decide +kernel
theorem dL_isSafe_46 : decode cL_isSafe 46 = .ok (.ldc2_w 42, 3) := by decide +kernel
theorem dL_isSafe_49 : decode cL_isSafe 49 = .ok (.aload_n 0, 1) := by decide +kernel
theorem dL_isSafe_50 : decode cL_isSafe 50 = .ok (.aload_n 1, 1) := by decide +kernel
theorem dL_isSafe_51 : decode cL_isSafe 51 = .ok (.iload 7, 2) := by decide +kernel
theorem dL_isSafe_53 : decode cL_isSafe 53 = .ok (.iload_n 3, 1) := by decide +kernel
theorem dL_isSafe_54 : decode cL_isSafe 54 = .ok (.iload 5, 2) := by decide +kernel
theorem dL_isSafe_56 : decode cL_isSafe 56 = .ok (.invokestatic 27, 3) := by decide +kernel
theorem dL_isSafe_59 : decode cL_isSafe 59 = .ok (.i2l, 1) := by decide +kernel
theorem dL_isSafe_60 : decode cL_isSafe 60 = .ok (.lmul, 1) := by decide +kernel
theorem dL_isSafe_61 : decode cL_isSafe 61 = .ok (.ldc2_w 44, 3) := by decide +kernel
theorem dL_isSafe_64 : decode cL_isSafe 64 = .ok (.aload_n 1, 1) := by decide +kernel
theorem dL_isSafe_65 : decode cL_isSafe 65 = .ok (.bipush 6, 2) := by decide +kernel
theorem dL_isSafe_67 : decode cL_isSafe 67 = .ok (.iload 7, 2) := by decide +kernel
theorem dL_isSafe_69 : decode cL_isSafe 69 = .ok (.imul, 1) := by decide +kernel
theorem dL_isSafe_70 : decode cL_isSafe 70 = .ok (.iconst 3, 1) := by decide +kernel
theorem dL_isSafe_71 : decode cL_isSafe 71 = .ok (.iadd, 1) := by decide +kernel
theorem dL_isSafe_72 : decode cL_isSafe 72 = .ok (.iaload, 1) := by decide +kernel
theorem dL_isSafe_73 : decode cL_isSafe 73 = .ok (.i2l, 1) := by decide +kernel
theorem dL_isSafe_74 : decode cL_isSafe 74 = .ok (.lmul, 1) := by decide +kernel
theorem dL_isSafe_75 : decode cL_isSafe 75 = .ok (.lcmp, 1) := by decide +kernel
theorem dL_isSafe_76 : decode cL_isSafe 76 = .ok (.ifCond .gt 7, 3) := by decide +kernel
theorem dL_isSafe_79 : decode cL_isSafe 79 = .ok (.iconst 1, 1) := by decide +kernel
theorem dL_isSafe_80 : decode cL_isSafe 80 = .ok (.goto 4, 3) := by decide +kernel
theorem dL_isSafe_83 : decode cL_isSafe 83 = .ok (.iconst 0, 1) := by decide +kernel
theorem dL_isSafe_84 : decode cL_isSafe 84 = .ok (.istore 6, 2) := by decide +kernel
theorem dL_isSafe_86 : decode cL_isSafe 86 = .ok (.iinc 7 1, 3) := by decide +kernel
theorem dL_isSafe_89 : decode cL_isSafe 89 = .ok (.goto (-56), 3) := by decide +kernel
theorem dL_isSafe_92 : decode cL_isSafe 92 = .ok (.iconst 0, 1) := by decide +kernel
theorem dL_isSafe_93 : decode cL_isSafe 93 = .ok (.istore 7, 2) := by decide +kernel
theorem dL_isSafe_95 : decode cL_isSafe 95 = .ok (.iload 7, 2) := by decide +kernel
theorem dL_isSafe_97 : decode cL_isSafe 97 = .ok (.aload_n 2, 1) := by decide +kernel
theorem dL_isSafe_98 : decode cL_isSafe 98 = .ok (.iconst 0, 1) := by decide +kernel
theorem dL_isSafe_99 : decode cL_isSafe 99 = .ok (.iaload, 1) := by decide +kernel
theorem dL_isSafe_100 : decode cL_isSafe 100 = .ok (.if_icmp .ge 43, 3) := by decide +kernel
theorem dL_isSafe_103 : decode cL_isSafe 103 = .ok (.iload 6, 2) := by decide +kernel
theorem dL_isSafe_105 : decode cL_isSafe 105 = .ok (.ifCond .eq 38, 3) := by decide +kernel
theorem dL_isSafe_108 : decode cL_isSafe 108 = .ok (.aload_n 0, 1) := by decide +kernel
theorem dL_isSafe_109 : decode cL_isSafe 109 = .ok (.aload_n 1, 1) := by decide +kernel
theorem dL_isSafe_110 : decode cL_isSafe 110 = .ok (.aload_n 2, 1) := by decide +kernel
theorem dL_isSafe_111 : decode cL_isSafe 111 = .ok (.iload_n 3, 1) := by decide +kernel
theorem dL_isSafe_112 : decode cL_isSafe 112 = .ok (.iload 5, 2) := by decide +kernel
theorem dL_isSafe_114 : decode cL_isSafe 114 = .ok (.iload 7, 2) := by decide +kernel
theorem dL_isSafe_116 : decode cL_isSafe 116 = .ok (.invokestatic 46, 3) := by decide +kernel
theorem dL_isSafe_119 : decode cL_isSafe 119 = .ok (.aload_n 0, 1) := by decide +kernel
theorem dL_isSafe_120 : decode cL_isSafe 120 = .ok (.iconst 2, 1) := by decide +kernel
theorem dL_isSafe_121 : decode cL_isSafe 121 = .ok (.iload 7, 2) := by decide +kernel
theorem dL_isSafe_123 : decode cL_isSafe 123 = .ok (.imul, 1) := by decide +kernel
theorem dL_isSafe_124 : decode cL_isSafe 124 = .ok (.iconst 1, 1) := by decide +kernel
theorem dL_isSafe_125 : decode cL_isSafe 125 = .ok (.iadd, 1) := by decide +kernel
theorem dL_isSafe_126 : decode cL_isSafe 126 = .ok (.iaload, 1) := by decide +kernel
theorem dL_isSafe_127 : decode cL_isSafe 127 = .ok (.if_icmp .gt 7, 3) := by decide +kernel
theorem dL_isSafe_130 : decode cL_isSafe 130 = .ok (.iconst 1, 1) := by decide +kernel
theorem dL_isSafe_131 : decode cL_isSafe 131 = .ok (.goto 4, 3) := by decide +kernel
theorem dL_isSafe_134 : decode cL_isSafe 134 = .ok (.iconst 0, 1) := by decide +kernel
theorem dL_isSafe_135 : decode cL_isSafe 135 = .ok (.istore 6, 2) := by decide +kernel
theorem dL_isSafe_137 : decode cL_isSafe 137 = .ok (.iinc 7 1, 3) := by decide +kernel
theorem dL_isSafe_140 : decode cL_isSafe 140 = .ok (.goto (-45), 3) := by decide +kernel
theorem dL_isSafe_143 : decode cL_isSafe 143 = .ok (.iload 6, 2) := by decide +kernel
theorem dL_isSafe_145 : decode cL_isSafe 145 = .ok (.ireturn, 1) := by decide +kernel
set_option maxRecDepth 20000 in
theorem ggL_tended_L_shift : GoodIn wsL_tended wsL_shift := goodIn_r _ [5, 6, 7, 4, 8, 9, 10, 11, 12, 13, 14, 15, 16, 17, 18, 19, 20, 21, 22] (by decide +kernel) (by decide +kernel)
set_option maxRecDepth 20000 in
theorem gL_tended_L_shift : GoodIn wsL_tended (va_wsS RL 34 yL_shift wsL_shift) := goodIn_app (goodIn_of _ (by decide +kernel)) ggL_tended_L_shift
set_option maxRecDepth 20000 in
theorem ggL_tended_L_length : GoodIn wsL_tended wsL_length := goodIn_r _ [11, 12, 13, 4, 14, 15, 16, 17, 18, 19] (by decide +kernel) (by decide +kernel)
set_option maxRecDepth 20000 in
theorem gL_tended_L_length : GoodIn wsL_tended (va_wsS RL 23 yL_length wsL_length) := goodIn_app (goodIn_of _ (by decide +kernel)) ggL_tended_L_length
theorem dL_tended_0 : decode cL_tended 0 = .ok (.iconst 0, 1) := by decide +kernel
theorem dL_tended_1 : decode cL_tended 1 = .ok (.istore 5, 2) := by decide +kernel
theorem dL_tended_3 : decode cL_tended 3 = .ok (.aload_n 0, 1) := by decide +kernel
theorem dL_tended_4 : decode cL_tended 4 = .ok (.aload_n 1, 1) := by decide +kernel
theorem dL_tended_5 : decode cL_tended 5 = .ok (.aload_n 2, 1) := by decide +kernel
theorem dL_tended_6 : decode cL_tended 6 = .ok (.iload_n 3, 1) := by decide +kernel
theorem dL_tended_7 : decode cL_tended 7 = .ok (.iload 4, 2) := by decide +kernel
theorem dL_tended_9 : decode cL_tended 9 = .ok (.invokestatic 34, 3) := by decide +kernel
theorem dL_tended_12 : decode cL_tended 12 = .ok (.istore 6, 2) := by decide +kernel
theorem dL_tended_14 : decode cL_tended 14 = .ok (.bipush 6, 2) := by decide +kernel
theorem dL_tended_16 : decode cL_tended 16 = .ok (.newarray .int, 2) := by decide +kernel
theorem dL_tended_18 : decode cL_tended 18 = .ok (.astore 7, 2) := by decide +kernel
theorem dL_tended_20 : decode cL_tended 20 = .ok (.iconst 0, 1) := by decide +kernel
theorem dL_tended_21 : decode cL_tended 21 = .ok (.istore 8, 2) := by decide +kernel
theorem dL_tended_23 : decode cL_tended 23 = .ok (.iload 8, 2) := by decide +kernel
theorem dL_tended_25 : decode cL_tended 25 = .ok (.aload_n 2, 1) := by decide +kernel
theorem dL_tended_26 : decode cL_tended 26 = .ok (.iconst 1, 1) := by decide +kernel
theorem dL_tended_27 : decode cL_tended 27 = .ok (.iaload, 1) := by decide +kernel
theorem dL_tended_28 : decode cL_tended 28 = .ok (.if_icmp .ge 24, 3) := by decide +kernel
theorem dL_tended_31 : decode cL_tended 31 = .ok (.aload 7, 2) := by decide +kernel
theorem dL_tended_33 : decode cL_tended 33 = .ok (.iload 8, 2) := by decide +kernel
theorem dL_tended_35 : decode cL_tended 35 = .ok (.aload_n 0, 1) := by decide +kernel
theorem dL_tended_36 : decode cL_tended 36 = .ok (.aload_n 1, 1) := by decide +kernel
theorem dL_tended_37 : decode cL_tended 37 = .ok (.iload 8, 2) := by decide +kernel
theorem dL_tended_39 : decode cL_tended 39 = .ok (.iload_n 3, 1) := by decide +kernel
theorem dL_tended_40 : decode cL_tended 40 = .ok (.iload 6, 2) := by decide +kernel
theorem dL_tended_42 : decode cL_tended 42 = .ok (.invokestatic 23, 3) := by decide +kernel
theorem dL_tended_45 : decode cL_tended 45 = .ok (.iastore, 1) := by decide +kernel
theorem dL_tended_46 : decode cL_tended 46 = .ok (.iinc 8 1, 3) := by decide +kernel
theorem dL_tended_49 : decode cL_tended 49 = .ok (.goto (-26), 3) := by decide +kernel
theorem dL_tended_52 : decode cL_tended 52 = .ok (.iconst 0, 1) := by decide +kernel
theorem dL_tended_53 : decode cL_tended 53 = .ok (.istore 8, 2) := by decide +kernel
theorem dL_tended_55 : decode cL_tended 55 = .ok (.iload 8, 2) := by decide +kernel
theorem dL_tended_57 : decode cL_tended 57 = .ok (.aload_n 2, 1) := by decide +kernel
theorem dL_tended_58 : decode cL_tended 58 = .ok (.iconst 1, 1) := by decide +kernel
theorem dL_tended_59 : decode cL_tended 59 = .ok (.iaload, 1) := by decide +kernel
theorem dL_tended_60 : decode cL_tended 60 = .ok (.if_icmp .ge 91, 3) := by decide +kernel
theorem dL_tended_63 : decode cL_tended 63 = .ok (.aload_n 1, 1) := by decide +kernel
theorem dL_tended_64 : decode cL_tended 64 = .ok (.bipush 6, 2) := by decide +kernel
theorem dL_tended_66 : decode cL_tended 66 = .ok (.iload 8, 2) := by decide +kernel
theorem dL_tended_68 : decode cL_tended 68 = .ok (.imul, 1) := by decide +kernel
theorem dL_tended_69 : decode cL_tended 69 = .ok (.iconst 5, 1) := by decide +kernel
theorem dL_tended_70 : decode cL_tended 70 = .ok (.iadd, 1) := by decide +kernel
theorem dL_tended_71 : decode cL_tended 71 = .ok (.iaload, 1) := by decide +kernel
theorem dL_tended_72 : decode cL_tended 72 = .ok (.ifCond .ne 24, 3) := by decide +kernel
theorem dL_tended_75 : decode cL_tended 75 = .ok (.aload_n 1, 1) := by decide +kernel
theorem dL_tended_76 : decode cL_tended 76 = .ok (.bipush 6, 2) := by decide +kernel
theorem dL_tended_78 : decode cL_tended 78 = .ok (.iload 8, 2) := by decide +kernel
theorem dL_tended_80 : decode cL_tended 80 = .ok (.imul, 1) := by decide +kernel
theorem dL_tended_81 : decode cL_tended 81 = .ok (.iconst 4, 1) := by decide +kernel
theorem dL_tended_82 : decode cL_tended 82 = .ok (.iadd, 1) := by decide +kernel
theorem dL_tended_83 : decode cL_tended 83 = .ok (.iaload, 1) := by decide +kernel
theorem dL_tended_84 : decode cL_tended 84 = .ok (.aload 7, 2) := by decide +kernel
theorem dL_tended_86 : decode cL_tended 86 = .ok (.iload 8, 2) := by decide +kernel
theorem dL_tended_88 : decode cL_tended 88 = .ok (.iaload, 1) := by decide +kernel
theorem dL_tended_89 : decode cL_tended 89 = .ok (.if_icmp .eq 7, 3) := by decide +kernel
theorem dL_tended_92 : decode cL_tended 92 = .ok (.iconst 1, 1) := by decide +kernel
theorem dL_tended_93 : decode cL_tended 93 = .ok (.goto 4, 3) := by decide +kernel
theorem dL_tended_96 : decode cL_tended 96 = .ok (.iconst 0, 1) := by decide +kernel
theorem dL_tended_97 : decode cL_tended 97 = .ok (.istore 9, 2) := by decide +kernel
theorem dL_tended_99 : decode cL_tended 99 = .ok (.aload_n 1, 1) := by decide +kernel
theorem dL_tended_100 : decode cL_tended 100 = .ok (.bipush 6, 2) := by decide +kernel
theorem dL_tended_102 : decode cL_tended 102 = .ok (.iload 8, 2) := by decide +kernel
theorem dL_tended_104 : decode cL_tended 104 = .ok (.imul, 1) := by decide +kernel
theorem dL_tended_105 : decode cL_tended 105 = .ok (.iconst 4, 1) := by decide +kernel
theorem dL_tended_106 : decode cL_tended 106 = .ok (.iadd, 1) := by decide +kernel
theorem dL_tended_107 : decode cL_tended 107 = .ok (.iload 9, 2) := by decide +kernel
theorem dL_tended_109 : decode cL_tended 109 = .ok (.ifCond .eq 11, 3) := by decide +kernel
theorem dL_tended_112 : decode cL_tended 112 = .ok (.aload 7, 2) := by decide +kernel
theorem dL_tended_114 : decode cL_tended 114 = .ok (.iload 8, 2) := by decide +kernel
theorem dL_tended_116 : decode cL_tended 116 = .ok (.iaload, 1) := by decide +kernel
theorem dL_tended_117 : decode cL_tended 117 = .ok (.goto 12, 3) := by decide +kernel
theorem dL_tended_120 : decode cL_tended 120 = .ok (.aload_n 1, 1) := by decide +kernel
theorem dL_tended_121 : decode cL_tended 121 = .ok (.bipush 6, 2) := by decide +kernel
theorem dL_tended_123 : decode cL_tended 123 = .ok (.iload 8, 2) := by decide +kernel
theorem dL_tended_125 : decode cL_tended 125 = .ok (.imul, 1) := by decide +kernel
theorem dL_tended_126 : decode cL_tended 126 = .ok (.iconst 4, 1) := by decide +kernel
theorem dL_tended_127 : decode cL_tended 127 = .ok (.iadd, 1) := by decide +kernel
theorem dL_tended_128 : decode cL_tended 128 = .ok (.iaload, 1) := by decide +kernel
theorem dL_tended_129 : decode cL_tended 129 = .ok (.iastore, 1) := by decide +kernel
theorem dL_tended_130 : decode cL_tended 130 = .ok (.iload 5, 2) := by decide +kernel
theorem dL_tended_132 : decode cL_tended 132 = .ok (.iload 9, 2) := by decide +kernel
theorem dL_tended_134 : decode cL_tended 134 = .ok (.ifCond .eq 7, 3) := by decide +kernel
theorem dL_tended_137 : decode cL_tended 137 = .ok (.iconst 1, 1) := by decide +kernel
theorem dL_tended_138 : decode cL_tended 138 = .ok (.goto 4, 3) := by decide +kernel
theorem dL_tended_141 : decode cL_tended 141 = .ok (.iconst 0, 1) := by decide +kernel
theorem dL_tended_142 : decode cL_tended 142 = .ok (.iadd, 1) := by decide +kernel
theorem dL_tended_143 : decode cL_tended 143 = .ok (.istore 5, 2) := by decide +kernel
theorem dL_tended_145 : decode cL_tended 145 = .ok (.iinc 8 1, 3) := by decide +kernel
theorem dL_tended_148 : decode cL_tended 148 = .ok (.goto (-93), 3) := by decide +kernel
theorem dL_tended_151 : decode cL_tended 151 = .ok (.iload 5, 2) := by decide +kernel
theorem dL_tended_153 : decode cL_tended 153 = .ok (.ireturn, 1) := by decide +kernel
set_option maxRecDepth 20000 in
theorem ggL_plan_L_isSafe : GoodIn wsL_plan wsL_isSafe := goodIn_r _ [5, 6, 7, 8, 9, 4, 10, 11, 12, 13, 14, 15, 16, 17, 18, 19, 20, 21, 22, 23, 24, 25, 26, 27, 28, 29, 30, 31, 32, 33] (by decide +kernel) (by decide +kernel)
set_option maxRecDepth 20000 in
theorem gL_plan_L_isSafe : GoodIn wsL_plan (va_wsS RL 49 yL_isSafe wsL_isSafe) := goodIn_app (goodIn_of _ (by decide +kernel)) ggL_plan_L_isSafe
set_option maxRecDepth 20000 in
theorem ggL_plan_L_tended : GoodIn wsL_plan wsL_tended := goodIn_r _ [36, 1, 8, 9, 4, 10, 11, 12, 13, 14, 15, 16, 17, 18, 19, 20, 21, 22, 23, 24, 25, 26, 27] (by decide +kernel) (by decide +kernel)
set_option maxRecDepth 20000 in
theorem gL_plan_L_tended : GoodIn wsL_plan (va_wsS RL 52 yL_tended wsL_tended) := goodIn_app (goodIn_of _ (by decide +kernel)) ggL_plan_L_tended
theorem dL_plan_0 : decode cL_plan 0 = .ok (.bipush 36, 2) := by decide +kernel
theorem dL_plan_2 : decode cL_plan 2 = .ok (.newarray .int, 2) := by decide +kernel
theorem dL_plan_4 : decode cL_plan 4 = .ok (.astore 8, 2) := by decide +kernel
theorem dL_plan_6 : decode cL_plan 6 = .ok (.iconst 0, 1) := by decide +kernel
theorem dL_plan_7 : decode cL_plan 7 = .ok (.istore 9, 2) := by decide +kernel
theorem dL_plan_9 : decode cL_plan 9 = .ok (.iconst 0, 1) := by decide +kernel
theorem dL_plan_10 : decode cL_plan 10 = .ok (.istore 10, 2) := by decide +kernel
theorem dL_plan_12 : decode cL_plan 12 = .ok (.iload 10, 2) := by decide +kernel
theorem dL_plan_14 : decode cL_plan 14 = .ok (.bipush 36, 2) := by decide +kernel
theorem dL_plan_16 : decode cL_plan 16 = .ok (.if_icmp .ge 18, 3) := by decide +kernel
theorem dL_plan_19 : decode cL_plan 19 = .ok (.aload 8, 2) := by decide +kernel
theorem dL_plan_21 : decode cL_plan 21 = .ok (.iload 10, 2) := by decide +kernel
theorem dL_plan_23 : decode cL_plan 23 = .ok (.aload_n 1, 1) := by decide +kernel
theorem dL_plan_24 : decode cL_plan 24 = .ok (.iload 10, 2) := by decide +kernel
theorem dL_plan_26 : decode cL_plan 26 = .ok (.iaload, 1) := by decide +kernel
theorem dL_plan_27 : decode cL_plan 27 = .ok (.iastore, 1) := by decide +kernel
theorem dL_plan_28 : decode cL_plan 28 = .ok (.iinc 10 1, 3) := by decide +kernel
theorem dL_plan_31 : decode cL_plan 31 = .ok (.goto (-19), 3) := by decide +kernel
theorem dL_plan_34 : decode cL_plan 34 = .ok (.iload 6, 2) := by decide +kernel
theorem dL_plan_36 : decode cL_plan 36 = .ok (.istore 10, 2) := by decide +kernel
theorem dL_plan_38 : decode cL_plan 38 = .ok (.iload 10, 2) := by decide +kernel
theorem dL_plan_40 : decode cL_plan 40 = .ok (.iload 7, 2) := by decide +kernel
theorem dL_plan_42 : decode cL_plan 42 = .ok (.if_icmp .gt 81, 3) := by decide +kernel
theorem dL_plan_45 : decode cL_plan 45 = .ok (.sipush 300, 3) := by decide +kernel
theorem dL_plan_48 : decode cL_plan 48 = .ok (.aload_n 2, 1) := by decide +kernel
theorem dL_plan_49 : decode cL_plan 49 = .ok (.iload 10, 2) := by decide +kernel
theorem dL_plan_51 : decode cL_plan 51 = .ok (.iaload, 1) := by decide +kernel
theorem dL_plan_52 : decode cL_plan 52 = .ok (.iadd, 1) := by decide +kernel
theorem dL_plan_53 : decode cL_plan 53 = .ok (.aload_n 3, 1) := by decide +kernel
theorem dL_plan_54 : decode cL_plan 54 = .ok (.iload 10, 2) := by decide +kernel
theorem dL_plan_56 : decode cL_plan 56 = .ok (.iaload, 1) := by decide +kernel
theorem dL_plan_57 : decode cL_plan 57 = .ok (.iadd, 1) := by decide +kernel
theorem dL_plan_58 : decode cL_plan 58 = .ok (.istore 11, 2) := by decide +kernel
theorem dL_plan_60 : decode cL_plan 60 = .ok (.aload_n 0, 1) := by decide +kernel
theorem dL_plan_61 : decode cL_plan 61 = .ok (.aload 8, 2) := by decide +kernel
theorem dL_plan_63 : decode cL_plan 63 = .ok (.aload 5, 2) := by decide +kernel
theorem dL_plan_65 : decode cL_plan 65 = .ok (.iload 11, 2) := by decide +kernel
theorem dL_plan_67 : decode cL_plan 67 = .ok (.aload 4, 2) := by decide +kernel
theorem dL_plan_69 : decode cL_plan 69 = .ok (.iload 10, 2) := by decide +kernel
theorem dL_plan_71 : decode cL_plan 71 = .ok (.iaload, 1) := by decide +kernel
theorem dL_plan_72 : decode cL_plan 72 = .ok (.invokestatic 49, 3) := by decide +kernel
theorem dL_plan_75 : decode cL_plan 75 = .ok (.ifCond .ne 42, 3) := by decide +kernel
theorem dL_plan_78 : decode cL_plan 78 = .ok (.aload_n 0, 1) := by decide +kernel
theorem dL_plan_79 : decode cL_plan 79 = .ok (.aload 8, 2) := by decide +kernel
theorem dL_plan_81 : decode cL_plan 81 = .ok (.aload 5, 2) := by decide +kernel
theorem dL_plan_83 : decode cL_plan 83 = .ok (.iload 11, 2) := by decide +kernel
theorem dL_plan_85 : decode cL_plan 85 = .ok (.aload 4, 2) := by decide +kernel
theorem dL_plan_87 : decode cL_plan 87 = .ok (.iload 10, 2) := by decide +kernel
theorem dL_plan_89 : decode cL_plan 89 = .ok (.iaload, 1) := by decide +kernel
theorem dL_plan_90 : decode cL_plan 90 = .ok (.invokestatic 52, 3) := by decide +kernel
theorem dL_plan_93 : decode cL_plan 93 = .ok (.pop, 1) := by decide +kernel
theorem dL_plan_94 : decode cL_plan 94 = .ok (.iinc 9 1, 3) := by decide +kernel
theorem dL_plan_97 : decode cL_plan 97 = .ok (.aload_n 0, 1) := by decide +kernel
theorem dL_plan_98 : decode cL_plan 98 = .ok (.aload 8, 2) := by decide +kernel
theorem dL_plan_100 : decode cL_plan 100 = .ok (.aload 5, 2) := by decide +kernel
theorem dL_plan_102 : decode cL_plan 102 = .ok (.iload 11, 2) := by decide +kernel
theorem dL_plan_104 : decode cL_plan 104 = .ok (.aload 4, 2) := by decide +kernel
theorem dL_plan_106 : decode cL_plan 106 = .ok (.iload 10, 2) := by decide +kernel
theorem dL_plan_108 : decode cL_plan 108 = .ok (.iaload, 1) := by decide +kernel
theorem dL_plan_109 : decode cL_plan 109 = .ok (.invokestatic 49, 3) := by decide +kernel
theorem dL_plan_112 : decode cL_plan 112 = .ok (.ifCond .ne 5, 3) := by decide +kernel
theorem dL_plan_115 : decode cL_plan 115 = .ok (.iconst (-1), 1) := by decide +kernel
theorem dL_plan_116 : decode cL_plan 116 = .ok (.ireturn, 1) := by decide +kernel
theorem dL_plan_117 : decode cL_plan 117 = .ok (.iinc 10 1, 3) := by decide +kernel
theorem dL_plan_120 : decode cL_plan 120 = .ok (.goto (-82), 3) := by decide +kernel
theorem dL_plan_123 : decode cL_plan 123 = .ok (.iload 9, 2) := by decide +kernel
theorem dL_plan_125 : decode cL_plan 125 = .ok (.ireturn, 1) := by decide +kernel
set_option maxRecDepth 20000 in
theorem ggL_isTold_L_shift : GoodIn wsL_isTold wsL_shift := goodIn_r _ [4, 5, 6, 3, 7, 8, 9, 10, 11, 12, 13, 14, 15, 16, 17, 18, 19, 20, 21] (by decide +kernel) (by decide +kernel)
set_option maxRecDepth 20000 in
theorem gL_isTold_L_shift : GoodIn wsL_isTold (va_wsS RL 34 yL_shift wsL_shift) := goodIn_app (goodIn_of _ (by decide +kernel)) ggL_isTold_L_shift
set_option maxRecDepth 20000 in
theorem ggL_isTold_X0_shift : GoodIn wsL_isTold wsX0_shift := goodIn_ca (goodIn_r _ [26, 27, 28, 25, 29, 30, 31, 32, 33, 34, 35, 36, 37, 38, 39, 40, 41, 42, 43, 44, 45, 46, 47, 48, 49, 50, 51, 52, 53, 54, 55, 56, 57, 58, 59, 60, 61, 62, 63, 64, 65, 66, 67, 68, 69, 70, 71, 148, 149, 150, 151, 152, 153, 154, 155, 156, 157, 158, 159, 160, 161, 162] (by decide +kernel) (by decide +kernel)) (goodIn_sub (fun _ h => List.mem_cons_of_mem _ (List.mem_append_left _ (List.mem_append_right _ h))) (by decide +kernel))
set_option maxRecDepth 20000 in
theorem gL_isTold_X0_shift : GoodIn wsL_isTold (wsV RL 55 RX0 yX0_shift wsX0_shift) := goodIn_app (goodIn_of _ (by decide +kernel)) ggL_isTold_X0_shift
set_option maxRecDepth 20000 in
theorem ggL_isTold_X0_isAdrift : GoodIn wsL_isTold wsX0_isAdrift := goodIn_ca (goodIn_r _ [75, 27, 28, 25, 29, 30, 31, 32, 33, 34, 35, 36, 37, 38, 39, 40, 41, 42, 43, 44, 45, 46, 47, 48, 49, 50, 51, 52, 53, 54, 55, 56, 57, 58, 59, 60, 61, 62, 63, 64, 65, 66, 67, 68, 69, 70, 71, 76, 77, 78, 79, 148, 149, 150, 151, 152, 153, 154, 155, 156, 157, 158, 159, 160, 161, 162] (by decide +kernel) (by decide +kernel)) (goodIn_sub (fun _ h => List.mem_cons_of_mem _ (List.mem_append_left _ (List.mem_append_right _ h))) (by decide +kernel))
set_option maxRecDepth 20000 in
theorem gL_isTold_X0_isAdrift : GoodIn wsL_isTold (wsV RL 60 RX0 yX0_isAdrift wsX0_isAdrift) := goodIn_app (goodIn_of _ (by decide +kernel)) ggL_isTold_X0_isAdrift
set_option maxRecDepth 20000 in
theorem ggL_isTold_L_isAdrift : GoodIn wsL_isTold wsL_isAdrift := goodIn_r _ [82, 1, 2, 3, 4, 5, 6, 7, 8, 9, 10, 11, 12, 13, 14, 15, 16, 17, 18, 19, 20, 21] (by decide +kernel) (by decide +kernel)
set_option maxRecDepth 20000 in
theorem gL_isTold_L_isAdrift : GoodIn wsL_isTold (va_wsS RL 38 yL_isAdrift wsL_isAdrift) := goodIn_app (goodIn_of _ (by decide +kernel)) ggL_isTold_L_isAdrift
set_option maxRecDepth 20000 in
theorem ggL_isTold_X0_isSafe : GoodIn wsL_isTold wsX0_isSafe := goodIn_ca (goodIn_r _ [86, 27, 28, 25, 29, 30, 31, 87, 88, 89, 90, 32, 33, 34, 35, 36, 37, 38, 39, 40, 41, 42, 43, 44, 45, 46, 47, 48, 49, 50, 51, 52, 53, 54, 55, 56, 57, 58, 59, 60, 61, 62, 63, 64, 65, 66, 67, 68, 69, 70, 71, 76, 77, 78, 79, 91, 92, 93, 94, 95, 96, 97, 98, 99, 100, 101, 102, 103, 104, 105, 106, 107, 108, 109, 110, 148, 149, 150, 151, 152, 153, 154, 155, 156, 157, 158, 159, 160, 161, 162] (by decide +kernel) (by decide +kernel)) (goodIn_sub (fun _ h => List.mem_cons_of_mem _ (List.mem_append_left _ (List.mem_append_right _ h))) (by decide +kernel))
set_option maxRecDepth 20000 in
theorem gL_isTold_X0_isSafe : GoodIn wsL_isTold (wsV RL 63 RX0 yX0_isSafe wsX0_isSafe) := goodIn_app (goodIn_of _ (by decide +kernel)) ggL_isTold_X0_isSafe
set_option maxRecDepth 20000 in
theorem ggL_isTold_L_isSafe : GoodIn wsL_isTold wsL_isSafe := goodIn_r _ [113, 114, 115, 1, 2, 3, 4, 5, 6, 7, 8, 9, 10, 11, 12, 13, 14, 15, 16, 17, 18, 19, 20, 21, 80, 81, 82, 116, 117, 118] (by decide +kernel) (by decide +kernel)
set_option maxRecDepth 20000 in
theorem gL_isTold_L_isSafe : GoodIn wsL_isTold (va_wsS RL 49 yL_isSafe wsL_isSafe) := goodIn_app (goodIn_of _ (by decide +kernel)) ggL_isTold_L_isSafe
set_option maxRecDepth 20000 in
theorem ggL_isTold_X0_force : GoodIn wsL_isTold wsX0_force := goodIn_ca (goodIn_ca (goodIn_r _ [122, 27, 28, 25, 29, 30, 31, 123, 124, 125, 126, 127, 40, 41, 42, 43, 44, 45, 46, 47, 48, 49, 50, 51, 52, 53, 54, 55, 56, 57, 58, 59, 60, 61, 62, 63, 64, 65, 66, 67, 68, 69, 70, 71, 148, 149, 150, 151, 152, 153, 154, 155, 156, 157, 158, 159, 160, 161, 162] (by decide +kernel) (by decide +kernel)) (goodIn_sub (fun _ h => List.mem_cons_of_mem _ (List.mem_append_left _ (List.mem_append_right _ h))) (by decide +kernel))) (goodIn_sub (fun _ h => List.mem_cons_of_mem _ (List.mem_append_right _ h)) (by decide +kernel))
set_option maxRecDepth 20000 in
theorem gL_isTold_X0_force : GoodIn wsL_isTold (wsV RL 65 RX0 yX0_force wsX0_force) := goodIn_app (goodIn_of _ (by decide +kernel)) ggL_isTold_X0_force
set_option maxRecDepth 20000 in
theorem ggL_isTold_L_force : GoodIn wsL_isTold wsL_force := goodIn_r _ [7, 8, 9, 3, 10, 11, 12, 13, 14, 15, 16, 17, 18, 19, 20, 21] (by decide +kernel) (by decide +kernel)
set_option maxRecDepth 20000 in
theorem gL_isTold_L_force : GoodIn wsL_isTold (va_wsS RL 30 yL_force wsL_force) := goodIn_app (goodIn_of _ (by decide +kernel)) ggL_isTold_L_force
set_option maxRecDepth 20000 in
theorem ggL_isTold_X0_length : GoodIn wsL_isTold wsX0_length := goodIn_ca (goodIn_r _ [131, 132, 133, 134, 25, 135, 30, 31, 46, 27, 28, 29, 32, 33, 34, 35, 36, 37, 38, 39, 40, 41, 42, 43, 44, 45, 47, 48, 49, 50, 51, 52, 53, 54, 55, 56, 57, 58, 59, 60, 61, 62, 63, 64, 65, 66, 67, 68, 69, 70, 71, 96, 97, 98, 99, 148, 149, 150, 151, 152, 153, 154, 155, 156, 157, 158, 159, 160, 161, 162] (by decide +kernel) (by decide +kernel)) (goodIn_sub (fun _ h => List.mem_cons_of_mem _ (List.mem_append_left _ (List.mem_append_right _ h))) (by decide +kernel))
set_option maxRecDepth 20000 in
theorem gL_isTold_X0_length : GoodIn wsL_isTold (wsV RL 68 RX0 yX0_length wsX0_length) := goodIn_app (goodIn_of _ (by decide +kernel)) ggL_isTold_X0_length
set_option maxRecDepth 20000 in
theorem ggL_isTold_L_length : GoodIn wsL_isTold wsL_length := goodIn_r _ [10, 11, 12, 3, 13, 14, 15, 16, 17, 18] (by decide +kernel) (by decide +kernel)
set_option maxRecDepth 20000 in
theorem gL_isTold_L_length : GoodIn wsL_isTold (va_wsS RL 23 yL_length wsL_length) := goodIn_app (goodIn_of _ (by decide +kernel)) ggL_isTold_L_length
set_option maxRecDepth 20000 in
theorem ggL_isTold_X0_tension : GoodIn wsL_isTold wsX0_tension := goodIn_ca (goodIn_r _ [139, 132, 133, 134, 25, 135, 30, 31, 46, 27, 28, 29, 32, 33, 34, 35, 36, 37, 38, 39, 40, 41, 42, 43, 44, 45, 47, 48, 49, 50, 51, 52, 53, 54, 55, 56, 57, 58, 59, 60, 61, 62, 63, 64, 65, 66, 67, 68, 69, 70, 71, 96, 97, 98, 99, 148, 149, 150, 151, 152, 153, 154, 155, 156, 157, 158, 159, 160, 161, 162] (by decide +kernel) (by decide +kernel)) (goodIn_sub (fun _ h => List.mem_cons_of_mem _ (List.mem_append_left _ (List.mem_append_right _ h))) (by decide +kernel))
set_option maxRecDepth 20000 in
theorem gL_isTold_X0_tension : GoodIn wsL_isTold (wsV RL 70 RX0 yX0_tension wsX0_tension) := goodIn_app (goodIn_of _ (by decide +kernel)) ggL_isTold_X0_tension
set_option maxRecDepth 20000 in
theorem ggL_isTold_L_tension : GoodIn wsL_isTold wsL_tension := goodIn_r _ [21, 8, 9, 3, 10, 11, 12, 13, 14, 15, 16, 17, 18] (by decide +kernel) (by decide +kernel)
set_option maxRecDepth 20000 in
theorem gL_isTold_L_tension : GoodIn wsL_isTold (va_wsS RL 27 yL_tension wsL_tension) := goodIn_app (goodIn_of _ (by decide +kernel)) ggL_isTold_L_tension
set_option maxRecDepth 20000 in
theorem ggL_isTold_X0_onBollard : GoodIn wsL_isTold wsX0_onBollard := goodIn_ca (goodIn_r _ [143, 144, 145, 146, 25, 147, 30, 31, 104, 27, 28, 29, 32, 33, 34, 35, 36, 37, 38, 39, 40, 41, 42, 43, 44, 45, 46, 47, 48, 49, 50, 51, 52, 53, 54, 55, 56, 57, 58, 59, 60, 61, 62, 63, 64, 65, 66, 67, 68, 69, 70, 71, 106, 107, 108, 109, 110, 96, 97, 98, 99, 148, 149, 150, 151, 152, 153, 154, 155, 156, 157, 158, 159, 160, 161, 162] (by decide +kernel) (by decide +kernel)) (goodIn_sub (fun _ h => List.mem_cons_of_mem _ (List.mem_append_left _ (List.mem_append_right _ h))) (by decide +kernel))
set_option maxRecDepth 20000 in
theorem gL_isTold_X0_onBollard : GoodIn wsL_isTold (wsV RL 72 RX0 yX0_onBollard wsX0_onBollard) := goodIn_app (goodIn_of _ (by decide +kernel)) ggL_isTold_X0_onBollard
set_option maxRecDepth 20000 in
theorem ggL_isTold_L_onBollard : GoodIn wsL_isTold wsL_onBollard := goodIn_r _ [118, 19, 20, 3, 21, 8, 9, 10, 11, 12, 13, 14, 15, 16, 17, 18] (by decide +kernel) (by decide +kernel)
set_option maxRecDepth 20000 in
theorem gL_isTold_L_onBollard : GoodIn wsL_isTold (va_wsS RL 46 yL_onBollard wsL_onBollard) := goodIn_app (goodIn_of _ (by decide +kernel)) ggL_isTold_L_onBollard
theorem dL_isTold_0 : decode cL_isTold 0 = .ok (.sipush 300, 3) := by decide +kernel
theorem dL_isTold_3 : decode cL_isTold 3 = .ok (.aload_n 3, 1) := by decide +kernel
theorem dL_isTold_4 : decode cL_isTold 4 = .ok (.iload 7, 2) := by decide +kernel
theorem dL_isTold_6 : decode cL_isTold 6 = .ok (.iaload, 1) := by decide +kernel
theorem dL_isTold_7 : decode cL_isTold 7 = .ok (.iadd, 1) := by decide +kernel
theorem dL_isTold_8 : decode cL_isTold 8 = .ok (.aload 4, 2) := by decide +kernel
theorem dL_isTold_10 : decode cL_isTold 10 = .ok (.iload 7, 2) := by decide +kernel
theorem dL_isTold_12 : decode cL_isTold 12 = .ok (.iaload, 1) := by decide +kernel
theorem dL_isTold_13 : decode cL_isTold 13 = .ok (.iadd, 1) := by decide +kernel
theorem dL_isTold_14 : decode cL_isTold 14 = .ok (.istore 9, 2) := by decide +kernel
theorem dL_isTold_16 : decode cL_isTold 16 = .ok (.aload_n 1, 1) := by decide +kernel
theorem dL_isTold_17 : decode cL_isTold 17 = .ok (.aload_n 2, 1) := by decide +kernel
theorem dL_isTold_18 : decode cL_isTold 18 = .ok (.aload 6, 2) := by decide +kernel
theorem dL_isTold_20 : decode cL_isTold 20 = .ok (.iload 9, 2) := by decide +kernel
theorem dL_isTold_22 : decode cL_isTold 22 = .ok (.aload 5, 2) := by decide +kernel
theorem dL_isTold_24 : decode cL_isTold 24 = .ok (.iload 7, 2) := by decide +kernel
theorem dL_isTold_26 : decode cL_isTold 26 = .ok (.iaload, 1) := by decide +kernel
theorem dL_isTold_27 : decode cL_isTold 27 = .ok (.invokestatic 34, 3) := by decide +kernel
theorem dL_isTold_30 : decode cL_isTold 30 = .ok (.istore 10, 2) := by decide +kernel
theorem dL_isTold_32 : decode cL_isTold 32 = .ok (.iload 8, 2) := by decide +kernel
theorem dL_isTold_34 : decode cL_isTold 34 = .ok (.sipush 401, 3) := by decide +kernel
theorem dL_isTold_37 : decode cL_isTold 37 = .ok (.irem, 1) := by decide +kernel
theorem dL_isTold_38 : decode cL_isTold 38 = .ok (.sipush 200, 3) := by decide +kernel
theorem dL_isTold_41 : decode cL_isTold 41 = .ok (.isub, 1) := by decide +kernel
theorem dL_isTold_42 : decode cL_isTold 42 = .ok (.istore 11, 2) := by decide +kernel
theorem dL_isTold_44 : decode cL_isTold 44 = .ok (.aload_n 0, 1) := by decide +kernel
theorem dL_isTold_45 : decode cL_isTold 45 = .ok (.iload 7, 2) := by decide +kernel
theorem dL_isTold_47 : decode cL_isTold 47 = .ok (.invokevirtual 55, 3) := by decide +kernel
theorem dL_isTold_50 : decode cL_isTold 50 = .ok (.iload 10, 2) := by decide +kernel
theorem dL_isTold_52 : decode cL_isTold 52 = .ok (.if_icmp .ne 107, 3) := by decide +kernel
theorem dL_isTold_55 : decode cL_isTold 55 = .ok (.aload_n 0, 1) := by decide +kernel
theorem dL_isTold_56 : decode cL_isTold 56 = .ok (.iload 7, 2) := by decide +kernel
theorem dL_isTold_58 : decode cL_isTold 58 = .ok (.invokevirtual 60, 3) := by decide +kernel
theorem dL_isTold_61 : decode cL_isTold 61 = .ok (.aload_n 1, 1) := by decide +kernel
theorem dL_isTold_62 : decode cL_isTold 62 = .ok (.aload_n 2, 1) := by decide +kernel
theorem dL_isTold_63 : decode cL_isTold 63 = .ok (.aload 6, 2) := by decide +kernel
theorem dL_isTold_65 : decode cL_isTold 65 = .ok (.iload 9, 2) := by decide +kernel
theorem dL_isTold_67 : decode cL_isTold 67 = .ok (.aload 5, 2) := by decide +kernel
theorem dL_isTold_69 : decode cL_isTold 69 = .ok (.iload 7, 2) := by decide +kernel
theorem dL_isTold_71 : decode cL_isTold 71 = .ok (.iaload, 1) := by decide +kernel
theorem dL_isTold_72 : decode cL_isTold 72 = .ok (.invokestatic 38, 3) := by decide +kernel
theorem dL_isTold_75 : decode cL_isTold 75 = .ok (.if_icmp .ne 84, 3) := by decide +kernel
theorem dL_isTold_78 : decode cL_isTold 78 = .ok (.aload_n 0, 1) := by decide +kernel
theorem dL_isTold_79 : decode cL_isTold 79 = .ok (.iload 7, 2) := by decide +kernel
theorem dL_isTold_81 : decode cL_isTold 81 = .ok (.invokevirtual 63, 3) := by decide +kernel
theorem dL_isTold_84 : decode cL_isTold 84 = .ok (.aload_n 1, 1) := by decide +kernel
theorem dL_isTold_85 : decode cL_isTold 85 = .ok (.aload_n 2, 1) := by decide +kernel
theorem dL_isTold_86 : decode cL_isTold 86 = .ok (.aload 6, 2) := by decide +kernel
theorem dL_isTold_88 : decode cL_isTold 88 = .ok (.iload 9, 2) := by decide +kernel
theorem dL_isTold_90 : decode cL_isTold 90 = .ok (.aload 5, 2) := by decide +kernel
theorem dL_isTold_92 : decode cL_isTold 92 = .ok (.iload 7, 2) := by decide +kernel
theorem dL_isTold_94 : decode cL_isTold 94 = .ok (.iaload, 1) := by decide +kernel
theorem dL_isTold_95 : decode cL_isTold 95 = .ok (.invokestatic 49, 3) := by decide +kernel
theorem dL_isTold_98 : decode cL_isTold 98 = .ok (.if_icmp .ne 61, 3) := by decide +kernel
theorem dL_isTold_101 : decode cL_isTold 101 = .ok (.aload_n 0, 1) := by decide +kernel
theorem dL_isTold_102 : decode cL_isTold 102 = .ok (.iload 7, 2) := by decide +kernel
theorem dL_isTold_104 : decode cL_isTold 104 = .ok (.iload 11, 2) := by decide +kernel
theorem dL_isTold_106 : decode cL_isTold 106 = .ok (.invokevirtual 65, 3) := by decide +kernel
theorem dL_isTold_109 : decode cL_isTold 109 = .ok (.aload_n 1, 1) := by decide +kernel
theorem dL_isTold_110 : decode cL_isTold 110 = .ok (.aload_n 2, 1) := by decide +kernel
theorem dL_isTold_111 : decode cL_isTold 111 = .ok (.aload 6, 2) := by decide +kernel
theorem dL_isTold_113 : decode cL_isTold 113 = .ok (.iload 9, 2) := by decide +kernel
theorem dL_isTold_115 : decode cL_isTold 115 = .ok (.aload 5, 2) := by decide +kernel
theorem dL_isTold_117 : decode cL_isTold 117 = .ok (.iload 7, 2) := by decide +kernel
theorem dL_isTold_119 : decode cL_isTold 119 = .ok (.iaload, 1) := by decide +kernel
theorem dL_isTold_120 : decode cL_isTold 120 = .ok (.iload 11, 2) := by decide +kernel
theorem dL_isTold_122 : decode cL_isTold 122 = .ok (.invokestatic 30, 3) := by decide +kernel
theorem dL_isTold_125 : decode cL_isTold 125 = .ok (.if_icmp .ne 34, 3) := by decide +kernel
theorem dL_isTold_128 : decode cL_isTold 128 = .ok (.aload_n 0, 1) := by decide +kernel
theorem dL_isTold_129 : decode cL_isTold 129 = .ok (.iload 7, 2) := by decide +kernel
theorem dL_isTold_131 : decode cL_isTold 131 = .ok (.iload 10, 2) := by decide +kernel
theorem dL_isTold_133 : decode cL_isTold 133 = .ok (.invokevirtual 65, 3) := by decide +kernel
theorem dL_isTold_136 : decode cL_isTold 136 = .ok (.aload_n 1, 1) := by decide +kernel
theorem dL_isTold_137 : decode cL_isTold 137 = .ok (.aload_n 2, 1) := by decide +kernel
theorem dL_isTold_138 : decode cL_isTold 138 = .ok (.aload 6, 2) := by decide +kernel
theorem dL_isTold_140 : decode cL_isTold 140 = .ok (.iload 9, 2) := by decide +kernel
theorem dL_isTold_142 : decode cL_isTold 142 = .ok (.aload 5, 2) := by decide +kernel
theorem dL_isTold_144 : decode cL_isTold 144 = .ok (.iload 7, 2) := by decide +kernel
theorem dL_isTold_146 : decode cL_isTold 146 = .ok (.iaload, 1) := by decide +kernel
theorem dL_isTold_147 : decode cL_isTold 147 = .ok (.iload 10, 2) := by decide +kernel
theorem dL_isTold_149 : decode cL_isTold 149 = .ok (.invokestatic 30, 3) := by decide +kernel
theorem dL_isTold_152 : decode cL_isTold 152 = .ok (.if_icmp .ne 7, 3) := by decide +kernel
theorem dL_isTold_155 : decode cL_isTold 155 = .ok (.iconst 1, 1) := by decide +kernel
theorem dL_isTold_156 : decode cL_isTold 156 = .ok (.goto 4, 3) := by decide +kernel
theorem dL_isTold_159 : decode cL_isTold 159 = .ok (.iconst 0, 1) := by decide +kernel
theorem dL_isTold_160 : decode cL_isTold 160 = .ok (.istore 12, 2) := by decide +kernel
theorem dL_isTold_162 : decode cL_isTold 162 = .ok (.iconst 0, 1) := by decide +kernel
theorem dL_isTold_163 : decode cL_isTold 163 = .ok (.istore 13, 2) := by decide +kernel
theorem dL_isTold_165 : decode cL_isTold 165 = .ok (.iload 13, 2) := by decide +kernel
theorem dL_isTold_167 : decode cL_isTold 167 = .ok (.aload 6, 2) := by decide +kernel
theorem dL_isTold_169 : decode cL_isTold 169 = .ok (.iconst 1, 1) := by decide +kernel
theorem dL_isTold_170 : decode cL_isTold 170 = .ok (.iaload, 1) := by decide +kernel
theorem dL_isTold_171 : decode cL_isTold 171 = .ok (.if_icmp .ge 65, 3) := by decide +kernel
theorem dL_isTold_174 : decode cL_isTold 174 = .ok (.iload 12, 2) := by decide +kernel
theorem dL_isTold_176 : decode cL_isTold 176 = .ok (.ifCond .eq 60, 3) := by decide +kernel
theorem dL_isTold_179 : decode cL_isTold 179 = .ok (.aload_n 0, 1) := by decide +kernel
theorem dL_isTold_180 : decode cL_isTold 180 = .ok (.iload 13, 2) := by decide +kernel
theorem dL_isTold_182 : decode cL_isTold 182 = .ok (.iload 7, 2) := by decide +kernel
theorem dL_isTold_184 : decode cL_isTold 184 = .ok (.invokevirtual 68, 3) := by decide +kernel
theorem dL_isTold_187 : decode cL_isTold 187 = .ok (.aload_n 1, 1) := by decide +kernel
theorem dL_isTold_188 : decode cL_isTold 188 = .ok (.aload_n 2, 1) := by decide +kernel
theorem dL_isTold_189 : decode cL_isTold 189 = .ok (.iload 13, 2) := by decide +kernel
theorem dL_isTold_191 : decode cL_isTold 191 = .ok (.iload 9, 2) := by decide +kernel
theorem dL_isTold_193 : decode cL_isTold 193 = .ok (.iload 10, 2) := by decide +kernel
theorem dL_isTold_195 : decode cL_isTold 195 = .ok (.invokestatic 23, 3) := by decide +kernel
theorem dL_isTold_198 : decode cL_isTold 198 = .ok (.if_icmp .ne 29, 3) := by decide +kernel
theorem dL_isTold_201 : decode cL_isTold 201 = .ok (.aload_n 0, 1) := by decide +kernel
theorem dL_isTold_202 : decode cL_isTold 202 = .ok (.iload 13, 2) := by decide +kernel
theorem dL_isTold_204 : decode cL_isTold 204 = .ok (.iload 7, 2) := by decide +kernel
theorem dL_isTold_206 : decode cL_isTold 206 = .ok (.invokevirtual 70, 3) := by decide +kernel
theorem dL_isTold_209 : decode cL_isTold 209 = .ok (.aload_n 1, 1) := by decide +kernel
theorem dL_isTold_210 : decode cL_isTold 210 = .ok (.aload_n 2, 1) := by decide +kernel
theorem dL_isTold_211 : decode cL_isTold 211 = .ok (.iload 13, 2) := by decide +kernel
theorem dL_isTold_213 : decode cL_isTold 213 = .ok (.iload 9, 2) := by decide +kernel
theorem dL_isTold_215 : decode cL_isTold 215 = .ok (.iload 10, 2) := by decide +kernel
theorem dL_isTold_217 : decode cL_isTold 217 = .ok (.invokestatic 27, 3) := by decide +kernel
theorem dL_isTold_220 : decode cL_isTold 220 = .ok (.if_icmp .ne 7, 3) := by decide +kernel
theorem dL_isTold_223 : decode cL_isTold 223 = .ok (.iconst 1, 1) := by decide +kernel
theorem dL_isTold_224 : decode cL_isTold 224 = .ok (.goto 4, 3) := by decide +kernel
theorem dL_isTold_227 : decode cL_isTold 227 = .ok (.iconst 0, 1) := by decide +kernel
theorem dL_isTold_228 : decode cL_isTold 228 = .ok (.istore 12, 2) := by decide +kernel
theorem dL_isTold_230 : decode cL_isTold 230 = .ok (.iinc 13 1, 3) := by decide +kernel
theorem dL_isTold_233 : decode cL_isTold 233 = .ok (.goto (-68), 3) := by decide +kernel
theorem dL_isTold_236 : decode cL_isTold 236 = .ok (.iconst 0, 1) := by decide +kernel
theorem dL_isTold_237 : decode cL_isTold 237 = .ok (.istore 13, 2) := by decide +kernel
theorem dL_isTold_239 : decode cL_isTold 239 = .ok (.iload 13, 2) := by decide +kernel
theorem dL_isTold_241 : decode cL_isTold 241 = .ok (.aload 6, 2) := by decide +kernel
theorem dL_isTold_243 : decode cL_isTold 243 = .ok (.iconst 0, 1) := by decide +kernel
theorem dL_isTold_244 : decode cL_isTold 244 = .ok (.iaload, 1) := by decide +kernel
theorem dL_isTold_245 : decode cL_isTold 245 = .ok (.if_icmp .ge 45, 3) := by decide +kernel
theorem dL_isTold_248 : decode cL_isTold 248 = .ok (.iload 12, 2) := by decide +kernel
theorem dL_isTold_250 : decode cL_isTold 250 = .ok (.ifCond .eq 40, 3) := by decide +kernel
theorem dL_isTold_253 : decode cL_isTold 253 = .ok (.aload_n 0, 1) := by decide +kernel
theorem dL_isTold_254 : decode cL_isTold 254 = .ok (.iload 13, 2) := by decide +kernel
theorem dL_isTold_256 : decode cL_isTold 256 = .ok (.iload 7, 2) := by decide +kernel
theorem dL_isTold_258 : decode cL_isTold 258 = .ok (.invokevirtual 72, 3) := by decide +kernel
theorem dL_isTold_261 : decode cL_isTold 261 = .ok (.aload_n 1, 1) := by decide +kernel
theorem dL_isTold_262 : decode cL_isTold 262 = .ok (.aload_n 2, 1) := by decide +kernel
theorem dL_isTold_263 : decode cL_isTold 263 = .ok (.aload 6, 2) := by decide +kernel
theorem dL_isTold_265 : decode cL_isTold 265 = .ok (.iload 9, 2) := by decide +kernel
theorem dL_isTold_267 : decode cL_isTold 267 = .ok (.iload 10, 2) := by decide +kernel
theorem dL_isTold_269 : decode cL_isTold 269 = .ok (.iload 13, 2) := by decide +kernel
theorem dL_isTold_271 : decode cL_isTold 271 = .ok (.invokestatic 46, 3) := by decide +kernel
theorem dL_isTold_274 : decode cL_isTold 274 = .ok (.if_icmp .ne 7, 3) := by decide +kernel
theorem dL_isTold_277 : decode cL_isTold 277 = .ok (.iconst 1, 1) := by decide +kernel
theorem dL_isTold_278 : decode cL_isTold 278 = .ok (.goto 4, 3) := by decide +kernel
theorem dL_isTold_281 : decode cL_isTold 281 = .ok (.iconst 0, 1) := by decide +kernel
theorem dL_isTold_282 : decode cL_isTold 282 = .ok (.istore 12, 2) := by decide +kernel
theorem dL_isTold_284 : decode cL_isTold 284 = .ok (.iinc 13 1, 3) := by decide +kernel
theorem dL_isTold_287 : decode cL_isTold 287 = .ok (.goto (-48), 3) := by decide +kernel
theorem dL_isTold_290 : decode cL_isTold 290 = .ok (.iload 12, 2) := by decide +kernel
theorem dL_isTold_292 : decode cL_isTold 292 = .ok (.ireturn, 1) := by decide +kernel
set_option maxRecDepth 20000 in
theorem ggL_arePlans_L_isSafe : GoodIn wsL_arePlans wsL_isSafe := goodIn_r _ [4, 5, 6, 7, 8, 3, 9, 10, 11, 12, 13, 14, 15, 16, 17, 18, 19, 20, 21, 22, 23, 24, 25, 26, 27, 28, 29, 30, 31, 32] (by decide +kernel) (by decide +kernel)
set_option maxRecDepth 20000 in
theorem gL_arePlans_L_isSafe : GoodIn wsL_arePlans (va_wsS RL 49 yL_isSafe wsL_isSafe) := goodIn_app (goodIn_of _ (by decide +kernel)) ggL_arePlans_L_isSafe
set_option maxRecDepth 20000 in
theorem ggL_arePlans_X0_plan : GoodIn wsL_arePlans wsX0_plan := goodIn_ca (goodIn_ca (goodIn_r _ [37, 38, 39, 40, 41, 42, 43, 44, 45, 46, 47, 36, 48, 49, 50, 51, 52, 53, 54, 55, 56, 57, 58, 59, 60, 61, 62, 63, 64, 65, 66, 67, 68, 69, 70, 71, 72, 73, 74, 75, 76, 77, 78, 79, 80, 81, 82, 83, 84, 85, 86, 87, 88, 89, 90, 91, 92, 93, 94, 95, 96, 97, 98, 99, 100, 101, 102, 103, 104, 105, 106, 107, 108, 109, 110, 111, 112, 113, 114, 115, 116, 117, 118, 119, 120, 121, 122, 123, 124, 125, 137, 138, 139, 140, 141, 142, 143, 144, 145, 146, 147, 148, 149, 150, 151] (by decide +kernel) (by decide +kernel)) (goodIn_sub (fun _ h => List.mem_cons_of_mem _ (List.mem_append_left _ (List.mem_append_right _ h))) (by decide +kernel))) (goodIn_sub (fun _ h => List.mem_cons_of_mem _ (List.mem_append_right _ h)) (by decide +kernel))
set_option maxRecDepth 20000 in
theorem gL_arePlans_X0_plan : GoodIn wsL_arePlans (wsV RL 74 RX0 yX0_plan wsX0_plan) := goodIn_app (goodIn_of _ (by decide +kernel)) ggL_arePlans_X0_plan
set_option maxRecDepth 20000 in
theorem ggL_arePlans_L_plan : GoodIn wsL_arePlans wsL_plan := goodIn_r _ [128, 129, 1, 2, 3, 4, 5, 6, 7, 8, 9, 10, 11, 12, 13, 14, 15, 16, 17, 18, 19, 20, 21, 22, 23, 24, 25, 26, 27, 28, 29, 30, 31, 32, 130, 131, 132] (by decide +kernel) (by decide +kernel)
set_option maxRecDepth 20000 in
theorem gL_arePlans_L_plan : GoodIn wsL_arePlans (va_wsS RL 77 yL_plan wsL_plan) := goodIn_app (goodIn_of _ (by decide +kernel)) ggL_arePlans_L_plan
set_option maxRecDepth 20000 in
theorem ggL_arePlans_X0_firstUnsafe : GoodIn wsL_arePlans wsX0_firstUnsafe := goodIn_ca (goodIn_r _ [136, 46, 47, 36, 48, 49, 50, 55, 56, 57, 58, 59, 60, 61, 62, 63, 64, 65, 66, 67, 68, 69, 70, 71, 72, 73, 74, 75, 76, 77, 78, 79, 80, 81, 82, 83, 84, 85, 86, 87, 88, 89, 90, 91, 92, 93, 40, 94, 95, 96, 97, 98, 99, 100, 101, 102, 103, 104, 105, 106, 107, 108, 109, 110, 111, 112, 113, 114, 115, 116, 117, 118, 119, 120, 121, 137, 138, 139, 140, 141, 142, 143, 144, 145, 146, 147, 148, 149, 150, 151] (by decide +kernel) (by decide +kernel)) (goodIn_sub (fun _ h => List.mem_cons_of_mem _ (List.mem_append_right _ h)) (by decide +kernel))
set_option maxRecDepth 20000 in
theorem gL_arePlans_X0_firstUnsafe : GoodIn wsL_arePlans (wsV RL 80 RX0 yX0_firstUnsafe wsX0_firstUnsafe) := goodIn_app (goodIn_of _ (by decide +kernel)) ggL_arePlans_X0_firstUnsafe
theorem dL_arePlans_0 : decode cL_arePlans 0 = .ok (.iload 7, 2) := by decide +kernel
theorem dL_arePlans_2 : decode cL_arePlans 2 = .ok (.bipush 48, 2) := by decide +kernel
theorem dL_arePlans_4 : decode cL_arePlans 4 = .ok (.irem, 1) := by decide +kernel
theorem dL_arePlans_5 : decode cL_arePlans 5 = .ok (.istore 8, 2) := by decide +kernel
theorem dL_arePlans_7 : decode cL_arePlans 7 = .ok (.iload 8, 2) := by decide +kernel
theorem dL_arePlans_9 : decode cL_arePlans 9 = .ok (.iload 7, 2) := by decide +kernel
theorem dL_arePlans_11 : decode cL_arePlans 11 = .ok (.bipush 48, 2) := by decide +kernel
theorem dL_arePlans_13 : decode cL_arePlans 13 = .ok (.idiv, 1) := by decide +kernel
theorem dL_arePlans_14 : decode cL_arePlans 14 = .ok (.bipush 48, 2) := by decide +kernel
theorem dL_arePlans_16 : decode cL_arePlans 16 = .ok (.iload 8, 2) := by decide +kernel
theorem dL_arePlans_18 : decode cL_arePlans 18 = .ok (.isub, 1) := by decide +kernel
theorem dL_arePlans_19 : decode cL_arePlans 19 = .ok (.irem, 1) := by decide +kernel
theorem dL_arePlans_20 : decode cL_arePlans 20 = .ok (.iadd, 1) := by decide +kernel
theorem dL_arePlans_21 : decode cL_arePlans 21 = .ok (.istore 9, 2) := by decide +kernel
theorem dL_arePlans_23 : decode cL_arePlans 23 = .ok (.iconst (-1), 1) := by decide +kernel
theorem dL_arePlans_24 : decode cL_arePlans 24 = .ok (.istore 10, 2) := by decide +kernel
theorem dL_arePlans_26 : decode cL_arePlans 26 = .ok (.bipush 47, 2) := by decide +kernel
theorem dL_arePlans_28 : decode cL_arePlans 28 = .ok (.istore 11, 2) := by decide +kernel
theorem dL_arePlans_30 : decode cL_arePlans 30 = .ok (.iload 11, 2) := by decide +kernel
theorem dL_arePlans_32 : decode cL_arePlans 32 = .ok (.iload 8, 2) := by decide +kernel
theorem dL_arePlans_34 : decode cL_arePlans 34 = .ok (.if_icmp .lt 47, 3) := by decide +kernel
theorem dL_arePlans_37 : decode cL_arePlans 37 = .ok (.aload_n 1, 1) := by decide +kernel
theorem dL_arePlans_38 : decode cL_arePlans 38 = .ok (.aload_n 2, 1) := by decide +kernel
theorem dL_arePlans_39 : decode cL_arePlans 39 = .ok (.aload 6, 2) := by decide +kernel
theorem dL_arePlans_41 : decode cL_arePlans 41 = .ok (.sipush 300, 3) := by decide +kernel
theorem dL_arePlans_44 : decode cL_arePlans 44 = .ok (.aload_n 3, 1) := by decide +kernel
theorem dL_arePlans_45 : decode cL_arePlans 45 = .ok (.iload 11, 2) := by decide +kernel
theorem dL_arePlans_47 : decode cL_arePlans 47 = .ok (.iaload, 1) := by decide +kernel
theorem dL_arePlans_48 : decode cL_arePlans 48 = .ok (.iadd, 1) := by decide +kernel
theorem dL_arePlans_49 : decode cL_arePlans 49 = .ok (.aload 4, 2) := by decide +kernel
theorem dL_arePlans_51 : decode cL_arePlans 51 = .ok (.iload 11, 2) := by decide +kernel
theorem dL_arePlans_53 : decode cL_arePlans 53 = .ok (.iaload, 1) := by decide +kernel
theorem dL_arePlans_54 : decode cL_arePlans 54 = .ok (.iadd, 1) := by decide +kernel
theorem dL_arePlans_55 : decode cL_arePlans 55 = .ok (.aload 5, 2) := by decide +kernel
theorem dL_arePlans_57 : decode cL_arePlans 57 = .ok (.iload 11, 2) := by decide +kernel
theorem dL_arePlans_59 : decode cL_arePlans 59 = .ok (.iaload, 1) := by decide +kernel
theorem dL_arePlans_60 : decode cL_arePlans 60 = .ok (.invokestatic 49, 3) := by decide +kernel
theorem dL_arePlans_63 : decode cL_arePlans 63 = .ok (.ifCond .eq 8, 3) := by decide +kernel
theorem dL_arePlans_66 : decode cL_arePlans 66 = .ok (.iload 10, 2) := by decide +kernel
theorem dL_arePlans_68 : decode cL_arePlans 68 = .ok (.goto 5, 3) := by decide +kernel
theorem dL_arePlans_71 : decode cL_arePlans 71 = .ok (.iload 11, 2) := by decide +kernel
theorem dL_arePlans_73 : decode cL_arePlans 73 = .ok (.istore 10, 2) := by decide +kernel
theorem dL_arePlans_75 : decode cL_arePlans 75 = .ok (.iinc 11 (-1), 3) := by decide +kernel
theorem dL_arePlans_78 : decode cL_arePlans 78 = .ok (.goto (-48), 3) := by decide +kernel
theorem dL_arePlans_81 : decode cL_arePlans 81 = .ok (.aload_n 0, 1) := by decide +kernel
theorem dL_arePlans_82 : decode cL_arePlans 82 = .ok (.iload 8, 2) := by decide +kernel
theorem dL_arePlans_84 : decode cL_arePlans 84 = .ok (.iload 9, 2) := by decide +kernel
theorem dL_arePlans_86 : decode cL_arePlans 86 = .ok (.invokevirtual 74, 3) := by decide +kernel
theorem dL_arePlans_89 : decode cL_arePlans 89 = .ok (.aload_n 1, 1) := by decide +kernel
theorem dL_arePlans_90 : decode cL_arePlans 90 = .ok (.aload_n 2, 1) := by decide +kernel
theorem dL_arePlans_91 : decode cL_arePlans 91 = .ok (.aload_n 3, 1) := by decide +kernel
theorem dL_arePlans_92 : decode cL_arePlans 92 = .ok (.aload 4, 2) := by decide +kernel
theorem dL_arePlans_94 : decode cL_arePlans 94 = .ok (.aload 5, 2) := by decide +kernel
theorem dL_arePlans_96 : decode cL_arePlans 96 = .ok (.aload 6, 2) := by decide +kernel
theorem dL_arePlans_98 : decode cL_arePlans 98 = .ok (.iload 8, 2) := by decide +kernel
theorem dL_arePlans_100 : decode cL_arePlans 100 = .ok (.iload 9, 2) := by decide +kernel
theorem dL_arePlans_102 : decode cL_arePlans 102 = .ok (.invokestatic 77, 3) := by decide +kernel
theorem dL_arePlans_105 : decode cL_arePlans 105 = .ok (.if_icmp .ne 18, 3) := by decide +kernel
theorem dL_arePlans_108 : decode cL_arePlans 108 = .ok (.aload_n 0, 1) := by decide +kernel
theorem dL_arePlans_109 : decode cL_arePlans 109 = .ok (.iload 8, 2) := by decide +kernel
theorem dL_arePlans_111 : decode cL_arePlans 111 = .ok (.invokevirtual 80, 3) := by decide +kernel
theorem dL_arePlans_114 : decode cL_arePlans 114 = .ok (.iload 10, 2) := by decide +kernel
theorem dL_arePlans_116 : decode cL_arePlans 116 = .ok (.if_icmp .ne 7, 3) := by decide +kernel
theorem dL_arePlans_119 : decode cL_arePlans 119 = .ok (.iconst 1, 1) := by decide +kernel
theorem dL_arePlans_120 : decode cL_arePlans 120 = .ok (.goto 4, 3) := by decide +kernel
theorem dL_arePlans_123 : decode cL_arePlans 123 = .ok (.iconst 0, 1) := by decide +kernel
theorem dL_arePlans_124 : decode cL_arePlans 124 = .ok (.ireturn, 1) := by decide +kernel
set_option maxRecDepth 20000 in
theorem ggL_tend_X0_tend : GoodIn wsL_tend wsX0_tend := goodIn_ca (goodIn_ca (goodIn_ca (goodIn_r _ [6, 7, 8, 9, 10, 11, 12, 13, 14, 15, 16, 17, 5, 18, 19, 20, 21, 22, 23, 24, 25, 26, 27, 28, 29, 30, 31, 32, 33, 34, 35, 36, 37, 38, 39, 40, 41, 42, 43, 44, 45, 46, 47, 48, 49, 50, 51, 52, 53, 54, 55, 56, 57, 58, 59, 60, 61, 62, 63, 64, 65, 66, 67, 68, 69, 70, 71, 72, 73, 74, 75, 76, 77, 78, 79, 80, 81] (by decide +kernel) (by decide +kernel)) (goodIn_sub (fun _ h => List.mem_cons_of_mem _ (List.mem_append_left _ (List.mem_append_left _ (List.mem_append_right _ h)))) (by decide +kernel))) (goodIn_sub (fun _ h => List.mem_cons_of_mem _ (List.mem_append_left _ (List.mem_append_right _ h))) (by decide +kernel))) (goodIn_sub (fun _ h => List.mem_cons_of_mem _ (List.mem_append_right _ h)) (by decide +kernel))
set_option maxRecDepth 20000 in
theorem gL_tend_X0_tend : GoodIn wsL_tend (wsV RL 83 RX0 yX0_tend wsX0_tend) := goodIn_app (goodIn_of _ (by decide +kernel)) ggL_tend_X0_tend
theorem dL_tend_0 : decode cL_tend 0 = .ok (.aload_n 0, 1) := by decide +kernel
theorem dL_tend_1 : decode cL_tend 1 = .ok (.iload_n 1, 1) := by decide +kernel
theorem dL_tend_2 : decode cL_tend 2 = .ok (.iload_n 2, 1) := by decide +kernel
theorem dL_tend_3 : decode cL_tend 3 = .ok (.iload_n 3, 1) := by decide +kernel
theorem dL_tend_4 : decode cL_tend 4 = .ok (.invokevirtual 83, 3) := by decide +kernel
theorem dL_tend_7 : decode cL_tend 7 = .ok (.ireturn, 1) := by decide +kernel
theorem dL_tend_8 : decode cL_tend 8 = .ok (.astore 4, 2) := by decide +kernel
theorem dL_tend_10 : decode cL_tend 10 = .ok (.bipush (-5), 2) := by decide +kernel
theorem dL_tend_12 : decode cL_tend 12 = .ok (.ireturn, 1) := by decide +kernel
set_option maxRecDepth 20000 in
theorem ggL_acts_X0_addBollard : GoodIn wsL_acts wsX0_addBollard := goodIn_ca (goodIn_ca (goodIn_r _ [9, 10, 11, 12, 13, 14, 15, 16, 17, 8, 18, 19, 20, 146, 147, 148, 149, 150, 151, 152, 153, 154, 155, 156, 157, 158, 159, 160] (by decide +kernel) (by decide +kernel)) (goodIn_sub (fun _ h => List.mem_cons_of_mem _ (List.mem_append_left _ (List.mem_append_left _ (List.mem_append_right _ h)))) (by decide +kernel))) (goodIn_sub (fun _ h => List.mem_cons_of_mem _ (List.mem_append_left _ (List.mem_append_right _ h))) (by decide +kernel))
set_option maxRecDepth 20000 in
theorem gL_acts_X0_addBollard : GoodIn wsL_acts (wsV RL 90 RX0 yX0_addBollard wsX0_addBollard) := goodIn_app (goodIn_of _ (by decide +kernel)) ggL_acts_X0_addBollard
set_option maxRecDepth 20000 in
theorem ggL_acts_L_length : GoodIn wsL_acts wsL_length := goodIn_r _ [24, 25, 26, 23, 27, 28, 29, 30, 31, 32] (by decide +kernel) (by decide +kernel)
set_option maxRecDepth 20000 in
theorem gL_acts_L_length : GoodIn wsL_acts (va_wsS RL 23 yL_length wsL_length) := goodIn_app (goodIn_of _ (by decide +kernel)) ggL_acts_L_length
set_option maxRecDepth 20000 in
theorem ggL_acts_X0_addLine : GoodIn wsL_acts wsX0_addLine := goodIn_ca (goodIn_ca (goodIn_ca (goodIn_r _ [36, 10, 11, 12, 37, 14, 38, 39, 40, 41, 42, 43, 44, 45, 46, 8, 47, 48, 49, 13, 16, 17, 18, 19, 20, 50, 51, 52, 146, 147, 148, 149, 150, 151, 152, 153, 154, 155, 156, 157, 158, 159, 160] (by decide +kernel) (by decide +kernel)) (goodIn_sub (fun _ h => List.mem_cons_of_mem _ (List.mem_append_left _ (List.mem_append_left _ (List.mem_append_right _ h)))) (by decide +kernel))) (goodIn_sub (fun _ h => List.mem_cons_of_mem _ (List.mem_append_right _ h)) (by decide +kernel))) (goodIn_sub (fun _ h => List.mem_cons_of_mem _ (List.mem_append_left _ (List.mem_append_right _ h))) (by decide +kernel))
set_option maxRecDepth 20000 in
theorem gL_acts_X0_addLine : GoodIn wsL_acts (wsV RL 94 RX0 yX0_addLine wsX0_addLine) := goodIn_app (goodIn_of _ (by decide +kernel)) ggL_acts_X0_addLine
set_option maxRecDepth 20000 in
theorem ggL_acts_X0_setTide : GoodIn wsL_acts wsX0_setTide := goodIn_ca (goodIn_ca (goodIn_r _ [56, 57, 58, 59, 8, 60, 48, 49, 16, 17, 18, 19, 20, 146, 147, 148, 149, 150, 151, 152, 153, 154, 155, 156, 157, 158, 159, 160] (by decide +kernel) (by decide +kernel)) (goodIn_sub (fun _ h => List.mem_cons_of_mem _ (List.mem_append_right _ h)) (by decide +kernel))) (goodIn_sub (fun _ h => List.mem_cons_of_mem _ (List.mem_append_left _ (List.mem_append_right _ h))) (by decide +kernel))
set_option maxRecDepth 20000 in
theorem gL_acts_X0_setTide : GoodIn wsL_acts (wsV RL 98 RX0 yX0_setTide wsX0_setTide) := goodIn_app (goodIn_of _ (by decide +kernel)) ggL_acts_X0_setTide
set_option maxRecDepth 20000 in
theorem ggL_acts_X0_setLoad : GoodIn wsL_acts wsX0_setLoad := goodIn_ca (goodIn_ca (goodIn_r _ [64, 65, 58, 59, 8, 60, 48, 49, 16, 17, 18, 19, 20, 146, 147, 148, 149, 150, 151, 152, 153, 154, 155, 156, 157, 158, 159, 160] (by decide +kernel) (by decide +kernel)) (goodIn_sub (fun _ h => List.mem_cons_of_mem _ (List.mem_append_right _ h)) (by decide +kernel))) (goodIn_sub (fun _ h => List.mem_cons_of_mem _ (List.mem_append_left _ (List.mem_append_right _ h))) (by decide +kernel))
set_option maxRecDepth 20000 in
theorem gL_acts_X0_setLoad : GoodIn wsL_acts (wsV RL 101 RX0 yX0_setLoad wsX0_setLoad) := goodIn_app (goodIn_of _ (by decide +kernel)) ggL_acts_X0_setLoad
set_option maxRecDepth 20000 in
theorem ggL_acts_X0_setWind : GoodIn wsL_acts wsX0_setWind := goodIn_ca (goodIn_r _ [69, 70, 12, 71, 16, 17, 8, 18, 19, 20, 146, 147, 148, 149, 150, 151, 152, 153, 154, 155, 156, 157, 158, 159, 160] (by decide +kernel) (by decide +kernel)) (goodIn_sub (fun _ h => List.mem_cons_of_mem _ (List.mem_append_left _ (List.mem_append_right _ h))) (by decide +kernel))
set_option maxRecDepth 20000 in
theorem gL_acts_X0_setWind : GoodIn wsL_acts (wsV RL 106 RX0 yX0_setWind wsX0_setWind) := goodIn_app (goodIn_of _ (by decide +kernel)) ggL_acts_X0_setWind
set_option maxRecDepth 20000 in
theorem ggL_acts_X0_setPassing : GoodIn wsL_acts wsX0_setPassing := goodIn_ca (goodIn_ca (goodIn_r _ [75, 70, 12, 76, 58, 59, 8, 60, 48, 49, 16, 17, 18, 19, 20, 146, 147, 148, 149, 150, 151, 152, 153, 154, 155, 156, 157, 158, 159, 160] (by decide +kernel) (by decide +kernel)) (goodIn_sub (fun _ h => List.mem_cons_of_mem _ (List.mem_append_right _ h)) (by decide +kernel))) (goodIn_sub (fun _ h => List.mem_cons_of_mem _ (List.mem_append_left _ (List.mem_append_right _ h))) (by decide +kernel))
set_option maxRecDepth 20000 in
theorem gL_acts_X0_setPassing : GoodIn wsL_acts (wsV RL 109 RX0 yX0_setPassing wsX0_setPassing) := goodIn_app (goodIn_of _ (by decide +kernel)) ggL_acts_X0_setPassing
set_option maxRecDepth 20000 in
theorem ggL_acts_X0_tendAll : GoodIn wsL_acts wsX0_tendAll := goodIn_ca (goodIn_r _ [80, 58, 59, 8, 60, 48, 49, 81, 82, 83, 84, 37, 43, 42, 85, 86, 87, 88, 89, 90, 91, 92, 93, 94, 95, 96, 71, 76, 97, 98, 99, 100, 39, 101, 102, 103, 104, 57, 65, 50, 51, 52, 105, 106, 107, 108, 40, 109, 110, 111, 112, 113, 114, 115, 116, 146, 147, 148, 149, 150, 151, 152, 153, 154, 155, 156, 157, 158, 159, 160] (by decide +kernel) (by decide +kernel)) (goodIn_sub (fun _ h => List.mem_cons_of_mem _ (List.mem_append_right _ h)) (by decide +kernel))
set_option maxRecDepth 20000 in
theorem gL_acts_X0_tendAll : GoodIn wsL_acts (wsV RL 112 RX0 yX0_tendAll wsX0_tendAll) := goodIn_app (goodIn_of _ (by decide +kernel)) ggL_acts_X0_tendAll
end
section
set_option maxRecDepth 20000 in
theorem ggL_acts_L_tended : GoodIn wsL_acts wsL_tended := goodIn_r _ [119, 120, 121, 122, 23, 123, 124, 125, 126, 21, 22, 24, 25, 26, 27, 28, 29, 30, 31, 32, 127, 128, 129] (by decide +kernel) (by decide +kernel)
set_option maxRecDepth 20000 in
theorem gL_acts_L_tended : GoodIn wsL_acts (va_wsS RL 52 yL_tended wsL_tended) := goodIn_app (goodIn_of _ (by decide +kernel)) ggL_acts_L_tended
set_option maxRecDepth 20000 in
theorem ggL_acts_X0_toggle : GoodIn wsL_acts wsX0_toggle := goodIn_ca (goodIn_r _ [133, 43, 134, 135, 136, 8, 137, 48, 49, 37, 146, 147, 148, 149, 150, 151, 152, 153, 154, 155, 156, 157, 158, 159, 160] (by decide +kernel) (by decide +kernel)) (goodIn_sub (fun _ h => List.mem_cons_of_mem _ (List.mem_append_right _ h)) (by decide +kernel))
set_option maxRecDepth 20000 in
theorem gL_acts_X0_toggle : GoodIn wsL_acts (wsV RL 115 RX0 yX0_toggle wsX0_toggle) := goodIn_app (goodIn_of _ (by decide +kernel)) ggL_acts_X0_toggle
set_option maxRecDepth 20000 in
theorem ggL_acts_L_shift : GoodIn wsL_acts wsL_shift := goodIn_r _ [123, 124, 125, 23, 126, 21, 22, 24, 25, 26, 27, 28, 29, 30, 31, 32, 127, 128, 129] (by decide +kernel) (by decide +kernel)
set_option maxRecDepth 20000 in
theorem gL_acts_L_shift : GoodIn wsL_acts (va_wsS RL 34 yL_shift wsL_shift) := goodIn_app (goodIn_of _ (by decide +kernel)) ggL_acts_L_shift
set_option maxRecDepth 20000 in
theorem ggL_acts_L_tend : GoodIn wsL_acts wsL_tend := goodIn_ca (goodIn_ca (goodIn_ca (goodIn_r _ [140, 141, 142, 143, 144, 8, 145, 10, 11, 43, 42, 109, 110, 111, 112, 134, 135, 136, 137, 48, 49, 37, 58, 59, 60, 16, 17, 18, 19, 20, 85, 86, 87, 88, 89, 90, 91, 92, 93, 94, 95, 96, 71, 76, 97, 98, 99, 100, 39, 101, 102, 103, 104, 57, 65, 50, 51, 52, 105, 106, 107, 108, 40, 113, 114, 115, 116, 146, 147, 148, 149, 150, 151, 152, 153, 154, 155, 156, 157, 158, 159, 160] (by decide +kernel) (by decide +kernel)) (goodIn_sub (fun _ h => List.mem_cons_of_mem _ (List.mem_append_left _ (List.mem_append_left _ (List.mem_append_right _ h)))) (by decide +kernel))) (goodIn_sub (fun _ h => List.mem_cons_of_mem _ (List.mem_append_right _ h)) (by decide +kernel))) (goodIn_sub (fun _ h => List.mem_cons_of_mem _ (List.mem_append_left _ (List.mem_append_right _ h))) (by decide +kernel))
set_option maxRecDepth 20000 in
theorem gL_acts_L_tend : GoodIn wsL_acts (va_wsS RL 118 yL_tend wsL_tend) := goodIn_app (goodIn_of _ (by decide +kernel)) ggL_acts_L_tend
theorem dL_acts_0 : decode cL_acts 0 = .ok (.iload 8, 2) := by decide +kernel
theorem dL_acts_2 : decode cL_acts 2 = .ok (.iconst 3, 1) := by decide +kernel
theorem dL_acts_3 : decode cL_acts 3 = .ok (.irem, 1) := by decide +kernel
theorem dL_acts_4 : decode cL_acts 4 = .ok (.ifCond .ne 13, 3) := by decide +kernel
theorem dL_acts_7 : decode cL_acts 7 = .ok (.iload 8, 2) := by decide +kernel
theorem dL_acts_9 : decode cL_acts 9 = .ok (.iconst 3, 1) := by decide +kernel
theorem dL_acts_10 : decode cL_acts 10 = .ok (.idiv, 1) := by decide +kernel
theorem dL_acts_11 : decode cL_acts 11 = .ok (.bipush 48, 2) := by decide +kernel
theorem dL_acts_13 : decode cL_acts 13 = .ok (.irem, 1) := by decide +kernel
theorem dL_acts_14 : decode cL_acts 14 = .ok (.goto 9, 3) := by decide +kernel
theorem dL_acts_17 : decode cL_acts 17 = .ok (.iload 8, 2) := by decide +kernel
theorem dL_acts_19 : decode cL_acts 19 = .ok (.iconst 3, 1) := by decide +kernel
theorem dL_acts_20 : decode cL_acts 20 = .ok (.idiv, 1) := by decide +kernel
theorem dL_acts_21 : decode cL_acts 21 = .ok (.iconst 4, 1) := by decide +kernel
theorem dL_acts_22 : decode cL_acts 22 = .ok (.irem, 1) := by decide +kernel
theorem dL_acts_23 : decode cL_acts 23 = .ok (.istore 9, 2) := by decide +kernel
theorem dL_acts_25 : decode cL_acts 25 = .ok (.iload 7, 2) := by decide +kernel
theorem dL_acts_27 : decode cL_acts 27 = .ok (.ifCond .ne 109, 3) := by decide +kernel
theorem dL_acts_30 : decode cL_acts 30 = .ok (.aload 6, 2) := by decide +kernel
theorem dL_acts_32 : decode cL_acts 32 = .ok (.iconst 0, 1) := by decide +kernel
theorem dL_acts_33 : decode cL_acts 33 = .ok (.iaload, 1) := by decide +kernel
theorem dL_acts_34 : decode cL_acts 34 = .ok (.iconst 4, 1) := by decide +kernel
theorem dL_acts_35 : decode cL_acts 35 = .ok (.if_icmp .ge 101, 3) := by decide +kernel
theorem dL_acts_38 : decode cL_acts 38 = .ok (.aload_n 1, 1) := by decide +kernel
theorem dL_acts_39 : decode cL_acts 39 = .ok (.iconst 2, 1) := by decide +kernel
theorem dL_acts_40 : decode cL_acts 40 = .ok (.aload 6, 2) := by decide +kernel
theorem dL_acts_42 : decode cL_acts 42 = .ok (.iconst 0, 1) := by decide +kernel
theorem dL_acts_43 : decode cL_acts 43 = .ok (.iaload, 1) := by decide +kernel
theorem dL_acts_44 : decode cL_acts 44 = .ok (.imul, 1) := by decide +kernel
theorem dL_acts_45 : decode cL_acts 45 = .ok (.iload 8, 2) := by decide +kernel
theorem dL_acts_47 : decode cL_acts 47 = .ok (.sipush 6001, 3) := by decide +kernel
theorem dL_acts_50 : decode cL_acts 50 = .ok (.irem, 1) := by decide +kernel
theorem dL_acts_51 : decode cL_acts 51 = .ok (.sipush 3000, 3) := by decide +kernel
theorem dL_acts_54 : decode cL_acts 54 = .ok (.isub, 1) := by decide +kernel
theorem dL_acts_55 : decode cL_acts 55 = .ok (.iastore, 1) := by decide +kernel
theorem dL_acts_56 : decode cL_acts 56 = .ok (.aload_n 1, 1) := by decide +kernel
theorem dL_acts_57 : decode cL_acts 57 = .ok (.iconst 2, 1) := by decide +kernel
theorem dL_acts_58 : decode cL_acts 58 = .ok (.aload 6, 2) := by decide +kernel
theorem dL_acts_60 : decode cL_acts 60 = .ok (.iconst 0, 1) := by decide +kernel
theorem dL_acts_61 : decode cL_acts 61 = .ok (.iaload, 1) := by decide +kernel
theorem dL_acts_62 : decode cL_acts 62 = .ok (.imul, 1) := by decide +kernel
theorem dL_acts_63 : decode cL_acts 63 = .ok (.iconst 1, 1) := by decide +kernel
theorem dL_acts_64 : decode cL_acts 64 = .ok (.iadd, 1) := by decide +kernel
theorem dL_acts_65 : decode cL_acts 65 = .ok (.iconst 1, 1) := by decide +kernel
theorem dL_acts_66 : decode cL_acts 66 = .ok (.iload 8, 2) := by decide +kernel
theorem dL_acts_68 : decode cL_acts 68 = .ok (.bipush 7, 2) := by decide +kernel
theorem dL_acts_70 : decode cL_acts 70 = .ok (.idiv, 1) := by decide +kernel
theorem dL_acts_71 : decode cL_acts 71 = .ok (.iload 8, 2) := by decide +kernel
theorem dL_acts_73 : decode cL_acts 73 = .ok (.iconst 5, 1) := by decide +kernel
theorem dL_acts_74 : decode cL_acts 74 = .ok (.irem, 1) := by decide +kernel
theorem dL_acts_75 : decode cL_acts 75 = .ok (.ifCond .ne 9, 3) := by decide +kernel
theorem dL_acts_78 : decode cL_acts 78 = .ok (.sipush 900, 3) := by decide +kernel
theorem dL_acts_81 : decode cL_acts 81 = .ok (.goto 5, 3) := by decide +kernel
theorem dL_acts_84 : decode cL_acts 84 = .ok (.ldc 89, 2) := by decide +kernel
theorem dL_acts_86 : decode cL_acts 86 = .ok (.irem, 1) := by decide +kernel
theorem dL_acts_87 : decode cL_acts 87 = .ok (.iadd, 1) := by decide +kernel
theorem dL_acts_88 : decode cL_acts 88 = .ok (.iastore, 1) := by decide +kernel
theorem dL_acts_89 : decode cL_acts 89 = .ok (.aload 6, 2) := by decide +kernel
theorem dL_acts_91 : decode cL_acts 91 = .ok (.iconst 0, 1) := by decide +kernel
theorem dL_acts_92 : decode cL_acts 92 = .ok (.dup2, 1) := by decide +kernel
theorem dL_acts_93 : decode cL_acts 93 = .ok (.iaload, 1) := by decide +kernel
theorem dL_acts_94 : decode cL_acts 94 = .ok (.iconst 1, 1) := by decide +kernel
theorem dL_acts_95 : decode cL_acts 95 = .ok (.iadd, 1) := by decide +kernel
theorem dL_acts_96 : decode cL_acts 96 = .ok (.iastore, 1) := by decide +kernel
theorem dL_acts_97 : decode cL_acts 97 = .ok (.aload_n 0, 1) := by decide +kernel
theorem dL_acts_98 : decode cL_acts 98 = .ok (.aload_n 1, 1) := by decide +kernel
theorem dL_acts_99 : decode cL_acts 99 = .ok (.iconst 2, 1) := by decide +kernel
theorem dL_acts_100 : decode cL_acts 100 = .ok (.aload 6, 2) := by decide +kernel
theorem dL_acts_102 : decode cL_acts 102 = .ok (.iconst 0, 1) := by decide +kernel
theorem dL_acts_103 : decode cL_acts 103 = .ok (.iaload, 1) := by decide +kernel
theorem dL_acts_104 : decode cL_acts 104 = .ok (.imul, 1) := by decide +kernel
theorem dL_acts_105 : decode cL_acts 105 = .ok (.iconst 2, 1) := by decide +kernel
theorem dL_acts_106 : decode cL_acts 106 = .ok (.isub, 1) := by decide +kernel
theorem dL_acts_107 : decode cL_acts 107 = .ok (.iaload, 1) := by decide +kernel
theorem dL_acts_108 : decode cL_acts 108 = .ok (.aload_n 1, 1) := by decide +kernel
theorem dL_acts_109 : decode cL_acts 109 = .ok (.iconst 2, 1) := by decide +kernel
theorem dL_acts_110 : decode cL_acts 110 = .ok (.aload 6, 2) := by decide +kernel
theorem dL_acts_112 : decode cL_acts 112 = .ok (.iconst 0, 1) := by decide +kernel
theorem dL_acts_113 : decode cL_acts 113 = .ok (.iaload, 1) := by decide +kernel
theorem dL_acts_114 : decode cL_acts 114 = .ok (.imul, 1) := by decide +kernel
theorem dL_acts_115 : decode cL_acts 115 = .ok (.iconst 1, 1) := by decide +kernel
theorem dL_acts_116 : decode cL_acts 116 = .ok (.isub, 1) := by decide +kernel
theorem dL_acts_117 : decode cL_acts 117 = .ok (.iaload, 1) := by decide +kernel
theorem dL_acts_118 : decode cL_acts 118 = .ok (.invokevirtual 90, 3) := by decide +kernel
theorem dL_acts_121 : decode cL_acts 121 = .ok (.aload 6, 2) := by decide +kernel
theorem dL_acts_123 : decode cL_acts 123 = .ok (.iconst 0, 1) := by decide +kernel
theorem dL_acts_124 : decode cL_acts 124 = .ok (.iaload, 1) := by decide +kernel
theorem dL_acts_125 : decode cL_acts 125 = .ok (.iconst 1, 1) := by decide +kernel
theorem dL_acts_126 : decode cL_acts 126 = .ok (.isub, 1) := by decide +kernel
theorem dL_acts_127 : decode cL_acts 127 = .ok (.if_icmp .ne 7, 3) := by decide +kernel
theorem dL_acts_130 : decode cL_acts 130 = .ok (.iconst 1, 1) := by decide +kernel
theorem dL_acts_131 : decode cL_acts 131 = .ok (.goto 4, 3) := by decide +kernel
theorem dL_acts_134 : decode cL_acts 134 = .ok (.iconst 0, 1) := by decide +kernel
theorem dL_acts_135 : decode cL_acts 135 = .ok (.ireturn, 1) := by decide +kernel
theorem dL_acts_136 : decode cL_acts 136 = .ok (.iload 7, 2) := by decide +kernel
theorem dL_acts_138 : decode cL_acts 138 = .ok (.iconst 3, 1) := by decide +kernel
theorem dL_acts_139 : decode cL_acts 139 = .ok (.if_icmp .ge 171, 3) := by decide +kernel
theorem dL_acts_142 : decode cL_acts 142 = .ok (.aload 6, 2) := by decide +kernel
theorem dL_acts_144 : decode cL_acts 144 = .ok (.iconst 1, 1) := by decide +kernel
theorem dL_acts_145 : decode cL_acts 145 = .ok (.iaload, 1) := by decide +kernel
theorem dL_acts_146 : decode cL_acts 146 = .ok (.bipush 6, 2) := by decide +kernel
theorem dL_acts_148 : decode cL_acts 148 = .ok (.if_icmp .ge 162, 3) := by decide +kernel
theorem dL_acts_151 : decode cL_acts 151 = .ok (.bipush 6, 2) := by decide +kernel
theorem dL_acts_153 : decode cL_acts 153 = .ok (.aload 6, 2) := by decide +kernel
theorem dL_acts_155 : decode cL_acts 155 = .ok (.iconst 1, 1) := by decide +kernel
theorem dL_acts_156 : decode cL_acts 156 = .ok (.iaload, 1) := by decide +kernel
theorem dL_acts_157 : decode cL_acts 157 = .ok (.imul, 1) := by decide +kernel
theorem dL_acts_158 : decode cL_acts 158 = .ok (.istore 10, 2) := by decide +kernel
theorem dL_acts_160 : decode cL_acts 160 = .ok (.aload_n 2, 1) := by decide +kernel
theorem dL_acts_161 : decode cL_acts 161 = .ok (.iload 10, 2) := by decide +kernel
theorem dL_acts_163 : decode cL_acts 163 = .ok (.iload 8, 2) := by decide +kernel
theorem dL_acts_165 : decode cL_acts 165 = .ok (.sipush 4001, 3) := by decide +kernel
theorem dL_acts_168 : decode cL_acts 168 = .ok (.irem, 1) := by decide +kernel
theorem dL_acts_169 : decode cL_acts 169 = .ok (.sipush 2000, 3) := by decide +kernel
theorem dL_acts_172 : decode cL_acts 172 = .ok (.isub, 1) := by decide +kernel
theorem dL_acts_173 : decode cL_acts 173 = .ok (.iastore, 1) := by decide +kernel
theorem dL_acts_174 : decode cL_acts 174 = .ok (.aload_n 2, 1) := by decide +kernel
theorem dL_acts_175 : decode cL_acts 175 = .ok (.iload 10, 2) := by decide +kernel
theorem dL_acts_177 : decode cL_acts 177 = .ok (.iconst 1, 1) := by decide +kernel
theorem dL_acts_178 : decode cL_acts 178 = .ok (.iadd, 1) := by decide +kernel
theorem dL_acts_179 : decode cL_acts 179 = .ok (.iload 8, 2) := by decide +kernel
theorem dL_acts_181 : decode cL_acts 181 = .ok (.bipush 11, 2) := by decide +kernel
theorem dL_acts_183 : decode cL_acts 183 = .ok (.idiv, 1) := by decide +kernel
theorem dL_acts_184 : decode cL_acts 184 = .ok (.aload 6, 2) := by decide +kernel
theorem dL_acts_186 : decode cL_acts 186 = .ok (.iconst 0, 1) := by decide +kernel
theorem dL_acts_187 : decode cL_acts 187 = .ok (.iaload, 1) := by decide +kernel
theorem dL_acts_188 : decode cL_acts 188 = .ok (.irem, 1) := by decide +kernel
theorem dL_acts_189 : decode cL_acts 189 = .ok (.iastore, 1) := by decide +kernel
theorem dL_acts_190 : decode cL_acts 190 = .ok (.aload_n 2, 1) := by decide +kernel
theorem dL_acts_191 : decode cL_acts 191 = .ok (.iload 10, 2) := by decide +kernel
theorem dL_acts_193 : decode cL_acts 193 = .ok (.iconst 2, 1) := by decide +kernel
theorem dL_acts_194 : decode cL_acts 194 = .ok (.iadd, 1) := by decide +kernel
theorem dL_acts_195 : decode cL_acts 195 = .ok (.iconst 1, 1) := by decide +kernel
theorem dL_acts_196 : decode cL_acts 196 = .ok (.iload 8, 2) := by decide +kernel
theorem dL_acts_198 : decode cL_acts 198 = .ok (.bipush 44, 2) := by decide +kernel
theorem dL_acts_200 : decode cL_acts 200 = .ok (.idiv, 1) := by decide +kernel
theorem dL_acts_201 : decode cL_acts 201 = .ok (.bipush 100, 2) := by decide +kernel
theorem dL_acts_203 : decode cL_acts 203 = .ok (.irem, 1) := by decide +kernel
theorem dL_acts_204 : decode cL_acts 204 = .ok (.iadd, 1) := by decide +kernel
theorem dL_acts_205 : decode cL_acts 205 = .ok (.iastore, 1) := by decide +kernel
theorem dL_acts_206 : decode cL_acts 206 = .ok (.aload_n 2, 1) := by decide +kernel
theorem dL_acts_207 : decode cL_acts 207 = .ok (.iload 10, 2) := by decide +kernel
theorem dL_acts_209 : decode cL_acts 209 = .ok (.iconst 3, 1) := by decide +kernel
theorem dL_acts_210 : decode cL_acts 210 = .ok (.iadd, 1) := by decide +kernel
theorem dL_acts_211 : decode cL_acts 211 = .ok (.iconst 1, 1) := by decide +kernel
theorem dL_acts_212 : decode cL_acts 212 = .ok (.iload 8, 2) := by decide +kernel
theorem dL_acts_214 : decode cL_acts 214 = .ok (.bipush 13, 2) := by decide +kernel
theorem dL_acts_216 : decode cL_acts 216 = .ok (.idiv, 1) := by decide +kernel
theorem dL_acts_217 : decode cL_acts 217 = .ok (.iload 8, 2) := by decide +kernel
theorem dL_acts_219 : decode cL_acts 219 = .ok (.iconst 4, 1) := by decide +kernel
theorem dL_acts_220 : decode cL_acts 220 = .ok (.irem, 1) := by decide +kernel
theorem dL_acts_221 : decode cL_acts 221 = .ok (.ifCond .ne 9, 3) := by decide +kernel
theorem dL_acts_224 : decode cL_acts 224 = .ok (.sipush 2000, 3) := by decide +kernel
theorem dL_acts_227 : decode cL_acts 227 = .ok (.goto 5, 3) := by decide +kernel
theorem dL_acts_230 : decode cL_acts 230 = .ok (.ldc 93, 2) := by decide +kernel
theorem dL_acts_232 : decode cL_acts 232 = .ok (.irem, 1) := by decide +kernel
theorem dL_acts_233 : decode cL_acts 233 = .ok (.iadd, 1) := by decide +kernel
theorem dL_acts_234 : decode cL_acts 234 = .ok (.iastore, 1) := by decide +kernel
theorem dL_acts_235 : decode cL_acts 235 = .ok (.aload_n 2, 1) := by decide +kernel
theorem dL_acts_236 : decode cL_acts 236 = .ok (.iload 10, 2) := by decide +kernel
theorem dL_acts_238 : decode cL_acts 238 = .ok (.iconst 4, 1) := by decide +kernel
theorem dL_acts_239 : decode cL_acts 239 = .ok (.iadd, 1) := by decide +kernel
theorem dL_acts_240 : decode cL_acts 240 = .ok (.aload_n 1, 1) := by decide +kernel
theorem dL_acts_241 : decode cL_acts 241 = .ok (.aload_n 2, 1) := by decide +kernel
theorem dL_acts_242 : decode cL_acts 242 = .ok (.aload 6, 2) := by decide +kernel
theorem dL_acts_244 : decode cL_acts 244 = .ok (.iconst 1, 1) := by decide +kernel
theorem dL_acts_245 : decode cL_acts 245 = .ok (.iaload, 1) := by decide +kernel
theorem dL_acts_246 : decode cL_acts 246 = .ok (.sipush 300, 3) := by decide +kernel
theorem dL_acts_249 : decode cL_acts 249 = .ok (.iconst 0, 1) := by decide +kernel
theorem dL_acts_250 : decode cL_acts 250 = .ok (.invokestatic 23, 3) := by decide +kernel
theorem dL_acts_253 : decode cL_acts 253 = .ok (.iastore, 1) := by decide +kernel
theorem dL_acts_254 : decode cL_acts 254 = .ok (.aload_n 2, 1) := by decide +kernel
theorem dL_acts_255 : decode cL_acts 255 = .ok (.iload 10, 2) := by decide +kernel
theorem dL_acts_257 : decode cL_acts 257 = .ok (.iconst 5, 1) := by decide +kernel
theorem dL_acts_258 : decode cL_acts 258 = .ok (.iadd, 1) := by decide +kernel
theorem dL_acts_259 : decode cL_acts 259 = .ok (.iconst 0, 1) := by decide +kernel
theorem dL_acts_260 : decode cL_acts 260 = .ok (.iastore, 1) := by decide +kernel
theorem dL_acts_261 : decode cL_acts 261 = .ok (.aload 6, 2) := by decide +kernel
theorem dL_acts_263 : decode cL_acts 263 = .ok (.iconst 1, 1) := by decide +kernel
theorem dL_acts_264 : decode cL_acts 264 = .ok (.dup2, 1) := by decide +kernel
theorem dL_acts_265 : decode cL_acts 265 = .ok (.iaload, 1) := by decide +kernel
theorem dL_acts_266 : decode cL_acts 266 = .ok (.iconst 1, 1) := by decide +kernel
theorem dL_acts_267 : decode cL_acts 267 = .ok (.iadd, 1) := by decide +kernel
theorem dL_acts_268 : decode cL_acts 268 = .ok (.iastore, 1) := by decide +kernel
theorem dL_acts_269 : decode cL_acts 269 = .ok (.aload_n 0, 1) := by decide +kernel
theorem dL_acts_270 : decode cL_acts 270 = .ok (.aload_n 2, 1) := by decide +kernel
theorem dL_acts_271 : decode cL_acts 271 = .ok (.iload 10, 2) := by decide +kernel
theorem dL_acts_273 : decode cL_acts 273 = .ok (.iaload, 1) := by decide +kernel
theorem dL_acts_274 : decode cL_acts 274 = .ok (.aload_n 2, 1) := by decide +kernel
theorem dL_acts_275 : decode cL_acts 275 = .ok (.iload 10, 2) := by decide +kernel
theorem dL_acts_277 : decode cL_acts 277 = .ok (.iconst 1, 1) := by decide +kernel
theorem dL_acts_278 : decode cL_acts 278 = .ok (.iadd, 1) := by decide +kernel
theorem dL_acts_279 : decode cL_acts 279 = .ok (.iaload, 1) := by decide +kernel
theorem dL_acts_280 : decode cL_acts 280 = .ok (.aload_n 2, 1) := by decide +kernel
theorem dL_acts_281 : decode cL_acts 281 = .ok (.iload 10, 2) := by decide +kernel
theorem dL_acts_283 : decode cL_acts 283 = .ok (.iconst 2, 1) := by decide +kernel
theorem dL_acts_284 : decode cL_acts 284 = .ok (.iadd, 1) := by decide +kernel
theorem dL_acts_285 : decode cL_acts 285 = .ok (.iaload, 1) := by decide +kernel
theorem dL_acts_286 : decode cL_acts 286 = .ok (.aload_n 2, 1) := by decide +kernel
theorem dL_acts_287 : decode cL_acts 287 = .ok (.iload 10, 2) := by decide +kernel
theorem dL_acts_289 : decode cL_acts 289 = .ok (.iconst 3, 1) := by decide +kernel
theorem dL_acts_290 : decode cL_acts 290 = .ok (.iadd, 1) := by decide +kernel
theorem dL_acts_291 : decode cL_acts 291 = .ok (.iaload, 1) := by decide +kernel
theorem dL_acts_292 : decode cL_acts 292 = .ok (.invokevirtual 94, 3) := by decide +kernel
theorem dL_acts_295 : decode cL_acts 295 = .ok (.aload 6, 2) := by decide +kernel
theorem dL_acts_297 : decode cL_acts 297 = .ok (.iconst 1, 1) := by decide +kernel
theorem dL_acts_298 : decode cL_acts 298 = .ok (.iaload, 1) := by decide +kernel
theorem dL_acts_299 : decode cL_acts 299 = .ok (.iconst 1, 1) := by decide +kernel
theorem dL_acts_300 : decode cL_acts 300 = .ok (.isub, 1) := by decide +kernel
theorem dL_acts_301 : decode cL_acts 301 = .ok (.if_icmp .ne 7, 3) := by decide +kernel
theorem dL_acts_304 : decode cL_acts 304 = .ok (.iconst 1, 1) := by decide +kernel
theorem dL_acts_305 : decode cL_acts 305 = .ok (.goto 4, 3) := by decide +kernel
theorem dL_acts_308 : decode cL_acts 308 = .ok (.iconst 0, 1) := by decide +kernel
theorem dL_acts_309 : decode cL_acts 309 = .ok (.ireturn, 1) := by decide +kernel
theorem dL_acts_310 : decode cL_acts 310 = .ok (.iload 7, 2) := by decide +kernel
theorem dL_acts_312 : decode cL_acts 312 = .ok (.iconst 5, 1) := by decide +kernel
theorem dL_acts_313 : decode cL_acts 313 = .ok (.if_icmp .ge 48, 3) := by decide +kernel
theorem dL_acts_316 : decode cL_acts 316 = .ok (.aload_n 3, 1) := by decide +kernel
theorem dL_acts_317 : decode cL_acts 317 = .ok (.iload 9, 2) := by decide +kernel
theorem dL_acts_319 : decode cL_acts 319 = .ok (.iaload, 1) := by decide +kernel
theorem dL_acts_320 : decode cL_acts 320 = .ok (.istore 10, 2) := by decide +kernel
theorem dL_acts_322 : decode cL_acts 322 = .ok (.aload_n 3, 1) := by decide +kernel
theorem dL_acts_323 : decode cL_acts 323 = .ok (.iload 9, 2) := by decide +kernel
theorem dL_acts_325 : decode cL_acts 325 = .ok (.iload 8, 2) := by decide +kernel
theorem dL_acts_327 : decode cL_acts 327 = .ok (.sipush 150, 3) := by decide +kernel
theorem dL_acts_330 : decode cL_acts 330 = .ok (.idiv, 1) := by decide +kernel
theorem dL_acts_331 : decode cL_acts 331 = .ok (.sipush 401, 3) := by decide +kernel
theorem dL_acts_334 : decode cL_acts 334 = .ok (.irem, 1) := by decide +kernel
theorem dL_acts_335 : decode cL_acts 335 = .ok (.sipush 200, 3) := by decide +kernel
theorem dL_acts_338 : decode cL_acts 338 = .ok (.isub, 1) := by decide +kernel
theorem dL_acts_339 : decode cL_acts 339 = .ok (.iastore, 1) := by decide +kernel
theorem dL_acts_340 : decode cL_acts 340 = .ok (.aload_n 0, 1) := by decide +kernel
theorem dL_acts_341 : decode cL_acts 341 = .ok (.iload 9, 2) := by decide +kernel
theorem dL_acts_343 : decode cL_acts 343 = .ok (.aload_n 3, 1) := by decide +kernel
theorem dL_acts_344 : decode cL_acts 344 = .ok (.iload 9, 2) := by decide +kernel
theorem dL_acts_346 : decode cL_acts 346 = .ok (.iaload, 1) := by decide +kernel
theorem dL_acts_347 : decode cL_acts 347 = .ok (.invokevirtual 98, 3) := by decide +kernel
theorem dL_acts_350 : decode cL_acts 350 = .ok (.iload 10, 2) := by decide +kernel
theorem dL_acts_352 : decode cL_acts 352 = .ok (.if_icmp .ne 7, 3) := by decide +kernel
theorem dL_acts_355 : decode cL_acts 355 = .ok (.iconst 1, 1) := by decide +kernel
theorem dL_acts_356 : decode cL_acts 356 = .ok (.goto 4, 3) := by decide +kernel
theorem dL_acts_359 : decode cL_acts 359 = .ok (.iconst 0, 1) := by decide +kernel
theorem dL_acts_360 : decode cL_acts 360 = .ok (.ireturn, 1) := by decide +kernel
theorem dL_acts_361 : decode cL_acts 361 = .ok (.iload 7, 2) := by decide +kernel
theorem dL_acts_363 : decode cL_acts 363 = .ok (.bipush 7, 2) := by decide +kernel
theorem dL_acts_365 : decode cL_acts 365 = .ok (.if_icmp .ge 69, 3) := by decide +kernel
theorem dL_acts_368 : decode cL_acts 368 = .ok (.aload 4, 2) := by decide +kernel
theorem dL_acts_370 : decode cL_acts 370 = .ok (.iload 9, 2) := by decide +kernel
theorem dL_acts_372 : decode cL_acts 372 = .ok (.iaload, 1) := by decide +kernel
theorem dL_acts_373 : decode cL_acts 373 = .ok (.istore 10, 2) := by decide +kernel
theorem dL_acts_375 : decode cL_acts 375 = .ok (.iload 8, 2) := by decide +kernel
theorem dL_acts_377 : decode cL_acts 377 = .ok (.sipush 150, 3) := by decide +kernel
theorem dL_acts_380 : decode cL_acts 380 = .ok (.idiv, 1) := by decide +kernel
theorem dL_acts_381 : decode cL_acts 381 = .ok (.sipush 401, 3) := by decide +kernel
theorem dL_acts_384 : decode cL_acts 384 = .ok (.irem, 1) := by decide +kernel
theorem dL_acts_385 : decode cL_acts 385 = .ok (.sipush 200, 3) := by decide +kernel
theorem dL_acts_388 : decode cL_acts 388 = .ok (.isub, 1) := by decide +kernel
theorem dL_acts_389 : decode cL_acts 389 = .ok (.istore 11, 2) := by decide +kernel
theorem dL_acts_391 : decode cL_acts 391 = .ok (.iload 9, 2) := by decide +kernel
theorem dL_acts_393 : decode cL_acts 393 = .ok (.istore 12, 2) := by decide +kernel
theorem dL_acts_395 : decode cL_acts 395 = .ok (.iload 12, 2) := by decide +kernel
theorem dL_acts_397 : decode cL_acts 397 = .ok (.bipush 48, 2) := by decide +kernel
theorem dL_acts_399 : decode cL_acts 399 = .ok (.if_icmp .ge 16, 3) := by decide +kernel
theorem dL_acts_402 : decode cL_acts 402 = .ok (.aload 4, 2) := by decide +kernel
theorem dL_acts_404 : decode cL_acts 404 = .ok (.iload 12, 2) := by decide +kernel
theorem dL_acts_406 : decode cL_acts 406 = .ok (.iload 11, 2) := by decide +kernel
theorem dL_acts_408 : decode cL_acts 408 = .ok (.iastore, 1) := by decide +kernel
theorem dL_acts_409 : decode cL_acts 409 = .ok (.iinc 12 1, 3) := by decide +kernel
theorem dL_acts_412 : decode cL_acts 412 = .ok (.goto (-17), 3) := by decide +kernel
theorem dL_acts_415 : decode cL_acts 415 = .ok (.aload_n 0, 1) := by decide +kernel
theorem dL_acts_416 : decode cL_acts 416 = .ok (.iload 9, 2) := by decide +kernel
theorem dL_acts_418 : decode cL_acts 418 = .ok (.iload 11, 2) := by decide +kernel
theorem dL_acts_420 : decode cL_acts 420 = .ok (.invokevirtual 101, 3) := by decide +kernel
theorem dL_acts_423 : decode cL_acts 423 = .ok (.iload 10, 2) := by decide +kernel
theorem dL_acts_425 : decode cL_acts 425 = .ok (.if_icmp .ne 7, 3) := by decide +kernel
theorem dL_acts_428 : decode cL_acts 428 = .ok (.iconst 1, 1) := by decide +kernel
theorem dL_acts_429 : decode cL_acts 429 = .ok (.goto 4, 3) := by decide +kernel
theorem dL_acts_432 : decode cL_acts 432 = .ok (.iconst 0, 1) := by decide +kernel
theorem dL_acts_433 : decode cL_acts 433 = .ok (.ireturn, 1) := by decide +kernel
theorem dL_acts_434 : decode cL_acts 434 = .ok (.iload 7, 2) := by decide +kernel
theorem dL_acts_436 : decode cL_acts 436 = .ok (.bipush 7, 2) := by decide +kernel
theorem dL_acts_438 : decode cL_acts 438 = .ok (.if_icmp .ne 64, 3) := by decide +kernel
theorem dL_acts_441 : decode cL_acts 441 = .ok (.aload 6, 2) := by decide +kernel
theorem dL_acts_443 : decode cL_acts 443 = .ok (.iconst 2, 1) := by decide +kernel
theorem dL_acts_444 : decode cL_acts 444 = .ok (.iaload, 1) := by decide +kernel
theorem dL_acts_445 : decode cL_acts 445 = .ok (.istore 10, 2) := by decide +kernel
theorem dL_acts_447 : decode cL_acts 447 = .ok (.aload 6, 2) := by decide +kernel
theorem dL_acts_449 : decode cL_acts 449 = .ok (.iconst 2, 1) := by decide +kernel
theorem dL_acts_450 : decode cL_acts 450 = .ok (.iload 8, 2) := by decide +kernel
theorem dL_acts_452 : decode cL_acts 452 = .ok (.iconst 3, 1) := by decide +kernel
theorem dL_acts_453 : decode cL_acts 453 = .ok (.irem, 1) := by decide +kernel
theorem dL_acts_454 : decode cL_acts 454 = .ok (.ifCond .ne 16, 3) := by decide +kernel
theorem dL_acts_457 : decode cL_acts 457 = .ok (.iload 8, 2) := by decide +kernel
theorem dL_acts_459 : decode cL_acts 459 = .ok (.iconst 3, 1) := by decide +kernel
theorem dL_acts_460 : decode cL_acts 460 = .ok (.idiv, 1) := by decide +kernel
theorem dL_acts_461 : decode cL_acts 461 = .ok (.ldc 104, 2) := by decide +kernel
theorem dL_acts_463 : decode cL_acts 463 = .ok (.irem, 1) := by decide +kernel
theorem dL_acts_464 : decode cL_acts 464 = .ok (.ldc 105, 2) := by decide +kernel
theorem dL_acts_466 : decode cL_acts 466 = .ok (.isub, 1) := by decide +kernel
theorem dL_acts_467 : decode cL_acts 467 = .ok (.goto 15, 3) := by decide +kernel
theorem dL_acts_470 : decode cL_acts 470 = .ok (.iload 8, 2) := by decide +kernel
theorem dL_acts_472 : decode cL_acts 472 = .ok (.iconst 3, 1) := by decide +kernel
theorem dL_acts_473 : decode cL_acts 473 = .ok (.idiv, 1) := by decide +kernel
theorem dL_acts_474 : decode cL_acts 474 = .ok (.sipush 4001, 3) := by decide +kernel
theorem dL_acts_477 : decode cL_acts 477 = .ok (.irem, 1) := by decide +kernel
theorem dL_acts_478 : decode cL_acts 478 = .ok (.sipush 2000, 3) := by decide +kernel
theorem dL_acts_481 : decode cL_acts 481 = .ok (.isub, 1) := by decide +kernel
theorem dL_acts_482 : decode cL_acts 482 = .ok (.iastore, 1) := by decide +kernel
theorem dL_acts_483 : decode cL_acts 483 = .ok (.aload_n 0, 1) := by decide +kernel
theorem dL_acts_484 : decode cL_acts 484 = .ok (.aload 6, 2) := by decide +kernel
theorem dL_acts_486 : decode cL_acts 486 = .ok (.iconst 2, 1) := by decide +kernel
theorem dL_acts_487 : decode cL_acts 487 = .ok (.iaload, 1) := by decide +kernel
theorem dL_acts_488 : decode cL_acts 488 = .ok (.invokevirtual 106, 3) := by decide +kernel
theorem dL_acts_491 : decode cL_acts 491 = .ok (.iload 10, 2) := by decide +kernel
theorem dL_acts_493 : decode cL_acts 493 = .ok (.if_icmp .ne 7, 3) := by decide +kernel
theorem dL_acts_496 : decode cL_acts 496 = .ok (.iconst 1, 1) := by decide +kernel
theorem dL_acts_497 : decode cL_acts 497 = .ok (.goto 4, 3) := by decide +kernel
theorem dL_acts_500 : decode cL_acts 500 = .ok (.iconst 0, 1) := by decide +kernel
theorem dL_acts_501 : decode cL_acts 501 = .ok (.ireturn, 1) := by decide +kernel
theorem dL_acts_502 : decode cL_acts 502 = .ok (.iload 7, 2) := by decide +kernel
theorem dL_acts_504 : decode cL_acts 504 = .ok (.bipush 10, 2) := by decide +kernel
theorem dL_acts_506 : decode cL_acts 506 = .ok (.if_icmp .ge 77, 3) := by decide +kernel
theorem dL_acts_509 : decode cL_acts 509 = .ok (.aload 5, 2) := by decide +kernel
theorem dL_acts_511 : decode cL_acts 511 = .ok (.iload 9, 2) := by decide +kernel
theorem dL_acts_513 : decode cL_acts 513 = .ok (.iaload, 1) := by decide +kernel
theorem dL_acts_514 : decode cL_acts 514 = .ok (.istore 10, 2) := by decide +kernel
theorem dL_acts_516 : decode cL_acts 516 = .ok (.aload 5, 2) := by decide +kernel
theorem dL_acts_518 : decode cL_acts 518 = .ok (.iload 9, 2) := by decide +kernel
theorem dL_acts_520 : decode cL_acts 520 = .ok (.iload 8, 2) := by decide +kernel
theorem dL_acts_522 : decode cL_acts 522 = .ok (.sipush 150, 3) := by decide +kernel
theorem dL_acts_525 : decode cL_acts 525 = .ok (.idiv, 1) := by decide +kernel
theorem dL_acts_526 : decode cL_acts 526 = .ok (.iconst 3, 1) := by decide +kernel
theorem dL_acts_527 : decode cL_acts 527 = .ok (.irem, 1) := by decide +kernel
theorem dL_acts_528 : decode cL_acts 528 = .ok (.ifCond .ne 18, 3) := by decide +kernel
theorem dL_acts_531 : decode cL_acts 531 = .ok (.iload 8, 2) := by decide +kernel
theorem dL_acts_533 : decode cL_acts 533 = .ok (.sipush 450, 3) := by decide +kernel
theorem dL_acts_536 : decode cL_acts 536 = .ok (.idiv, 1) := by decide +kernel
theorem dL_acts_537 : decode cL_acts 537 = .ok (.ldc 104, 2) := by decide +kernel
theorem dL_acts_539 : decode cL_acts 539 = .ok (.irem, 1) := by decide +kernel
theorem dL_acts_540 : decode cL_acts 540 = .ok (.ldc 105, 2) := by decide +kernel
theorem dL_acts_542 : decode cL_acts 542 = .ok (.isub, 1) := by decide +kernel
theorem dL_acts_543 : decode cL_acts 543 = .ok (.goto 17, 3) := by decide +kernel
theorem dL_acts_546 : decode cL_acts 546 = .ok (.iload 8, 2) := by decide +kernel
theorem dL_acts_548 : decode cL_acts 548 = .ok (.sipush 450, 3) := by decide +kernel
theorem dL_acts_551 : decode cL_acts 551 = .ok (.idiv, 1) := by decide +kernel
theorem dL_acts_552 : decode cL_acts 552 = .ok (.sipush 8001, 3) := by decide +kernel
theorem dL_acts_555 : decode cL_acts 555 = .ok (.irem, 1) := by decide +kernel
theorem dL_acts_556 : decode cL_acts 556 = .ok (.sipush 4000, 3) := by decide +kernel
theorem dL_acts_559 : decode cL_acts 559 = .ok (.isub, 1) := by decide +kernel
theorem dL_acts_560 : decode cL_acts 560 = .ok (.iastore, 1) := by decide +kernel
theorem dL_acts_561 : decode cL_acts 561 = .ok (.aload_n 0, 1) := by decide +kernel
theorem dL_acts_562 : decode cL_acts 562 = .ok (.iload 9, 2) := by decide +kernel
theorem dL_acts_564 : decode cL_acts 564 = .ok (.aload 5, 2) := by decide +kernel
theorem dL_acts_566 : decode cL_acts 566 = .ok (.iload 9, 2) := by decide +kernel
theorem dL_acts_568 : decode cL_acts 568 = .ok (.iaload, 1) := by decide +kernel
theorem dL_acts_569 : decode cL_acts 569 = .ok (.invokevirtual 109, 3) := by decide +kernel
theorem dL_acts_572 : decode cL_acts 572 = .ok (.iload 10, 2) := by decide +kernel
theorem dL_acts_574 : decode cL_acts 574 = .ok (.if_icmp .ne 7, 3) := by decide +kernel
theorem dL_acts_577 : decode cL_acts 577 = .ok (.iconst 1, 1) := by decide +kernel
theorem dL_acts_578 : decode cL_acts 578 = .ok (.goto 4, 3) := by decide +kernel
theorem dL_acts_581 : decode cL_acts 581 = .ok (.iconst 0, 1) := by decide +kernel
theorem dL_acts_582 : decode cL_acts 582 = .ok (.ireturn, 1) := by decide +kernel
theorem dL_acts_583 : decode cL_acts 583 = .ok (.sipush 300, 3) := by decide +kernel
theorem dL_acts_586 : decode cL_acts 586 = .ok (.aload_n 3, 1) := by decide +kernel
theorem dL_acts_587 : decode cL_acts 587 = .ok (.iload 9, 2) := by decide +kernel
theorem dL_acts_589 : decode cL_acts 589 = .ok (.iaload, 1) := by decide +kernel
theorem dL_acts_590 : decode cL_acts 590 = .ok (.iadd, 1) := by decide +kernel
theorem dL_acts_591 : decode cL_acts 591 = .ok (.aload 4, 2) := by decide +kernel
theorem dL_acts_593 : decode cL_acts 593 = .ok (.iload 9, 2) := by decide +kernel
theorem dL_acts_595 : decode cL_acts 595 = .ok (.iaload, 1) := by decide +kernel
theorem dL_acts_596 : decode cL_acts 596 = .ok (.iadd, 1) := by decide +kernel
theorem dL_acts_597 : decode cL_acts 597 = .ok (.istore 10, 2) := by decide +kernel
theorem dL_acts_599 : decode cL_acts 599 = .ok (.iload 7, 2) := by decide +kernel
theorem dL_acts_601 : decode cL_acts 601 = .ok (.bipush 10, 2) := by decide +kernel
theorem dL_acts_603 : decode cL_acts 603 = .ok (.if_icmp .ne 32, 3) := by decide +kernel
theorem dL_acts_606 : decode cL_acts 606 = .ok (.aload_n 0, 1) := by decide +kernel
theorem dL_acts_607 : decode cL_acts 607 = .ok (.iload 9, 2) := by decide +kernel
theorem dL_acts_609 : decode cL_acts 609 = .ok (.invokevirtual 112, 3) := by decide +kernel
theorem dL_acts_612 : decode cL_acts 612 = .ok (.aload_n 1, 1) := by decide +kernel
theorem dL_acts_613 : decode cL_acts 613 = .ok (.aload_n 2, 1) := by decide +kernel
theorem dL_acts_614 : decode cL_acts 614 = .ok (.aload 6, 2) := by decide +kernel
theorem dL_acts_616 : decode cL_acts 616 = .ok (.iload 10, 2) := by decide +kernel
theorem dL_acts_618 : decode cL_acts 618 = .ok (.aload 5, 2) := by decide +kernel
theorem dL_acts_620 : decode cL_acts 620 = .ok (.iload 9, 2) := by decide +kernel
theorem dL_acts_622 : decode cL_acts 622 = .ok (.iaload, 1) := by decide +kernel
theorem dL_acts_623 : decode cL_acts 623 = .ok (.invokestatic 52, 3) := by decide +kernel
theorem dL_acts_626 : decode cL_acts 626 = .ok (.if_icmp .ne 7, 3) := by decide +kernel
theorem dL_acts_629 : decode cL_acts 629 = .ok (.iconst 1, 1) := by decide +kernel
theorem dL_acts_630 : decode cL_acts 630 = .ok (.goto 4, 3) := by decide +kernel
theorem dL_acts_633 : decode cL_acts 633 = .ok (.iconst 0, 1) := by decide +kernel
theorem dL_acts_634 : decode cL_acts 634 = .ok (.ireturn, 1) := by decide +kernel
theorem dL_acts_635 : decode cL_acts 635 = .ok (.aload 6, 2) := by decide +kernel
theorem dL_acts_637 : decode cL_acts 637 = .ok (.iconst 1, 1) := by decide +kernel
theorem dL_acts_638 : decode cL_acts 638 = .ok (.iaload, 1) := by decide +kernel
theorem dL_acts_639 : decode cL_acts 639 = .ok (.ifCond .ne 5, 3) := by decide +kernel
theorem dL_acts_642 : decode cL_acts 642 = .ok (.iconst 1, 1) := by decide +kernel
theorem dL_acts_643 : decode cL_acts 643 = .ok (.ireturn, 1) := by decide +kernel
theorem dL_acts_644 : decode cL_acts 644 = .ok (.iload 8, 2) := by decide +kernel
theorem dL_acts_646 : decode cL_acts 646 = .ok (.sipush 150, 3) := by decide +kernel
theorem dL_acts_649 : decode cL_acts 649 = .ok (.idiv, 1) := by decide +kernel
theorem dL_acts_650 : decode cL_acts 650 = .ok (.aload 6, 2) := by decide +kernel
theorem dL_acts_652 : decode cL_acts 652 = .ok (.iconst 1, 1) := by decide +kernel
theorem dL_acts_653 : decode cL_acts 653 = .ok (.iaload, 1) := by decide +kernel
theorem dL_acts_654 : decode cL_acts 654 = .ok (.irem, 1) := by decide +kernel
theorem dL_acts_655 : decode cL_acts 655 = .ok (.istore 11, 2) := by decide +kernel
theorem dL_acts_657 : decode cL_acts 657 = .ok (.iload 7, 2) := by decide +kernel
theorem dL_acts_659 : decode cL_acts 659 = .ok (.bipush 11, 2) := by decide +kernel
theorem dL_acts_661 : decode cL_acts 661 = .ok (.if_icmp .ne 55, 3) := by decide +kernel
theorem dL_acts_664 : decode cL_acts 664 = .ok (.aload_n 2, 1) := by decide +kernel
theorem dL_acts_665 : decode cL_acts 665 = .ok (.bipush 6, 2) := by decide +kernel
theorem dL_acts_667 : decode cL_acts 667 = .ok (.iload 11, 2) := by decide +kernel
theorem dL_acts_669 : decode cL_acts 669 = .ok (.imul, 1) := by decide +kernel
theorem dL_acts_670 : decode cL_acts 670 = .ok (.iconst 5, 1) := by decide +kernel
theorem dL_acts_671 : decode cL_acts 671 = .ok (.iadd, 1) := by decide +kernel
theorem dL_acts_672 : decode cL_acts 672 = .ok (.iconst 1, 1) := by decide +kernel
theorem dL_acts_673 : decode cL_acts 673 = .ok (.aload_n 2, 1) := by decide +kernel
theorem dL_acts_674 : decode cL_acts 674 = .ok (.bipush 6, 2) := by decide +kernel
theorem dL_acts_676 : decode cL_acts 676 = .ok (.iload 11, 2) := by decide +kernel
theorem dL_acts_678 : decode cL_acts 678 = .ok (.imul, 1) := by decide +kernel
theorem dL_acts_679 : decode cL_acts 679 = .ok (.iconst 5, 1) := by decide +kernel
theorem dL_acts_680 : decode cL_acts 680 = .ok (.iadd, 1) := by decide +kernel
theorem dL_acts_681 : decode cL_acts 681 = .ok (.iaload, 1) := by decide +kernel
theorem dL_acts_682 : decode cL_acts 682 = .ok (.isub, 1) := by decide +kernel
theorem dL_acts_683 : decode cL_acts 683 = .ok (.iastore, 1) := by decide +kernel
theorem dL_acts_684 : decode cL_acts 684 = .ok (.aload_n 0, 1) := by decide +kernel
theorem dL_acts_685 : decode cL_acts 685 = .ok (.iload 11, 2) := by decide +kernel
theorem dL_acts_687 : decode cL_acts 687 = .ok (.invokevirtual 115, 3) := by decide +kernel
theorem dL_acts_690 : decode cL_acts 690 = .ok (.aload_n 2, 1) := by decide +kernel
theorem dL_acts_691 : decode cL_acts 691 = .ok (.bipush 6, 2) := by decide +kernel
theorem dL_acts_693 : decode cL_acts 693 = .ok (.iload 11, 2) := by decide +kernel
theorem dL_acts_695 : decode cL_acts 695 = .ok (.imul, 1) := by decide +kernel
theorem dL_acts_696 : decode cL_acts 696 = .ok (.iconst 5, 1) := by decide +kernel
theorem dL_acts_697 : decode cL_acts 697 = .ok (.iadd, 1) := by decide +kernel
theorem dL_acts_698 : decode cL_acts 698 = .ok (.iaload, 1) := by decide +kernel
theorem dL_acts_699 : decode cL_acts 699 = .ok (.ifCond .ne 7, 3) := by decide +kernel
theorem dL_acts_702 : decode cL_acts 702 = .ok (.iconst 1, 1) := by decide +kernel
theorem dL_acts_703 : decode cL_acts 703 = .ok (.goto 4, 3) := by decide +kernel
theorem dL_acts_706 : decode cL_acts 706 = .ok (.iconst 0, 1) := by decide +kernel
theorem dL_acts_707 : decode cL_acts 707 = .ok (.if_icmp .ne 7, 3) := by decide +kernel
theorem dL_acts_710 : decode cL_acts 710 = .ok (.iconst 1, 1) := by decide +kernel
theorem dL_acts_711 : decode cL_acts 711 = .ok (.goto 4, 3) := by decide +kernel
theorem dL_acts_714 : decode cL_acts 714 = .ok (.iconst 0, 1) := by decide +kernel
theorem dL_acts_715 : decode cL_acts 715 = .ok (.ireturn, 1) := by decide +kernel
theorem dL_acts_716 : decode cL_acts 716 = .ok (.iload 8, 2) := by decide +kernel
theorem dL_acts_718 : decode cL_acts 718 = .ok (.sipush 900, 3) := by decide +kernel
theorem dL_acts_721 : decode cL_acts 721 = .ok (.idiv, 1) := by decide +kernel
theorem dL_acts_722 : decode cL_acts 722 = .ok (.sipush 201, 3) := by decide +kernel
theorem dL_acts_725 : decode cL_acts 725 = .ok (.irem, 1) := by decide +kernel
theorem dL_acts_726 : decode cL_acts 726 = .ok (.bipush 100, 2) := by decide +kernel
theorem dL_acts_728 : decode cL_acts 728 = .ok (.isub, 1) := by decide +kernel
theorem dL_acts_729 : decode cL_acts 729 = .ok (.istore 12, 2) := by decide +kernel
theorem dL_acts_731 : decode cL_acts 731 = .ok (.aload_n 1, 1) := by decide +kernel
theorem dL_acts_732 : decode cL_acts 732 = .ok (.aload_n 2, 1) := by decide +kernel
theorem dL_acts_733 : decode cL_acts 733 = .ok (.iload 11, 2) := by decide +kernel
theorem dL_acts_735 : decode cL_acts 735 = .ok (.iload 10, 2) := by decide +kernel
theorem dL_acts_737 : decode cL_acts 737 = .ok (.aload_n 1, 1) := by decide +kernel
theorem dL_acts_738 : decode cL_acts 738 = .ok (.aload_n 2, 1) := by decide +kernel
theorem dL_acts_739 : decode cL_acts 739 = .ok (.aload 6, 2) := by decide +kernel
theorem dL_acts_741 : decode cL_acts 741 = .ok (.iload 10, 2) := by decide +kernel
theorem dL_acts_743 : decode cL_acts 743 = .ok (.aload 5, 2) := by decide +kernel
theorem dL_acts_745 : decode cL_acts 745 = .ok (.iload 9, 2) := by decide +kernel
theorem dL_acts_747 : decode cL_acts 747 = .ok (.iaload, 1) := by decide +kernel
theorem dL_acts_748 : decode cL_acts 748 = .ok (.invokestatic 34, 3) := by decide +kernel
theorem dL_acts_751 : decode cL_acts 751 = .ok (.invokestatic 23, 3) := by decide +kernel
theorem dL_acts_754 : decode cL_acts 754 = .ok (.iload 12, 2) := by decide +kernel
theorem dL_acts_756 : decode cL_acts 756 = .ok (.iadd, 1) := by decide +kernel
theorem dL_acts_757 : decode cL_acts 757 = .ok (.istore 13, 2) := by decide +kernel
theorem dL_acts_759 : decode cL_acts 759 = .ok (.aload_n 2, 1) := by decide +kernel
theorem dL_acts_760 : decode cL_acts 760 = .ok (.bipush 6, 2) := by decide +kernel
theorem dL_acts_762 : decode cL_acts 762 = .ok (.iload 11, 2) := by decide +kernel
theorem dL_acts_764 : decode cL_acts 764 = .ok (.imul, 1) := by decide +kernel
theorem dL_acts_765 : decode cL_acts 765 = .ok (.iconst 5, 1) := by decide +kernel
theorem dL_acts_766 : decode cL_acts 766 = .ok (.iadd, 1) := by decide +kernel
theorem dL_acts_767 : decode cL_acts 767 = .ok (.iaload, 1) := by decide +kernel
theorem dL_acts_768 : decode cL_acts 768 = .ok (.ifCond .ne 7, 3) := by decide +kernel
theorem dL_acts_771 : decode cL_acts 771 = .ok (.iconst 1, 1) := by decide +kernel
theorem dL_acts_772 : decode cL_acts 772 = .ok (.goto 4, 3) := by decide +kernel
theorem dL_acts_775 : decode cL_acts 775 = .ok (.iconst 0, 1) := by decide +kernel
theorem dL_acts_776 : decode cL_acts 776 = .ok (.istore 14, 2) := by decide +kernel
theorem dL_acts_778 : decode cL_acts 778 = .ok (.aload_n 2, 1) := by decide +kernel
theorem dL_acts_779 : decode cL_acts 779 = .ok (.bipush 6, 2) := by decide +kernel
theorem dL_acts_781 : decode cL_acts 781 = .ok (.iload 11, 2) := by decide +kernel
theorem dL_acts_783 : decode cL_acts 783 = .ok (.imul, 1) := by decide +kernel
theorem dL_acts_784 : decode cL_acts 784 = .ok (.iconst 4, 1) := by decide +kernel
theorem dL_acts_785 : decode cL_acts 785 = .ok (.iadd, 1) := by decide +kernel
theorem dL_acts_786 : decode cL_acts 786 = .ok (.iload 14, 2) := by decide +kernel
theorem dL_acts_788 : decode cL_acts 788 = .ok (.ifCond .ne 15, 3) := by decide +kernel
theorem dL_acts_791 : decode cL_acts 791 = .ok (.aload_n 2, 1) := by decide +kernel
theorem dL_acts_792 : decode cL_acts 792 = .ok (.bipush 6, 2) := by decide +kernel
theorem dL_acts_794 : decode cL_acts 794 = .ok (.iload 11, 2) := by decide +kernel
theorem dL_acts_796 : decode cL_acts 796 = .ok (.imul, 1) := by decide +kernel
theorem dL_acts_797 : decode cL_acts 797 = .ok (.iconst 4, 1) := by decide +kernel
theorem dL_acts_798 : decode cL_acts 798 = .ok (.iadd, 1) := by decide +kernel
theorem dL_acts_799 : decode cL_acts 799 = .ok (.iaload, 1) := by decide +kernel
theorem dL_acts_800 : decode cL_acts 800 = .ok (.goto 14, 3) := by decide +kernel
theorem dL_acts_803 : decode cL_acts 803 = .ok (.iload 13, 2) := by decide +kernel
theorem dL_acts_805 : decode cL_acts 805 = .ok (.ifCond .ge 7, 3) := by decide +kernel
theorem dL_acts_808 : decode cL_acts 808 = .ok (.iconst 0, 1) := by decide +kernel
theorem dL_acts_809 : decode cL_acts 809 = .ok (.goto 5, 3) := by decide +kernel
theorem dL_acts_812 : decode cL_acts 812 = .ok (.iload 13, 2) := by decide +kernel
theorem dL_acts_814 : decode cL_acts 814 = .ok (.iastore, 1) := by decide +kernel
theorem dL_acts_815 : decode cL_acts 815 = .ok (.aload_n 0, 1) := by decide +kernel
theorem dL_acts_816 : decode cL_acts 816 = .ok (.iload 11, 2) := by decide +kernel
theorem dL_acts_818 : decode cL_acts 818 = .ok (.iload 9, 2) := by decide +kernel
theorem dL_acts_820 : decode cL_acts 820 = .ok (.iload 12, 2) := by decide +kernel
theorem dL_acts_822 : decode cL_acts 822 = .ok (.invokestatic 118, 3) := by decide +kernel
theorem dL_acts_825 : decode cL_acts 825 = .ok (.iload 14, 2) := by decide +kernel
theorem dL_acts_827 : decode cL_acts 827 = .ok (.ifCond .eq 15, 3) := by decide +kernel
theorem dL_acts_830 : decode cL_acts 830 = .ok (.aload_n 2, 1) := by decide +kernel
theorem dL_acts_831 : decode cL_acts 831 = .ok (.bipush 6, 2) := by decide +kernel
theorem dL_acts_833 : decode cL_acts 833 = .ok (.iload 11, 2) := by decide +kernel
theorem dL_acts_835 : decode cL_acts 835 = .ok (.imul, 1) := by decide +kernel
theorem dL_acts_836 : decode cL_acts 836 = .ok (.iconst 4, 1) := by decide +kernel
theorem dL_acts_837 : decode cL_acts 837 = .ok (.iadd, 1) := by decide +kernel
theorem dL_acts_838 : decode cL_acts 838 = .ok (.iaload, 1) := by decide +kernel
theorem dL_acts_839 : decode cL_acts 839 = .ok (.goto 5, 3) := by decide +kernel
theorem dL_acts_842 : decode cL_acts 842 = .ok (.bipush (-5), 2) := by decide +kernel
theorem dL_acts_844 : decode cL_acts 844 = .ok (.if_icmp .ne 7, 3) := by decide +kernel
theorem dL_acts_847 : decode cL_acts 847 = .ok (.iconst 1, 1) := by decide +kernel
theorem dL_acts_848 : decode cL_acts 848 = .ok (.goto 4, 3) := by decide +kernel
theorem dL_acts_851 : decode cL_acts 851 = .ok (.iconst 0, 1) := by decide +kernel
theorem dL_acts_852 : decode cL_acts 852 = .ok (.ireturn, 1) := by decide +kernel
set_option maxRecDepth 20000 in
theorem ggL_holds_X0_init : GoodIn wsL_holds wsX0_init := goodIn_r _ [8, 9, 10, 11, 4, 12, 13, 14, 15, 16, 17, 18, 19, 20, 21, 22, 23, 24, 25, 26, 27, 249, 250, 251, 252, 253, 254, 255, 256, 257, 258, 259, 260, 261, 262, 263] (by decide +kernel) (by decide +kernel)
set_option maxRecDepth 20000 in
theorem gL_holds_X0_init : GoodIn wsL_holds (wsX0_init) := ggL_holds_X0_init
set_option maxRecDepth 20000 in
theorem ggL_holds_L_from : GoodIn wsL_holds wsL_from := goodIn_r _ [31, 32, 33] (by decide +kernel) (by decide +kernel)
set_option maxRecDepth 20000 in
theorem gL_holds_L_from : GoodIn wsL_holds (va_wsS RL 123 yL_from wsL_from) := goodIn_app (goodIn_of _ (by decide +kernel)) ggL_holds_L_from
set_option maxRecDepth 20000 in
theorem ggL_holds_L_acts : GoodIn wsL_holds wsL_acts := goodIn_ca (goodIn_ca (goodIn_ca (goodIn_r _ [36, 37, 38, 39, 40, 41, 42, 43, 3, 44, 45, 46, 47, 16, 17, 18, 48, 49, 50, 51, 52, 53, 54, 30, 55, 56, 57, 58, 59, 60, 61, 62, 63, 64, 65, 66, 67, 19, 20, 21, 22, 23, 24, 26, 68, 69, 70, 71, 72, 73, 74, 75, 76, 77, 78, 79, 80, 12, 81, 82, 83, 84, 85, 86, 87, 13, 88, 89, 90, 91, 92, 15, 93, 94, 95, 96, 14, 97, 98, 99, 100, 101, 102, 103, 104, 105, 106, 107, 108, 109, 110, 111, 112, 113, 114, 115, 116, 117, 118, 119, 120, 121, 122, 123, 124, 125, 126, 127, 128, 129, 130, 131, 132, 133, 134, 135, 136, 137, 138, 139, 4, 140, 141, 142, 143, 144, 145, 146, 147, 148, 149, 150, 151, 152, 153, 154, 155, 156, 157, 158, 159, 160, 161, 162, 163, 164, 249, 250, 251, 252, 253, 254, 255, 256, 257, 258, 259, 260, 261, 262, 263] rfl (by decide +kernel)) (goodIn_sub (fun _ h => List.mem_cons_of_mem _ (List.mem_append_left _ (List.mem_append_left _ (List.mem_append_right _ h)))) (by decide +kernel))) (goodIn_sub (fun _ h => List.mem_cons_of_mem _ (List.mem_append_left _ (List.mem_append_right _ h))) (by decide +kernel))) (goodIn_sub (fun _ h => List.mem_cons_of_mem _ (List.mem_append_right _ h)) (by decide +kernel))
set_option maxRecDepth 20000 in
theorem gL_holds_L_acts : GoodIn wsL_holds (va_wsS RL 127 yL_acts wsL_acts) := goodIn_app (goodIn_of _ (by decide +kernel)) ggL_holds_L_acts
set_option maxRecDepth 20000 in
theorem ggL_holds_L_isTold : GoodIn wsL_holds wsL_isTold := goodIn_ca (goodIn_ca (goodIn_r _ [167, 140, 141, 30, 142, 143, 144, 145, 53, 54, 55, 56, 57, 58, 59, 60, 61, 62, 63, 146, 147, 148, 168, 169, 170, 3, 171, 81, 82, 83, 72, 73, 105, 106, 107, 108, 109, 110, 111, 112, 113, 114, 115, 116, 15, 14, 19, 117, 118, 119, 120, 21, 121, 122, 123, 124, 12, 13, 74, 75, 76, 125, 126, 127, 128, 26, 22, 24, 129, 130, 131, 132, 172, 173, 174, 175, 176, 177, 178, 179, 180, 181, 182, 183, 184, 185, 186, 187, 188, 189, 190, 191, 192, 193, 194, 23, 133, 134, 135, 136, 195, 196, 197, 198, 16, 18, 199, 200, 201, 202, 20, 203, 204, 205, 206, 207, 208, 209, 210, 211, 212, 213, 214, 48, 49, 50, 51, 52, 215, 216, 217, 218, 153, 154, 155, 156, 219, 220, 221, 222, 223, 224, 225, 226, 68, 69, 70, 71, 249, 250, 251, 252, 253, 254, 255, 256, 257, 258, 259, 260, 261, 262, 263] (by decide +kernel) (by decide +kernel)) (goodIn_sub (fun _ h => List.mem_cons_of_mem _ (List.mem_append_right _ h)) (by decide +kernel))) (goodIn_sub (fun _ h => List.mem_cons_of_mem _ (List.mem_append_left _ (List.mem_append_right _ h))) (by decide +kernel))
set_option maxRecDepth 20000 in
theorem gL_holds_L_isTold : GoodIn wsL_holds (va_wsS RL 131 yL_isTold wsL_isTold) := goodIn_app (goodIn_of _ (by decide +kernel)) ggL_holds_L_isTold
set_option maxRecDepth 20000 in
theorem ggL_holds_L_arePlans : GoodIn wsL_holds wsL_arePlans := goodIn_ca (goodIn_ca (goodIn_r _ [229, 203, 204, 30, 205, 206, 207, 140, 141, 142, 143, 144, 145, 53, 54, 55, 56, 57, 58, 59, 60, 61, 62, 63, 146, 147, 148, 180, 181, 182, 208, 209, 210, 230, 231, 232, 3, 233, 51, 52, 24, 27, 234, 235, 236, 237, 81, 82, 83, 72, 73, 238, 239, 240, 241, 187, 188, 189, 190, 105, 106, 107, 108, 109, 110, 111, 112, 113, 114, 115, 116, 15, 14, 19, 117, 118, 119, 120, 21, 121, 122, 123, 124, 12, 13, 74, 75, 76, 125, 126, 127, 128, 26, 22, 129, 130, 131, 132, 176, 177, 178, 179, 191, 192, 193, 194, 23, 133, 134, 135, 136, 195, 196, 197, 198, 16, 18, 199, 200, 201, 202, 20, 101, 102, 103, 104, 242, 243, 244, 4, 137, 138, 139, 245, 246, 247, 248, 249, 250, 251, 252, 253, 254, 255, 256, 257, 258, 259, 260, 261, 262, 263] (by decide +kernel) (by decide +kernel)) (goodIn_sub (fun _ h => List.mem_cons_of_mem _ (List.mem_append_left _ (List.mem_append_right _ h))) (by decide +kernel))) (goodIn_sub (fun _ h => List.mem_cons_of_mem _ (List.mem_append_right _ h)) (by decide +kernel))
set_option maxRecDepth 20000 in
theorem gL_holds_L_arePlans : GoodIn wsL_holds (va_wsS RL 134 yL_arePlans wsL_arePlans) := goodIn_app (goodIn_of _ (by decide +kernel)) ggL_holds_L_arePlans
theorem dL_holds_0 : decode cL_holds 0 = .ok (.new 56, 3) := by decide +kernel
theorem dL_holds_3 : decode cL_holds 3 = .ok (.dup, 1) := by decide +kernel
theorem dL_holds_4 : decode cL_holds 4 = .ok (.invokespecial 121, 3) := by decide +kernel
theorem dL_holds_7 : decode cL_holds 7 = .ok (.astore_n 1, 1) := by decide +kernel
theorem dL_holds_8 : decode cL_holds 8 = .ok (.bipush 8, 2) := by decide +kernel
theorem dL_holds_10 : decode cL_holds 10 = .ok (.newarray .int, 2) := by decide +kernel
theorem dL_holds_12 : decode cL_holds 12 = .ok (.astore_n 2, 1) := by decide +kernel
theorem dL_holds_13 : decode cL_holds 13 = .ok (.bipush 36, 2) := by decide +kernel
theorem dL_holds_15 : decode cL_holds 15 = .ok (.newarray .int, 2) := by decide +kernel
theorem dL_holds_17 : decode cL_holds 17 = .ok (.astore_n 3, 1) := by decide +kernel
theorem dL_holds_18 : decode cL_holds 18 = .ok (.bipush 48, 2) := by decide +kernel
theorem dL_holds_20 : decode cL_holds 20 = .ok (.newarray .int, 2) := by decide +kernel
theorem dL_holds_22 : decode cL_holds 22 = .ok (.astore 4, 2) := by decide +kernel
theorem dL_holds_24 : decode cL_holds 24 = .ok (.bipush 48, 2) := by decide +kernel
theorem dL_holds_26 : decode cL_holds 26 = .ok (.newarray .int, 2) := by decide +kernel
theorem dL_holds_28 : decode cL_holds 28 = .ok (.astore 5, 2) := by decide +kernel
theorem dL_holds_30 : decode cL_holds 30 = .ok (.bipush 48, 2) := by decide +kernel
theorem dL_holds_32 : decode cL_holds 32 = .ok (.newarray .int, 2) := by decide +kernel
theorem dL_holds_34 : decode cL_holds 34 = .ok (.astore 6, 2) := by decide +kernel
theorem dL_holds_36 : decode cL_holds 36 = .ok (.iconst 3, 1) := by decide +kernel
theorem dL_holds_37 : decode cL_holds 37 = .ok (.newarray .int, 2) := by decide +kernel
theorem dL_holds_39 : decode cL_holds 39 = .ok (.astore 7, 2) := by decide +kernel
theorem dL_holds_41 : decode cL_holds 41 = .ok (.iconst 1, 1) := by decide +kernel
theorem dL_holds_42 : decode cL_holds 42 = .ok (.istore 8, 2) := by decide +kernel
theorem dL_holds_44 : decode cL_holds 44 = .ok (.iconst 0, 1) := by decide +kernel
theorem dL_holds_45 : decode cL_holds 45 = .ok (.istore 9, 2) := by decide +kernel
theorem dL_holds_47 : decode cL_holds 47 = .ok (.iload 9, 2) := by decide +kernel
theorem dL_holds_49 : decode cL_holds 49 = .ok (.bipush 70, 2) := by decide +kernel
theorem dL_holds_51 : decode cL_holds 51 = .ok (.if_icmp .ge 165, 3) := by decide +kernel
theorem dL_holds_54 : decode cL_holds 54 = .ok (.iload 8, 2) := by decide +kernel
theorem dL_holds_56 : decode cL_holds 56 = .ok (.ifCond .eq 160, 3) := by decide +kernel
theorem dL_holds_59 : decode cL_holds 59 = .ok (.aload_n 0, 1) := by decide +kernel
theorem dL_holds_60 : decode cL_holds 60 = .ok (.iconst 2, 1) := by decide +kernel
theorem dL_holds_61 : decode cL_holds 61 = .ok (.iload 9, 2) := by decide +kernel
theorem dL_holds_63 : decode cL_holds 63 = .ok (.imul, 1) := by decide +kernel
theorem dL_holds_64 : decode cL_holds 64 = .ok (.iconst 1, 1) := by decide +kernel
theorem dL_holds_65 : decode cL_holds 65 = .ok (.iadd, 1) := by decide +kernel
theorem dL_holds_66 : decode cL_holds 66 = .ok (.ldc 122, 2) := by decide +kernel
theorem dL_holds_68 : decode cL_holds 68 = .ok (.invokestatic 123, 3) := by decide +kernel
theorem dL_holds_71 : decode cL_holds 71 = .ok (.istore 10, 2) := by decide +kernel
theorem dL_holds_73 : decode cL_holds 73 = .ok (.aload_n 1, 1) := by decide +kernel
theorem dL_holds_74 : decode cL_holds 74 = .ok (.aload_n 2, 1) := by decide +kernel
theorem dL_holds_75 : decode cL_holds 75 = .ok (.aload_n 3, 1) := by decide +kernel
theorem dL_holds_76 : decode cL_holds 76 = .ok (.aload 4, 2) := by decide +kernel
theorem dL_holds_78 : decode cL_holds 78 = .ok (.aload 5, 2) := by decide +kernel
theorem dL_holds_80 : decode cL_holds 80 = .ok (.aload 6, 2) := by decide +kernel
theorem dL_holds_82 : decode cL_holds 82 = .ok (.aload 7, 2) := by decide +kernel
theorem dL_holds_84 : decode cL_holds 84 = .ok (.iload 9, 2) := by decide +kernel
theorem dL_holds_86 : decode cL_holds 86 = .ok (.iconst 2, 1) := by decide +kernel
theorem dL_holds_87 : decode cL_holds 87 = .ok (.if_icmp .ge 7, 3) := by decide +kernel
theorem dL_holds_90 : decode cL_holds 90 = .ok (.iconst 0, 1) := by decide +kernel
theorem dL_holds_91 : decode cL_holds 91 = .ok (.goto 23, 3) := by decide +kernel
theorem dL_holds_94 : decode cL_holds 94 = .ok (.iload 9, 2) := by decide +kernel
theorem dL_holds_96 : decode cL_holds 96 = .ok (.iconst 5, 1) := by decide +kernel
theorem dL_holds_97 : decode cL_holds 97 = .ok (.if_icmp .ge 7, 3) := by decide +kernel
theorem dL_holds_100 : decode cL_holds 100 = .ok (.iconst 1, 1) := by decide +kernel
theorem dL_holds_101 : decode cL_holds 101 = .ok (.goto 13, 3) := by decide +kernel
theorem dL_holds_104 : decode cL_holds 104 = .ok (.aload_n 0, 1) := by decide +kernel
theorem dL_holds_105 : decode cL_holds 105 = .ok (.iconst 2, 1) := by decide +kernel
theorem dL_holds_106 : decode cL_holds 106 = .ok (.iload 9, 2) := by decide +kernel
theorem dL_holds_108 : decode cL_holds 108 = .ok (.imul, 1) := by decide +kernel
theorem dL_holds_109 : decode cL_holds 109 = .ok (.bipush 14, 2) := by decide +kernel
theorem dL_holds_111 : decode cL_holds 111 = .ok (.invokestatic 123, 3) := by decide +kernel
theorem dL_holds_114 : decode cL_holds 114 = .ok (.iload 10, 2) := by decide +kernel
theorem dL_holds_116 : decode cL_holds 116 = .ok (.invokestatic 127, 3) := by decide +kernel
theorem dL_holds_119 : decode cL_holds 119 = .ok (.ifCond .eq 88, 3) := by decide +kernel
theorem dL_holds_122 : decode cL_holds 122 = .ok (.iload 9, 2) := by decide +kernel
theorem dL_holds_124 : decode cL_holds 124 = .ok (.iconst 3, 1) := by decide +kernel
theorem dL_holds_125 : decode cL_holds 125 = .ok (.irem, 1) := by decide +kernel
theorem dL_holds_126 : decode cL_holds 126 = .ok (.iconst 2, 1) := by decide +kernel
theorem dL_holds_127 : decode cL_holds 127 = .ok (.if_icmp .lt 47, 3) := by decide +kernel
theorem dL_holds_130 : decode cL_holds 130 = .ok (.aload_n 1, 1) := by decide +kernel
theorem dL_holds_131 : decode cL_holds 131 = .ok (.aload_n 2, 1) := by decide +kernel
theorem dL_holds_132 : decode cL_holds 132 = .ok (.aload_n 3, 1) := by decide +kernel
theorem dL_holds_133 : decode cL_holds 133 = .ok (.aload 4, 2) := by decide +kernel
theorem dL_holds_135 : decode cL_holds 135 = .ok (.aload 5, 2) := by decide +kernel
theorem dL_holds_137 : decode cL_holds 137 = .ok (.aload 6, 2) := by decide +kernel
theorem dL_holds_139 : decode cL_holds 139 = .ok (.aload 7, 2) := by decide +kernel
theorem dL_holds_141 : decode cL_holds 141 = .ok (.iload 10, 2) := by decide +kernel
theorem dL_holds_143 : decode cL_holds 143 = .ok (.iconst 3, 1) := by decide +kernel
theorem dL_holds_144 : decode cL_holds 144 = .ok (.irem, 1) := by decide +kernel
theorem dL_holds_145 : decode cL_holds 145 = .ok (.ifCond .ne 13, 3) := by decide +kernel
theorem dL_holds_148 : decode cL_holds 148 = .ok (.iload 10, 2) := by decide +kernel
theorem dL_holds_150 : decode cL_holds 150 = .ok (.iconst 3, 1) := by decide +kernel
theorem dL_holds_151 : decode cL_holds 151 = .ok (.idiv, 1) := by decide +kernel
theorem dL_holds_152 : decode cL_holds 152 = .ok (.bipush 48, 2) := by decide +kernel
theorem dL_holds_154 : decode cL_holds 154 = .ok (.irem, 1) := by decide +kernel
theorem dL_holds_155 : decode cL_holds 155 = .ok (.goto 9, 3) := by decide +kernel
theorem dL_holds_158 : decode cL_holds 158 = .ok (.iload 10, 2) := by decide +kernel
theorem dL_holds_160 : decode cL_holds 160 = .ok (.iconst 3, 1) := by decide +kernel
theorem dL_holds_161 : decode cL_holds 161 = .ok (.idiv, 1) := by decide +kernel
theorem dL_holds_162 : decode cL_holds 162 = .ok (.iconst 4, 1) := by decide +kernel
theorem dL_holds_163 : decode cL_holds 163 = .ok (.irem, 1) := by decide +kernel
theorem dL_holds_164 : decode cL_holds 164 = .ok (.iload 10, 2) := by decide +kernel
theorem dL_holds_166 : decode cL_holds 166 = .ok (.iconst 5, 1) := by decide +kernel
theorem dL_holds_167 : decode cL_holds 167 = .ok (.idiv, 1) := by decide +kernel
theorem dL_holds_168 : decode cL_holds 168 = .ok (.invokestatic 131, 3) := by decide +kernel
theorem dL_holds_171 : decode cL_holds 171 = .ok (.ifCond .eq 36, 3) := by decide +kernel
theorem dL_holds_174 : decode cL_holds 174 = .ok (.iload 9, 2) := by decide +kernel
theorem dL_holds_176 : decode cL_holds 176 = .ok (.bipush 14, 2) := by decide +kernel
theorem dL_holds_178 : decode cL_holds 178 = .ok (.irem, 1) := by decide +kernel
theorem dL_holds_179 : decode cL_holds 179 = .ok (.bipush 13, 2) := by decide +kernel
theorem dL_holds_181 : decode cL_holds 181 = .ok (.if_icmp .lt 22, 3) := by decide +kernel
theorem dL_holds_184 : decode cL_holds 184 = .ok (.aload_n 1, 1) := by decide +kernel
theorem dL_holds_185 : decode cL_holds 185 = .ok (.aload_n 2, 1) := by decide +kernel
theorem dL_holds_186 : decode cL_holds 186 = .ok (.aload_n 3, 1) := by decide +kernel
theorem dL_holds_187 : decode cL_holds 187 = .ok (.aload 4, 2) := by decide +kernel
theorem dL_holds_189 : decode cL_holds 189 = .ok (.aload 5, 2) := by decide +kernel
theorem dL_holds_191 : decode cL_holds 191 = .ok (.aload 6, 2) := by decide +kernel
theorem dL_holds_193 : decode cL_holds 193 = .ok (.aload 7, 2) := by decide +kernel
theorem dL_holds_195 : decode cL_holds 195 = .ok (.iload 10, 2) := by decide +kernel
theorem dL_holds_197 : decode cL_holds 197 = .ok (.invokestatic 134, 3) := by decide +kernel
theorem dL_holds_200 : decode cL_holds 200 = .ok (.ifCond .eq 7, 3) := by decide +kernel
theorem dL_holds_203 : decode cL_holds 203 = .ok (.iconst 1, 1) := by decide +kernel
theorem dL_holds_204 : decode cL_holds 204 = .ok (.goto 4, 3) := by decide +kernel
theorem dL_holds_207 : decode cL_holds 207 = .ok (.iconst 0, 1) := by decide +kernel
theorem dL_holds_208 : decode cL_holds 208 = .ok (.istore 8, 2) := by decide +kernel
theorem dL_holds_210 : decode cL_holds 210 = .ok (.iinc 9 1, 3) := by decide +kernel
theorem dL_holds_213 : decode cL_holds 213 = .ok (.goto (-166), 3) := by decide +kernel
theorem dL_holds_216 : decode cL_holds 216 = .ok (.iload 8, 2) := by decide +kernel
theorem dL_holds_218 : decode cL_holds 218 = .ok (.ireturn, 1) := by decide +kernel
set_option maxRecDepth 20000 in
theorem ggL_isHeld_L_holds : GoodIn wsL_isHeld wsL_holds := goodIn_ca (goodIn_ca (goodIn_ca (goodIn_r _ [7, 8, 9, 10, 11, 12, 13, 14, 15, 16, 17, 18, 19, 20, 21, 22, 23, 24, 25, 26, 27, 28, 29, 30, 31, 32, 33, 34, 35, 36, 6, 37, 38, 39, 40, 41, 42, 43, 44, 45, 46, 47, 48, 49, 50, 51, 52, 53, 54, 55, 56, 57, 58, 59, 60, 61, 62, 63, 64, 65, 66, 67, 68, 69, 70, 71, 72, 73, 74, 75, 76, 77, 78, 79, 80, 81, 82, 83, 84, 85, 86, 87, 88, 89, 90, 91, 92, 93, 94, 95, 96, 97, 98, 99, 100, 101, 102, 103, 104, 105, 106, 107, 108, 109, 110, 111, 112, 113, 114, 115, 116, 117, 118, 119, 120, 121, 122, 123, 124, 125, 126, 127, 128, 129, 130, 131, 132, 133, 134, 135, 136, 137, 138, 139, 140, 141, 142, 143, 144, 145, 146, 147, 148, 149, 150, 151, 152, 153, 154, 155, 156, 157, 158, 159, 160, 161, 162, 163, 164, 165, 3, 166, 167, 168, 169, 170, 171, 172, 173, 174, 175, 176, 177, 178, 179, 180, 181, 182, 183, 184, 185, 186, 187, 188, 189, 190, 191, 192, 193, 194, 195, 196, 197, 198, 199, 200, 201, 202, 203, 204, 205, 206, 207, 208, 209, 210, 211, 212, 213, 214, 215, 216, 217, 218, 219, 220, 221, 222, 223, 224, 225, 226, 227, 228, 229, 230, 231, 232, 233, 234, 235, 236, 237, 238, 239, 240, 241, 242, 243, 244, 245, 246, 247, 248, 249, 250, 251, 252, 253, 254, 255, 256, 257, 258, 259, 260, 261, 262, 263, 264, 265, 266, 267, 268] rfl (by decide +kernel)) (goodIn_sub (fun _ h => List.mem_cons_of_mem _ (List.mem_append_left _ (List.mem_append_left _ (List.mem_append_right _ h)))) (by decide +kernel))) (goodIn_sub (fun _ h => List.mem_cons_of_mem _ (List.mem_append_left _ (List.mem_append_right _ h))) (by decide +kernel))) (goodIn_sub (fun _ h => List.mem_cons_of_mem _ (List.mem_append_right _ h)) (by decide +kernel))
set_option maxRecDepth 20000 in
theorem gL_isHeld_L_holds : GoodIn wsL_isHeld (va_wsS RL 138 yL_holds wsL_holds) := goodIn_app (goodIn_of _ (by decide +kernel)) ggL_isHeld_L_holds
theorem dL_isHeld_0 : decode cL_isHeld 0 = .ok (.aload_n 0, 1) := by decide +kernel
theorem dL_isHeld_1 : decode cL_isHeld 1 = .ok (.invokestatic 138, 3) := by decide +kernel
theorem dL_isHeld_4 : decode cL_isHeld 4 = .ok (.ireturn, 1) := by decide +kernel
theorem dL_isHeld_5 : decode cL_isHeld 5 = .ok (.astore_n 1, 1) := by decide +kernel
theorem dL_isHeld_6 : decode cL_isHeld 6 = .ok (.iconst 0, 1) := by decide +kernel
theorem dL_isHeld_7 : decode cL_isHeld 7 = .ok (.ireturn, 1) := by decide +kernel
theorem dL_isHeld_8 : decode cL_isHeld 8 = .ok (.astore_n 1, 1) := by decide +kernel
theorem dL_isHeld_9 : decode cL_isHeld 9 = .ok (.iconst 0, 1) := by decide +kernel
theorem dL_isHeld_10 : decode cL_isHeld 10 = .ok (.ireturn, 1) := by decide +kernel
theorem dL_isHeld_11 : decode cL_isHeld 11 = .ok (.astore_n 1, 1) := by decide +kernel
theorem dL_isHeld_12 : decode cL_isHeld 12 = .ok (.iconst 0, 1) := by decide +kernel
theorem dL_isHeld_13 : decode cL_isHeld 13 = .ok (.ireturn, 1) := by decide +kernel
set_option maxRecDepth 20000 in
theorem ggL_law_L_isHeld : GoodIn wsL_law wsL_isHeld := goodIn_ca (goodIn_ca (goodIn_ca (goodIn_r _ [3, 4, 5, 6, 7, 8, 2, 9, 10, 11, 12, 13, 14, 15, 16, 17, 18, 19, 20, 21, 22, 23, 24, 25, 26, 27, 28, 29, 30, 31, 32, 33, 34, 35, 36, 37, 38, 39, 40, 41, 42, 43, 44, 45, 46, 47, 48, 49, 50, 51, 52, 53, 54, 55, 56, 57, 58, 59, 60, 61, 62, 63, 64, 65, 66, 67, 68, 69, 70, 71, 72, 73, 74, 75, 76, 77, 78, 79, 80, 81, 82, 83, 84, 85, 86, 87, 88, 89, 90, 91, 92, 93, 94, 95, 96, 97, 98, 99, 100, 101, 102, 103, 104, 105, 106, 107, 108, 109, 110, 111, 112, 113, 114, 115, 116, 117, 118, 119, 120, 121, 122, 123, 124, 125, 126, 127, 128, 129, 130, 131, 132, 133, 134, 135, 136, 137, 138, 139, 140, 141, 142, 143, 144, 145, 146, 147, 148, 149, 150, 151, 152, 153, 154, 155, 156, 157, 158, 159, 160, 161, 162, 163, 164, 165, 166, 167, 168, 169, 170, 171, 172, 173, 174, 175, 176, 177, 178, 179, 180, 181, 182, 183, 184, 185, 186, 187, 188, 189, 190, 191, 192, 193, 194, 195, 196, 197, 198, 199, 200, 201, 202, 203, 204, 205, 206, 207, 208, 209, 210, 211, 212, 213, 214, 215, 216, 217, 218, 219, 220, 221, 222, 223, 224, 225, 226, 227, 228, 229, 230, 231, 232, 233, 234, 235, 236, 237, 238, 239, 240, 241, 242, 243, 244, 245, 246, 247, 248, 249, 250, 251, 252, 253, 254, 255, 256, 257, 258, 259, 260, 261, 262, 263, 264, 265, 266, 267, 268, 269, 270] rfl (by decide +kernel)) (goodIn_sub (fun _ h => List.mem_append_left _ (List.mem_append_left _ (List.mem_append_right _ h))) (by decide +kernel))) (goodIn_sub (fun _ h => List.mem_append_left _ (List.mem_append_right _ h)) (by decide +kernel))) (goodIn_sub (fun _ h => List.mem_append_right _ h) (by decide +kernel))
set_option maxRecDepth 20000 in
theorem gL_law_L_isHeld : GoodIn wsL_law (va_wsS RL 146 yL_isHeld wsL_isHeld) := goodIn_app (goodIn_of _ (by decide +kernel)) ggL_law_L_isHeld
theorem dL_law_0 : decode cL_law 0 = .ok (.aload_n 0, 1) := by decide +kernel
theorem dL_law_1 : decode cL_law 1 = .ok (.invokestatic 146, 3) := by decide +kernel
theorem dL_law_4 : decode cL_law 4 = .ok (.ireturn, 1) := by decide +kernel
abbrev vwCl : List vw_C := [(RX0, TX0, 15)]
end
section
/-! My own layer over the kit: contracts that write nothing (roM), that write (wrM), checks that throw (ckM), face methods (thM). -/
def bI (b : Bool) : Int32 := if b then 1 else 0
/-- what a method has at its entry -/
def roE (p : Program) (s : State) (m : MethodId) (meth : Method) (c : Code) (args : Array Value) (y : MethodName) (cc : ByteArray) (maxL : Nat) (ret : Option FieldType) (ws : List Cond) : Prop :=
  p.tables.exec = Jvm.exec ∧ c.code = cc ∧ meth.sig.returnType = ret ∧ c.maxLocals = maxL ∧ s.vm.findClass y.cls = some m.cls ∧ (∀ w ∈ ws, w.before args s = true) ∧ meth.locks = false
def roP (av : List Value) (D : va_G) (W0 : va_W) (tys : List (ClassId × FieldType)) (H0 : Heap) : Array Value → State → Prop := va_Pc av (fun U => U.heap = H0 ∧ va_P D vwCl W0 H0 ∧ va_K D vwCl tys U)
theorem roP_blind {av : List Value} {D : va_G} {W0 : va_W} {tys : List (ClassId × FieldType)} {H0 : Heap} : FrameBlind (roP av D W0 tys H0) := by
  intro a U g mk h
  obtain ⟨h1, h2, h3, h4⟩ := h
  exact ⟨h1, h2, h3, va_K.moved (u := U) (U := U.calling g mk a) (Vm.Alike.refl U.vm) h4⟩
/-- a method that writes nothing and answers a number -/
def roM (l : Launch) (y : MethodName) (ws : List Cond) (rm : Room) (av : List Value) (D : va_G) (W0 : va_W) (tys : List (ClassId × FieldType)) (H0 : Heap) (post : Int32 → Prop) : Prop :=
  Met l y ws rm (roP av D W0 tys H0) (va_Qi (fun (r : Int32) (_ : Unit) => post r) (fun _ t => t.heap = H0) (fun _ => False)) 0 0 (fun _ => False)
def roQ (below : List Frame) (H0 : Heap) (post : Int32 → Prop) (args : Array Value) (s : State) : State → Prop := MQ below (va_Qi (fun (r : Int32) (_ : Unit) => post r) (fun _ t => t.heap = H0) (fun _ => False)) args s 0 0 (fun _ => False)
/-- a method that writes among the cells of A and answers a number -/
def wrM (l : Launch) (y : MethodName) (ws : List Cond) (rm : Room) (av : List Value) (D : va_G) (W0 : va_W) (tys : List (ClassId × FieldType)) (H0 : Heap) {S : Type} (Wf : S → va_W) (post : Int32 → S → Prop) (A : Nat → Prop) : Prop :=
  Met l y ws rm (roP av D W0 tys H0) (va_Qi post (fun u t => va_P D vwCl (Wf u) t.heap) A) 0 0 A
def wrQ (below : List Frame) (D : va_G) {S : Type} (Wf : S → va_W) (post : Int32 → S → Prop) (A : Nat → Prop) (args : Array Value) (s : State) : State → Prop := MQ below (va_Qi post (fun u t => va_P D vwCl (Wf u) t.heap) A) args s 0 0 A
def xE1 : String := "java/lang/IllegalArgumentException"
def xE2 : String := "java/lang/IllegalStateException"
def xE3 : String := "java/lang/IndexOutOfBoundsException"
def xNs : List String := ["java/lang/RuntimeException", "java/lang/Exception"]
/-- what a throw needs of the tables -/
def tpW (U : State) : Prop := ((∃ a, vk_R RX0 64 "there are 6 bollards" a U) ∧ (∃ a, vk_R RX0 73 "there are 10 lines" a U) ∧ (∃ a, vk_R RX0 111 "the line is let go" a U) ∧ (∃ a, vk_R RX0 123 "the last hour is before the first" a U)) ∧ ((∃ a, vk_R RX0 137 "no such hour" a U) ∧ (∃ a, vk_R RX0 140 "no such bollard" a U) ∧ (∃ a, vk_R RX0 142 "no such line" a U) ∧ (∃ a, vk_R RX0 144 "out of range" a U)) ∧ (va_Nw (.castable xE1 xE1) U ∧ va_Nw (.castable xE2 xE2) U ∧ va_Nw (.castable xE3 xE3) U) ∧ (va_Nw (.declares (Bundle.initS "java/lang/Throwable")) U ∧ va_Nw (.declares (Bundle.initS "java/lang/Exception")) U ∧ va_Nw (.declares (Bundle.initS "java/lang/RuntimeException")) U) ∧ (va_Nc xE2 xE1 U ∧ va_Nc xE3 xE1 U ∧ va_Nc xE1 xE2 U ∧ va_Nc xE3 xE2 U ∧ va_Nc xE1 xE3 U ∧ va_Nc xE2 xE3 U)
theorem tpW_warm {s U : State} (hW : s.WarmedH U.vm) (h : tpW s) : tpW U := by
  obtain ⟨⟨⟨a1, h1⟩, ⟨a2, h2⟩, ⟨a3, h3⟩, ⟨a4, h4⟩⟩, ⟨⟨a5, h5⟩, ⟨a6, h6⟩, ⟨a7, h7⟩, ⟨a8, h8⟩⟩, ⟨c1, c2, c3⟩, ⟨d1, d2, d3⟩, n1, n2, n3, n4, n5, n6⟩ := h
  exact ⟨⟨⟨a1, h1.warm hW⟩, ⟨a2, h2.warm hW⟩, ⟨a3, h3.warm hW⟩, ⟨a4, h4.warm hW⟩⟩, ⟨⟨a5, h5.warm hW⟩, ⟨a6, h6.warm hW⟩, ⟨a7, h7.warm hW⟩, ⟨a8, h8.warm hW⟩⟩, ⟨c1.warmC hW, c2.warmC hW, c3.warmC hW⟩, ⟨d1.warmD hW, d2.warmD hW, d3.warmD hW⟩, n1.moved hW.alike, n2.moved hW.alike, n3.moved hW.alike, n4.moved hW.alike, n5.moved hW.alike, n6.moved hW.alike⟩
theorem tpW_same {s U : State} (hv : s.vm = U.vm) (h : tpW s) : tpW U := by
  obtain ⟨⟨⟨a1, h1⟩, ⟨a2, h2⟩, ⟨a3, h3⟩, ⟨a4, h4⟩⟩, ⟨⟨a5, h5⟩, ⟨a6, h6⟩, ⟨a7, h7⟩, ⟨a8, h8⟩⟩, ⟨c1, c2, c3⟩, ⟨d1, d2, d3⟩, n1, n2, n3, n4, n5, n6⟩ := h
  have hal : s.vm.Alike U.vm := by rw [hv]; exact Vm.Alike.refl _
  exact ⟨⟨⟨a1, h1.same hv.symm⟩, ⟨a2, h2.same hv.symm⟩, ⟨a3, h3.same hv.symm⟩, ⟨a4, h4.same hv.symm⟩⟩, ⟨⟨a5, h5.same hv.symm⟩, ⟨a6, h6.same hv.symm⟩, ⟨a7, h7.same hv.symm⟩, ⟨a8, h8.same hv.symm⟩⟩, ⟨c1.same rfl hv, c2.same rfl hv, c3.same rfl hv⟩, ⟨d1.same rfl hv, d2.same rfl hv, d3.same rfl hv⟩, n1.moved hal, n2.moved hal, n3.moved hal, n4.moved hal, n5.moved hal, n6.moved hal⟩
def tpS (A : Nat → Prop) (H : Heap) (U : State) : Prop := vx_Zq Bundle.tN "UNASSIGNED_STACK" Bundle.steD A U H ∧ vx_Zq Bundle.tN "SUPPRESSED_SENTINEL" Bundle.listD A U H
def tpA (A : Nat → Prop) (H : Heap) (U : State) : Prop := tpS A H U ∧ tpW U
theorem tpA_warm {A : Nat → Prop} {H : Heap} {s U : State} (hW : s.WarmedH U.vm) (h : tpA A H s) : tpA A H U := ⟨⟨vx_Zq.moved hW.alike h.1.1, vx_Zq.moved hW.alike h.1.2⟩, tpW_warm hW h.2⟩
theorem tpA_same {A : Nat → Prop} {H : Heap} {s U : State} (hv : s.vm = U.vm) (h : tpA A H s) : tpA A H U := by
  have hal : s.vm.Alike U.vm := by rw [hv]; exact Vm.Alike.refl _
  exact ⟨⟨vx_Zq.moved hal h.1.1, vx_Zq.moved hal h.1.2⟩, tpW_same hv h.2⟩
def thP (av : List Value) (D : va_G) (W0 : va_W) (tys : List (ClassId × FieldType)) (H0 : Heap) (A : Nat → Prop) : Array Value → State → Prop := va_Pc av (fun U => U.heap = H0 ∧ va_P D vwCl W0 H0 ∧ va_K D vwCl tys U ∧ tpA A H0 U)
theorem thP_blind {av : List Value} {D : va_G} {W0 : va_W} {tys : List (ClassId × FieldType)} {H0 : Heap} {A : Nat → Prop} : FrameBlind (thP av D W0 tys H0 A) := by
  intro a U g mk h
  obtain ⟨h1, h2, h3, h4, h5⟩ := h
  exact ⟨h1, h2, h3, va_K.moved (u := U) (U := U.calling g mk a) (Vm.Alike.refl U.vm) h4, tpA_same (s := U) (U := U.calling g mk a) rfl h5⟩
/-- the heap grew, nothing old changed -/
def grew (H0 H : Heap) : Prop := H0.size ≤ H.size ∧ ∀ q : Nat, q < H0.size → H[q]? = H0[q]?
def ckX (H0 : Heap) (XP : String → Prop) : String → State → State → Prop := fun E _ t => XP E ∧ grew H0 t.heap
/-- a check: returns where cond holds, throws E where it doesn't -/
def ckM (l : Launch) (y : MethodName) (ws : List Cond) (rm : Room) (av : List Value) (D : va_G) (W0 : va_W) (tys : List (ClassId × FieldType)) (H0 : Heap) (A : Nat → Prop) (cond : Prop) (E : String) : Prop :=
  vx_Met l y ws rm (thP av D W0 tys H0 A) (va_Qv (fun (_ : Unit) => cond) (fun _ t => t.heap = H0) (fun _ => False)) (ckX H0 (fun E' => E' = E ∧ ¬ cond)) 1 6 (fun _ => False)
def ckQ (below : List Frame) (H0 : Heap) (cond : Prop) (E : String) (args : Array Value) (s : State) : State → Prop := vx_MQ below (va_Qv (fun (_ : Unit) => cond) (fun _ t => t.heap = H0) (fun _ => False)) (ckX H0 (fun E' => E' = E ∧ ¬ cond)) args s 1 6 (fun _ => False)
/-- a method of the face: answers a number and writes among the cells of A, or throws and writes nothing -/
def thM (l : Launch) (y : MethodName) (ws : List Cond) (rm : Room) (av : List Value) (D : va_G) (W0 : va_W) (tys : List (ClassId × FieldType)) (H0 : Heap) (A : Nat → Prop) {S : Type} (Wf : S → va_W) (post : Int32 → S → Prop) (XP : String → Prop) : Prop :=
  vx_Met l y ws rm (thP av D W0 tys H0 A) (va_Qi post (fun u t => va_P D vwCl (Wf u) t.heap) A) (ckX H0 XP) 1 6 A
def thQ (below : List Frame) (D : va_G) (H0 : Heap) (A : Nat → Prop) {S : Type} (Wf : S → va_W) (post : Int32 → S → Prop) (XP : String → Prop) (args : Array Value) (s : State) : State → Prop := vx_MQ below (va_Qi post (fun u t => va_P D vwCl (Wf u) t.heap) A) (ckX H0 XP) args s 1 6 A
section
variable {l : Launch} {y : MethodName} {cc : ByteArray} {maxL : Nat} {ret : Option FieldType} {ws ws' : List Cond} {rm : Room} {av : List Value} {D : va_G} {W0 : va_W} {tys : List (ClassId × FieldType)} {H0 : Heap}
theorem ro_of {post : Int32 → Prop} (hy : plainName y.cls = true) (hw : ws = Cond.code y cc maxL ret :: ws') (hn : (lg_sl av).length ≤ maxL)
    (body : ∀ (p : Program) (e : Env) (s : State) (m : MethodId) (args : Array Value) (below : List Frame) (meth : Method) (c : Code), roE p s m meth c args y cc maxL ret ws → s.heap = H0 → va_P D vwCl W0 H0 → va_K D vwCl tys s → ∀ ls : Array Slot, lv_has ls maxL (lv_args 0 av) → W p l e rm s m args below meth c H0 [] 0 0 (roQ below H0 post args s) (F0 m 0 ls [])) : roM l y ws rm av D W0 tys H0 post := by
  refine Met.ofW (cc := cc) (maxL := maxL) (ret := ret) hy hw ?_
  intro p e s m args below meth c s₁ B hml hv
  obtain ⟨rfl, hH, hP, hK⟩ := hv
  rw [hH, lg_entry_eq]
  exact body p e s m _ below meth c ⟨B.exec, B.bytes, B.returns, hml, findClass_of_methodNamed B.named, atoms_spec (ws := ws) B.pre, B.notSynchronized⟩ hH hP hK _ (lv_entry av hn)
theorem wr_of {S : Type} {Wf : S → va_W} {post : Int32 → S → Prop} {A : Nat → Prop} (hy : plainName y.cls = true) (hw : ws = Cond.code y cc maxL ret :: ws') (hn : (lg_sl av).length ≤ maxL)
    (body : ∀ (p : Program) (e : Env) (s : State) (m : MethodId) (args : Array Value) (below : List Frame) (meth : Method) (c : Code), roE p s m meth c args y cc maxL ret ws → s.heap = H0 → va_P D vwCl W0 H0 → va_K D vwCl tys s → ∀ ls : Array Slot, lv_has ls maxL (lv_args 0 av) → W p l e rm s m args below meth c H0 [] 0 0 (wrQ below D Wf post A args s) (F0 m 0 ls [])) : wrM l y ws rm av D W0 tys H0 Wf post A := by
  refine Met.ofW (cc := cc) (maxL := maxL) (ret := ret) hy hw ?_
  intro p e s m args below meth c s₁ B hml hv
  obtain ⟨rfl, hH, hP, hK⟩ := hv
  rw [hH, lg_entry_eq]
  exact body p e s m _ below meth c ⟨B.exec, B.bytes, B.returns, hml, findClass_of_methodNamed B.named, atoms_spec (ws := ws) B.pre, B.notSynchronized⟩ hH hP hK _ (lv_entry av hn)
theorem ck_of {A : Nat → Prop} {cond : Prop} {E : String} (hy : plainName y.cls = true) (hw : ws = Cond.code y cc maxL ret :: ws') (hn : (lg_sl av).length ≤ maxL)
    (body : ∀ (p : Program) (e : Env) (s : State) (m : MethodId) (args : Array Value) (below : List Frame) (meth : Method) (c : Code), roE p s m meth c args y cc maxL ret ws → (∀ x ∈ c.exceptionTable.toList, False) → s.heap = H0 → va_P D vwCl W0 H0 → va_K D vwCl tys s → tpA A H0 s → ∀ ls : Array Slot, lv_has ls maxL (lv_args 0 av) → W p l e rm s m args below meth c H0 [] 0 0 (ckQ below H0 cond E args s) (F0 m 0 ls [])) : ckM l y ws rm av D W0 tys H0 A cond E := by
  refine vx_ofW (cc := cc) (maxL := maxL) (ret := ret) hy hw ?_
  intro p e s m args below meth c s₁ B hml hout hv
  obtain ⟨rfl, hH, hP, hK, hT⟩ := hv
  rw [hH, lg_entry_eq]
  exact body p e s m _ below meth c ⟨B.exec, B.bytes, B.returns, hml, findClass_of_methodNamed B.named, atoms_spec (ws := ws) B.pre, B.notSynchronized⟩ hout hH hP hK hT _ (lv_entry av hn)
theorem th_of {S : Type} {Wf : S → va_W} {post : Int32 → S → Prop} {XP : String → Prop} {A : Nat → Prop} (hy : plainName y.cls = true) (hw : ws = Cond.code y cc maxL ret :: ws') (hn : (lg_sl av).length ≤ maxL)
    (body : ∀ (p : Program) (e : Env) (s : State) (m : MethodId) (args : Array Value) (below : List Frame) (meth : Method) (c : Code), roE p s m meth c args y cc maxL ret ws → (∀ x ∈ c.exceptionTable.toList, False) → s.heap = H0 → va_P D vwCl W0 H0 → va_K D vwCl tys s → tpA A H0 s → ∀ ls : Array Slot, lv_has ls maxL (lv_args 0 av) → W p l e rm s m args below meth c H0 [] 0 0 (thQ below D H0 A Wf post XP args s) (F0 m 0 ls [])) : thM l y ws rm av D W0 tys H0 A Wf post XP := by
  refine vx_ofW (cc := cc) (maxL := maxL) (ret := ret) hy hw ?_
  intro p e s m args below meth c s₁ B hml hout hv
  obtain ⟨rfl, hH, hP, hK, hT⟩ := hv
  rw [hH, lg_entry_eq]
  exact body p e s m _ below meth c ⟨B.exec, B.bytes, B.returns, hml, findClass_of_methodNamed B.named, atoms_spec (ws := ws) B.pre, B.notSynchronized⟩ hout hH hP hK hT _ (lv_entry av hn)
end
section
variable {p : Program} {l : Launch} {e : Env} {R : Room} {s : State} {m : MethodId} {args : Array Value} {below : List Frame} {meth : Method} {c : Code} {H : Heap} {locs : List Loc} {cells slots : Nat} {Q : State → Prop}
variable {y : MethodName} {bytes cc : ByteArray} {maxL nL n index : Nat} {ret : Option FieldType} {ws ws' : List Cond} {rm : Room} {Ts : List Cond} {own C : String} {b : Addr} {As av rest st0 : List Value} {pc : Nat} {ls : Array Slot} {D : va_G} {W0 : va_W} {tys : List (ClassId × FieldType)} {H0 : Heap}
theorem va_F_rf {s t : State} {H : Heap} (hs : s.heap = H) (ht : t.heap = H) : va_F (fun _ => False) s t := ⟨by rw [hs, ht]; exact Nat.le_refl _, fun q _ _ => by rw [hs, ht]⟩
theorem bI_narrow (b : Bool) : narrow .boolean (.int (bI b)) = .int (bI b) := by cases b <;> rfl
theorem ro_ret {post : Int32 → Prop} {v : Int32} (hexec : p.tables.exec = Jvm.exec) (hb : c.code = cc) (hr : meth.sig.returnType = some .int) (hlocks : meth.locks = false) (hH : s.heap = H) (hp : post v) (hdg : decode cc pc = .ok (.ireturn, 1)) : W p l e R s m args below meth c H [] 0 0 (roQ below H post args s) (F0 m pc ls [.int v]) :=
  W.iret (v := v) hexec hb hr (fun t ht _ => ⟨⟨v, (), rfl, hp, ht⟩, va_F_rf hH ht⟩) (fun _ h => nomatch h) hdg hlocks
theorem ro_zret {post : Int32 → Prop} {v : Int32} (hexec : p.tables.exec = Jvm.exec) (hb : c.code = cc) (hr : meth.sig.returnType = some .boolean) (hlocks : meth.locks = false) (hH : s.heap = H) (hv : ∃ z : Bool, v = bI z) (hp : post v) (hdg : decode cc pc = .ok (.ireturn, 1)) : W p l e R s m args below meth c H [] 0 0 (roQ below H post args s) (F0 m pc ls [.int v]) :=
  W.zret (v := v) hexec hb hr (by obtain ⟨z, rfl⟩ := hv; exact bI_narrow z) (fun t ht _ => ⟨⟨v, (), rfl, hp, ht⟩, va_F_rf hH ht⟩) (fun _ h => nomatch h) hdg hlocks
theorem wr_ret {S : Type} {Wf : S → va_W} {post : Int32 → S → Prop} {A : Nat → Prop} {v : Int32} (u : S) (hexec : p.tables.exec = Jvm.exec) (hb : c.code = cc) (hr : meth.sig.returnType = some .int) (hlocks : meth.locks = false) (hH : s.heap = H0) (hS : va_S A H0 H locs) (hP : va_P D vwCl (Wf u) H) (hp : post v u) (hdg : decode cc pc = .ok (.ireturn, 1)) : W p l e R s m args below meth c H locs 0 0 (wrQ below D Wf post A args s) (F0 m pc ls [.int v]) :=
  W.iret (v := v) hexec hb hr (fun t ht _ => ⟨⟨v, u, rfl, hp, (by subst ht; exact hP)⟩, va_S.F (by rw [hH]; exact hS) ht⟩) hS.2.2 hdg hlocks
theorem wr_zret {S : Type} {Wf : S → va_W} {post : Int32 → S → Prop} {A : Nat → Prop} {v : Int32} (u : S) (hexec : p.tables.exec = Jvm.exec) (hb : c.code = cc) (hr : meth.sig.returnType = some .boolean) (hlocks : meth.locks = false) (hH : s.heap = H0) (hS : va_S A H0 H locs) (hP : va_P D vwCl (Wf u) H) (hv : ∃ z : Bool, v = bI z) (hp : post v u) (hdg : decode cc pc = .ok (.ireturn, 1)) : W p l e R s m args below meth c H locs 0 0 (wrQ below D Wf post A args s) (F0 m pc ls [.int v]) :=
  W.zret (v := v) hexec hb hr (by obtain ⟨z, rfl⟩ := hv; exact bI_narrow z) (fun t ht _ => ⟨⟨v, u, rfl, hp, (by subst ht; exact hP)⟩, va_S.F (by rw [hH]; exact hS) ht⟩) hS.2.2 hdg hlocks
theorem th_ret {S : Type} {Wf : S → va_W} {post : Int32 → S → Prop} {XP : String → Prop} {A : Nat → Prop} {v : Int32} (u : S) (hexec : p.tables.exec = Jvm.exec) (hb : c.code = cc) (hr : meth.sig.returnType = some .int) (hlocks : meth.locks = false) (hH : s.heap = H0) (hS : va_S A H0 H locs) (hP : va_P D vwCl (Wf u) H) (hp : post v u) (hdg : decode cc pc = .ok (.ireturn, 1)) : W p l e R s m args below meth c H locs 0 0 (thQ below D H0 A Wf post XP args s) (F0 m pc ls [.int v]) :=
  W.widen (k := 1) (n := 6) (Nat.zero_le _) (Nat.zero_le _) (vx_ret (W.iret (v := v) hexec hb hr (fun t ht _ => ⟨⟨v, u, rfl, hp, (by subst ht; exact hP)⟩, va_S.F (by rw [hH]; exact hS) ht⟩) hS.2.2 hdg hlocks))
theorem th_zret {S : Type} {Wf : S → va_W} {post : Int32 → S → Prop} {XP : String → Prop} {A : Nat → Prop} {v : Int32} (u : S) (hexec : p.tables.exec = Jvm.exec) (hb : c.code = cc) (hr : meth.sig.returnType = some .boolean) (hlocks : meth.locks = false) (hH : s.heap = H0) (hS : va_S A H0 H locs) (hP : va_P D vwCl (Wf u) H) (hv : ∃ z : Bool, v = bI z) (hp : post v u) (hdg : decode cc pc = .ok (.ireturn, 1)) : W p l e R s m args below meth c H locs 0 0 (thQ below D H0 A Wf post XP args s) (F0 m pc ls [.int v]) :=
  W.widen (k := 1) (n := 6) (Nat.zero_le _) (Nat.zero_le _) (vx_ret (W.zret (v := v) hexec hb hr (by obtain ⟨z, rfl⟩ := hv; exact bI_narrow z) (fun t ht _ => ⟨⟨v, u, rfl, hp, (by subst ht; exact hP)⟩, va_S.F (by rw [hH]; exact hS) ht⟩) hS.2.2 hdg hlocks))
theorem ck_ret {cond : Prop} {E : String} (hexec : p.tables.exec = Jvm.exec) (hb : c.code = cc) (hr : meth.sig.returnType = none) (hlocks : meth.locks = false) (hH : s.heap = H) (hp : cond) (hdg : decode cc pc = .ok (.return_, 1)) : W p l e R s m args below meth c H [] 0 0 (ckQ below H cond E args s) (F0 m pc ls []) :=
  W.widen (k := 1) (n := 6) (Nat.zero_le _) (Nat.zero_le _) (vx_ret (W.vret hexec hb hr (fun t ht _ => ⟨⟨(), rfl, hp, ht⟩, va_F_rf hH ht⟩) (fun _ h => nomatch h) hdg hlocks))
/-- a call of a method that writes nothing -/
theorem ro_go {post : Int32 → Prop} {a : Array Value} (hr : va_Run p l e R s m args below meth c H locs cells slots 0 0 (F0 m pc ls st0) rest (va_Qi (fun (r : Int32) (_ : Unit) => post r) (fun _ t => t.heap = H) (fun _ => False) a) (fun _ => False))
    (kk : ∀ r : Int32, post r → W p l e R s m args below meth c H locs cells slots Q (F0 m (pc + 3) ls (.int r :: rest))) : W p l e R s m args below meth c H locs cells slots Q (F0 m pc ls st0) := by
  intro T hT X
  obtain ⟨v, st₀, t, T', L, h0, X', hL, e1, e2, ⟨⟨r, u, hv, hp, hb⟩, hF⟩, st⟩ := hr T hT X
  cases hv
  have hL0 : L = [] := by
    cases L with
    | nil => rfl
    | cons q r => exact (hL q List.mem_cons_self).elim
  subst hL0
  rw [List.append_nil] at X'
  obtain ⟨t2, a1, b1⟩ := kk r hp T' (e1.trans hb) X'
  exact ⟨t2, st t2 a1, b1⟩
theorem ro_callV {post : Int32 → Prop} (n : Nat) (hx : p.tables.exec = Jvm.exec) (hb : c.code = cc) (hml : c.maxLocals = nL) (hown : s.vm.findClass own = some m.cls) (hts : ∀ w ∈ Ts, w.before args s = true) (hsize : ls.size = nL)
    (hP : va_P D vwCl W0 H) (hK : va_K D vwCl tys s) (q0 ci : Nat) {q : vw_C} {fs : List Value} (hc : vwCl[ci]? = some q) (he : W0[q0]? = some (b, .inr (ci, fs))) (hM : roM l y ws rm (.ref b :: As) D W0 tys H post) (hG : GoodIn Ts (wsV own index q.1 y ws)) (hw : ws = Cond.code y bytes maxL ret :: ws') (hrc : rm.cells = 0) (hrs : rm.slots = 0)
    (hd : y.cls = q.1 ∧ y.cls ≠ "java/lang/invoke/MethodHandle" ∧ y.cls ≠ "java/lang/invoke/VarHandle" ∧ (parseMethodDescriptor y.desc).map (fun d => d.parameters.length) = some n) (hR : rm.frames + 1 ≤ R.frames ∧ 8 + (maxL + 11) + rm.locals ≤ R.locals) (hn : As.length = n) (hst : st0 = As.reverse ++ .ref b :: rest) (hW : (rest.map fun v => v.category).sum ≤ 8)
    (hdg : decode cc pc = .ok (.invokevirtual index, 3)) (hf : cells ≤ R.cells ∧ slots ≤ R.slots) (kk : ∀ r : Int32, post r → W p l e R s m args below meth c H locs cells slots Q (F0 m (pc + 3) ls (.int r :: rest))) : W p l e R s m args below meth c H locs cells slots Q (F0 m pc ls st0) :=
  ro_go (va_runV ⟨hx, hb, hml, hown, hts⟩ hM (cwV n hts hG hw hrc hrs hd hR) ⟨roP_blind, va_recv hK hP hc he, fun U hU hWm => ⟨rfl, hU, hP, va_K.moved hWm.alike hK⟩⟩ rfl hn hsize hst (lv_room hW) hdg hf) kk
theorem ro_callS {post : Int32 → Prop} (n : Nat) (hx : p.tables.exec = Jvm.exec) (hb : c.code = cc) (hml : c.maxLocals = nL) (hown : s.vm.findClass own = some m.cls) (hts : ∀ w ∈ Ts, w.before args s = true) (hsize : ls.size = nL)
    (hP : va_P D vwCl W0 H) (hK : va_K D vwCl tys s) (hM : roM l y ws rm As D W0 tys H post) (hG : GoodIn Ts (va_wsS own index y ws)) (hw : ws = Cond.code y bytes maxL ret :: ws') (hrc : rm.cells = 0) (hrs : rm.slots = 0)
    (hd : y.cls ≠ "java/lang/invoke/MethodHandle" ∧ y.cls ≠ "java/lang/invoke/VarHandle" ∧ (parseMethodDescriptor y.desc).map (fun d => d.parameters.length) = some n) (hR : rm.frames + 1 ≤ R.frames ∧ 8 + (maxL + 11) + rm.locals ≤ R.locals) (hn : As.length = n) (hst : st0 = As.reverse ++ rest) (hW : (rest.map fun v => v.category).sum ≤ 8)
    (hdg : decode cc pc = .ok (.invokestatic index, 3)) (hf : cells ≤ R.cells ∧ slots ≤ R.slots) (kk : ∀ r : Int32, post r → W p l e R s m args below meth c H locs cells slots Q (F0 m (pc + 3) ls (.int r :: rest))) : W p l e R s m args below meth c H locs cells slots Q (F0 m pc ls st0) :=
  ro_go (va_runS ⟨hx, hb, hml, hown, hts⟩ hM (va_cwS n hts hG hw hrc hrs hd hR) ⟨roP_blind, fun U hU hWm => ⟨rfl, hU, hP, va_K.moved hWm.alike hK⟩⟩ rfl hn hsize hst (lv_room hW) hdg hf) kk
/-- a call of a method that writes, its cells A among the caller's A0 -/
theorem wr_callV {S : Type} {Wf : S → va_W} {post : Int32 → S → Prop} {A A0 : Nat → Prop} (n : Nat) (hx : p.tables.exec = Jvm.exec) (hb : c.code = cc) (hml : c.maxLocals = nL) (hown : s.vm.findClass own = some m.cls) (hts : ∀ w ∈ Ts, w.before args s = true) (hsize : ls.size = nL)
    (hP : va_P D vwCl W0 H) (hK : va_K D vwCl tys s) (hS : va_S A0 H0 H locs) (hAA : ∀ q, A q → A0 q) (q0 ci : Nat) {q : vw_C} {fs : List Value} (hc : vwCl[ci]? = some q) (he : W0[q0]? = some (b, .inr (ci, fs))) (hM : wrM l y ws rm (.ref b :: As) D W0 tys H Wf post A) (hG : GoodIn Ts (wsV own index q.1 y ws)) (hw : ws = Cond.code y bytes maxL ret :: ws') (hrc : rm.cells = 0) (hrs : rm.slots = 0)
    (hd : y.cls = q.1 ∧ y.cls ≠ "java/lang/invoke/MethodHandle" ∧ y.cls ≠ "java/lang/invoke/VarHandle" ∧ (parseMethodDescriptor y.desc).map (fun d => d.parameters.length) = some n) (hR : rm.frames + 1 ≤ R.frames ∧ 8 + (maxL + 11) + rm.locals ≤ R.locals) (hn : As.length = n) (hst : st0 = As.reverse ++ .ref b :: rest) (hW : (rest.map fun v => v.category).sum ≤ 8)
    (hdg : decode cc pc = .ok (.invokevirtual index, 3)) (hf : cells ≤ R.cells ∧ slots ≤ R.slots) (kk : ∀ (r : Int32) (u : S) (H1 : Heap) (locs1 : List Loc), post r u → va_P D vwCl (Wf u) H1 → va_S A0 H0 H1 locs1 → H.size ≤ H1.size → (∀ q : Nat, q < H.size → ¬ A q → H1[q]? = H[q]?) → W p l e R s m args below meth c H1 locs1 cells slots Q (F0 m (pc + 3) ls (.int r :: rest))) : W p l e R s m args below meth c H locs cells slots Q (F0 m pc ls st0) :=
  va_calli (va_runV ⟨hx, hb, hml, hown, hts⟩ hM (cwV n hts hG hw hrc hrs hd hR) ⟨roP_blind, va_recv hK hP hc he, fun U hU hWm => ⟨rfl, hU, hP, va_K.moved hWm.alike hK⟩⟩ rfl hn hsize hst (lv_room hW) hdg hf) hS (fun q _ h => hAA q h) hAA (fun r u t H1 locs1 ht _ hp hB hz hk hS1 => kk r u H1 locs1 hp (by rw [← ht]; exact hB) hS1 hz hk)
/-- what a check's call leaves: the heap as it was, or thrown on to the caller's caller -/
theorem ck_go {S : Type} {Wf : S → va_W} {post : Int32 → S → Prop} {XP : String → Prop} {A : Nat → Prop} {cond : Prop} {E : String} {a : Array Value} (hlocks : meth.locks = false) (hout : ∀ x ∈ c.exceptionTable.toList, False)
    (hr : vx_Run p l e R s m args below meth c H [] 0 0 1 6 (F0 m pc ls st0) rest (va_Qv (fun (_ : Unit) => cond) (fun _ t => t.heap = H) (fun _ => False) a) (ckX H (fun E' => E' = E ∧ ¬ cond)) (fun _ => False))
    (hfail : ¬ cond → XP E) (kk : cond → W p l e R s m args below meth c H [] 0 0 (thQ below D H A Wf post XP args s) (F0 m (pc + 3) ls rest)) : W p l e R s m args below meth c H [] 0 0 (thQ below D H A Wf post XP args s) (F0 m pc ls st0) := by
  intro T hT X
  rcases hr T hT X with ⟨v, st₀, t, T', L, h0, X', hL, e1, e2, ⟨⟨u, hv, hp, hb⟩, hF⟩, st⟩ | ⟨q, st₀, t, T', L, E', ce, h0, X', hL, e1, e2, ⟨⟨hE, hnc⟩, hg⟩, hce, hcv, hcl, st⟩
  · cases hv
    have hL0 : L = [] := by
      cases L with
      | nil => rfl
      | cons q r => exact (hL q List.mem_cons_self).elim
    subst hL0
    have hh : T'.heap = T.heap := (e1.trans hb).trans hT.symm
    have hsame : s.sameButNew (T'.setVm s.vm) [] 0 0 := by
      have h1 : (T'.setVm s.vm).heap = (T.setVm s.vm).heap := hh
      obtain ⟨a1, a2, a3, a4, a5, a6⟩ := X'.same
      obtain ⟨b1, b2, b3, b4, b5, b6⟩ := X.same
      exact ⟨a1, a2, by rw [h1]; exact b3, a4, by rw [h1]; exact b5, a6⟩
    have X2 : Stand p l e R s m args below meth c T' [] 0 0 := { X' with same := hsame }
    obtain ⟨t2, a1, b1⟩ := kk hp T' (hh.trans hT) X2
    exact ⟨t2, st t2 a1, b1⟩
  · have hL0 : L = [] := by
      cases L with
      | nil => rfl
      | cons q r => exact (hL q List.mem_cons_self).elim
    subst hL0
    subst hE
    have hg2 : grew H T'.heap := by rw [e1]; exact hg
    obtain ⟨t2, a1, b1⟩ := vx_out (rest := rest) (ls := ls) (pc := pc) (E := E') (Qc := va_Qi post (fun u t => va_P D vwCl (Wf u) t.heap) A) (XC := ckX H XP) (mc := 1) (ms := 6) (free := A) (fun x hx => (hout x hx).elim) hlocks (by rw [e1]; exact hce) hcv hcl (fun t9 ht9 _ => ⟨hfail hnc, by rw [ht9]; exact hg2⟩) (fun z h => by simp at h) (Nat.le_refl _) (Nat.le_refl _) T' rfl X'
    exact ⟨t2, st.trans a1, b1⟩
end
end
section
/-! Numbers and what the berth answers, as functions of its state (no machine here). -/
def zI (z : Int) : Int32 := Int32.ofInt z
theorem zI_ti {z : Int} (h1 : -2147483648 ≤ z) (h2 : z < 2147483648) : (zI z).toInt = z := Int32.toInt_ofInt_of_le (by omega) (by omega)
theorem zI_of {x : Int32} {z : Int} (h : x.toInt = z) : x = zI z := by
  have h1 := Int32.toInt_lt x
  have h2 := Int32.le_toInt x
  apply Int32.toInt_inj.mp
  rw [zI_ti (by omega) (by omega)]
  exact h
theorem nI_zI (n : Nat) : nI n = zI (n : Int) := (Int32.ofInt_eq_ofNat).symm
theorem nI_ti {n : Nat} (h : n < 2147483648) : (nI n).toInt = (n : Int) := nI_toInt (by omega)
theorem ti_nI {x : Int32} {n : Nat} (h : x.toInt = (n : Int)) : x = nI n := by
  rw [nI_zI]; exact zI_of h
theorem i_lt {x y : Int32} : x < y ↔ x.toInt < y.toInt := Int32.lt_iff_toInt_lt
theorem i_le {x y : Int32} : x ≤ y ↔ x.toInt ≤ y.toInt := Int32.le_iff_toInt_le
theorem i_eq {x y : Int32} : x = y ↔ x.toInt = y.toInt := Int32.toInt_inj.symm
theorem zI_add (a b : Int) : zI a + zI b = zI (a + b) := by
  apply Int32.toInt_inj.mp
  simp [zI]
theorem zI_sub (a b : Int) : zI a - zI b = zI (a - b) := by
  apply Int32.toInt_inj.mp
  simp [zI]
theorem zI_lt {a b : Int} (h1 : -2147483648 ≤ a) (h2 : a < 2147483648) (h3 : -2147483648 ≤ b) (h4 : b < 2147483648) : zI a < zI b ↔ a < b := by
  rw [i_lt, zI_ti h1 h2, zI_ti h3 h4]
theorem zI_le {a b : Int} (h1 : -2147483648 ≤ a) (h2 : a < 2147483648) (h3 : -2147483648 ≤ b) (h4 : b < 2147483648) : zI a ≤ zI b ↔ a ≤ b := by
  rw [i_le, zI_ti h1 h2, zI_ti h3 h4]
/-- the greatest whole number whose square is at most N -/
def isq : Nat → Nat
  | 0 => 0
  | n + 1 => if (isq n + 1) * (isq n + 1) ≤ n + 1 then isq n + 1 else isq n
theorem isq_spec : ∀ n : Nat, isq n * isq n ≤ n ∧ n < (isq n + 1) * (isq n + 1) := by
  intro n
  induction n with
  | zero => exact ⟨Nat.le_refl 0, Nat.zero_lt_one⟩
  | succ n ih =>
    obtain ⟨h1, h2⟩ := ih
    unfold isq
    by_cases h : (isq n + 1) * (isq n + 1) ≤ n + 1
    · rw [if_pos h]
      refine ⟨h, ?_⟩
      have e : (isq n + 1 + 1) * (isq n + 1 + 1) = (isq n + 1) * (isq n + 1) + 2 * (isq n + 1) + 1 := by
        rw [Nat.add_mul, Nat.mul_add]; omega
      omega
    · rw [if_neg h]
      exact ⟨by omega, by omega⟩
theorem isq_uniq {n r : Nat} (h1 : r * r ≤ n) (h2 : n < (r + 1) * (r + 1)) : isq n = r := by
  obtain ⟨a1, a2⟩ := isq_spec n
  rcases Nat.lt_trichotomy (isq n) r with h | h | h
  · have := Nat.mul_le_mul (show isq n + 1 ≤ r from h) (show isq n + 1 ≤ r from h)
    omega
  · exact h
  · have := Nat.mul_le_mul (show r + 1 ≤ isq n from h) (show r + 1 ≤ isq n from h)
    omega
theorem isq_le {n k : Nat} (h : n < (k + 1) * (k + 1)) : isq n ≤ k := by
  obtain ⟨a1, a2⟩ := isq_spec n
  rcases Nat.lt_or_ge k (isq n) with q | q
  · have := Nat.mul_le_mul (show k + 1 ≤ isq n from q) (show k + 1 ≤ isq n from q)
    omega
  · exact q
def sq2 (x y : Int32) : Nat := (x.toInt * x.toInt + y.toInt * y.toInt).toNat
def LENs (x y : Int32) : Int32 := nI (isq (sq2 x y))
theorem sq_le {a b : Int} (h1 : -b ≤ a) (h2 : a ≤ b) : 0 ≤ a * a ∧ a * a ≤ b * b := by
  have h3 := Int.mul_nonneg (show 0 ≤ b - a by omega) (show 0 ≤ b + a by omega)
  have e : (b - a) * (b + a) = b * b - a * a := by
    rw [Int.sub_mul, Int.mul_add, Int.mul_add, Int.mul_comm a b]; omega
  have h4 : 0 ≤ a * a := by
    rcases Int.le_total 0 a with q | q
    · exact Int.mul_nonneg q q
    · have := Int.mul_nonneg (show 0 ≤ -a by omega) (show 0 ≤ -a by omega)
      rwa [Int.neg_mul_neg] at this
  omega
/-- along and height as far as they can be -/
def inA (x : Int32) : Prop := -10200 ≤ x.toInt ∧ x.toInt ≤ 10200
def inH (y : Int32) : Prop := -700 ≤ y.toInt ∧ y.toInt ≤ 700
theorem sq2_le {x y : Int32} (hx : inA x) (hy : inH y) : sq2 x y ≤ 104530000 ∧ (sq2 x y : Int) = x.toInt * x.toInt + y.toInt * y.toInt := by
  obtain ⟨a1, a2⟩ := sq_le hx.1 hx.2
  obtain ⟨b1, b2⟩ := sq_le hy.1 hy.2
  unfold sq2
  omega
theorem sq2_eq {x y : Int32} (hx : inA x) (hy : inH y) : x * x + y * y = nI (sq2 x y) := by
  obtain ⟨a1, a2⟩ := sq_le hx.1 hx.2
  obtain ⟨b1, b2⟩ := sq_le hy.1 hy.2
  obtain ⟨c1, c2⟩ := sq2_le hx hy
  apply ti_nI
  have e1 : (x * x).toInt = x.toInt * x.toInt := Jvm.Kit.i32_mul (by omega) (by omega)
  have e2 : (y * y).toInt = y.toInt * y.toInt := Jvm.Kit.i32_mul (by omega) (by omega)
  rw [Jvm.Kit.i32_add (by omega) (by omega), e1, e2, c2]
theorem LENs_le {x y : Int32} (hx : inA x) (hy : inH y) : ∃ n : Nat, LENs x y = nI n ∧ n ≤ 10224 := by
  obtain ⟨c1, c2⟩ := sq2_le hx hy
  exact ⟨_, rfl, isq_le (by omega)⟩
/-- sums from left to right -/
def acc (f : Nat → Int32) (b : Int32) : Nat → Int32
  | 0 => b
  | n + 1 => acc f b n + f n
theorem acc_congr {f g : Nat → Int32} {b : Int32} : ∀ n : Nat, (∀ j, j < n → f j = g j) → acc f b n = acc g b n := by
  intro n
  induction n with
  | zero => intro _; rfl
  | succ n ih =>
    intro h
    show acc f b n + f n = acc g b n + g n
    rw [ih (fun j hj => h j (by omega)), h n (by omega)]
def allB (f : Nat → Bool) : Nat → Bool
  | 0 => true
  | n + 1 => allB f n && f n
theorem allB_congr {f g : Nat → Bool} : ∀ n : Nat, (∀ j, j < n → f j = g j) → allB f n = allB g n := by
  intro n
  induction n with
  | zero => intro _; rfl
  | succ n ih =>
    intro h
    show (allB f n && f n) = (allB g n && g n)
    rw [ih (fun j hj => h j (by omega)), h n (by omega)]
theorem allB_false {f : Nat → Bool} {j : Nat} (hj : f j = false) : ∀ n : Nat, j < n → allB f n = false := by
  intro n
  induction n with
  | zero => intro h; exact absurd h (Nat.not_lt_zero j)
  | succ n ih =>
    intro h
    show (allB f n && f n) = false
    rcases Nat.lt_or_ge j n with q | q
    · rw [ih q]; rfl
    · have e : j = n := by omega
      rw [← e, hj, Bool.and_false]
/-- halving -/
def bis (F : Int → Bool) : Nat → Int → Int → Int
  | 0, lo, _ => lo
  | n + 1, lo, hi => if lo < hi then (if F ((lo + hi) / 2) then bis F n ((lo + hi) / 2 + 1) hi else bis F n lo ((lo + hi) / 2)) else lo
theorem bis_in {F : Int → Bool} : ∀ (n : Nat) (lo hi : Int), lo ≤ hi → lo ≤ bis F n lo hi ∧ bis F n lo hi ≤ hi := by
  intro n
  induction n with
  | zero => intro lo hi h; exact ⟨Int.le_refl _, h⟩
  | succ n ih =>
    intro lo hi h
    unfold bis
    by_cases q : lo < hi
    · rw [if_pos q]
      by_cases w : F ((lo + hi) / 2) = true
      · rw [if_pos w]
        have := ih ((lo + hi) / 2 + 1) hi (by omega)
        omega
      · rw [if_neg w]
        have := ih lo ((lo + hi) / 2) (by omega)
        omega
    · rw [if_neg q]
      omega
theorem bis_end {F : Int → Bool} {n : Nat} {lo hi : Int} (h : ¬ lo < hi) : bis F n lo hi = lo := by
  cases n with
  | zero => rfl
  | succ n => unfold bis; rw [if_neg h]
theorem bis_up {F : Int → Bool} {n : Nat} {lo hi : Int} (h : lo < hi) (w : F ((lo + hi) / 2) = true) : bis F (n + 1) lo hi = bis F n ((lo + hi) / 2 + 1) hi := by
  show (if lo < hi then (if F ((lo + hi) / 2) then bis F n ((lo + hi) / 2 + 1) hi else bis F n lo ((lo + hi) / 2)) else lo) = _
  rw [if_pos h, if_pos w]
theorem bis_dn {F : Int → Bool} {n : Nat} {lo hi : Int} (h : lo < hi) (w : ¬ F ((lo + hi) / 2) = true) : bis F (n + 1) lo hi = bis F n lo ((lo + hi) / 2) := by
  show (if lo < hi then (if F ((lo + hi) / 2) then bis F n ((lo + hi) / 2 + 1) hi else bis F n lo ((lo + hi) / 2)) else lo) = _
  rw [if_pos h, if_neg w]
/-- a state: each field of MoorWatch by its number; a number stands at place 0 -/
abbrev St : Type := Nat → Nat → Int32
def st (σ : St) (k : Nat) (f : Nat → Int32) : St := fun j => cond (Nat.beq j k) f (σ j)
def ht (σ : St) (t : Nat) : Int32 := 300 + σ 0 t + σ 1 t
def len_ (σ : St) (j t : Nat) (s : Int32) : Int32 := LENs (σ 9 j - s) (ht σ t)
def tens_ (σ : St) (j : Nat) (L : Int32) : Int32 := if σ 13 j = 0 then 0 else σ 10 j * (if 0 < L - σ 12 j then L - σ 12 j else 0)
def tn_ (σ : St) (j t : Nat) (s : Int32) : Int32 := tens_ σ j (len_ σ j t s)
def pull_ (σ : St) (j t : Nat) (s : Int32) : Int32 := if len_ σ j t s ≤ 0 then 0 else ((tn_ σ j t s).toInt64 * (σ 9 j - s).toInt64 / (len_ σ j t s).toInt64).toInt32
def nL_ (σ : St) : Nat := (σ 7 0).toNatClampNeg
def nB_ (σ : St) : Nat := (σ 4 0).toNatClampNeg
def frc (σ : St) (t : Nat) (s : Int32) : Int32 := acc (fun j => pull_ σ j t s) (σ 3 0 + σ 2 t) (nL_ σ)
def balZ (σ : St) (t : Nat) : Int := bis (fun z => decide (0 < frc σ t (zI z))) 401 (-200) 200
def bal (σ : St) (t : Nat) : Int32 := zI (balZ σ t)
def drfW (σ : St) (t : Nat) (s : Int32) : Bool := (decide (s = 200) && decide (0 < frc σ t s)) || (decide (s = -200) && decide (frc σ t s < 0))
def lnH (σ : St) (t : Nat) (s : Int32) : Bool := allB (fun j => decide (tn_ σ j t s * 100 ≤ σ 11 j * 55)) (nL_ σ)
def sumOn_ (σ : St) (b : Int32) (t : Nat) (s : Int32) : Int32 := acc (fun j => if σ 8 j = b then tn_ σ j t s else 0) 0 (nL_ σ)
def blH (σ : St) (t : Nat) (s : Int32) : Bool := allB (fun k => decide (sumOn_ σ (nI k) t s ≤ σ 6 k)) (nB_ σ)
def safeW (σ : St) (t : Nat) (s : Int32) : Bool := !drfW σ t s && (lnH σ t s && blH σ t s)
def safe_ (σ : St) (t : Nat) : Bool := safeW σ t (bal σ t)
/-- the set lengths when n lines have been tended -/
def tdS (σ : St) (t : Nat) (s : Int32) : Nat → Nat → Int32
  | 0 => σ 12
  | n + 1 => if σ 13 n = 0 then tdS σ t s n else upd (tdS σ t s n) n (len_ σ n t s)
def tdC (σ : St) (t : Nat) (s : Int32) : Nat → Int32 := acc (fun j => if σ 13 j = 0 then 0 else if len_ σ j t s = σ 12 j then 0 else 1) 0
def tnd (σ : St) (t : Nat) : St := st σ 12 (tdS σ t (bal σ t) (nL_ σ))
def plR : Nat → St → Nat → Nat → Int32
  | 0, _, _, c => nI c
  | n + 1, σ, t, c => if safe_ σ t then plR n σ (t + 1) c else if safe_ (tnd σ t) t then plR n (tnd σ t) (t + 1) (c + 1) else -1
theorem bal_in (σ : St) (t : Nat) : -200 ≤ balZ σ t ∧ balZ σ t ≤ 200 := bis_in 401 (-200) 200 (by omega)
theorem bal_ti (σ : St) (t : Nat) : (bal σ t).toInt = balZ σ t := zI_ti (by have := bal_in σ t; omega) (by have := bal_in σ t; omega)
theorem tdS_hi {σ : St} {t : Nat} {s : Int32} : ∀ (n j : Nat), n ≤ j → tdS σ t s n j = σ 12 j := by
  intro n
  induction n with
  | zero => intro j _; rfl
  | succ n ih =>
    intro j hj
    unfold tdS
    by_cases q : σ 13 n = 0
    · rw [if_pos q]; exact ih j (by omega)
    · rw [if_neg q]
      show upd (tdS σ t s n) n (len_ σ n t s) j = σ 12 j
      unfold upd
      rw [if_neg (by omega)]
      exact ih j (by omega)
theorem tdS_lo {σ : St} {t : Nat} {s : Int32} : ∀ (n j : Nat), j < n → tdS σ t s n j = if σ 13 j = 0 then σ 12 j else len_ σ j t s := by
  intro n
  induction n with
  | zero => intro j h; exact absurd h (Nat.not_lt_zero j)
  | succ n ih =>
    intro j hj
    unfold tdS
    rcases Nat.lt_or_ge j n with q | q
    · by_cases w : σ 13 n = 0
      · rw [if_pos w]; exact ih j q
      · rw [if_neg w]
        show upd (tdS σ t s n) n (len_ σ n t s) j = _
        unfold upd
        rw [if_neg (by omega)]
        exact ih j q
    · have e : j = n := by omega
      subst e
      by_cases w : σ 13 j = 0
      · rw [if_pos w, if_pos w]; exact tdS_hi j j (Nat.le_refl j)
      · rw [if_neg w, if_neg w]
        show upd (tdS σ t s j) j (len_ σ j t s) j = _
        unfold upd
        rw [if_pos rfl]
/-- what holds of every state that calls can make; nL lines, nB bollards -/
def inv (σ : St) (nL nB : Nat) : Prop := σ 7 0 = nI nL ∧ nL ≤ 10 ∧ σ 4 0 = nI nB ∧ nB ≤ 6 ∧ (∀ t, t < 48 → -200 ≤ (σ 0 t).toInt ∧ (σ 0 t).toInt ≤ 200 ∧ -200 ≤ (σ 1 t).toInt ∧ (σ 1 t).toInt ≤ 200) ∧ (∀ b, b < nB → -5000 ≤ (σ 5 b).toInt ∧ (σ 5 b).toInt ≤ 5000) ∧ (∀ j, j < nL → (∃ b, b < nB ∧ σ 8 j = nI b) ∧ (-10000 ≤ (σ 9 j).toInt ∧ (σ 9 j).toInt ≤ 10000) ∧ (1 ≤ (σ 10 j).toInt ∧ (σ 10 j).toInt ≤ 100) ∧ (1 ≤ (σ 11 j).toInt ∧ (σ 11 j).toInt ≤ 1000000) ∧ (0 ≤ (σ 12 j).toInt ∧ (σ 12 j).toInt ≤ 20000) ∧ (σ 13 j = 0 ∨ σ 13 j = 1))
def inS (s : Int32) : Prop := -200 ≤ s.toInt ∧ s.toInt ≤ 200
theorem inv_nL {σ : St} {nL nB : Nat} (h : inv σ nL nB) : nL_ σ = nL := by unfold nL_; rw [h.1]; exact nI_clamp (by have := h.2.1; omega)
theorem inv_nB {σ : St} {nL nB : Nat} (h : inv σ nL nB) : nB_ σ = nB := by unfold nB_; rw [h.2.2.1]; exact nI_clamp (by have := h.2.2.2.1; omega)
theorem inv_ht {σ : St} {nL nB : Nat} (h : inv σ nL nB) {t : Nat} (ht48 : t < 48) : inH (ht σ t) := by
  obtain ⟨a1, a2, a3, a4⟩ := h.2.2.2.2.1 t ht48
  have e0 : (300 : Int32).toInt = 300 := rfl
  have e1 : ((300 : Int32) + σ 0 t).toInt = 300 + (σ 0 t).toInt := by rw [Jvm.Kit.i32_add (by omega) (by omega), e0]
  have e2 : (ht σ t).toInt = 300 + (σ 0 t).toInt + (σ 1 t).toInt := by unfold ht; rw [Jvm.Kit.i32_add (by omega) (by omega), e1]
  exact ⟨by omega, by omega⟩
theorem inv_al {σ : St} {nL nB : Nat} (h : inv σ nL nB) {j : Nat} (hj : j < nL) {s : Int32} (hs : inS s) : inA (σ 9 j - s) := by
  obtain ⟨-, ⟨a1, a2⟩, -⟩ := h.2.2.2.2.2.2 j hj
  obtain ⟨b1, b2⟩ := hs
  have e : (σ 9 j - s).toInt = (σ 9 j).toInt - s.toInt := Jvm.Kit.i32_sub (by omega) (by omega)
  exact ⟨by omega, by omega⟩
theorem inv_len {σ : St} {nL nB : Nat} (h : inv σ nL nB) {j : Nat} (hj : j < nL) {t : Nat} (ht48 : t < 48) {s : Int32} (hs : inS s) : ∃ n : Nat, len_ σ j t s = nI n ∧ n ≤ 10224 := LENs_le (inv_al h hj hs) (inv_ht h ht48)
theorem bal_inS (σ : St) (t : Nat) : inS (bal σ t) := by
  have := bal_in σ t
  have e := bal_ti σ t
  exact ⟨by omega, by omega⟩
/-- a tension is from 0 to 1022400 -/
theorem inv_tn {σ : St} {nL nB : Nat} (h : inv σ nL nB) {j : Nat} (hj : j < nL) {t : Nat} (ht48 : t < 48) {s : Int32} (hs : inS s) : 0 ≤ (tn_ σ j t s).toInt ∧ (tn_ σ j t s).toInt ≤ 1022400 := by
  obtain ⟨n, e, hn⟩ := inv_len h hj ht48 hs
  obtain ⟨-, -, ⟨k1, k2⟩, -, ⟨z1, z2⟩, -⟩ := h.2.2.2.2.2.2 j hj
  have en : (nI n).toInt = (n : Int) := nI_ti (by omega)
  unfold tn_ tens_
  rw [e]
  have e0 : (0 : Int32).toInt = 0 := rfl
  by_cases q : σ 13 j = 0
  · rw [if_pos q, e0]; omega
  · rw [if_neg q]
    have ed : (nI n - σ 12 j).toInt = (n : Int) - (σ 12 j).toInt := by rw [Jvm.Kit.i32_sub (by omega) (by omega), en]
    by_cases w : 0 < nI n - σ 12 j
    · rw [if_pos w]
      have w1 : 0 < (nI n - σ 12 j).toInt := by have := i_lt.mp w; rwa [e0] at this
      have m1 : 0 ≤ (σ 10 j).toInt * (nI n - σ 12 j).toInt := Int.mul_nonneg (by omega) (by omega)
      have m2 : (σ 10 j).toInt * (nI n - σ 12 j).toInt ≤ 100 * 10224 := Int.mul_le_mul k2 (by omega) (by omega) (by omega)
      rw [Jvm.Kit.i32_mul (by omega) (by omega)]
      omega
    · rw [if_neg w]
      have em : (σ 10 j * 0).toInt = (σ 10 j).toInt * (0 : Int32).toInt := Jvm.Kit.i32_mul (by rw [e0]; omega) (by rw [e0]; omega)
      rw [em, e0]
      omega
end
section
/-! The cells of a MoorWatch (xw), read off a state by field number; rows over them. -/
abbrev tyX (cI cZ : ClassId) : List (ClassId × FieldType) := [(cI, .int), (cZ, .boolean)]
abbrev xfs (a : Nat → Nat) (σ : St) : List Value := [.ref (a 0), .ref (a 1), .ref (a 2), .int (σ 3 0), .int (σ 4 0), .ref (a 5), .ref (a 6), .int (σ 7 0), .ref (a 8), .ref (a 9), .ref (a 10), .ref (a 11), .ref (a 12), .ref (a 13), .ref (a 14)]
abbrev xw (cI cZ : ClassId) (h : Nat) (a : Nat → Nat) (σ : St) : va_W := [(h, .inr (0, xfs a σ)), (a 0, .inl (cI, 48, .inl (σ 0))), (a 1, .inl (cI, 48, .inl (σ 1))), (a 2, .inl (cI, 48, .inl (σ 2))), (a 5, .inl (cI, 6, .inl (σ 5))), (a 6, .inl (cI, 6, .inl (σ 6))), (a 8, .inl (cI, 10, .inl (σ 8))), (a 9, .inl (cI, 10, .inl (σ 9))), (a 10, .inl (cI, 10, .inl (σ 10))), (a 11, .inl (cI, 10, .inl (σ 11))), (a 12, .inl (cI, 10, .inl (σ 12))), (a 13, .inl (cZ, 10, .inl (σ 13))), (a 14, .inl (cI, 10, .inl (σ 14)))]
section
variable {p : Program} {l : Launch} {e : Env} {R : Room} {s : State} {m : MethodId} {args : Array Value} {below : List Frame} {meth : Method} {c : Code} {H : Heap} {locs : List Loc} {cells slots : Nat} {Q : State → Prop}
variable {cc : ByteArray} {index : Nat} {Ts : List Cond} {b : Addr} {rest : List Value} {pc : Nat} {ls : Array Slot} {D : va_G} {W0 : va_W} {tys : List (ClassId × FieldType)} {H0 : Heap} {A : Nat → Prop} {cI cZ : ClassId} {h : Nat} {a : Nat → Nat} {σ : St}
theorem xa_ld (hx : p.tables.exec = Jvm.exec) (hb : c.code = cc) (hK : va_K D vwCl tys s) (hP : va_P D vwCl W0 H) (q0 t0 : Nat) {cA : ClassId} {n : Nat} {f : Nat → Int32} (ha : W0[q0]? = some (b, .inl (cA, n, .inl f))) (ht : tys[t0]? = some (cA, .int)) {j : Nat} (hj : j < n) (hn : n < 2147483648) (hdg : decode cc pc = .ok (.iaload, 1))
    (kk : W p l e R s m args below meth c H locs cells slots Q (F0 m (pc + 1) ls (.int (f j) :: rest))) : W p l e R s m args below meth c H locs cells slots Q (F0 m pc ls (.int (nI j) :: .ref b :: rest)) :=
  va_iald hx hb hK hP q0 t0 ha ht (vp_in_nI hj (by omega)) hdg (by rw [nI_clamp (by omega)]; exact kk)
theorem xa_zld (hx : p.tables.exec = Jvm.exec) (hb : c.code = cc) (hK : va_K D vwCl tys s) (hP : va_P D vwCl W0 H) (q0 t0 : Nat) {cA : ClassId} {n : Nat} {f : Nat → Int32} (ha : W0[q0]? = some (b, .inl (cA, n, .inl f))) (ht : tys[t0]? = some (cA, .boolean)) {j : Nat} (hj : j < n) (hn : n < 2147483648) (hdg : decode cc pc = .ok (.baload, 1))
    (kk : W p l e R s m args below meth c H locs cells slots Q (F0 m (pc + 1) ls (.int (f j) :: rest))) : W p l e R s m args below meth c H locs cells slots Q (F0 m pc ls (.int (nI j) :: .ref b :: rest)) :=
  va_zald hx hb hK hP q0 t0 ha ht (vp_in_nI hj (by omega)) hdg (by rw [nI_clamp (by omega)]; exact kk)
theorem xa_st (hx : p.tables.exec = Jvm.exec) (hb : c.code = cc) (hK : va_K D vwCl tys s) (hP : va_P D vwCl W0 H) (hD : va_D A W0) (hS : va_S A H0 H locs) (q0 t0 : Nat) {cA : ClassId} {n : Nat} {f : Nat → Int32} (ha : W0[q0]? = some (b, .inl (cA, n, .inl f))) (ht : tys[t0]? = some (cA, .int)) {j : Nat} {x : Int32} (hj : j < n) (hn : n < 2147483648) (hdg : decode cc pc = .ok (.iastore, 1))
    (kk : ∀ (H1 : Heap) (locs1 : List Loc), va_P D vwCl (W0.set q0 (b, .inl (cA, n, .inl (upd f j x)))) H1 → va_D A (W0.set q0 (b, .inl (cA, n, .inl (upd f j x)))) → va_S A H0 H1 locs1 → W p l e R s m args below meth c H1 locs1 cells slots Q (F0 m (pc + 1) ls rest)) : W p l e R s m args below meth c H locs cells slots Q (F0 m pc ls (.int x :: .int (nI j) :: .ref b :: rest)) :=
  va_iast hx hb hK hP hD hS q0 t0 ha ht (vp_in_nI hj (by omega)) hdg (by rw [nI_clamp (by omega)]; exact kk)
theorem xa_zst (hx : p.tables.exec = Jvm.exec) (hb : c.code = cc) (hK : va_K D vwCl tys s) (hP : va_P D vwCl W0 H) (hD : va_D A W0) (hS : va_S A H0 H locs) (q0 t0 : Nat) {cA : ClassId} {n : Nat} {f : Nat → Int32} (ha : W0[q0]? = some (b, .inl (cA, n, .inl f))) (ht : tys[t0]? = some (cA, .boolean)) {j : Nat} {x : Int32} (hx0 : vp_nar .boolean x = x) (hj : j < n) (hn : n < 2147483648) (hdg : decode cc pc = .ok (.bastore, 1))
    (kk : ∀ (H1 : Heap) (locs1 : List Loc), va_P D vwCl (W0.set q0 (b, .inl (cA, n, .inl (upd f j x)))) H1 → va_D A (W0.set q0 (b, .inl (cA, n, .inl (upd f j x)))) → va_S A H0 H1 locs1 → W p l e R s m args below meth c H1 locs1 cells slots Q (F0 m (pc + 1) ls rest)) : W p l e R s m args below meth c H locs cells slots Q (F0 m pc ls (.int x :: .int (nI j) :: .ref b :: rest)) :=
  va_zast hx hb hK hP hD hS q0 t0 ha ht (vp_in_nI hj (by omega)) hdg (by rw [nI_clamp (by omega), hx0]; exact kk)
theorem x_own : ∀ k : Nat, (TX0 k).1 = "MoorWatch" := by
  intro k
  unfold TX0
  split <;> rfl
theorem x_get (hin : ∀ w ∈ u_ws RX0 TX0 15, w ∈ Ts) (hx : p.tables.exec = Jvm.exec) (hb : c.code = cc) (hts : ∀ w ∈ Ts, w.before args s = true) (hown : s.vm.findClass RX0 = some m.cls) (hK : va_K D vwCl tys s) (hP : va_P D vwCl W0 H) {fs : List Value} (he : W0[0]? = some (b, .inr (0, fs))) (k : Nat) (hk : k < 15) {v : Value} (hv : fs[k]? = some v) (hlink : (Cond.fieldLink RX0 index "MoorWatch" (TX0 k).2.1 (TX0 k).2.2.1) ∈ Ts) (hdg : decode cc pc = .ok (.getfield index, 3))
    (kk : W p l e R s m args below meth c H locs cells slots Q (F0 m (pc + 3) ls (v :: rest))) : W p l e R s m args below meth c H locs cells slots Q (F0 m pc ls (.ref b :: rest)) :=
  va_get (D := D) (ci := 0) (C := RX0) (T := TX0) (N := 15) hx hb hts hin hown hK hP 0 he rfl k hk (hts _ hlink) (by rw [x_own k]; exact fun _ h9 => h9) hv hdg kk
theorem x_put (hin : ∀ w ∈ u_ws RX0 TX0 15, w ∈ Ts) (hx : p.tables.exec = Jvm.exec) (hb : c.code = cc) (hts : ∀ w ∈ Ts, w.before args s = true) (hown : s.vm.findClass RX0 = some m.cls) (hK : va_K D vwCl tys s) (hP : va_P D vwCl W0 H) (hD : va_D A W0) (hS : va_S A H0 H locs) {fs : List Value} (he : W0[0]? = some (b, .inr (0, fs))) (k : Nat) (hk : k < 15) {v : Int32} (hlink : (Cond.fieldLink RX0 index "MoorWatch" (TX0 k).2.1 (TX0 k).2.2.1) ∈ Ts) (hfin : (TX0 k).2.2.2 = false) (hd : parseFieldDescriptor (TX0 k).2.2.1 = some .int) (hl : k < fs.length) (hdg : decode cc pc = .ok (.putfield index, 3))
    (kk : ∀ (H1 : Heap) (locs1 : List Loc), va_P D vwCl (W0.set 0 (b, .inr (0, fs.set k (.int v)))) H1 → va_D A (W0.set 0 (b, .inr (0, fs.set k (.int v)))) → va_S A H0 H1 locs1 → W p l e R s m args below meth c H1 locs1 cells slots Q (F0 m (pc + 3) ls rest)) : W p l e R s m args below meth c H locs cells slots Q (F0 m pc ls (.int v :: .ref b :: rest)) :=
  va_put (D := D) (ci := 0) (v := .int v) (ty := .int) (C := RX0) (T := TX0) (N := 15) hx hb hts hin tyX0 tyX0_ok nmX0 hown hK hP hD hS 0 he rfl k hk (hts _ hlink) (by rw [x_own k]; exact fun _ h9 => h9) hfin hd rfl rfl hl hdg kk
end
end
section
/-! MoorWatch: lengths, tensions, pulls. -/
set_option maxHeartbeats 4000000 in
set_option maxRecDepth 100000 in
/-- heightIn: 300, tide and load -/
theorem c_X0_heightIn (l : Launch) (D : va_G) (cI cZ : ClassId) (h : Nat) (a : Nat → Nat) (σ : St) (H : Heap) (t : Nat) (ht48 : t < 48) : roM l yX0_heightIn wsX0_heightIn ({ frames := 0, cells := 0, slots := 0, locals := 0 }) [.ref h, .int (nI t)] D (xw cI cZ h a σ) (tyX cI cZ) H (fun r => r = ht σ t) := by
  refine ro_of (cc := cX0_heightIn) (maxL := 2) (ret := some .int) (by decide) rfl (Nat.le_of_ble_eq_true rfl) ?_
  intro p e s m args below meth c he hH hP hK ls hl
  obtain ⟨hx, hb, hr, hml, hown, hts, hlocks⟩ := he
  have hown : s.vm.findClass RX0 = some m.cls := hown
  have hl : lv_has ls 2 [(0, .ref h), (1, .int (nI t))] := hl
  have hin : ∀ w ∈ u_ws RX0 TX0 15, w ∈ wsX0_heightIn := by decide +kernel
  refine lv_sipush (v := 300) hx hb dX0_heightIn_0 (by decide) ?_
  refine lv_aload_n hx hb dX0_heightIn_3 rfl (lv_at hl 0 rfl) ?_
  refine x_get hin hx hb hts hown hK hP rfl 0 (by decide) (v := .ref (a 0)) rfl (by decide +kernel) dX0_heightIn_4 ?_
  refine lv_iload_n hx hb dX0_heightIn_7 rfl (lv_at hl 1 rfl) ?_
  refine xa_ld hx hb hK hP 1 0 rfl rfl (j := t) ht48 (by decide) dX0_heightIn_8 ?_
  refine lv_iadd hx hb dX0_heightIn_9 ?_
  refine lv_aload_n hx hb dX0_heightIn_10 rfl (lv_at hl 0 rfl) ?_
  refine x_get hin hx hb hts hown hK hP rfl 1 (by decide) (v := .ref (a 1)) rfl (by decide +kernel) dX0_heightIn_11 ?_
  refine lv_iload_n hx hb dX0_heightIn_14 rfl (lv_at hl 1 rfl) ?_
  refine xa_ld hx hb hK hP 2 0 rfl rfl (j := t) ht48 (by decide) dX0_heightIn_15 ?_
  refine lv_iadd hx hb dX0_heightIn_16 ?_
  exact ro_ret (v := ((300 + (σ 0 t)) + (σ 1 t))) hx hb hr hlocks hH rfl dX0_heightIn_17
set_option maxHeartbeats 4000000 in
set_option maxRecDepth 100000 in
/-- lengthOver: the root, bit by bit -/
theorem c_X0_lengthOver (l : Launch) (D : va_G) (W0 : va_W) (tys : List (ClassId × FieldType)) (H : Heap) (x y : Int32) (hxA : inA x) (hyH : inH y) : roM l yX0_lengthOver wsX0_lengthOver ({ frames := 0, cells := 0, slots := 0, locals := 0 }) [.int x, .int y] D W0 tys H (fun r => r = LENs x y) := by
  refine ro_of (cc := cX0_lengthOver) (maxL := 6) (ret := some .int) (by decide) rfl (Nat.le_of_ble_eq_true rfl) ?_
  intro p e s m args below meth c he hH hP hK ls hl
  obtain ⟨hx, hb, hr, hml, hown, hts, hlocks⟩ := he
  have hown : s.vm.findClass RX0 = some m.cls := hown
  have hl : lv_has ls 6 [(0, .int x), (1, .int y)] := hl
  refine lv_iload_n hx hb dX0_lengthOver_0 rfl (lv_at hl 0 rfl) ?_
  refine lv_iload_n hx hb dX0_lengthOver_1 rfl (lv_at hl 0 rfl) ?_
  refine lv_imul hx hb dX0_lengthOver_2 ?_
  refine lv_iload_n hx hb dX0_lengthOver_3 rfl (lv_at hl 1 rfl) ?_
  refine lv_iload_n hx hb dX0_lengthOver_4 rfl (lv_at hl 1 rfl) ?_
  refine lv_imul hx hb dX0_lengthOver_5 ?_
  refine lv_iadd hx hb dX0_lengthOver_6 ?_
  rw [sq2_eq hxA hyH]
  refine lv_istore_n (lv' := [(2, .int (nI (sq2 x y))), (0, .int x), (1, .int y)]) hx hb dX0_lengthOver_7 rfl hl (by decide) rfl (fun ls hl => ?_)
  refine lv_iconst (v := 0) hx hb dX0_lengthOver_8 (by decide) ?_
  refine lv_istore_n (lv' := [(3, .int 0), (2, .int (nI (sq2 x y))), (0, .int x), (1, .int y)]) hx hb dX0_lengthOver_9 rfl hl (by decide) rfl (fun ls hl => ?_)
  refine lv_sipush (v := 8192) hx hb dX0_lengthOver_10 (by decide) ?_
  refine lv_istore (lv' := [(4, .int 8192), (3, .int 0), (2, .int (nI (sq2 x y))), (0, .int x), (1, .int y)]) hx hb dX0_lengthOver_13 hl (by decide) rfl (fun ls hl => ?_)
  have hsq := (sq2_le hxA hyH).1
  suffices K : ∀ (n r : Nat) (ls : Array Slot), r + 2 ^ n ≤ 16384 → r * r ≤ sq2 x y → sq2 x y < (r + 2 ^ n) * (r + 2 ^ n) → lv_has ls 6 [(4, .int (nI (2 ^ n / 2))), (3, .int (nI r)), (2, .int (nI (sq2 x y))), (0, .int x), (1, .int y)] → W p l e _ s m args below meth c H [] 0 0 (roQ below H (fun r => r = LENs x y) args s) (F0 m 15 ls []) by
    exact K 14 0 ls (by decide) (Nat.zero_le _) (by have : (0 + 2 ^ 14) * (0 + 2 ^ 14) = 268435456 := rfl; omega) (lv_sub hl [0, 1, 2, 3, 4] rfl)
  intro n
  induction n with
  | zero =>
    intro r ls h1 h2 h3 hl
    refine lv_iload hx hb dX0_lengthOver_15 (lv_at hl 0 rfl) ?_
    refine lv_if_le (tgt := 47) hx hb dX0_lengthOver_17 (by decide) (fun c17 => ?_) (fun c17 => ?_)
    · refine lv_iload_n hx hb dX0_lengthOver_47 rfl (lv_at hl 1 rfl) ?_
      exact ro_ret (v := (nI r)) hx hb hr hlocks hH (by unfold LENs; rw [isq_uniq h2 h3]) dX0_lengthOver_48
    · exact absurd (show nI (2 ^ 0 / 2) ≤ 0 by decide) c17
  | succ n ih =>
    intro r ls h1 h2 h3 hl
    have e2 : 2 ^ (n + 1) = 2 * 2 ^ n := by rw [Nat.pow_succ]; omega
    have ed : 2 ^ (n + 1) / 2 = 2 ^ n := by omega
    have hp : 0 < 2 ^ n := Nat.pow_pos (by decide)
    rw [ed] at hl
    refine lv_iload hx hb dX0_lengthOver_15 (lv_at hl 0 rfl) ?_
    refine lv_if_le (tgt := 47) hx hb dX0_lengthOver_17 (by decide) (fun c17 => ?_) (fun c17 => ?_)
    · exact absurd c17 (nI_nle hp (by omega))
    · refine lv_iload_n hx hb dX0_lengthOver_20 rfl (lv_at hl 1 rfl) ?_
      refine lv_iload hx hb dX0_lengthOver_21 (lv_at hl 0 rfl) ?_
      refine lv_iadd hx hb dX0_lengthOver_23 ?_
      rw [nI_add]
      refine lv_istore (lv' := [(5, .int (nI (r + 2 ^ n))), (4, .int (nI (2 ^ n))), (3, .int (nI r)), (2, .int (nI (sq2 x y))), (0, .int x), (1, .int y)]) hx hb dX0_lengthOver_24 hl (by decide) rfl (fun ls hl => ?_)
      refine lv_iload hx hb dX0_lengthOver_26 (lv_at hl 0 rfl) ?_
      refine lv_iload hx hb dX0_lengthOver_28 (lv_at hl 0 rfl) ?_
      refine lv_imul hx hb dX0_lengthOver_30 ?_
      rw [pk_mul]
      have hm : (r + 2 ^ n) * (r + 2 ^ n) ≤ 16384 * 16384 := Nat.mul_le_mul (by omega) (by omega)
      refine lv_iload_n hx hb dX0_lengthOver_31 rfl (lv_at hl 3 rfl) ?_
      refine lv_icmp_gt (tgt := 38) hx hb dX0_lengthOver_32 (by decide) (fun c32 => ?_) (fun c32 => ?_)
      · have hgt : sq2 x y < (r + 2 ^ n) * (r + 2 ^ n) := (nI_ltI (by omega) (by omega)).mp c32
        refine lv_iload hx hb dX0_lengthOver_38 (lv_at hl 1 rfl) ?_
        refine lv_iconst (v := 2) hx hb dX0_lengthOver_40 (by decide) ?_
        refine lv_idiv hx hb dX0_lengthOver_41 (by decide) ?_
        rw [show (nI (2 ^ n) / 2 : Int32) = nI (2 ^ n / 2) from pk_div (a := 2 ^ n) (d := 2) (by omega) (by decide) (by decide)]
        refine lv_istore (lv' := [(4, .int (nI (2 ^ n / 2))), (5, .int (nI (r + 2 ^ n))), (3, .int (nI r)), (2, .int (nI (sq2 x y))), (0, .int x), (1, .int y)]) hx hb dX0_lengthOver_42 hl (by decide) rfl (fun ls hl => ?_)
        refine lv_goto (tgt := 15) hx hb dX0_lengthOver_44 (by decide) ?_
        exact ih r ls (by omega) h2 hgt (lv_sub hl [0, 2, 3, 4, 5] rfl)
      · have hle : (r + 2 ^ n) * (r + 2 ^ n) ≤ sq2 x y := Nat.not_lt.mp (fun q => c32 ((nI_ltI (by omega) (by omega)).mpr q))
        refine lv_iload hx hb dX0_lengthOver_35 (lv_at hl 0 rfl) ?_
        refine lv_istore_n (lv' := [(3, .int (nI (r + 2 ^ n))), (5, .int (nI (r + 2 ^ n))), (4, .int (nI (2 ^ n))), (2, .int (nI (sq2 x y))), (0, .int x), (1, .int y)]) hx hb dX0_lengthOver_37 rfl hl (by decide) rfl (fun ls hl => ?_)
        refine lv_iload hx hb dX0_lengthOver_38 (lv_at hl 2 rfl) ?_
        refine lv_iconst (v := 2) hx hb dX0_lengthOver_40 (by decide) ?_
        refine lv_idiv hx hb dX0_lengthOver_41 (by decide) ?_
        rw [show (nI (2 ^ n) / 2 : Int32) = nI (2 ^ n / 2) from pk_div (a := 2 ^ n) (d := 2) (by omega) (by decide) (by decide)]
        refine lv_istore (lv' := [(4, .int (nI (2 ^ n / 2))), (3, .int (nI (r + 2 ^ n))), (5, .int (nI (r + 2 ^ n))), (2, .int (nI (sq2 x y))), (0, .int x), (1, .int y)]) hx hb dX0_lengthOver_42 hl (by decide) rfl (fun ls hl => ?_)
        refine lv_goto (tgt := 15) hx hb dX0_lengthOver_44 (by decide) ?_
        exact ih (r + 2 ^ n) ls (by omega) hle (by rw [show r + 2 ^ n + 2 ^ n = r + 2 ^ (n + 1) by omega]; exact h3) (lv_sub hl [0, 1, 3, 4, 5] rfl)
set_option maxHeartbeats 4000000 in
set_option maxRecDepth 100000 in
/-- lengthWith -/
theorem c_X0_lengthWith (l : Launch) (D : va_G) (cI cZ : ClassId) (h : Nat) (a : Nat → Nat) (σ : St) (H : Heap) {nL nB : Nat} (hI : inv σ nL nB) (j t : Nat) (hj : j < nL) (ht48 : t < 48) (s9 : Int32) (hs9 : inS s9) : roM l yX0_lengthWith wsX0_lengthWith ({ frames := 1, cells := 0, slots := 0, locals := 25 }) [.ref h, .int (nI j), .int (nI t), .int s9] D (xw cI cZ h a σ) (tyX cI cZ) H (fun r => r = len_ σ j t s9) := by
  refine ro_of (cc := cX0_lengthWith) (maxL := 4) (ret := some .int) (by decide) rfl (Nat.le_of_ble_eq_true rfl) ?_
  intro p e s m args below meth c he hH hP hK ls hl
  obtain ⟨hx, hb, hr, hml, hown, hts, hlocks⟩ := he
  have hown : s.vm.findClass RX0 = some m.cls := hown
  have hl : lv_has ls 4 [(0, .ref h), (1, .int (nI j)), (2, .int (nI t)), (3, .int s9)] := hl
  have hin : ∀ w ∈ u_ws RX0 TX0 15, w ∈ wsX0_lengthWith := by decide +kernel
  have hj10 : j < 10 := Nat.lt_of_lt_of_le hj hI.2.1
  refine lv_aload_n hx hb dX0_lengthWith_0 rfl (lv_at hl 0 rfl) ?_
  refine x_get hin hx hb hts hown hK hP rfl 9 (by decide) (v := .ref (a 9)) rfl (by decide +kernel) dX0_lengthWith_1 ?_
  refine lv_iload_n hx hb dX0_lengthWith_4 rfl (lv_at hl 1 rfl) ?_
  refine xa_ld hx hb hK hP 7 0 rfl rfl (j := j) hj10 (by decide) dX0_lengthWith_5 ?_
  refine lv_iload_n hx hb dX0_lengthWith_6 rfl (lv_at hl 3 rfl) ?_
  refine lv_isub hx hb dX0_lengthWith_7 ?_
  refine lv_aload_n hx hb dX0_lengthWith_8 rfl (lv_at hl 0 rfl) ?_
  refine lv_iload_n hx hb dX0_lengthWith_9 rfl (lv_at hl 2 rfl) ?_
  refine ro_callV 1 hx hb hml hown hts hl.1 hP hK 0 0 rfl rfl (As := [.int (nI t)]) (rest := [.int ((σ 9 j) - s9)]) (c_X0_heightIn l D cI cZ h a σ H t ht48) gX0_lengthWith_X0_heightIn rfl rfl rfl (by decide +kernel) ⟨Nat.le_of_ble_eq_true rfl, Nat.le_of_ble_eq_true rfl⟩ rfl rfl (Nat.le_of_ble_eq_true rfl) dX0_lengthWith_10 ⟨Nat.zero_le _, Nat.zero_le _⟩ (fun r1 hr1 => ?_)
  subst hr1
  refine ro_callS 2 hx hb hml hown hts hl.1 hP hK (As := [.int ((σ 9 j) - s9), .int (ht σ t)]) (rest := []) (c_X0_lengthOver l D (xw cI cZ h a σ) (tyX cI cZ) H (σ 9 j - s9) (ht σ t) (inv_al hI hj hs9) (inv_ht hI ht48)) gX0_lengthWith_X0_lengthOver rfl rfl rfl (by decide +kernel) ⟨Nat.le_of_ble_eq_true rfl, Nat.le_of_ble_eq_true rfl⟩ rfl rfl (Nat.le_of_ble_eq_true rfl) dX0_lengthWith_13 ⟨Nat.zero_le _, Nat.zero_le _⟩ (fun r2 hr2 => ?_)
  subst hr2
  exact ro_ret (v := (LENs (σ 9 j - s9) (ht σ t))) hx hb hr hlocks hH rfl dX0_lengthWith_16
set_option maxHeartbeats 4000000 in
set_option maxRecDepth 100000 in
/-- tensionAtLength -/
theorem c_X0_tensionAtLength (l : Launch) (D : va_G) (cI cZ : ClassId) (h : Nat) (a : Nat → Nat) (σ : St) (H : Heap) (j : Nat) (hj10 : j < 10) (z : Int32) : roM l yX0_tensionAtLength wsX0_tensionAtLength ({ frames := 1, cells := 0, slots := 0, locals := 20 }) [.ref h, .int (nI j), .int z] D (xw cI cZ h a σ) (tyX cI cZ) H (fun r => r = tens_ σ j z) := by
  refine ro_of (cc := cX0_tensionAtLength) (maxL := 3) (ret := some .int) (by decide) rfl (Nat.le_of_ble_eq_true rfl) ?_
  intro p e s m args below meth c he hH hP hK ls hl
  obtain ⟨hx, hb, hr, hml, hown, hts, hlocks⟩ := he
  have hown : s.vm.findClass RX0 = some m.cls := hown
  have hl : lv_has ls 3 [(0, .ref h), (1, .int (nI j)), (2, .int z)] := hl
  have hin : ∀ w ∈ u_ws RX0 TX0 15, w ∈ wsX0_tensionAtLength := by decide +kernel
  refine lv_aload_n hx hb dX0_tensionAtLength_0 rfl (lv_at hl 0 rfl) ?_
  refine x_get hin hx hb hts hown hK hP rfl 13 (by decide) (v := .ref (a 13)) rfl (by decide +kernel) dX0_tensionAtLength_1 ?_
  refine lv_iload_n hx hb dX0_tensionAtLength_4 rfl (lv_at hl 1 rfl) ?_
  refine xa_zld hx hb hK hP 11 1 rfl rfl (j := j) hj10 (by decide) dX0_tensionAtLength_5 ?_
  refine lv_if_ne (tgt := 11) hx hb dX0_tensionAtLength_6 (by decide) (fun c6 => ?_) (fun c6 => ?_)
  · refine lv_aload_n hx hb dX0_tensionAtLength_11 rfl (lv_at hl 0 rfl) ?_
    refine x_get hin hx hb hts hown hK hP rfl 10 (by decide) (v := .ref (a 10)) rfl (by decide +kernel) dX0_tensionAtLength_12 ?_
    refine lv_iload_n hx hb dX0_tensionAtLength_15 rfl (lv_at hl 1 rfl) ?_
    refine xa_ld hx hb hK hP 8 0 rfl rfl (j := j) hj10 (by decide) dX0_tensionAtLength_16 ?_
    refine lv_iconst (v := 0) hx hb dX0_tensionAtLength_17 (by decide) ?_
    refine lv_iload_n hx hb dX0_tensionAtLength_18 rfl (lv_at hl 2 rfl) ?_
    refine lv_aload_n hx hb dX0_tensionAtLength_19 rfl (lv_at hl 0 rfl) ?_
    refine x_get hin hx hb hts hown hK hP rfl 12 (by decide) (v := .ref (a 12)) rfl (by decide +kernel) dX0_tensionAtLength_20 ?_
    refine lv_iload_n hx hb dX0_tensionAtLength_23 rfl (lv_at hl 1 rfl) ?_
    refine xa_ld hx hb hK hP 10 0 rfl rfl (j := j) hj10 (by decide) dX0_tensionAtLength_24 ?_
    refine lv_isub hx hb dX0_tensionAtLength_25 ?_
    refine va_mmax hx hb (by rw [hml]; exact hl.1.symm) hown (hts (.methodLink RX0 113 Lib.Math.max.name) (by decide +kernel)) (hts (.static Lib.Math.max.name) (by decide +kernel)) (hts (.initialized "java/lang/Math") (by decide +kernel)) (hts (.code Lib.Math.max.name Lib.Math.max.code 2 (some .int)) (by decide +kernel)) (Nat.le_of_ble_eq_true rfl) (Nat.le_of_ble_eq_true rfl) (Nat.zero_le _) (Nat.zero_le _) dX0_tensionAtLength_26 ?_
    refine lv_imul hx hb dX0_tensionAtLength_29 ?_
    exact ro_ret (v := ((σ 10 j) * (if 0 < z - σ 12 j then z - σ 12 j else 0))) hx hb hr hlocks hH (by show _ = tens_ σ j z; unfold tens_; rw [if_neg c6]) dX0_tensionAtLength_30
  · refine lv_iconst (v := 0) hx hb dX0_tensionAtLength_9 (by decide) ?_
    exact ro_ret (v := 0) hx hb hr hlocks hH (by show _ = tens_ σ j z; unfold tens_; rw [if_pos c6]) dX0_tensionAtLength_10
set_option maxHeartbeats 4000000 in
set_option maxRecDepth 100000 in
/-- pullWith -/
theorem c_X0_pullWith (l : Launch) (D : va_G) (cI cZ : ClassId) (h : Nat) (a : Nat → Nat) (σ : St) (H : Heap) {nL nB : Nat} (hI : inv σ nL nB) (j t : Nat) (hj : j < nL) (ht48 : t < 48) (s9 : Int32) (hs9 : inS s9) : roM l yX0_pullWith wsX0_pullWith ({ frames := 2, cells := 0, slots := 0, locals := 42 }) [.ref h, .int (nI j), .int (nI t), .int s9] D (xw cI cZ h a σ) (tyX cI cZ) H (fun r => r = pull_ σ j t s9) := by
  refine ro_of (cc := cX0_pullWith) (maxL := 8) (ret := some .int) (by decide) rfl (Nat.le_of_ble_eq_true rfl) ?_
  intro p e s m args below meth c he hH hP hK ls hl
  obtain ⟨hx, hb, hr, hml, hown, hts, hlocks⟩ := he
  have hown : s.vm.findClass RX0 = some m.cls := hown
  have hl : lv_has ls 8 [(0, .ref h), (1, .int (nI j)), (2, .int (nI t)), (3, .int s9)] := hl
  have hin : ∀ w ∈ u_ws RX0 TX0 15, w ∈ wsX0_pullWith := by decide +kernel
  have hj10 : j < 10 := Nat.lt_of_lt_of_le hj hI.2.1
  refine lv_aload_n hx hb dX0_pullWith_0 rfl (lv_at hl 0 rfl) ?_
  refine x_get hin hx hb hts hown hK hP rfl 9 (by decide) (v := .ref (a 9)) rfl (by decide +kernel) dX0_pullWith_1 ?_
  refine lv_iload_n hx hb dX0_pullWith_4 rfl (lv_at hl 1 rfl) ?_
  refine xa_ld hx hb hK hP 7 0 rfl rfl (j := j) hj10 (by decide) dX0_pullWith_5 ?_
  refine lv_iload_n hx hb dX0_pullWith_6 rfl (lv_at hl 3 rfl) ?_
  refine lv_isub hx hb dX0_pullWith_7 ?_
  refine lv_istore (lv' := [(4, .int ((σ 9 j) - s9)), (0, .ref h), (1, .int (nI j)), (2, .int (nI t)), (3, .int s9)]) hx hb dX0_pullWith_8 hl (by decide) rfl (fun ls hl => ?_)
  refine lv_iload hx hb dX0_pullWith_10 (lv_at hl 0 rfl) ?_
  refine lv_aload_n hx hb dX0_pullWith_12 rfl (lv_at hl 1 rfl) ?_
  refine lv_iload_n hx hb dX0_pullWith_13 rfl (lv_at hl 3 rfl) ?_
  refine ro_callV 1 hx hb hml hown hts hl.1 hP hK 0 0 rfl rfl (As := [.int (nI t)]) (rest := [.int ((σ 9 j) - s9)]) (c_X0_heightIn l D cI cZ h a σ H t ht48) gX0_pullWith_X0_heightIn rfl rfl rfl (by decide +kernel) ⟨Nat.le_of_ble_eq_true rfl, Nat.le_of_ble_eq_true rfl⟩ rfl rfl (Nat.le_of_ble_eq_true rfl) dX0_pullWith_14 ⟨Nat.zero_le _, Nat.zero_le _⟩ (fun r1 hr1 => ?_)
  subst hr1
  refine ro_callS 2 hx hb hml hown hts hl.1 hP hK (As := [.int ((σ 9 j) - s9), .int (ht σ t)]) (rest := []) (c_X0_lengthOver l D (xw cI cZ h a σ) (tyX cI cZ) H (σ 9 j - s9) (ht σ t) (inv_al hI hj hs9) (inv_ht hI ht48)) gX0_pullWith_X0_lengthOver rfl rfl rfl (by decide +kernel) ⟨Nat.le_of_ble_eq_true rfl, Nat.le_of_ble_eq_true rfl⟩ rfl rfl (Nat.le_of_ble_eq_true rfl) dX0_pullWith_17 ⟨Nat.zero_le _, Nat.zero_le _⟩ (fun r2 hr2 => ?_)
  subst hr2
  rw [show LENs (σ 9 j - s9) (ht σ t) = len_ σ j t s9 from rfl]
  refine lv_istore (lv' := [(5, .int (len_ σ j t s9)), (4, .int ((σ 9 j) - s9)), (0, .ref h), (1, .int (nI j)), (2, .int (nI t)), (3, .int s9)]) hx hb dX0_pullWith_20 hl (by decide) rfl (fun ls hl => ?_)
  refine lv_iload hx hb dX0_pullWith_22 (lv_at hl 0 rfl) ?_
  refine lv_if_gt (tgt := 29) hx hb dX0_pullWith_24 (by decide) (fun c24 => ?_) (fun c24 => ?_)
  · have hn0 : ¬ len_ σ j t s9 ≤ 0 := fun q => absurd c24 (Int32.not_lt.mpr q)
    refine lv_aload_n hx hb dX0_pullWith_29 rfl (lv_at hl 2 rfl) ?_
    refine lv_iload_n hx hb dX0_pullWith_30 rfl (lv_at hl 3 rfl) ?_
    refine lv_iload hx hb dX0_pullWith_31 (lv_at hl 0 rfl) ?_
    refine ro_callV 2 hx hb hml hown hts hl.1 hP hK 0 0 rfl rfl (As := [.int (nI j), .int (len_ σ j t s9)]) (rest := []) (c_X0_tensionAtLength l D cI cZ h a σ H j hj10 (len_ σ j t s9)) gX0_pullWith_X0_tensionAtLength rfl rfl rfl (by decide +kernel) ⟨Nat.le_of_ble_eq_true rfl, Nat.le_of_ble_eq_true rfl⟩ rfl rfl (Nat.le_of_ble_eq_true rfl) dX0_pullWith_33 ⟨Nat.zero_le _, Nat.zero_le _⟩ (fun r3 hr3 => ?_)
    subst hr3
    refine lv_i2l hx hb dX0_pullWith_36 rfl ?_
    refine lv_iload hx hb dX0_pullWith_37 (lv_at hl 1 rfl) ?_
    refine lv_i2l hx hb dX0_pullWith_39 rfl ?_
    refine lv_lmul hx hb dX0_pullWith_40 ?_
    refine lv_lstore (lv' := [(6, .long ((tens_ σ j (len_ σ j t s9)).toInt64 * ((σ 9 j) - s9).toInt64)), (5, .int (len_ σ j t s9)), (4, .int ((σ 9 j) - s9)), (0, .ref h), (1, .int (nI j)), (2, .int (nI t)), (3, .int s9)]) hx hb dX0_pullWith_41 hl (by decide) rfl (fun ls hl => ?_)
    refine lv_lload hx hb dX0_pullWith_43 (lv_at hl 0 rfl) ?_
    refine lv_iload hx hb dX0_pullWith_45 (lv_at hl 1 rfl) ?_
    refine lv_i2l hx hb dX0_pullWith_47 rfl ?_
    have hne : ¬ (len_ σ j t s9).toInt64 = 0 := by
      obtain ⟨n, en, hn⟩ := inv_len hI hj ht48 hs9
      rw [en] at hn0 ⊢
      rw [nI_l (by omega)]
      intro q
      have q2 := congrArg Int64.toInt q
      rw [lN_toInt (by omega)] at q2
      have q3 : n = 0 := by have : (0 : Int64).toInt = 0 := rfl; omega
      subst q3; exact hn0 (by decide)
    refine lv_ldiv hx hb dX0_pullWith_48 hne ?_
    refine lv_l2i hx hb dX0_pullWith_49 rfl ?_
    exact ro_ret (v := (((tens_ σ j (len_ σ j t s9)).toInt64 * ((σ 9 j) - s9).toInt64) / (len_ σ j t s9).toInt64).toInt32) hx hb hr hlocks hH (by show _ = pull_ σ j t s9; unfold pull_; rw [if_neg hn0]; rfl) dX0_pullWith_50
  · refine lv_iconst (v := 0) hx hb dX0_pullWith_27 (by decide) ?_
    exact ro_ret (v := 0) hx hb hr hlocks hH (by show _ = pull_ σ j t s9; unfold pull_; rw [if_pos (Int32.not_lt.mp c24)]) dX0_pullWith_28
end
section
/-! MoorWatch: the balance, drifting, safety. -/
theorem xor2_nn (x : Int32) : (0 ≤ x ^^^ 2) ↔ 0 ≤ x := by
  have h : ∀ y : Int32, (0 : Int32) ≤ y ↔ y.toBitVec.msb = false := fun y => by
    rw [i_le]
    show (0 : Int) ≤ y.toBitVec.toInt ↔ _
    rw [BitVec.msb_eq_toInt]
    simp
  rw [h, h, Int32.toBitVec_xor, BitVec.msb_xor]
  have e : (2 : Int32).toBitVec.msb = false := rfl
  rw [e, Bool.xor_false]
theorem ro_ofF {l : Launch} {y : MethodName} {cc : ByteArray} {maxL : Nat} {ret : Option FieldType} {ws ws' : List Cond} {rm : Room} {av : List Value} {D : va_G} {W0 : va_W} {tys : List (ClassId × FieldType)} {H0 : Heap} {post : Int32 → Prop} (hy : plainFor y = true) (hw : ws = Cond.code y cc maxL ret :: ws') (hn : (lg_sl av).length ≤ maxL)
    (body : ∀ (p : Program) (e : Env) (s : State) (m : MethodId) (args : Array Value) (below : List Frame) (meth : Method) (c : Code), roE p s m meth c args y cc maxL ret ws → s.heap = H0 → va_P D vwCl W0 H0 → va_K D vwCl tys s → ∀ ls : Array Slot, lv_has ls maxL (lv_args 0 av) → W p l e rm s m args below meth c H0 [] 0 0 (roQ below H0 post args s) (F0 m 0 ls [])) : roM l y ws rm av D W0 tys H0 post := by
  unfold roM Met
  refine MetFree.of_bodySF (code := cc) (maxLocals := maxL) (ret := ret) hy ?_ ?_
  · intro args s m h hn
    obtain ⟨meth, c, h1, h2, h3, h4, h5, h6, -, -⟩ := Cond.code_spec hn (atoms_spec (ws := ws) h _ (by rw [hw]; exact List.mem_cons_self))
    exact ⟨meth, c, h1, h2, h3, h4, h5, h6⟩
  · intro p e s m args below meth c s₁ B hml hv _
    have hh0 : s₁.heap = s.heap := by rw [B.state]; rfl
    obtain ⟨rfl, hH, hP, hK⟩ := hv
    have K : W p l e rm s m av.toArray below meth c H0 [] 0 0 (roQ below H0 post av.toArray s) (entryFrame m av.toArray maxL) := by
      rw [lg_entry_eq]
      exact body p e s m _ below meth c ⟨B.exec, B.bytes, B.returns, hml, findClass_of_methodNamed B.named, atoms_spec (ws := ws) B.pre, B.notSynchronized⟩ hH hP hK _ (lv_entry av hn)
    obtain ⟨t, a1, o, b1, b2, b3⟩ := K s₁ (hh0.trans hH) (Stand.of_body B)
    exact ⟨t, o, a1, b1, b2, ⟨b3.1, b3.2⟩⟩
theorem td2 {z : Int} : z.tdiv 2 = if 0 ≤ z then z / 2 else -((-z) / 2) := by
  by_cases h : 0 ≤ z
  · rw [if_pos h, Int.tdiv_eq_ediv_of_nonneg h]
  · rw [if_neg h]
    have e : z = -(-z) := by omega
    rw [e, Int.neg_tdiv, Int.tdiv_eq_ediv_of_nonneg (by omega)]
    simp
theorem bI_f {b : Bool} (h : bI b = 0) : b = false := by
  cases b
  · rfl
  · exact absurd h (by decide)
theorem bI_t {b : Bool} (h : ¬ bI b = 0) : b = true := by
  cases b
  · exact absurd rfl h
  · rfl
set_option maxHeartbeats 4000000 in
set_option maxRecDepth 100000 in
/-- Math.floorDiv by 2 -/
theorem c_J9_floorDiv_7cf53 (l : Launch) (D : va_G) (W0 : va_W) (tys : List (ClassId × FieldType)) (H : Heap) (z : Int) (hz : -1000 ≤ z ∧ z ≤ 1000) : roM l yJ9_floorDiv_7cf53 wsJ9_floorDiv_7cf53 ({ frames := 0, cells := 0, slots := 0, locals := 0 }) [.int (zI z), .int 2] D W0 tys H (fun r => r = zI (z / 2)) := by
  refine ro_ofF (cc := cJ9_floorDiv_7cf53) (maxL := 3) (ret := some .int) (by decide +kernel) rfl (Nat.le_of_ble_eq_true rfl) ?_
  intro p e s m args below meth c he hH hP hK ls hl
  obtain ⟨hx, hb, hr, hml, hown, hts, hlocks⟩ := he
  have hown : s.vm.findClass RJ9 = some m.cls := hown
  have hl : lv_has ls 3 [(0, .int (zI z)), (1, .int 2)] := hl
  have ez : (zI z).toInt = z := zI_ti (by omega) (by omega)
  have eq : (zI z / 2 : Int32).toInt = z.tdiv 2 := by rw [Jvm.Kit.i32_div (by rw [ez]; omega), ez]; rfl
  rw [td2] at eq
  have e0 : (0 : Int32).toInt = 0 := rfl
  have e1 : (1 : Int32).toInt = 1 := rfl
  have e2 : (2 : Int32).toInt = 2 := rfl
  refine lv_iload_n hx hb dJ9_floorDiv_7cf53_0 rfl (lv_at hl 0 rfl) ?_
  refine lv_iload_n hx hb dJ9_floorDiv_7cf53_1 rfl (lv_at hl 1 rfl) ?_
  refine lv_idiv hx hb dJ9_floorDiv_7cf53_2 (by decide) ?_
  refine lv_istore_n (lv' := [(2, .int ((zI z) / 2)), (0, .int (zI z)), (1, .int 2)]) hx hb dJ9_floorDiv_7cf53_3 rfl hl (by decide) rfl (fun ls hl => ?_)
  refine lv_iload_n hx hb dJ9_floorDiv_7cf53_4 rfl (lv_at hl 1 rfl) ?_
  refine lv_iload_n hx hb dJ9_floorDiv_7cf53_5 rfl (lv_at hl 2 rfl) ?_
  refine lv_ixor hx hb dJ9_floorDiv_7cf53_6 ?_
  refine lv_if_ge (tgt := 21) hx hb dJ9_floorDiv_7cf53_7 (by decide) (fun c7 => ?_) (fun c7 => ?_)
  · refine lv_iload_n hx hb dJ9_floorDiv_7cf53_21 rfl (lv_at hl 0 rfl) ?_
    have hp : 0 ≤ z := by have q := i_le.mp ((xor2_nn _).mp c7); rw [ez, e0] at q; exact q
    rw [if_pos hp] at eq
    exact ro_ret (v := ((zI z) / 2)) hx hb hr hlocks hH (zI_of eq) dJ9_floorDiv_7cf53_22
  · have hp : ¬ 0 ≤ z := fun q => c7 ((xor2_nn _).mpr (i_le.mpr (by rw [ez, e0]; exact q)))
    rw [if_neg hp] at eq
    have em : (zI z / 2 * 2 : Int32).toInt = -((-z) / 2) * 2 := by rw [Jvm.Kit.i32_mul (by rw [eq, e2]; omega) (by rw [eq, e2]; omega), eq, e2]
    refine lv_iload_n hx hb dJ9_floorDiv_7cf53_10 rfl (lv_at hl 0 rfl) ?_
    refine lv_iload_n hx hb dJ9_floorDiv_7cf53_11 rfl (lv_at hl 2 rfl) ?_
    refine lv_imul hx hb dJ9_floorDiv_7cf53_12 ?_
    refine lv_iload_n hx hb dJ9_floorDiv_7cf53_13 rfl (lv_at hl 1 rfl) ?_
    refine lv_icmp_eq (tgt := 21) hx hb dJ9_floorDiv_7cf53_14 (by decide) (fun c14 => ?_) (fun c14 => ?_)
    · refine lv_iload_n hx hb dJ9_floorDiv_7cf53_21 rfl (lv_at hl 0 rfl) ?_
      have h2 := i_eq.mp c14
      rw [em, ez] at h2
      exact ro_ret (v := ((zI z) / 2)) hx hb hr hlocks hH (zI_of (by rw [eq]; omega)) dJ9_floorDiv_7cf53_22
    · refine lv_iload_n hx hb dJ9_floorDiv_7cf53_17 rfl (lv_at hl 0 rfl) ?_
      refine lv_iconst (v := 1) hx hb dJ9_floorDiv_7cf53_18 (by decide) ?_
      refine lv_isub hx hb dJ9_floorDiv_7cf53_19 ?_
      have h2 : ¬ -((-z) / 2) * 2 = z := fun w => c14 (i_eq.mpr (by rw [em, ez]; exact w))
      exact ro_ret (v := (((zI z) / 2) - 1)) hx hb hr hlocks hH (zI_of (by rw [Jvm.Kit.i32_sub (by rw [eq, e1]; omega) (by rw [eq, e1]; omega), eq, e1]; omega)) dJ9_floorDiv_7cf53_20
set_option maxHeartbeats 4000000 in
set_option maxRecDepth 100000 in
/-- forceWith -/
theorem c_X0_forceWith (l : Launch) (D : va_G) (cI cZ : ClassId) (h : Nat) (a : Nat → Nat) (σ : St) (H : Heap) {nL nB : Nat} (hI : inv σ nL nB) (t : Nat) (ht48 : t < 48) (s9 : Int32) (hs9 : inS s9) : roM l yX0_forceWith wsX0_forceWith ({ frames := 3, cells := 0, slots := 0, locals := 69 }) [.ref h, .int (nI t), .int s9] D (xw cI cZ h a σ) (tyX cI cZ) H (fun r => r = frc σ t s9) := by
  refine ro_of (cc := cX0_forceWith) (maxL := 5) (ret := some .int) (by decide) rfl (Nat.le_of_ble_eq_true rfl) ?_
  intro p e s m args below meth c he hH hP hK ls hl
  obtain ⟨hx, hb, hr, hml, hown, hts, hlocks⟩ := he
  have hown : s.vm.findClass RX0 = some m.cls := hown
  have hl : lv_has ls 5 [(0, .ref h), (1, .int (nI t)), (2, .int s9)] := hl
  have hin : ∀ w ∈ u_ws RX0 TX0 15, w ∈ wsX0_forceWith := by decide +kernel
  have hL : σ 7 0 = nI nL := hI.1
  have hL10 : nL ≤ 10 := hI.2.1
  refine lv_aload_n hx hb dX0_forceWith_0 rfl (lv_at hl 0 rfl) ?_
  refine x_get hin hx hb hts hown hK hP rfl 3 (by decide) (v := .int (σ 3 0)) rfl (by decide +kernel) dX0_forceWith_1 ?_
  refine lv_aload_n hx hb dX0_forceWith_4 rfl (lv_at hl 0 rfl) ?_
  refine x_get hin hx hb hts hown hK hP rfl 2 (by decide) (v := .ref (a 2)) rfl (by decide +kernel) dX0_forceWith_5 ?_
  refine lv_iload_n hx hb dX0_forceWith_8 rfl (lv_at hl 1 rfl) ?_
  refine xa_ld hx hb hK hP 3 0 rfl rfl (j := t) ht48 (by decide) dX0_forceWith_9 ?_
  refine lv_iadd hx hb dX0_forceWith_10 ?_
  refine lv_istore_n (lv' := [(3, .int ((σ 3 0) + (σ 2 t))), (0, .ref h), (1, .int (nI t)), (2, .int s9)]) hx hb dX0_forceWith_11 rfl hl (by decide) rfl (fun ls hl => ?_)
  refine lv_iconst (v := 0) hx hb dX0_forceWith_12 (by decide) ?_
  refine lv_istore (lv' := [(4, .int 0), (3, .int ((σ 3 0) + (σ 2 t))), (0, .ref h), (1, .int (nI t)), (2, .int s9)]) hx hb dX0_forceWith_13 hl (by decide) rfl (fun ls hl => ?_)
  suffices K : ∀ (n k : Nat) (ls : Array Slot), k + n = nL → lv_has ls 5 [(4, .int (nI k)), (3, .int (acc (fun j => pull_ σ j t s9) (σ 3 0 + σ 2 t) k)), (0, .ref h), (1, .int (nI t)), (2, .int s9)] → W p l e _ s m args below meth c H [] 0 0 (roQ below H (fun r => r = frc σ t s9) args s) (F0 m 15 ls []) by
    exact K nL 0 ls (by omega) (lv_sub hl [0, 1, 2, 3, 4] rfl)
  intro n
  induction n with
  | zero =>
      intro k ls hk hl
      refine lv_iload hx hb dX0_forceWith_15 (lv_at hl 0 rfl) ?_
      refine lv_aload_n hx hb dX0_forceWith_17 rfl (lv_at hl 2 rfl) ?_
      refine x_get hin hx hb hts hown hK hP rfl 7 (by decide) (v := .int (nI nL)) (congrArg (fun z => some (Value.int z)) hL) (by decide +kernel) dX0_forceWith_18 ?_
      refine lv_icmp_ge (tgt := 41) hx hb dX0_forceWith_21 (by decide) (fun c21 => ?_) (fun c21 => ?_)
      · refine lv_iload_n hx hb dX0_forceWith_41 rfl (lv_at hl 1 rfl) ?_
        exact ro_ret (v := (acc (fun j => pull_ σ j t s9) (σ 3 0 + σ 2 t) k)) hx hb hr hlocks hH (by show acc _ _ k = frc σ t s9; unfold frc; rw [inv_nL hI, show k = nL by omega]) dX0_forceWith_42
      · exact absurd (nI_le (by omega) (by omega)) c21
  | succ n ih =>
      intro k ls hk hl
      refine lv_iload hx hb dX0_forceWith_15 (lv_at hl 0 rfl) ?_
      refine lv_aload_n hx hb dX0_forceWith_17 rfl (lv_at hl 2 rfl) ?_
      refine x_get hin hx hb hts hown hK hP rfl 7 (by decide) (v := .int (nI nL)) (congrArg (fun z => some (Value.int z)) hL) (by decide +kernel) dX0_forceWith_18 ?_
      refine lv_icmp_ge (tgt := 41) hx hb dX0_forceWith_21 (by decide) (fun c21 => ?_) (fun c21 => ?_)
      · exact absurd c21 (nI_ge (by omega) (by omega))
      · refine lv_iload_n hx hb dX0_forceWith_24 rfl (lv_at hl 1 rfl) ?_
        refine lv_aload_n hx hb dX0_forceWith_25 rfl (lv_at hl 2 rfl) ?_
        refine lv_iload hx hb dX0_forceWith_26 (lv_at hl 0 rfl) ?_
        refine lv_iload_n hx hb dX0_forceWith_28 rfl (lv_at hl 3 rfl) ?_
        refine lv_iload_n hx hb dX0_forceWith_29 rfl (lv_at hl 4 rfl) ?_
        refine ro_callV 3 hx hb hml hown hts hl.1 hP hK 0 0 rfl rfl (As := [.int (nI k), .int (nI t), .int s9]) (rest := [.int (acc (fun j => pull_ σ j t s9) (σ 3 0 + σ 2 t) k)]) (c_X0_pullWith l D cI cZ h a σ H hI k t (by omega) ht48 s9 hs9) gX0_forceWith_X0_pullWith rfl rfl rfl (by decide +kernel) ⟨Nat.le_of_ble_eq_true rfl, Nat.le_of_ble_eq_true rfl⟩ rfl rfl (Nat.le_of_ble_eq_true rfl) dX0_forceWith_30 ⟨Nat.zero_le _, Nat.zero_le _⟩ (fun r1 hr1 => ?_)
        subst hr1
        refine lv_iadd hx hb dX0_forceWith_33 ?_
        refine lv_istore_n (lv' := [(3, .int ((acc (fun j => pull_ σ j t s9) (σ 3 0 + σ 2 t) k) + (pull_ σ k t s9))), (4, .int (nI k)), (0, .ref h), (1, .int (nI t)), (2, .int s9)]) hx hb dX0_forceWith_34 rfl hl (by decide) rfl (fun ls hl => ?_)
        refine lv_iinc (v := (nI (k + 1))) (lv' := [(4, .int (nI (k + 1))), (3, .int ((acc (fun j => pull_ σ j t s9) (σ 3 0 + σ 2 t) k) + (pull_ σ k t s9))), (0, .ref h), (1, .int (nI t)), (2, .int s9)]) hx hb dX0_forceWith_35 hl (k := 1) rfl (by exact nI_add _ 1) (by decide) rfl (fun ls hl => ?_)
        refine lv_goto (tgt := 15) hx hb dX0_forceWith_38 (by decide) ?_
        exact ih (k + 1) ls (by omega) (lv_sub hl [0, 1, 2, 3, 4] rfl)
set_option maxHeartbeats 4000000 in
set_option maxRecDepth 100000 in
/-- balanceOf: halving -/
theorem c_X0_balanceOf (l : Launch) (D : va_G) (cI cZ : ClassId) (h : Nat) (a : Nat → Nat) (σ : St) (H : Heap) {nL nB : Nat} (hI : inv σ nL nB) (t : Nat) (ht48 : t < 48) : roM l yX0_balanceOf wsX0_balanceOf ({ frames := 4, cells := 0, slots := 0, locals := 93 }) [.ref h, .int (nI t)] D (xw cI cZ h a σ) (tyX cI cZ) H (fun r => r = bal σ t) := by
  refine ro_of (cc := cX0_balanceOf) (maxL := 6) (ret := some .int) (by decide) rfl (Nat.le_of_ble_eq_true rfl) ?_
  intro p e s m args below meth c he hH hP hK ls hl
  obtain ⟨hx, hb, hr, hml, hown, hts, hlocks⟩ := he
  have hown : s.vm.findClass RX0 = some m.cls := hown
  have hl : lv_has ls 6 [(0, .ref h), (1, .int (nI t))] := hl
  refine lv_sipush (v := (-200)) hx hb dX0_balanceOf_0 (by decide) ?_
  refine lv_istore_n (lv' := [(2, .int (-200)), (0, .ref h), (1, .int (nI t))]) hx hb dX0_balanceOf_3 rfl hl (by decide) rfl (fun ls hl => ?_)
  refine lv_sipush (v := 200) hx hb dX0_balanceOf_4 (by decide) ?_
  refine lv_istore_n (lv' := [(3, .int 200), (2, .int (-200)), (0, .ref h), (1, .int (nI t))]) hx hb dX0_balanceOf_7 rfl hl (by decide) rfl (fun ls hl => ?_)
  refine lv_iconst (v := 0) hx hb dX0_balanceOf_8 (by decide) ?_
  refine lv_istore (lv' := [(4, .int 0), (3, .int 200), (2, .int (-200)), (0, .ref h), (1, .int (nI t))]) hx hb dX0_balanceOf_9 hl (by decide) rfl (fun ls hl => ?_)
  suffices K : ∀ (n k : Nat) (lo hi : Int) (ls : Array Slot), k + n = 401 → -200 ≤ lo → lo ≤ hi → hi ≤ 200 → hi - lo < n → bis (fun z => decide (0 < frc σ t (zI z))) n lo hi = balZ σ t → lv_has ls 6 [(4, .int (nI k)), (3, .int (zI hi)), (2, .int (zI lo)), (0, .ref h), (1, .int (nI t))] → W p l e _ s m args below meth c H [] 0 0 (roQ below H (fun r => r = bal σ t) args s) (F0 m 11 ls []) by
    exact K 401 0 (-200) 200 ls (by omega) (by omega) (by omega) (by omega) (by omega) rfl (lv_sub hl [0, 1, 2, 3, 4] rfl)
  intro n
  induction n with
  | zero =>
      intro k lo hi ls hk h1 h2 h3 h4; exact absurd h4 (by omega)
  | succ n ih =>
      intro k lo hi ls hk h1 h2 h3 h4 h5 hl
      refine lv_iload_n hx hb dX0_balanceOf_11 rfl (lv_at hl 2 rfl) ?_
      refine lv_iload_n hx hb dX0_balanceOf_12 rfl (lv_at hl 1 rfl) ?_
      refine lv_icmp_ge (tgt := 60) hx hb dX0_balanceOf_13 (by decide) (fun c13 => ?_) (fun c13 => ?_)
      · have hge : ¬ lo < hi := fun w => absurd ((zI_le (by omega) (by omega) (by omega) (by omega)).mp c13) (by omega)
        refine lv_iload_n hx hb dX0_balanceOf_60 rfl (lv_at hl 2 rfl) ?_
        exact ro_ret (v := (zI lo)) hx hb hr hlocks hH (by show zI lo = bal σ t; unfold bal; rw [← h5, bis_end hge]) dX0_balanceOf_61
      · have hlt : lo < hi := Int.not_le.mp (fun w => c13 ((zI_le (by omega) (by omega) (by omega) (by omega)).mpr w))
        refine lv_iload hx hb dX0_balanceOf_16 (lv_at hl 0 rfl) ?_
        refine lv_sipush (v := 401) hx hb dX0_balanceOf_18 (by decide) ?_
        refine lv_icmp_ge (tgt := 60) hx hb dX0_balanceOf_21 (by decide) (fun c21 => ?_) (fun c21 => ?_)
        · exact absurd c21 (nI_ge (a := k) (b := 401) (by omega) (by omega))
        · refine lv_iload_n hx hb dX0_balanceOf_24 rfl (lv_at hl 2 rfl) ?_
          refine lv_iload_n hx hb dX0_balanceOf_25 rfl (lv_at hl 1 rfl) ?_
          refine lv_iadd hx hb dX0_balanceOf_26 ?_
          rw [zI_add]
          refine lv_iconst (v := 2) hx hb dX0_balanceOf_27 (by decide) ?_
          refine ro_callS 2 hx hb hml hown hts hl.1 hP hK (As := [.int (zI (lo + hi)), .int 2]) (rest := []) (c_J9_floorDiv_7cf53 l D (xw cI cZ h a σ) (tyX cI cZ) H (lo + hi) ⟨by omega, by omega⟩) gX0_balanceOf_J9_floorDiv_7cf53 rfl rfl rfl (by decide +kernel) ⟨Nat.le_of_ble_eq_true rfl, Nat.le_of_ble_eq_true rfl⟩ rfl rfl (Nat.le_of_ble_eq_true rfl) dX0_balanceOf_28 ⟨Nat.zero_le _, Nat.zero_le _⟩ (fun r1 hr1 => ?_)
          subst hr1
          have hm1 : lo ≤ (lo + hi) / 2 := by omega
          have hm2 : (lo + hi) / 2 < hi := by omega
          have hsm : inS (zI ((lo + hi) / 2)) := by unfold inS; rw [zI_ti (by omega) (by omega)]; omega
          refine lv_istore (lv' := [(5, .int (zI ((lo + hi) / 2))), (4, .int (nI k)), (3, .int (zI hi)), (2, .int (zI lo)), (0, .ref h), (1, .int (nI t))]) hx hb dX0_balanceOf_31 hl (by decide) rfl (fun ls hl => ?_)
          refine lv_aload_n hx hb dX0_balanceOf_33 rfl (lv_at hl 4 rfl) ?_
          refine lv_iload_n hx hb dX0_balanceOf_34 rfl (lv_at hl 5 rfl) ?_
          refine lv_iload hx hb dX0_balanceOf_35 (lv_at hl 0 rfl) ?_
          refine ro_callV 2 hx hb hml hown hts hl.1 hP hK 0 0 rfl rfl (As := [.int (nI t), .int (zI ((lo + hi) / 2))]) (rest := []) (c_X0_forceWith l D cI cZ h a σ H hI t ht48 (zI ((lo + hi) / 2)) hsm) gX0_balanceOf_X0_forceWith rfl rfl rfl (by decide +kernel) ⟨Nat.le_of_ble_eq_true rfl, Nat.le_of_ble_eq_true rfl⟩ rfl rfl (Nat.le_of_ble_eq_true rfl) dX0_balanceOf_37 ⟨Nat.zero_le _, Nat.zero_le _⟩ (fun r2 hr2 => ?_)
          subst hr2
          refine lv_if_le (tgt := 51) hx hb dX0_balanceOf_40 (by decide) (fun c40 => ?_) (fun c40 => ?_)
          · refine lv_iload hx hb dX0_balanceOf_51 (lv_at hl 0 rfl) ?_
            refine lv_istore_n (lv' := [(3, .int (zI ((lo + hi) / 2))), (5, .int (zI ((lo + hi) / 2))), (4, .int (nI k)), (2, .int (zI lo)), (0, .ref h), (1, .int (nI t))]) hx hb dX0_balanceOf_53 rfl hl (by decide) rfl (fun ls hl => ?_)
            refine lv_iinc (v := (nI (k + 1))) (lv' := [(4, .int (nI (k + 1))), (3, .int (zI ((lo + hi) / 2))), (5, .int (zI ((lo + hi) / 2))), (2, .int (zI lo)), (0, .ref h), (1, .int (nI t))]) hx hb dX0_balanceOf_54 hl (k := 2) rfl (by exact nI_add _ 1) (by decide) rfl (fun ls hl => ?_)
            refine lv_goto (tgt := 11) hx hb dX0_balanceOf_57 (by decide) ?_
            have hn : ¬ (fun z => decide (0 < frc σ t (zI z))) ((lo + hi) / 2) = true := fun v => absurd c40 (Int32.not_le.mpr (of_decide_eq_true v))
            exact ih (k + 1) lo ((lo + hi) / 2) ls (by omega) h1 hm1 (by omega) (by omega) (by rw [← h5]; exact (bis_dn hlt hn).symm) (lv_sub hl [0, 1, 3, 4, 5] rfl)
          · refine lv_iload hx hb dX0_balanceOf_43 (lv_at hl 0 rfl) ?_
            refine lv_iconst (v := 1) hx hb dX0_balanceOf_45 (by decide) ?_
            refine lv_iadd hx hb dX0_balanceOf_46 ?_
            rw [show zI ((lo + hi) / 2) + 1 = zI ((lo + hi) / 2 + 1) from zI_add _ 1]
            refine lv_istore_n (lv' := [(2, .int (zI ((lo + hi) / 2 + 1))), (5, .int (zI ((lo + hi) / 2))), (4, .int (nI k)), (3, .int (zI hi)), (0, .ref h), (1, .int (nI t))]) hx hb dX0_balanceOf_47 rfl hl (by decide) rfl (fun ls hl => ?_)
            refine lv_goto (tgt := 54) hx hb dX0_balanceOf_48 (by decide) ?_
            refine lv_iinc (v := (nI (k + 1))) (lv' := [(4, .int (nI (k + 1))), (2, .int (zI ((lo + hi) / 2 + 1))), (5, .int (zI ((lo + hi) / 2))), (3, .int (zI hi)), (0, .ref h), (1, .int (nI t))]) hx hb dX0_balanceOf_54 hl (k := 2) rfl (by exact nI_add _ 1) (by decide) rfl (fun ls hl => ?_)
            refine lv_goto (tgt := 11) hx hb dX0_balanceOf_57 (by decide) ?_
            have hn : (fun z => decide (0 < frc σ t (zI z))) ((lo + hi) / 2) = true := decide_eq_true (Int32.not_le.mp c40)
            exact ih (k + 1) ((lo + hi) / 2 + 1) hi ls (by omega) (by omega) (by omega) h3 (by omega) (by rw [← h5]; exact (bis_up hlt hn).symm) (lv_sub hl [0, 3, 1, 4, 5] rfl)
set_option maxHeartbeats 4000000 in
set_option maxRecDepth 100000 in
/-- driftsWith -/
theorem c_X0_driftsWith (l : Launch) (D : va_G) (cI cZ : ClassId) (h : Nat) (a : Nat → Nat) (σ : St) (H : Heap) {nL nB : Nat} (hI : inv σ nL nB) (t : Nat) (ht48 : t < 48) (s9 : Int32) (hs9 : inS s9) : roM l yX0_driftsWith wsX0_driftsWith ({ frames := 4, cells := 0, slots := 0, locals := 93 }) [.ref h, .int (nI t), .int s9] D (xw cI cZ h a σ) (tyX cI cZ) H (fun r => r = bI (drfW σ t s9)) := by
  refine ro_of (cc := cX0_driftsWith) (maxL := 3) (ret := some .boolean) (by decide) rfl (Nat.le_of_ble_eq_true rfl) ?_
  intro p e s m args below meth c he hH hP hK ls hl
  obtain ⟨hx, hb, hr, hml, hown, hts, hlocks⟩ := he
  have hown : s.vm.findClass RX0 = some m.cls := hown
  have hl : lv_has ls 3 [(0, .ref h), (1, .int (nI t)), (2, .int s9)] := hl
  refine lv_iload_n hx hb dX0_driftsWith_0 rfl (lv_at hl 2 rfl) ?_
  refine lv_sipush (v := 200) hx hb dX0_driftsWith_1 (by decide) ?_
  refine lv_icmp_ne (tgt := 22) hx hb dX0_driftsWith_4 (by decide) (fun c4 => ?_) (fun c4 => ?_)
  · refine lv_iload_n hx hb dX0_driftsWith_22 rfl (lv_at hl 2 rfl) ?_
    refine lv_sipush (v := (-200)) hx hb dX0_driftsWith_23 (by decide) ?_
    refine lv_icmp_ne (tgt := 44) hx hb dX0_driftsWith_26 (by decide) (fun c26 => ?_) (fun c26 => ?_)
    · refine lv_iconst (v := 0) hx hb dX0_driftsWith_44 (by decide) ?_
      exact ro_zret (v := 0) hx hb hr hlocks hH ⟨false, rfl⟩ (by show _ = bI (drfW σ t s9); unfold drfW; rw [decide_eq_false c4, decide_eq_false c26]; rfl) dX0_driftsWith_45
    · refine lv_aload_n hx hb dX0_driftsWith_29 rfl (lv_at hl 0 rfl) ?_
      refine lv_iload_n hx hb dX0_driftsWith_30 rfl (lv_at hl 1 rfl) ?_
      refine lv_iload_n hx hb dX0_driftsWith_31 rfl (lv_at hl 2 rfl) ?_
      refine ro_callV 2 hx hb hml hown hts hl.1 hP hK 0 0 rfl rfl (As := [.int (nI t), .int s9]) (rest := []) (c_X0_forceWith l D cI cZ h a σ H hI t ht48 s9 hs9) gX0_driftsWith_X0_forceWith rfl rfl rfl (by decide +kernel) ⟨Nat.le_of_ble_eq_true rfl, Nat.le_of_ble_eq_true rfl⟩ rfl rfl (Nat.le_of_ble_eq_true rfl) dX0_driftsWith_32 ⟨Nat.zero_le _, Nat.zero_le _⟩ (fun r1 hr1 => ?_)
      subst hr1
      refine lv_if_ge (tgt := 42) hx hb dX0_driftsWith_35 (by decide) (fun c35 => ?_) (fun c35 => ?_)
      · refine lv_iconst (v := 0) hx hb dX0_driftsWith_42 (by decide) ?_
        exact ro_zret (v := 0) hx hb hr hlocks hH ⟨false, rfl⟩ (by show _ = bI (drfW σ t s9); unfold drfW; rw [decide_eq_false c4, decide_eq_true c26, decide_eq_false (Int32.not_lt.mpr c35)]; rfl) dX0_driftsWith_43
      · refine lv_iconst (v := 1) hx hb dX0_driftsWith_38 (by decide) ?_
        refine lv_goto (tgt := 43) hx hb dX0_driftsWith_39 (by decide) ?_
        exact ro_zret (v := 1) hx hb hr hlocks hH ⟨true, rfl⟩ (by show _ = bI (drfW σ t s9); unfold drfW; rw [decide_eq_false c4, decide_eq_true c26, decide_eq_true (Int32.not_le.mp c35)]; rfl) dX0_driftsWith_43
  · have hne : ¬ s9 = -200 := fun q => absurd (c4.symm.trans q) (by decide)
    refine lv_aload_n hx hb dX0_driftsWith_7 rfl (lv_at hl 0 rfl) ?_
    refine lv_iload_n hx hb dX0_driftsWith_8 rfl (lv_at hl 1 rfl) ?_
    refine lv_iload_n hx hb dX0_driftsWith_9 rfl (lv_at hl 2 rfl) ?_
    refine ro_callV 2 hx hb hml hown hts hl.1 hP hK 0 0 rfl rfl (As := [.int (nI t), .int s9]) (rest := []) (c_X0_forceWith l D cI cZ h a σ H hI t ht48 s9 hs9) gX0_driftsWith_X0_forceWith rfl rfl rfl (by decide +kernel) ⟨Nat.le_of_ble_eq_true rfl, Nat.le_of_ble_eq_true rfl⟩ rfl rfl (Nat.le_of_ble_eq_true rfl) dX0_driftsWith_10 ⟨Nat.zero_le _, Nat.zero_le _⟩ (fun r1 hr1 => ?_)
    subst hr1
    refine lv_if_le (tgt := 20) hx hb dX0_driftsWith_13 (by decide) (fun c13 => ?_) (fun c13 => ?_)
    · refine lv_iconst (v := 0) hx hb dX0_driftsWith_20 (by decide) ?_
      exact ro_zret (v := 0) hx hb hr hlocks hH ⟨false, rfl⟩ (by show _ = bI (drfW σ t s9); unfold drfW; rw [decide_eq_true c4, decide_eq_false hne, decide_eq_false (Int32.not_lt.mpr c13)]; rfl) dX0_driftsWith_21
    · refine lv_iconst (v := 1) hx hb dX0_driftsWith_16 (by decide) ?_
      refine lv_goto (tgt := 21) hx hb dX0_driftsWith_17 (by decide) ?_
      exact ro_zret (v := 1) hx hb hr hlocks hH ⟨true, rfl⟩ (by show _ = bI (drfW σ t s9); unfold drfW; rw [decide_eq_true c4, decide_eq_false hne, decide_eq_true (Int32.not_le.mp c13)]; rfl) dX0_driftsWith_21
set_option maxHeartbeats 4000000 in
set_option maxRecDepth 100000 in
/-- bollardTension -/
theorem c_X0_bollardTension (l : Launch) (D : va_G) (cI cZ : ClassId) (h : Nat) (a : Nat → Nat) (σ : St) (H : Heap) {nL nB : Nat} (hI : inv σ nL nB) (b9 : Int32) (t : Nat) (ht48 : t < 48) (s9 : Int32) (hs9 : inS s9) : roM l yX0_bollardTension wsX0_bollardTension ({ frames := 2, cells := 0, slots := 0, locals := 48 }) [.ref h, .int b9, .int (nI t), .int s9] D (xw cI cZ h a σ) (tyX cI cZ) H (fun r => r = sumOn_ σ b9 t s9) := by
  refine ro_of (cc := cX0_bollardTension) (maxL := 6) (ret := some .int) (by decide) rfl (Nat.le_of_ble_eq_true rfl) ?_
  intro p e s m args below meth c he hH hP hK ls hl
  obtain ⟨hx, hb, hr, hml, hown, hts, hlocks⟩ := he
  have hown : s.vm.findClass RX0 = some m.cls := hown
  have hl : lv_has ls 6 [(0, .ref h), (1, .int b9), (2, .int (nI t)), (3, .int s9)] := hl
  have hin : ∀ w ∈ u_ws RX0 TX0 15, w ∈ wsX0_bollardTension := by decide +kernel
  have hL : σ 7 0 = nI nL := hI.1
  have hL10 : nL ≤ 10 := hI.2.1
  refine lv_iconst (v := 0) hx hb dX0_bollardTension_0 (by decide) ?_
  refine lv_istore (lv' := [(4, .int 0), (0, .ref h), (1, .int b9), (2, .int (nI t)), (3, .int s9)]) hx hb dX0_bollardTension_1 hl (by decide) rfl (fun ls hl => ?_)
  refine lv_iconst (v := 0) hx hb dX0_bollardTension_3 (by decide) ?_
  refine lv_istore (lv' := [(5, .int 0), (4, .int 0), (0, .ref h), (1, .int b9), (2, .int (nI t)), (3, .int s9)]) hx hb dX0_bollardTension_4 hl (by decide) rfl (fun ls hl => ?_)
  suffices K : ∀ (n k : Nat) (ls : Array Slot), k + n = nL → lv_has ls 6 [(5, .int (nI k)), (4, .int (acc (fun j => if σ 8 j = b9 then tn_ σ j t s9 else 0) 0 k)), (0, .ref h), (1, .int b9), (2, .int (nI t)), (3, .int s9)] → W p l e _ s m args below meth c H [] 0 0 (roQ below H (fun r => r = sumOn_ σ b9 t s9) args s) (F0 m 6 ls []) by
    exact K nL 0 ls (by omega) (lv_sub hl [0, 1, 2, 3, 4, 5] rfl)
  intro n
  induction n with
  | zero =>
      intro k ls hk hl
      refine lv_iload hx hb dX0_bollardTension_6 (lv_at hl 0 rfl) ?_
      refine lv_aload_n hx hb dX0_bollardTension_8 rfl (lv_at hl 2 rfl) ?_
      refine x_get hin hx hb hts hown hK hP rfl 7 (by decide) (v := .int (nI nL)) (congrArg (fun z => some (Value.int z)) hL) (by decide +kernel) dX0_bollardTension_9 ?_
      refine lv_icmp_ge (tgt := 51) hx hb dX0_bollardTension_12 (by decide) (fun c12 => ?_) (fun c12 => ?_)
      · refine lv_iload hx hb dX0_bollardTension_51 (lv_at hl 1 rfl) ?_
        exact ro_ret (v := (acc (fun j => if σ 8 j = b9 then tn_ σ j t s9 else 0) 0 k)) hx hb hr hlocks hH (by show acc _ _ k = sumOn_ σ b9 t s9; unfold sumOn_; rw [inv_nL hI, show k = nL by omega]) dX0_bollardTension_53
      · exact absurd (nI_le (by omega) (by omega)) c12
  | succ n ih =>
      intro k ls hk hl
      refine lv_iload hx hb dX0_bollardTension_6 (lv_at hl 0 rfl) ?_
      refine lv_aload_n hx hb dX0_bollardTension_8 rfl (lv_at hl 2 rfl) ?_
      refine x_get hin hx hb hts hown hK hP rfl 7 (by decide) (v := .int (nI nL)) (congrArg (fun z => some (Value.int z)) hL) (by decide +kernel) dX0_bollardTension_9 ?_
      refine lv_icmp_ge (tgt := 51) hx hb dX0_bollardTension_12 (by decide) (fun c12 => ?_) (fun c12 => ?_)
      · exact absurd c12 (nI_ge (by omega) (by omega))
      · refine lv_aload_n hx hb dX0_bollardTension_15 rfl (lv_at hl 2 rfl) ?_
        refine x_get hin hx hb hts hown hK hP rfl 8 (by decide) (v := .ref (a 8)) rfl (by decide +kernel) dX0_bollardTension_16 ?_
        refine lv_iload hx hb dX0_bollardTension_19 (lv_at hl 0 rfl) ?_
        refine xa_ld hx hb hK hP 6 0 rfl rfl (j := k) (by omega) (by decide) dX0_bollardTension_21 ?_
        refine lv_iload_n hx hb dX0_bollardTension_22 rfl (lv_at hl 3 rfl) ?_
        refine lv_icmp_ne (tgt := 45) hx hb dX0_bollardTension_23 (by decide) (fun c23 => ?_) (fun c23 => ?_)
        · refine lv_iinc (v := (nI (k + 1))) (lv' := [(5, .int (nI (k + 1))), (4, .int (acc (fun j => if σ 8 j = b9 then tn_ σ j t s9 else 0) 0 k)), (0, .ref h), (1, .int b9), (2, .int (nI t)), (3, .int s9)]) hx hb dX0_bollardTension_45 hl (k := 0) rfl (by exact nI_add _ 1) (by decide) rfl (fun ls hl => ?_)
          refine lv_goto (tgt := 6) hx hb dX0_bollardTension_48 (by decide) ?_
          refine ih (k + 1) ls (by omega) (lv_sub hl [0, 1, 2, 3, 4, 5] ?_)
          have e9 : acc (fun j => if σ 8 j = b9 then tn_ σ j t s9 else 0) 0 (k + 1) = acc (fun j => if σ 8 j = b9 then tn_ σ j t s9 else 0) 0 k := by show acc (fun j => if σ 8 j = b9 then tn_ σ j t s9 else 0) 0 k + (if σ 8 k = b9 then tn_ σ k t s9 else 0) = _; rw [if_neg c23, Int32.add_zero]
          rw [e9]; rfl
        · refine lv_iload hx hb dX0_bollardTension_26 (lv_at hl 1 rfl) ?_
          refine lv_aload_n hx hb dX0_bollardTension_28 rfl (lv_at hl 2 rfl) ?_
          refine lv_iload hx hb dX0_bollardTension_29 (lv_at hl 0 rfl) ?_
          refine lv_aload_n hx hb dX0_bollardTension_31 rfl (lv_at hl 2 rfl) ?_
          refine lv_iload hx hb dX0_bollardTension_32 (lv_at hl 0 rfl) ?_
          refine lv_iload_n hx hb dX0_bollardTension_34 rfl (lv_at hl 4 rfl) ?_
          refine lv_iload_n hx hb dX0_bollardTension_35 rfl (lv_at hl 5 rfl) ?_
          refine ro_callV 3 hx hb hml hown hts hl.1 hP hK 0 0 rfl rfl (As := [.int (nI k), .int (nI t), .int s9]) (rest := [.int (nI k), .ref h, .int (acc (fun j => if σ 8 j = b9 then tn_ σ j t s9 else 0) 0 k)]) (c_X0_lengthWith l D cI cZ h a σ H hI k t (by omega) ht48 s9 hs9) gX0_bollardTension_X0_lengthWith rfl rfl rfl (by decide +kernel) ⟨Nat.le_of_ble_eq_true rfl, Nat.le_of_ble_eq_true rfl⟩ rfl rfl (Nat.le_of_ble_eq_true rfl) dX0_bollardTension_36 ⟨Nat.zero_le _, Nat.zero_le _⟩ (fun r1 hr1 => ?_)
          subst hr1
          refine ro_callV 2 hx hb hml hown hts hl.1 hP hK 0 0 rfl rfl (As := [.int (nI k), .int (len_ σ k t s9)]) (rest := [.int (acc (fun j => if σ 8 j = b9 then tn_ σ j t s9 else 0) 0 k)]) (c_X0_tensionAtLength l D cI cZ h a σ H k (by omega) (len_ σ k t s9)) gX0_bollardTension_X0_tensionAtLength rfl rfl rfl (by decide +kernel) ⟨Nat.le_of_ble_eq_true rfl, Nat.le_of_ble_eq_true rfl⟩ rfl rfl (Nat.le_of_ble_eq_true rfl) dX0_bollardTension_39 ⟨Nat.zero_le _, Nat.zero_le _⟩ (fun r2 hr2 => ?_)
          subst hr2
          refine lv_iadd hx hb dX0_bollardTension_42 ?_
          refine lv_istore (lv' := [(4, .int ((acc (fun j => if σ 8 j = b9 then tn_ σ j t s9 else 0) 0 k) + (tens_ σ k (len_ σ k t s9)))), (5, .int (nI k)), (0, .ref h), (1, .int b9), (2, .int (nI t)), (3, .int s9)]) hx hb dX0_bollardTension_43 hl (by decide) rfl (fun ls hl => ?_)
          refine lv_iinc (v := (nI (k + 1))) (lv' := [(5, .int (nI (k + 1))), (4, .int ((acc (fun j => if σ 8 j = b9 then tn_ σ j t s9 else 0) 0 k) + (tens_ σ k (len_ σ k t s9)))), (0, .ref h), (1, .int b9), (2, .int (nI t)), (3, .int s9)]) hx hb dX0_bollardTension_45 hl (k := 1) rfl (by exact nI_add _ 1) (by decide) rfl (fun ls hl => ?_)
          refine lv_goto (tgt := 6) hx hb dX0_bollardTension_48 (by decide) ?_
          refine ih (k + 1) ls (by omega) (lv_sub hl [0, 1, 2, 3, 4, 5] ?_)
          have e9 : acc (fun j => if σ 8 j = b9 then tn_ σ j t s9 else 0) 0 (k + 1) = acc (fun j => if σ 8 j = b9 then tn_ σ j t s9 else 0) 0 k + tens_ σ k (len_ σ k t s9) := by show acc (fun j => if σ 8 j = b9 then tn_ σ j t s9 else 0) 0 k + (if σ 8 k = b9 then tn_ σ k t s9 else 0) = _; rw [if_pos c23]; rfl
          rw [e9]; rfl
set_option maxHeartbeats 4000000 in
set_option maxRecDepth 100000 in
/-- linesHold -/
theorem c_X0_linesHold (l : Launch) (D : va_G) (cI cZ : ClassId) (h : Nat) (a : Nat → Nat) (σ : St) (H : Heap) {nL nB : Nat} (hI : inv σ nL nB) (t : Nat) (ht48 : t < 48) (s9 : Int32) (hs9 : inS s9) : roM l yX0_linesHold wsX0_linesHold ({ frames := 2, cells := 0, slots := 0, locals := 48 }) [.ref h, .int (nI t), .int s9] D (xw cI cZ h a σ) (tyX cI cZ) H (fun r => r = bI (lnH σ t s9)) := by
  refine ro_of (cc := cX0_linesHold) (maxL := 5) (ret := some .boolean) (by decide) rfl (Nat.le_of_ble_eq_true rfl) ?_
  intro p e s m args below meth c he hH hP hK ls hl
  obtain ⟨hx, hb, hr, hml, hown, hts, hlocks⟩ := he
  have hown : s.vm.findClass RX0 = some m.cls := hown
  have hl : lv_has ls 5 [(0, .ref h), (1, .int (nI t)), (2, .int s9)] := hl
  have hin : ∀ w ∈ u_ws RX0 TX0 15, w ∈ wsX0_linesHold := by decide +kernel
  have hL : σ 7 0 = nI nL := hI.1
  have hL10 : nL ≤ 10 := hI.2.1
  refine lv_iconst (v := 0) hx hb dX0_linesHold_0 (by decide) ?_
  refine lv_istore_n (lv' := [(3, .int 0), (0, .ref h), (1, .int (nI t)), (2, .int s9)]) hx hb dX0_linesHold_1 rfl hl (by decide) rfl (fun ls hl => ?_)
  suffices K : ∀ (n k : Nat) (ls : Array Slot), k + n = nL → allB (fun j => decide (tn_ σ j t s9 * 100 ≤ σ 11 j * 55)) k = true → lv_has ls 5 [(3, .int (nI k)), (0, .ref h), (1, .int (nI t)), (2, .int s9)] → W p l e _ s m args below meth c H [] 0 0 (roQ below H (fun r => r = bI (lnH σ t s9)) args s) (F0 m 2 ls []) by
    exact K nL 0 ls (by omega) rfl (lv_sub hl [0, 1, 2, 3] rfl)
  intro n
  induction n with
  | zero =>
      intro k ls hk hp hl
      refine lv_iload_n hx hb dX0_linesHold_2 rfl (lv_at hl 0 rfl) ?_
      refine lv_aload_n hx hb dX0_linesHold_3 rfl (lv_at hl 1 rfl) ?_
      refine x_get hin hx hb hts hown hK hP rfl 7 (by decide) (v := .int (nI nL)) (congrArg (fun z => some (Value.int z)) hL) (by decide +kernel) dX0_linesHold_4 ?_
      refine lv_icmp_ge (tgt := 49) hx hb dX0_linesHold_7 (by decide) (fun c7 => ?_) (fun c7 => ?_)
      · refine lv_iconst (v := 1) hx hb dX0_linesHold_49 (by decide) ?_
        exact ro_zret (v := 1) hx hb hr hlocks hH ⟨true, rfl⟩ (by show _ = bI (lnH σ t s9); unfold lnH; rw [inv_nL hI, ← show k = nL by omega, hp]; rfl) dX0_linesHold_50
      · exact absurd (nI_le (by omega) (by omega)) c7
  | succ n ih =>
      intro k ls hk hp hl
      refine lv_iload_n hx hb dX0_linesHold_2 rfl (lv_at hl 0 rfl) ?_
      refine lv_aload_n hx hb dX0_linesHold_3 rfl (lv_at hl 1 rfl) ?_
      refine x_get hin hx hb hts hown hK hP rfl 7 (by decide) (v := .int (nI nL)) (congrArg (fun z => some (Value.int z)) hL) (by decide +kernel) dX0_linesHold_4 ?_
      refine lv_icmp_ge (tgt := 49) hx hb dX0_linesHold_7 (by decide) (fun c7 => ?_) (fun c7 => ?_)
      · exact absurd c7 (nI_ge (by omega) (by omega))
      · refine lv_aload_n hx hb dX0_linesHold_10 rfl (lv_at hl 1 rfl) ?_
        refine lv_iload_n hx hb dX0_linesHold_11 rfl (lv_at hl 0 rfl) ?_
        refine lv_aload_n hx hb dX0_linesHold_12 rfl (lv_at hl 1 rfl) ?_
        refine lv_iload_n hx hb dX0_linesHold_13 rfl (lv_at hl 0 rfl) ?_
        refine lv_iload_n hx hb dX0_linesHold_14 rfl (lv_at hl 2 rfl) ?_
        refine lv_iload_n hx hb dX0_linesHold_15 rfl (lv_at hl 3 rfl) ?_
        refine ro_callV 3 hx hb hml hown hts hl.1 hP hK 0 0 rfl rfl (As := [.int (nI k), .int (nI t), .int s9]) (rest := [.int (nI k), .ref h]) (c_X0_lengthWith l D cI cZ h a σ H hI k t (by omega) ht48 s9 hs9) gX0_linesHold_X0_lengthWith rfl rfl rfl (by decide +kernel) ⟨Nat.le_of_ble_eq_true rfl, Nat.le_of_ble_eq_true rfl⟩ rfl rfl (Nat.le_of_ble_eq_true rfl) dX0_linesHold_16 ⟨Nat.zero_le _, Nat.zero_le _⟩ (fun r1 hr1 => ?_)
        subst hr1
        refine ro_callV 2 hx hb hml hown hts hl.1 hP hK 0 0 rfl rfl (As := [.int (nI k), .int (len_ σ k t s9)]) (rest := []) (c_X0_tensionAtLength l D cI cZ h a σ H k (by omega) (len_ σ k t s9)) gX0_linesHold_X0_tensionAtLength rfl rfl rfl (by decide +kernel) ⟨Nat.le_of_ble_eq_true rfl, Nat.le_of_ble_eq_true rfl⟩ rfl rfl (Nat.le_of_ble_eq_true rfl) dX0_linesHold_19 ⟨Nat.zero_le _, Nat.zero_le _⟩ (fun r2 hr2 => ?_)
        subst hr2
        refine lv_istore (lv' := [(4, .int (tens_ σ k (len_ σ k t s9))), (3, .int (nI k)), (0, .ref h), (1, .int (nI t)), (2, .int s9)]) hx hb dX0_linesHold_22 hl (by decide) rfl (fun ls hl => ?_)
        refine lv_iload hx hb dX0_linesHold_24 (lv_at hl 0 rfl) ?_
        refine lv_bipush (v := 100) hx hb dX0_linesHold_26 (by decide) ?_
        refine lv_imul hx hb dX0_linesHold_28 ?_
        refine lv_aload_n hx hb dX0_linesHold_29 rfl (lv_at hl 2 rfl) ?_
        refine x_get hin hx hb hts hown hK hP rfl 11 (by decide) (v := .ref (a 11)) rfl (by decide +kernel) dX0_linesHold_30 ?_
        refine lv_iload_n hx hb dX0_linesHold_33 rfl (lv_at hl 1 rfl) ?_
        refine xa_ld hx hb hK hP 9 0 rfl rfl (j := k) (by omega) (by decide) dX0_linesHold_34 ?_
        refine lv_bipush (v := 55) hx hb dX0_linesHold_35 (by decide) ?_
        refine lv_imul hx hb dX0_linesHold_37 ?_
        refine lv_icmp_le (tgt := 43) hx hb dX0_linesHold_38 (by decide) (fun c38 => ?_) (fun c38 => ?_)
        · refine lv_iinc (v := (nI (k + 1))) (lv' := [(3, .int (nI (k + 1))), (4, .int (tens_ σ k (len_ σ k t s9))), (0, .ref h), (1, .int (nI t)), (2, .int s9)]) hx hb dX0_linesHold_43 hl (k := 1) rfl (by exact nI_add _ 1) (by decide) rfl (fun ls hl => ?_)
          refine lv_goto (tgt := 2) hx hb dX0_linesHold_46 (by decide) ?_
          exact ih (k + 1) ls (by omega) (by show (allB (fun j => decide (tn_ σ j t s9 * 100 ≤ σ 11 j * 55)) k && decide (tn_ σ k t s9 * 100 ≤ σ 11 k * 55)) = true; rw [hp, decide_eq_true (show tn_ σ k t s9 * 100 ≤ σ 11 k * 55 from c38)]; rfl) (lv_sub hl [0, 2, 3, 4] rfl)
        · refine lv_iconst (v := 0) hx hb dX0_linesHold_41 (by decide) ?_
          exact ro_zret (v := 0) hx hb hr hlocks hH ⟨false, rfl⟩ (by show _ = bI (lnH σ t s9); unfold lnH; rw [inv_nL hI, allB_false (j := k) (decide_eq_false (show ¬ tn_ σ k t s9 * 100 ≤ σ 11 k * 55 from c38)) nL (by omega)]; rfl) dX0_linesHold_42
set_option maxHeartbeats 4000000 in
set_option maxRecDepth 100000 in
/-- bollardsHold -/
theorem c_X0_bollardsHold (l : Launch) (D : va_G) (cI cZ : ClassId) (h : Nat) (a : Nat → Nat) (σ : St) (H : Heap) {nL nB : Nat} (hI : inv σ nL nB) (t : Nat) (ht48 : t < 48) (s9 : Int32) (hs9 : inS s9) : roM l yX0_bollardsHold wsX0_bollardsHold ({ frames := 3, cells := 0, slots := 0, locals := 73 }) [.ref h, .int (nI t), .int s9] D (xw cI cZ h a σ) (tyX cI cZ) H (fun r => r = bI (blH σ t s9)) := by
  refine ro_of (cc := cX0_bollardsHold) (maxL := 4) (ret := some .boolean) (by decide) rfl (Nat.le_of_ble_eq_true rfl) ?_
  intro p e s m args below meth c he hH hP hK ls hl
  obtain ⟨hx, hb, hr, hml, hown, hts, hlocks⟩ := he
  have hown : s.vm.findClass RX0 = some m.cls := hown
  have hl : lv_has ls 4 [(0, .ref h), (1, .int (nI t)), (2, .int s9)] := hl
  have hin : ∀ w ∈ u_ws RX0 TX0 15, w ∈ wsX0_bollardsHold := by decide +kernel
  have hB : σ 4 0 = nI nB := hI.2.2.1
  have hB6 : nB ≤ 6 := hI.2.2.2.1
  refine lv_iconst (v := 0) hx hb dX0_bollardsHold_0 (by decide) ?_
  refine lv_istore_n (lv' := [(3, .int 0), (0, .ref h), (1, .int (nI t)), (2, .int s9)]) hx hb dX0_bollardsHold_1 rfl hl (by decide) rfl (fun ls hl => ?_)
  suffices K : ∀ (n k : Nat) (ls : Array Slot), k + n = nB → allB (fun k => decide (sumOn_ σ (nI k) t s9 ≤ σ 6 k)) k = true → lv_has ls 4 [(3, .int (nI k)), (0, .ref h), (1, .int (nI t)), (2, .int s9)] → W p l e _ s m args below meth c H [] 0 0 (roQ below H (fun r => r = bI (blH σ t s9)) args s) (F0 m 2 ls []) by
    exact K nB 0 ls (by omega) rfl (lv_sub hl [0, 1, 2, 3] rfl)
  intro n
  induction n with
  | zero =>
      intro k ls hk hp hl
      refine lv_iload_n hx hb dX0_bollardsHold_2 rfl (lv_at hl 0 rfl) ?_
      refine lv_aload_n hx hb dX0_bollardsHold_3 rfl (lv_at hl 1 rfl) ?_
      refine x_get hin hx hb hts hown hK hP rfl 4 (by decide) (v := .int (nI nB)) (congrArg (fun z => some (Value.int z)) hB) (by decide +kernel) dX0_bollardsHold_4 ?_
      refine lv_icmp_ge (tgt := 34) hx hb dX0_bollardsHold_7 (by decide) (fun c7 => ?_) (fun c7 => ?_)
      · refine lv_iconst (v := 1) hx hb dX0_bollardsHold_34 (by decide) ?_
        exact ro_zret (v := 1) hx hb hr hlocks hH ⟨true, rfl⟩ (by show _ = bI (blH σ t s9); unfold blH; rw [inv_nB hI, ← show k = nB by omega, hp]; rfl) dX0_bollardsHold_35
      · exact absurd (nI_le (by omega) (by omega)) c7
  | succ n ih =>
      intro k ls hk hp hl
      refine lv_iload_n hx hb dX0_bollardsHold_2 rfl (lv_at hl 0 rfl) ?_
      refine lv_aload_n hx hb dX0_bollardsHold_3 rfl (lv_at hl 1 rfl) ?_
      refine x_get hin hx hb hts hown hK hP rfl 4 (by decide) (v := .int (nI nB)) (congrArg (fun z => some (Value.int z)) hB) (by decide +kernel) dX0_bollardsHold_4 ?_
      refine lv_icmp_ge (tgt := 34) hx hb dX0_bollardsHold_7 (by decide) (fun c7 => ?_) (fun c7 => ?_)
      · exact absurd c7 (nI_ge (by omega) (by omega))
      · refine lv_aload_n hx hb dX0_bollardsHold_10 rfl (lv_at hl 1 rfl) ?_
        refine lv_iload_n hx hb dX0_bollardsHold_11 rfl (lv_at hl 0 rfl) ?_
        refine lv_iload_n hx hb dX0_bollardsHold_12 rfl (lv_at hl 2 rfl) ?_
        refine lv_iload_n hx hb dX0_bollardsHold_13 rfl (lv_at hl 3 rfl) ?_
        refine ro_callV 3 hx hb hml hown hts hl.1 hP hK 0 0 rfl rfl (As := [.int (nI k), .int (nI t), .int s9]) (rest := []) (c_X0_bollardTension l D cI cZ h a σ H hI (nI k) t ht48 s9 hs9) gX0_bollardsHold_X0_bollardTension rfl rfl rfl (by decide +kernel) ⟨Nat.le_of_ble_eq_true rfl, Nat.le_of_ble_eq_true rfl⟩ rfl rfl (Nat.le_of_ble_eq_true rfl) dX0_bollardsHold_14 ⟨Nat.zero_le _, Nat.zero_le _⟩ (fun r1 hr1 => ?_)
        subst hr1
        refine lv_aload_n hx hb dX0_bollardsHold_17 rfl (lv_at hl 1 rfl) ?_
        refine x_get hin hx hb hts hown hK hP rfl 6 (by decide) (v := .ref (a 6)) rfl (by decide +kernel) dX0_bollardsHold_18 ?_
        refine lv_iload_n hx hb dX0_bollardsHold_21 rfl (lv_at hl 0 rfl) ?_
        refine xa_ld hx hb hK hP 5 0 rfl rfl (j := k) (by omega) (by decide) dX0_bollardsHold_22 ?_
        refine lv_icmp_le (tgt := 28) hx hb dX0_bollardsHold_23 (by decide) (fun c23 => ?_) (fun c23 => ?_)
        · refine lv_iinc (v := (nI (k + 1))) (lv' := [(3, .int (nI (k + 1))), (0, .ref h), (1, .int (nI t)), (2, .int s9)]) hx hb dX0_bollardsHold_28 hl (k := 0) rfl (by exact nI_add _ 1) (by decide) rfl (fun ls hl => ?_)
          refine lv_goto (tgt := 2) hx hb dX0_bollardsHold_31 (by decide) ?_
          exact ih (k + 1) ls (by omega) (by show (allB (fun k => decide (sumOn_ σ (nI k) t s9 ≤ σ 6 k)) k && decide (sumOn_ σ (nI k) t s9 ≤ σ 6 k)) = true; rw [hp, decide_eq_true c23]; rfl) (lv_sub hl [0, 1, 2, 3] rfl)
        · refine lv_iconst (v := 0) hx hb dX0_bollardsHold_26 (by decide) ?_
          exact ro_zret (v := 0) hx hb hr hlocks hH ⟨false, rfl⟩ (by show _ = bI (blH σ t s9); unfold blH; rw [inv_nB hI, allB_false (j := k) (decide_eq_false c23) nB (by omega)]; rfl) dX0_bollardsHold_27
set_option maxHeartbeats 4000000 in
set_option maxRecDepth 100000 in
/-- holdsIn -/
theorem c_X0_holdsIn (l : Launch) (D : va_G) (cI cZ : ClassId) (h : Nat) (a : Nat → Nat) (σ : St) (H : Heap) {nL nB : Nat} (hI : inv σ nL nB) (t : Nat) (ht48 : t < 48) : roM l yX0_holdsIn wsX0_holdsIn ({ frames := 5, cells := 0, slots := 0, locals := 118 }) [.ref h, .int (nI t)] D (xw cI cZ h a σ) (tyX cI cZ) H (fun r => r = bI (safe_ σ t)) := by
  refine ro_of (cc := cX0_holdsIn) (maxL := 3) (ret := some .boolean) (by decide) rfl (Nat.le_of_ble_eq_true rfl) ?_
  intro p e s m args below meth c he hH hP hK ls hl
  obtain ⟨hx, hb, hr, hml, hown, hts, hlocks⟩ := he
  have hown : s.vm.findClass RX0 = some m.cls := hown
  have hl : lv_has ls 3 [(0, .ref h), (1, .int (nI t))] := hl
  refine lv_aload_n hx hb dX0_holdsIn_0 rfl (lv_at hl 0 rfl) ?_
  refine lv_iload_n hx hb dX0_holdsIn_1 rfl (lv_at hl 1 rfl) ?_
  refine ro_callV 1 hx hb hml hown hts hl.1 hP hK 0 0 rfl rfl (As := [.int (nI t)]) (rest := []) (c_X0_balanceOf l D cI cZ h a σ H hI t ht48) gX0_holdsIn_X0_balanceOf rfl rfl rfl (by decide +kernel) ⟨Nat.le_of_ble_eq_true rfl, Nat.le_of_ble_eq_true rfl⟩ rfl rfl (Nat.le_of_ble_eq_true rfl) dX0_holdsIn_2 ⟨Nat.zero_le _, Nat.zero_le _⟩ (fun r1 hr1 => ?_)
  subst hr1
  refine lv_istore_n (lv' := [(2, .int (bal σ t)), (0, .ref h), (1, .int (nI t))]) hx hb dX0_holdsIn_5 rfl hl (by decide) rfl (fun ls hl => ?_)
  refine lv_aload_n hx hb dX0_holdsIn_6 rfl (lv_at hl 1 rfl) ?_
  refine lv_iload_n hx hb dX0_holdsIn_7 rfl (lv_at hl 2 rfl) ?_
  refine lv_iload_n hx hb dX0_holdsIn_8 rfl (lv_at hl 0 rfl) ?_
  refine ro_callV 2 hx hb hml hown hts hl.1 hP hK 0 0 rfl rfl (As := [.int (nI t), .int (bal σ t)]) (rest := []) (c_X0_driftsWith l D cI cZ h a σ H hI t ht48 (bal σ t) (bal_inS σ t)) gX0_holdsIn_X0_driftsWith rfl rfl rfl (by decide +kernel) ⟨Nat.le_of_ble_eq_true rfl, Nat.le_of_ble_eq_true rfl⟩ rfl rfl (Nat.le_of_ble_eq_true rfl) dX0_holdsIn_9 ⟨Nat.zero_le _, Nat.zero_le _⟩ (fun r2 hr2 => ?_)
  subst hr2
  refine lv_if_ne (tgt := 37) hx hb dX0_holdsIn_12 (by decide) (fun c12 => ?_) (fun c12 => ?_)
  · refine lv_iconst (v := 0) hx hb dX0_holdsIn_37 (by decide) ?_
    exact ro_zret (v := 0) hx hb hr hlocks hH ⟨false, rfl⟩ (by show _ = bI (safe_ σ t); unfold safe_ safeW; rw [bI_t c12]; rfl) dX0_holdsIn_38
  · refine lv_aload_n hx hb dX0_holdsIn_15 rfl (lv_at hl 1 rfl) ?_
    refine lv_iload_n hx hb dX0_holdsIn_16 rfl (lv_at hl 2 rfl) ?_
    refine lv_iload_n hx hb dX0_holdsIn_17 rfl (lv_at hl 0 rfl) ?_
    refine ro_callV 2 hx hb hml hown hts hl.1 hP hK 0 0 rfl rfl (As := [.int (nI t), .int (bal σ t)]) (rest := []) (c_X0_linesHold l D cI cZ h a σ H hI t ht48 (bal σ t) (bal_inS σ t)) gX0_holdsIn_X0_linesHold rfl rfl rfl (by decide +kernel) ⟨Nat.le_of_ble_eq_true rfl, Nat.le_of_ble_eq_true rfl⟩ rfl rfl (Nat.le_of_ble_eq_true rfl) dX0_holdsIn_18 ⟨Nat.zero_le _, Nat.zero_le _⟩ (fun r3 hr3 => ?_)
    subst hr3
    refine lv_if_eq (tgt := 37) hx hb dX0_holdsIn_21 (by decide) (fun c21 => ?_) (fun c21 => ?_)
    · refine lv_iconst (v := 0) hx hb dX0_holdsIn_37 (by decide) ?_
      exact ro_zret (v := 0) hx hb hr hlocks hH ⟨false, rfl⟩ (by show _ = bI (safe_ σ t); unfold safe_ safeW; rw [bI_f c12, bI_f c21]; rfl) dX0_holdsIn_38
    · refine lv_aload_n hx hb dX0_holdsIn_24 rfl (lv_at hl 1 rfl) ?_
      refine lv_iload_n hx hb dX0_holdsIn_25 rfl (lv_at hl 2 rfl) ?_
      refine lv_iload_n hx hb dX0_holdsIn_26 rfl (lv_at hl 0 rfl) ?_
      refine ro_callV 2 hx hb hml hown hts hl.1 hP hK 0 0 rfl rfl (As := [.int (nI t), .int (bal σ t)]) (rest := []) (c_X0_bollardsHold l D cI cZ h a σ H hI t ht48 (bal σ t) (bal_inS σ t)) gX0_holdsIn_X0_bollardsHold rfl rfl rfl (by decide +kernel) ⟨Nat.le_of_ble_eq_true rfl, Nat.le_of_ble_eq_true rfl⟩ rfl rfl (Nat.le_of_ble_eq_true rfl) dX0_holdsIn_27 ⟨Nat.zero_le _, Nat.zero_le _⟩ (fun r4 hr4 => ?_)
      subst hr4
      refine lv_if_eq (tgt := 37) hx hb dX0_holdsIn_30 (by decide) (fun c30 => ?_) (fun c30 => ?_)
      · refine lv_iconst (v := 0) hx hb dX0_holdsIn_37 (by decide) ?_
        exact ro_zret (v := 0) hx hb hr hlocks hH ⟨false, rfl⟩ (by show _ = bI (safe_ σ t); unfold safe_ safeW; rw [bI_f c12, bI_t c21, bI_f c30]; rfl) dX0_holdsIn_38
      · refine lv_iconst (v := 1) hx hb dX0_holdsIn_33 (by decide) ?_
        refine lv_goto (tgt := 38) hx hb dX0_holdsIn_34 (by decide) ?_
        exact ro_zret (v := 1) hx hb hr hlocks hH ⟨true, rfl⟩ (by show _ = bI (safe_ σ t); unfold safe_ safeW; rw [bI_f c12, bI_t c21, bI_t c30]; rfl) dX0_holdsIn_38
end
section
/-! MoorWatch: tendFastLines; what the checks ask. -/
def inR (v lo hi : Int32) : Bool := decide (lo ≤ v) && decide (v ≤ hi)
theorem inR_f1 {v lo hi : Int32} (h : v < lo) : inR v lo hi = false := by unfold inR; rw [decide_eq_false (Int32.not_le.mpr h)]; rfl
theorem inR_f2 {v lo hi : Int32} (h : hi < v) : inR v lo hi = false := by unfold inR; rw [decide_eq_false (Int32.not_le.mpr h)]; exact Bool.and_false _
theorem inR_t {v lo hi : Int32} (h1 : ¬ v < lo) (h2 : ¬ hi < v) : inR v lo hi = true := by unfold inR; rw [decide_eq_true (Int32.not_lt.mp h1), decide_eq_true (Int32.not_lt.mp h2)]; rfl
/-- which answer goes() keeps: 0 none thrown, 1 to 3 the first that does not hold -/
def goK (b1 b2 b3 : Bool) : Int32 := if b1 then (if b2 then (if b3 then 0 else 3) else 2) else 1
/-! What writes inside: tending; the reference's goes() and its holds(). -/
theorem va_D_ad {A : Nat → Prop} {W W' : va_W} (h : W.map (fun q => q.1) = W'.map (fun q => q.1)) (hD : va_D A W) : va_D A W' := by
  have key : ∀ (i : Nat) (p : Nat × va_E), W'[i]? = some p → ∃ q, W[i]? = some q ∧ q.1 = p.1 := by
    intro i p hp
    have e := congrArg (fun L => L[i]?) h
    simp only [List.getElem?_map, hp, Option.map_some] at e
    cases hw : W[i]? with
    | none => rw [hw] at e; cases e
    | some q => rw [hw] at e; exact ⟨q, rfl, Option.some.inj e⟩
  refine ⟨fun i j p q hp hq e => ?_, fun k q hk => ?_⟩
  · obtain ⟨p', h1, e1⟩ := key i p hp
    obtain ⟨q', h2, e2⟩ := key j q hq
    exact hD.1 i j p' q' h1 h2 (by rw [e1, e2, e])
  · obtain ⟨q', h1, e1⟩ := key k q hk
    rw [← e1]
    exact hD.2 k q' h1
theorem xD {A : Nat → Prop} {cI cZ : ClassId} {h : Nat} {a : Nat → Nat} {σ σ' : St} (hD : va_D A (xw cI cZ h a σ)) : va_D A (xw cI cZ h a σ') := va_D_ad (W := xw cI cZ h a σ) (W' := xw cI cZ h a σ') rfl hD
theorem inv_st12 {σ : St} {nL nB : Nat} {f : Nat → Int32} (h : inv σ nL nB) (hf : ∀ j, j < nL → 0 ≤ (f j).toInt ∧ (f j).toInt ≤ 20000) : inv (st σ 12 f) nL nB := by
  obtain ⟨h1, h2, h3, h4, h5, h6, h7⟩ := h
  refine ⟨h1, h2, h3, h4, h5, h6, fun j hj => ?_⟩
  obtain ⟨a1, a2, a3, a4, a5, a6⟩ := h7 j hj
  exact ⟨a1, a2, a3, a4, hf j hj, a6⟩
theorem td_in {σ : St} {nL nB : Nat} (h : inv σ nL nB) {t : Nat} (ht48 : t < 48) {s : Int32} (hs : inS s) (n : Nat) : ∀ j, j < nL → 0 ≤ (tdS σ t s n j).toInt ∧ (tdS σ t s n j).toInt ≤ 20000 := by
  intro j hj
  obtain ⟨-, -, -, -, ⟨z1, z2⟩, -⟩ := h.2.2.2.2.2.2 j hj
  rcases Nat.lt_or_ge j n with q | q
  · rw [tdS_lo n j q]
    by_cases w : σ 13 j = 0
    · rw [if_pos w]; exact ⟨z1, z2⟩
    · rw [if_neg w]
      obtain ⟨k, ek, hk⟩ := inv_len h hj ht48 hs
      rw [ek, nI_ti (by omega)]
      omega
  · rw [tdS_hi n j q]; exact ⟨z1, z2⟩
theorem inv_td {σ : St} {nL nB : Nat} (h : inv σ nL nB) {t : Nat} (ht48 : t < 48) {s : Int32} (hs : inS s) (n : Nat) : inv (st σ 12 (tdS σ t s n)) nL nB := inv_st12 h (td_in h ht48 hs n)
theorem inv_tnd {σ : St} {nL nB : Nat} (h : inv σ nL nB) {t : Nat} (ht48 : t < 48) : inv (tnd σ t) nL nB := inv_td h ht48 (bal_inS σ t) _
theorem long_le {x y : Int32} (h1 : 0 ≤ x.toInt ∧ x.toInt ≤ 1022400) (h2 : 1 ≤ y.toInt ∧ y.toInt ≤ 1000000) : ((55 : Int64) * y.toInt64 < (100 : Int64) * x.toInt64) ↔ ¬ x * 100 ≤ y * 55 := by
  have e1 : (55 : Int64).toInt = 55 := rfl
  have e2 : (100 : Int64).toInt = 100 := rfl
  have e3 : (55 : Int32).toInt = 55 := rfl
  have e4 : (100 : Int32).toInt = 100 := rfl
  have a1 : ((55 : Int64) * y.toInt64).toInt = 55 * y.toInt := by rw [Jvm.Kit.i64_mul (by rw [e1, Int32.toInt_toInt64]; omega) (by rw [e1, Int32.toInt_toInt64]; omega), e1, Int32.toInt_toInt64]
  have a2 : ((100 : Int64) * x.toInt64).toInt = 100 * x.toInt := by rw [Jvm.Kit.i64_mul (by rw [e2, Int32.toInt_toInt64]; omega) (by rw [e2, Int32.toInt_toInt64]; omega), e2, Int32.toInt_toInt64]
  have a3 : (y * 55).toInt = y.toInt * 55 := by rw [Jvm.Kit.i32_mul (by rw [e3]; omega) (by rw [e3]; omega), e3]
  have a4 : (x * 100).toInt = x.toInt * 100 := by rw [Jvm.Kit.i32_mul (by rw [e4]; omega) (by rw [e4]; omega), e4]
  rw [Int64.lt_iff_toInt_lt, i_le, a1, a2, a3, a4]
  omega
set_option maxHeartbeats 4000000 in
set_option maxRecDepth 100000 in
/-- tendFastLines -/
theorem c_X0_tendFastLines (l : Launch) (D : va_G) (cI cZ : ClassId) (h : Nat) (a : Nat → Nat) (σ : St) (Hi : Heap) (A : Nat → Prop) (hD : va_D A (xw cI cZ h a σ)) {nL nB : Nat} (hI : inv σ nL nB) (t : Nat) (ht48 : t < 48) : wrM l yX0_tendFastLines wsX0_tendFastLines ({ frames := 5, cells := 0, slots := 0, locals := 118 }) [.ref h, .int (nI t)] D (xw cI cZ h a σ) (tyX cI cZ) Hi (S := Unit) (fun _ => xw cI cZ h a (tnd σ t)) (fun r _ => r = tdC σ t (bal σ t) nL) A := by
  refine wr_of (cc := cX0_tendFastLines) (maxL := 6) (ret := some .int) (by decide) rfl (Nat.le_of_ble_eq_true rfl) ?_
  intro p e s m args below meth c he hH hP hK ls hl
  obtain ⟨hx, hb, hr, hml, hown, hts, hlocks⟩ := he
  have hown : s.vm.findClass RX0 = some m.cls := hown
  have hS : va_S A Hi Hi [] := va_S.rf
  have hL : σ 7 0 = nI nL := hI.1
  have hL10 : nL ≤ 10 := hI.2.1
  have hl : lv_has ls 6 [(0, .ref h), (1, .int (nI t))] := hl
  have hin : ∀ w ∈ u_ws RX0 TX0 15, w ∈ wsX0_tendFastLines := by decide +kernel
  have hs9 := bal_inS σ t
  refine lv_aload_n hx hb dX0_tendFastLines_0 rfl (lv_at hl 0 rfl) ?_
  refine lv_iload_n hx hb dX0_tendFastLines_1 rfl (lv_at hl 1 rfl) ?_
  refine ro_callV 1 hx hb hml hown hts hl.1 hP hK 0 0 rfl rfl (As := [.int (nI t)]) (rest := []) (c_X0_balanceOf l D cI cZ h a σ Hi hI t ht48) gX0_tendFastLines_X0_balanceOf rfl rfl rfl (by decide +kernel) ⟨Nat.le_of_ble_eq_true rfl, Nat.le_of_ble_eq_true rfl⟩ rfl rfl (Nat.le_of_ble_eq_true rfl) dX0_tendFastLines_2 ⟨Nat.zero_le _, Nat.zero_le _⟩ (fun r1 hr1 => ?_)
  subst hr1
  refine lv_istore_n (lv' := [(2, .int (bal σ t)), (0, .ref h), (1, .int (nI t))]) hx hb dX0_tendFastLines_5 rfl hl (by decide) rfl (fun ls hl => ?_)
  refine lv_iconst (v := 0) hx hb dX0_tendFastLines_6 (by decide) ?_
  refine lv_istore_n (lv' := [(3, .int 0), (2, .int (bal σ t)), (0, .ref h), (1, .int (nI t))]) hx hb dX0_tendFastLines_7 rfl hl (by decide) rfl (fun ls hl => ?_)
  refine lv_iconst (v := 0) hx hb dX0_tendFastLines_8 (by decide) ?_
  refine lv_istore (lv' := [(4, .int 0), (3, .int 0), (2, .int (bal σ t)), (0, .ref h), (1, .int (nI t))]) hx hb dX0_tendFastLines_9 hl (by decide) rfl (fun ls hl => ?_)
  suffices K : ∀ (n k : Nat) (H : Heap) (locs : List Loc) (ls : Array Slot), k + n = nL → va_P D vwCl (xw cI cZ h a (st σ 12 (tdS σ t (bal σ t) k))) H → va_S A Hi H locs → lv_has ls 6 [(4, .int (nI k)), (3, .int (tdC σ t (bal σ t) k)), (2, .int (bal σ t)), (0, .ref h), (1, .int (nI t))] → W p l e _ s m args below meth c H locs 0 0 (wrQ below D (fun _ : Unit => xw cI cZ h a (tnd σ t)) (fun r _ => r = tdC σ t (bal σ t) nL) A args s) (F0 m 11 ls []) by
    exact K nL 0 Hi [] ls (by omega) hP hS (lv_sub hl [0, 1, 2, 3, 4] rfl)
  intro n
  induction n with
  | zero =>
      intro k H locs ls hk hP hS hl
      refine lv_iload hx hb dX0_tendFastLines_11 (lv_at hl 0 rfl) ?_
      refine lv_aload_n hx hb dX0_tendFastLines_13 rfl (lv_at hl 3 rfl) ?_
      refine x_get hin hx hb hts hown hK hP rfl 7 (by decide) (v := .int (nI nL)) (congrArg (fun z => some (Value.int z)) hL) (by decide +kernel) dX0_tendFastLines_14 ?_
      refine lv_icmp_ge (tgt := 80) hx hb dX0_tendFastLines_17 (by decide) (fun c17 => ?_) (fun c17 => ?_)
      · refine lv_iload_n hx hb dX0_tendFastLines_80 rfl (lv_at hl 1 rfl) ?_
        rw [show k = nL by omega] at hP ⊢
        exact wr_ret (v := tdC σ t (bal σ t) nL) () hx hb hr hlocks hH hS (by show va_P D vwCl (xw cI cZ h a (tnd σ t)) H; unfold tnd; rw [inv_nL hI]; exact hP) rfl dX0_tendFastLines_81
      · exact absurd (nI_le (by omega) (by omega)) c17
  | succ n ih =>
      intro k H locs ls hk hP hS hl
      have hk1 : k < nL := by omega
      refine lv_iload hx hb dX0_tendFastLines_11 (lv_at hl 0 rfl) ?_
      refine lv_aload_n hx hb dX0_tendFastLines_13 rfl (lv_at hl 3 rfl) ?_
      refine x_get hin hx hb hts hown hK hP rfl 7 (by decide) (v := .int (nI nL)) (congrArg (fun z => some (Value.int z)) hL) (by decide +kernel) dX0_tendFastLines_14 ?_
      refine lv_icmp_ge (tgt := 80) hx hb dX0_tendFastLines_17 (by decide) (fun c17 => ?_) (fun c17 => ?_)
      · exact absurd c17 (nI_ge (by omega) (by omega))
      · refine lv_aload_n hx hb dX0_tendFastLines_20 rfl (lv_at hl 3 rfl) ?_
        refine x_get hin hx hb hts hown hK hP rfl 13 (by decide) (v := .ref (a 13)) rfl (by decide +kernel) dX0_tendFastLines_21 ?_
        refine lv_iload hx hb dX0_tendFastLines_24 (lv_at hl 0 rfl) ?_
        refine xa_zld hx hb hK hP 11 1 rfl rfl (j := k) (by omega) (by decide) dX0_tendFastLines_26 ?_
        rw [show (st σ 12 (tdS σ t (bal σ t) k)) 13 k = (σ 13 k) from rfl]
        refine lv_if_eq (tgt := 74) hx hb dX0_tendFastLines_27 (by decide) (fun c27 => ?_) (fun c27 => ?_)
        · refine lv_iinc (v := (nI (k + 1))) (lv' := [(4, .int (nI (k + 1))), (3, .int (tdC σ t (bal σ t) k)), (2, .int (bal σ t)), (0, .ref h), (1, .int (nI t))]) hx hb dX0_tendFastLines_74 hl (k := 0) rfl (by exact nI_add _ 1) (by decide) rfl (fun ls hl => ?_)
          refine lv_goto (tgt := 11) hx hb dX0_tendFastLines_77 (by decide) ?_
          refine ih (k + 1) H locs ls (by omega) ?_ hS (lv_sub hl [0, 1, 2, 3, 4] ?_)
          · have e9 : tdS σ t (bal σ t) (k + 1) = tdS σ t (bal σ t) k := by show (if σ 13 k = 0 then _ else _) = _; rw [if_pos c27]
            rw [e9]; exact hP
          · have e8 : tdC σ t (bal σ t) (k + 1) = tdC σ t (bal σ t) k + 0 := by show acc _ 0 k + (if σ 13 k = 0 then 0 else _) = _; rw [if_pos c27]; rfl
            rw [e8, Int32.add_zero]; rfl
        · have hD : va_D A (xw cI cZ h a (st σ 12 (tdS σ t (bal σ t) k))) := xD hD
          refine lv_aload_n hx hb dX0_tendFastLines_30 rfl (lv_at hl 3 rfl) ?_
          refine x_get hin hx hb hts hown hK hP rfl 12 (by decide) (v := .ref (a 12)) rfl (by decide +kernel) dX0_tendFastLines_31 ?_
          refine lv_iload hx hb dX0_tendFastLines_34 (lv_at hl 0 rfl) ?_
          refine xa_ld hx hb hK hP 10 0 rfl rfl (j := k) (by omega) (by decide) dX0_tendFastLines_36 ?_
          rw [show (st σ 12 (tdS σ t (bal σ t) k)) 12 k = (σ 12 k) from tdS_hi k k (Nat.le_refl _)]
          refine lv_istore (lv' := [(5, .int (σ 12 k)), (4, .int (nI k)), (3, .int (tdC σ t (bal σ t) k)), (2, .int (bal σ t)), (0, .ref h), (1, .int (nI t))]) hx hb dX0_tendFastLines_37 hl (by decide) rfl (fun ls hl => ?_)
          refine lv_aload_n hx hb dX0_tendFastLines_39 rfl (lv_at hl 4 rfl) ?_
          refine x_get hin hx hb hts hown hK hP rfl 12 (by decide) (v := .ref (a 12)) rfl (by decide +kernel) dX0_tendFastLines_40 ?_
          refine lv_iload hx hb dX0_tendFastLines_43 (lv_at hl 1 rfl) ?_
          refine lv_aload_n hx hb dX0_tendFastLines_45 rfl (lv_at hl 4 rfl) ?_
          refine lv_iload hx hb dX0_tendFastLines_46 (lv_at hl 1 rfl) ?_
          refine lv_iload_n hx hb dX0_tendFastLines_48 rfl (lv_at hl 5 rfl) ?_
          refine lv_iload_n hx hb dX0_tendFastLines_49 rfl (lv_at hl 3 rfl) ?_
          refine ro_callV 3 hx hb hml hown hts hl.1 hP hK 0 0 rfl rfl (As := [.int (nI k), .int (nI t), .int (bal σ t)]) (rest := [.int (nI k), .ref (a 12)]) (c_X0_lengthWith l D cI cZ h a (st σ 12 (tdS σ t (bal σ t) k)) H (inv_td hI ht48 hs9 k) k t hk1 ht48 (bal σ t) hs9) gX0_tendFastLines_X0_lengthWith rfl rfl rfl (by decide +kernel) ⟨Nat.le_of_ble_eq_true rfl, Nat.le_of_ble_eq_true rfl⟩ rfl rfl (Nat.le_of_ble_eq_true rfl) dX0_tendFastLines_50 ⟨Nat.zero_le _, Nat.zero_le _⟩ (fun r2 hr2 => ?_)
          subst hr2
          refine xa_st hx hb hK hP hD hS 10 0 rfl rfl (j := k) (by omega) (by decide) dX0_tendFastLines_53 (fun H locs hP hD hS => ?_)
          have hP : va_P D vwCl (xw cI cZ h a (st (st σ 12 (tdS σ t (bal σ t) k)) 12 (upd ((st σ 12 (tdS σ t (bal σ t) k)) 12) k (len_ σ k t (bal σ t))))) H := hP
          have hD : va_D A (xw cI cZ h a (st (st σ 12 (tdS σ t (bal σ t) k)) 12 (upd ((st σ 12 (tdS σ t (bal σ t) k)) 12) k (len_ σ k t (bal σ t))))) := hD
          have e9 : tdS σ t (bal σ t) (k + 1) = upd (tdS σ t (bal σ t) k) k (len_ σ k t (bal σ t)) := by show (if σ 13 k = 0 then _ else _) = _; rw [if_neg c27]
          have hP : va_P D vwCl (xw cI cZ h a (st σ 12 (tdS σ t (bal σ t) (k + 1)))) H := by rw [e9]; exact hP
          have e8 : tdC σ t (bal σ t) (k + 1) = tdC σ t (bal σ t) k + (if len_ σ k t (bal σ t) = σ 12 k then 0 else 1) := by show acc _ 0 k + (if σ 13 k = 0 then 0 else _) = _; rw [if_neg c27]; rfl
          refine lv_iload_n hx hb dX0_tendFastLines_54 rfl (lv_at hl 2 rfl) ?_
          refine lv_aload_n hx hb dX0_tendFastLines_55 rfl (lv_at hl 4 rfl) ?_
          refine x_get hin hx hb hts hown hK hP rfl 12 (by decide) (v := .ref (a 12)) rfl (by decide +kernel) dX0_tendFastLines_56 ?_
          refine lv_iload hx hb dX0_tendFastLines_59 (lv_at hl 1 rfl) ?_
          refine xa_ld hx hb hK hP 10 0 rfl rfl (j := k) (by omega) (by decide) dX0_tendFastLines_61 ?_
          rw [show (st σ 12 (tdS σ t (bal σ t) (k + 1))) 12 k = (len_ σ k t (bal σ t)) from by show tdS σ t (bal σ t) (k + 1) k = _; rw [e9]; show (if k = k then _ else _) = _; rw [if_pos rfl]]
          refine lv_iload hx hb dX0_tendFastLines_62 (lv_at hl 0 rfl) ?_
          refine lv_icmp_ne (tgt := 71) hx hb dX0_tendFastLines_64 (by decide) (fun c64 => ?_) (fun c64 => ?_)
          · refine lv_iconst (v := 1) hx hb dX0_tendFastLines_71 (by decide) ?_
            rw [show (1 : Int32) = (if len_ σ k t (bal σ t) = σ 12 k then 0 else 1) by rw [if_neg c64]]
            refine lv_iadd hx hb dX0_tendFastLines_72 ?_
            refine lv_istore_n (lv' := [(3, .int ((tdC σ t (bal σ t) k) + (if len_ σ k t (bal σ t) = σ 12 k then 0 else 1))), (5, .int (σ 12 k)), (4, .int (nI k)), (2, .int (bal σ t)), (0, .ref h), (1, .int (nI t))]) hx hb dX0_tendFastLines_73 rfl hl (by decide) rfl (fun ls hl => ?_)
            refine lv_iinc (v := (nI (k + 1))) (lv' := [(4, .int (nI (k + 1))), (3, .int ((tdC σ t (bal σ t) k) + (if len_ σ k t (bal σ t) = σ 12 k then 0 else 1))), (5, .int (σ 12 k)), (2, .int (bal σ t)), (0, .ref h), (1, .int (nI t))]) hx hb dX0_tendFastLines_74 hl (k := 2) rfl (by exact nI_add _ 1) (by decide) rfl (fun ls hl => ?_)
            refine lv_goto (tgt := 11) hx hb dX0_tendFastLines_77 (by decide) ?_
            exact ih (k + 1) H locs ls (by omega) hP hS (lv_sub hl [0, 1, 3, 4, 5] (by rw [e8]; rfl))
          · refine lv_iconst (v := 0) hx hb dX0_tendFastLines_67 (by decide) ?_
            refine lv_goto (tgt := 72) hx hb dX0_tendFastLines_68 (by decide) ?_
            rw [show (0 : Int32) = (if len_ σ k t (bal σ t) = σ 12 k then 0 else 1) by rw [if_pos c64]]
            refine lv_iadd hx hb dX0_tendFastLines_72 ?_
            refine lv_istore_n (lv' := [(3, .int ((tdC σ t (bal σ t) k) + (if len_ σ k t (bal σ t) = σ 12 k then 0 else 1))), (5, .int (σ 12 k)), (4, .int (nI k)), (2, .int (bal σ t)), (0, .ref h), (1, .int (nI t))]) hx hb dX0_tendFastLines_73 rfl hl (by decide) rfl (fun ls hl => ?_)
            refine lv_iinc (v := (nI (k + 1))) (lv' := [(4, .int (nI (k + 1))), (3, .int ((tdC σ t (bal σ t) k) + (if len_ σ k t (bal σ t) = σ 12 k then 0 else 1))), (5, .int (σ 12 k)), (2, .int (bal σ t)), (0, .ref h), (1, .int (nI t))]) hx hb dX0_tendFastLines_74 hl (k := 2) rfl (by exact nI_add _ 1) (by decide) rfl (fun ls hl => ?_)
            refine lv_goto (tgt := 11) hx hb dX0_tendFastLines_77 (by decide) ?_
            exact ih (k + 1) H locs ls (by omega) hP hS (lv_sub hl [0, 1, 3, 4, 5] (by rw [e8]; rfl))
end
section
/-! What throws: the four checks; calls of them; and a plan's way through its hours. -/
def xB1 : List Cond := [.declares (Bundle.initS "java/lang/Throwable"), .declares (Bundle.initS "java/lang/Exception"), .declares (Bundle.initS "java/lang/RuntimeException"), .castable xE1 xE1]
def xB2 : List Cond := [.declares (Bundle.initS "java/lang/Throwable"), .declares (Bundle.initS "java/lang/Exception"), .declares (Bundle.initS "java/lang/RuntimeException"), .castable xE2 xE2]
def xB3 : List Cond := [.declares (Bundle.initS "java/lang/Throwable"), .declares (Bundle.initS "java/lang/Exception"), .declares (Bundle.initS "java/lang/RuntimeException"), .castable xE3 xE3]
theorem xh1 : ∀ w ∈ (vx_atS RX0 125 xE1 xNs).filter (fun w => !goodWord w), w ∈ xB1 := by decide +kernel
theorem xh2 : ∀ w ∈ (vx_atS RX0 66 xE2 xNs).filter (fun w => !goodWord w), w ∈ xB2 := by decide +kernel
theorem xh3 : ∀ w ∈ (vx_atS RX0 139 xE3 xNs).filter (fun w => !goodWord w), w ∈ xB3 := by decide +kernel
theorem xg1 : ∀ w ∈ Cond.classLink RX0 121 xE1 :: Cond.initialized xE1 :: vx_atS RX0 125 xE1 xNs, vx_ot w = true := by decide +kernel
theorem xg2 : ∀ w ∈ Cond.classLink RX0 62 xE2 :: Cond.initialized xE2 :: vx_atS RX0 66 xE2 xNs, vx_ot w = true := by decide +kernel
theorem xg3 : ∀ w ∈ Cond.classLink RX0 135 xE3 :: Cond.initialized xE3 :: vx_atS RX0 139 xE3 xNs, vx_ot w = true := by decide +kernel
theorem xfN : ∀ n ∈ xNs, Bundle.fit n = true := by decide +kernel
theorem xb1 {s : State} {args : Array Value} (h : tpW s) : ∀ w ∈ xB1, w.before args s = true := by
  obtain ⟨-, -, ⟨c1, c2, c3⟩, ⟨d1, d2, d3⟩, -⟩ := h
  exact vx_c (d1.use rfl) (vx_c (d2.use rfl) (vx_c (d3.use rfl) (vx_c (c1.use rfl) vx_n)))
theorem xb2 {s : State} {args : Array Value} (h : tpW s) : ∀ w ∈ xB2, w.before args s = true := by
  obtain ⟨-, -, ⟨c1, c2, c3⟩, ⟨d1, d2, d3⟩, -⟩ := h
  exact vx_c (d1.use rfl) (vx_c (d2.use rfl) (vx_c (d3.use rfl) (vx_c (c2.use rfl) vx_n)))
theorem xb3 {s : State} {args : Array Value} (h : tpW s) : ∀ w ∈ xB3, w.before args s = true := by
  obtain ⟨-, -, ⟨c1, c2, c3⟩, ⟨d1, d2, d3⟩, -⟩ := h
  exact vx_c (d1.use rfl) (vx_c (d2.use rfl) (vx_c (d3.use rfl) (vx_c (c3.use rfl) vx_n)))
section
variable {p : Program} {l : Launch} {e : Env} {R : Room} {s : State} {m : MethodId} {args : Array Value} {below : List Frame} {meth : Method} {c : Code} {H : Heap}
variable {y : MethodName} {bytes cc : ByteArray} {maxL nL index : Nat} {ret : Option FieldType} {ws ws' : List Cond} {rm : Room} {Ts : List Cond} {own : String} {b : Addr} {As rest st0 : List Value} {pc : Nat} {ls : Array Slot} {D : va_G} {W0 : va_W} {tys : List (ClassId × FieldType)} {A : Nat → Prop}
theorem thr_go {cls text : String} {ik is ic sa : Nat} {B : List Cond} {Qc : Array Value → State → Outcome → State → Prop} {XC : String → State → State → Prop} {free : Addr → Prop} (hfl : l.stackTraces = false) (hx : p.tables.exec = Jvm.exec) (hb : c.code = cc) (hown : s.vm.findClass RX0 = some m.cls) (hlocks : meth.locks = false) (hout : ∀ x ∈ c.exceptionTable.toList, False) (hsize : ls.size = c.maxLocals) (hH : s.heap = H)
    (hfit : Bundle.fit cls = true) (hk : (Cond.classLink RX0 ik cls).before args s = true) (hini : (Cond.initialized cls).before args s = true) (hstr : vk_R RX0 is text sa s) (h1 : ∀ w ∈ (vx_atS RX0 ic cls xNs).filter goodWord, w.before args s = true) (h2 : ∀ w ∈ (vx_atS RX0 ic cls xNs).filter (fun w => !goodWord w), w ∈ B) (h3 : ∀ w ∈ B, w.before args s = true)
    (hg : ∀ w ∈ Cond.classLink RX0 ik cls :: Cond.initialized cls :: vx_atS RX0 ic cls xNs, vx_ot w = true) (hT : tpS A H s) (d0 : decode cc pc = .ok (.new ik, 3)) (d3 : decode cc (pc + 3) = .ok (.dup, 1)) (d4 : decode cc (pc + 4) = .ok (.ldc is, 2)) (d6 : decode cc (pc + 6) = .ok (.invokespecial ic, 3)) (d9 : decode cc (pc + 9) = .ok (.athrow, 1))
    (hRf : 5 < R.frames) (hRl : (rest.map fun v => v.category).sum + 82 ≤ R.locals) (hRc : 0 + 1 ≤ R.cells) (hRs : 0 + 6 ≤ R.slots) (hxc : ∀ t : State, grew H t.heap → XC cls s t) : W p l e R s m args below meth c H [] 0 0 (vx_MQ below Qc XC args s 1 6 free) (F0 m pc ls rest) := by
  subst hH
  exact vx_throwS (A := A) (names := xNs) hx hb hfl hown hfit xfN hk hini hstr (vx_hat h1 h2 h3) hg hT.1 hT.2 va_S.rf hsize d0 d3 d4 d6 d9 (fun x hx => (hout x hx).elim) hRf hRl hRc hRs hlocks (fun t _ h5 h6 => hxc t ⟨h5, h6⟩) (fun _ h => nomatch h) (Nat.le_refl _) (Nat.le_refl _)
theorem ck_callS {S : Type} {Wf : S → va_W} {post : Int32 → S → Prop} {XP : String → Prop} {A2 : Nat → Prop} {cond : Prop} {E : String} (n : Nat) (hx : p.tables.exec = Jvm.exec) (hb : c.code = cc) (hml : c.maxLocals = nL) (hown : s.vm.findClass own = some m.cls) (hts : ∀ w ∈ Ts, w.before args s = true) (hlocks : meth.locks = false) (hout : ∀ x ∈ c.exceptionTable.toList, False) (hsize : ls.size = nL)
    (hP : va_P D vwCl W0 H) (hK : va_K D vwCl tys s) (hT : tpA A H s) (hM : ckM l y ws rm As D W0 tys H A cond E) (hG : GoodIn Ts (va_wsS own index y ws)) (hw : ws = Cond.code y bytes maxL ret :: ws') (hrc : rm.cells = 1) (hrs : rm.slots = 6)
    (hd : y.cls ≠ "java/lang/invoke/MethodHandle" ∧ y.cls ≠ "java/lang/invoke/VarHandle" ∧ (parseMethodDescriptor y.desc).map (fun d => d.parameters.length) = some n) (hR : rm.frames + 1 ≤ R.frames ∧ 8 + (maxL + 11) + rm.locals ≤ R.locals) (hn : As.length = n) (hst : st0 = As.reverse ++ rest) (hW : (rest.map fun v => v.category).sum ≤ 8)
    (hdg : decode cc pc = .ok (.invokestatic index, 3)) (hf : 0 + 1 ≤ R.cells ∧ 0 + 6 ≤ R.slots) (hfail : ¬ cond → XP E) (kk : cond → W p l e R s m args below meth c H [] 0 0 (thQ below D H A2 Wf post XP args s) (F0 m (pc + 3) ls rest)) : W p l e R s m args below meth c H [] 0 0 (thQ below D H A2 Wf post XP args s) (F0 m pc ls st0) :=
  ck_go hlocks hout (vx_runS ⟨hx, hb, hml, hown, hts⟩ hM (va_cwS n hts hG hw hrc hrs hd hR) ⟨thP_blind, fun U hU hWm => ⟨rfl, hU, hP, va_K.moved hWm.alike hK, tpA_warm hWm hT⟩⟩ rfl hn hsize hst (lv_room hW) hdg hf) hfail kk
theorem ck_callV {S : Type} {Wf : S → va_W} {post : Int32 → S → Prop} {XP : String → Prop} {A2 : Nat → Prop} {cond : Prop} {E : String} (n : Nat) (hx : p.tables.exec = Jvm.exec) (hb : c.code = cc) (hml : c.maxLocals = nL) (hown : s.vm.findClass own = some m.cls) (hts : ∀ w ∈ Ts, w.before args s = true) (hlocks : meth.locks = false) (hout : ∀ x ∈ c.exceptionTable.toList, False) (hsize : ls.size = nL)
    (hP : va_P D vwCl W0 H) (hK : va_K D vwCl tys s) (hT : tpA A H s) (q0 ci : Nat) {q : vw_C} {fs : List Value} (hc : vwCl[ci]? = some q) (he : W0[q0]? = some (b, .inr (ci, fs))) (hM : ckM l y ws rm (.ref b :: As) D W0 tys H A cond E) (hG : GoodIn Ts (wsV own index q.1 y ws)) (hw : ws = Cond.code y bytes maxL ret :: ws') (hrc : rm.cells = 1) (hrs : rm.slots = 6)
    (hd : y.cls = q.1 ∧ y.cls ≠ "java/lang/invoke/MethodHandle" ∧ y.cls ≠ "java/lang/invoke/VarHandle" ∧ (parseMethodDescriptor y.desc).map (fun d => d.parameters.length) = some n) (hR : rm.frames + 1 ≤ R.frames ∧ 8 + (maxL + 11) + rm.locals ≤ R.locals) (hn : As.length = n) (hst : st0 = As.reverse ++ .ref b :: rest) (hW : (rest.map fun v => v.category).sum ≤ 8)
    (hdg : decode cc pc = .ok (.invokevirtual index, 3)) (hf : 0 + 1 ≤ R.cells ∧ 0 + 6 ≤ R.slots) (hfail : ¬ cond → XP E) (kk : cond → W p l e R s m args below meth c H [] 0 0 (thQ below D H A2 Wf post XP args s) (F0 m (pc + 3) ls rest)) : W p l e R s m args below meth c H [] 0 0 (thQ below D H A2 Wf post XP args s) (F0 m pc ls st0) :=
  ck_go hlocks hout (vx_runV ⟨hx, hb, hml, hown, hts⟩ hM (cwV n hts hG hw hrc hrs hd hR) ⟨thP_blind, va_recv hK hP hc he, fun U hU hWm => ⟨rfl, hU, hP, va_K.moved hWm.alike hK, tpA_warm hWm hT⟩⟩ rfl hn hsize hst (lv_room hW) hdg hf) hfail kk
end
theorem inR_nf1 {v lo hi : Int32} (h : v < lo) : ¬ inR v lo hi = true := by rw [inR_f1 h]; decide
theorem inR_nf2 {v lo hi : Int32} (h : hi < v) : ¬ inR v lo hi = true := by rw [inR_f2 h]; decide
theorem inR_sp {v lo hi : Int32} (h : inR v lo hi = true) : lo.toInt ≤ v.toInt ∧ v.toInt ≤ hi.toInt := by
  unfold inR at h
  rw [Bool.and_eq_true] at h
  exact ⟨i_le.mp (of_decide_eq_true h.1), i_le.mp (of_decide_eq_true h.2)⟩
theorem inR_nat {v hi : Int32} {k : Int} (h : inR v 0 hi = true) (hk : hi.toInt = k) : ∃ t : Nat, (t : Int) ≤ k ∧ v = nI t := by
  obtain ⟨h1, h2⟩ := inR_sp h
  have e0 : (0 : Int32).toInt = 0 := rfl
  have h3 := Int32.toInt_lt v
  exact ⟨v.toInt.toNat, by omega, ti_nI (by omega)⟩
theorem inR_hour {v : Int32} (h : inR v 0 47 = true) : ∃ t : Nat, t < 48 ∧ v = nI t := by
  obtain ⟨t, h1, h2⟩ := inR_nat h (k := 47) rfl
  exact ⟨t, by omega, h2⟩
theorem nI_pm {n : Nat} (hn : n < 1000) : (nI n - 1).toInt = (n : Int) - 1 := by
  have e1 : (1 : Int32).toInt = 1 := rfl
  have e2 : (nI n).toInt = n := nI_ti (by omega)
  rw [Jvm.Kit.i32_sub (by omega) (by omega), e1, e2]
theorem inR_line {v : Int32} {n : Nat} (hn : n < 1000) (h : inR v 0 (nI n - 1) = true) : ∃ j : Nat, j < n ∧ v = nI j := by
  obtain ⟨t, h1, h2⟩ := inR_nat h (nI_pm hn)
  exact ⟨t, by omega, h2⟩
theorem hour_in {v : Int32} (h1 : ¬ v < 0) (h2 : v < 48) : inR v 0 47 = true := by
  refine inR_t h1 ?_
  have e1 : (48 : Int32).toInt = 48 := rfl
  have e2 : (47 : Int32).toInt = 47 := rfl
  rw [i_lt] at h2 ⊢
  omega
theorem hour_out {v : Int32} (h2 : ¬ v < 48) : ¬ inR v 0 47 = true := by
  refine inR_nf2 ?_
  have e1 : (48 : Int32).toInt = 48 := rfl
  have e2 : (47 : Int32).toInt = 47 := rfl
  rw [i_lt] at h2 ⊢
  omega
theorem line_in {v : Int32} {n : Nat} (hn : n < 1000) (h1 : ¬ v < 0) (h2 : v < nI n) : inR v 0 (nI n - 1) = true := by
  refine inR_t h1 ?_
  have e1 := nI_pm hn
  have e2 : (nI n).toInt = n := nI_ti (by omega)
  rw [i_lt] at h2 ⊢
  omega
theorem line_out {v : Int32} {n : Nat} (hn : n < 1000) (h2 : ¬ v < nI n) : ¬ inR v 0 (nI n - 1) = true := by
  refine inR_nf2 ?_
  have e1 := nI_pm hn
  have e2 : (nI n).toInt = n := nI_ti (by omega)
  rw [i_lt] at h2 ⊢
  omega
set_option maxHeartbeats 4000000 in
set_option maxRecDepth 100000 in
/-- checkHour -/
theorem c_X0_checkHour (l : Launch) (hfl : l.stackTraces = false) (D : va_G) (W0 : va_W) (tys : List (ClassId × FieldType)) (H : Heap) (A : Nat → Prop) (v : Int32) : ckM l yX0_checkHour wsX0_checkHour ({ frames := 6, cells := 1, slots := 6, locals := 90 }) [.int v] D W0 tys H A (inR v 0 47 = true) xE3 := by
  refine ck_of (cc := cX0_checkHour) (maxL := 1) (ret := none) (by decide) rfl (Nat.le_of_ble_eq_true rfl) ?_
  intro p e s m args below meth c he hout hH hP hK hT ls hl
  obtain ⟨hx, hb, hr, hml, hown, hts, hlocks⟩ := he
  have hown : s.vm.findClass RX0 = some m.cls := hown
  have hl : lv_has ls 1 [(0, .int v)] := hl
  refine lv_iload_n hx hb dX0_checkHour_0 rfl (lv_at hl 0 rfl) ?_
  refine lv_if_lt (tgt := 10) hx hb dX0_checkHour_1 (by decide) (fun c1 => ?_) (fun c1 => ?_)
  · obtain ⟨sa, hsa⟩ := hT.2.2.1.1
    exact thr_go (A := A) (cls := xE3) (ik := 135) (ic := 139) hfl hx hb hown hlocks hout (by rw [hml]; exact hl.1) hH (by decide +kernel) (hts (.classLink RX0 135 xE3) (by decide +kernel)) (hts (.initialized xE3) (by decide +kernel)) hsa (fun w hw => hts w ((show ∀ w ∈ (vx_atS RX0 139 xE3 xNs).filter goodWord, w ∈ wsX0_checkHour by decide +kernel) w hw)) xh3 (xb3 hT.2) xg3 hT.1 dX0_checkHour_10 dX0_checkHour_13 dX0_checkHour_14 dX0_checkHour_16 dX0_checkHour_19 (Nat.le_of_ble_eq_true rfl) (Nat.le_of_ble_eq_true rfl) (Nat.le_of_ble_eq_true rfl) (Nat.le_of_ble_eq_true rfl) (fun t hgr => ⟨⟨rfl, inR_nf1 c1⟩, hgr⟩)
  · refine lv_iload_n hx hb dX0_checkHour_4 rfl (lv_at hl 0 rfl) ?_
    refine lv_bipush (v := 48) hx hb dX0_checkHour_5 (by decide) ?_
    refine lv_icmp_lt (tgt := 20) hx hb dX0_checkHour_7 (by decide) (fun c7 => ?_) (fun c7 => ?_)
    · exact ck_ret hx hb hr hlocks hH (hour_in c1 c7) dX0_checkHour_20
    · obtain ⟨sa, hsa⟩ := hT.2.2.1.1
      exact thr_go (A := A) (cls := xE3) (ik := 135) (ic := 139) hfl hx hb hown hlocks hout (by rw [hml]; exact hl.1) hH (by decide +kernel) (hts (.classLink RX0 135 xE3) (by decide +kernel)) (hts (.initialized xE3) (by decide +kernel)) hsa (fun w hw => hts w ((show ∀ w ∈ (vx_atS RX0 139 xE3 xNs).filter goodWord, w ∈ wsX0_checkHour by decide +kernel) w hw)) xh3 (xb3 hT.2) xg3 hT.1 dX0_checkHour_10 dX0_checkHour_13 dX0_checkHour_14 dX0_checkHour_16 dX0_checkHour_19 (Nat.le_of_ble_eq_true rfl) (Nat.le_of_ble_eq_true rfl) (Nat.le_of_ble_eq_true rfl) (Nat.le_of_ble_eq_true rfl) (fun t hgr => ⟨⟨rfl, hour_out c7⟩, hgr⟩)
set_option maxHeartbeats 4000000 in
set_option maxRecDepth 100000 in
/-- checkRange -/
theorem c_X0_checkRange (l : Launch) (hfl : l.stackTraces = false) (D : va_G) (W0 : va_W) (tys : List (ClassId × FieldType)) (H : Heap) (A : Nat → Prop) (v lo hi : Int32) : ckM l yX0_checkRange wsX0_checkRange ({ frames := 6, cells := 1, slots := 6, locals := 90 }) [.int v, .int lo, .int hi] D W0 tys H A (inR v lo hi = true) xE1 := by
  refine ck_of (cc := cX0_checkRange) (maxL := 3) (ret := none) (by decide) rfl (Nat.le_of_ble_eq_true rfl) ?_
  intro p e s m args below meth c he hout hH hP hK hT ls hl
  obtain ⟨hx, hb, hr, hml, hown, hts, hlocks⟩ := he
  have hown : s.vm.findClass RX0 = some m.cls := hown
  have hl : lv_has ls 3 [(0, .int v), (1, .int lo), (2, .int hi)] := hl
  refine lv_iload_n hx hb dX0_checkRange_0 rfl (lv_at hl 0 rfl) ?_
  refine lv_iload_n hx hb dX0_checkRange_1 rfl (lv_at hl 1 rfl) ?_
  refine lv_icmp_lt (tgt := 10) hx hb dX0_checkRange_2 (by decide) (fun c2 => ?_) (fun c2 => ?_)
  · obtain ⟨sa, hsa⟩ := hT.2.2.1.2.2.2
    exact thr_go (A := A) (cls := xE1) (ik := 121) (ic := 125) hfl hx hb hown hlocks hout (by rw [hml]; exact hl.1) hH (by decide +kernel) (hts (.classLink RX0 121 xE1) (by decide +kernel)) (hts (.initialized xE1) (by decide +kernel)) hsa (fun w hw => hts w ((show ∀ w ∈ (vx_atS RX0 125 xE1 xNs).filter goodWord, w ∈ wsX0_checkRange by decide +kernel) w hw)) xh1 (xb1 hT.2) xg1 hT.1 dX0_checkRange_10 dX0_checkRange_13 dX0_checkRange_14 dX0_checkRange_16 dX0_checkRange_19 (Nat.le_of_ble_eq_true rfl) (Nat.le_of_ble_eq_true rfl) (Nat.le_of_ble_eq_true rfl) (Nat.le_of_ble_eq_true rfl) (fun t hgr => ⟨⟨rfl, inR_nf1 c2⟩, hgr⟩)
  · refine lv_iload_n hx hb dX0_checkRange_5 rfl (lv_at hl 0 rfl) ?_
    refine lv_iload_n hx hb dX0_checkRange_6 rfl (lv_at hl 2 rfl) ?_
    refine lv_icmp_le (tgt := 20) hx hb dX0_checkRange_7 (by decide) (fun c7 => ?_) (fun c7 => ?_)
    · exact ck_ret hx hb hr hlocks hH (inR_t c2 (Int32.not_lt.mpr c7)) dX0_checkRange_20
    · obtain ⟨sa, hsa⟩ := hT.2.2.1.2.2.2
      exact thr_go (A := A) (cls := xE1) (ik := 121) (ic := 125) hfl hx hb hown hlocks hout (by rw [hml]; exact hl.1) hH (by decide +kernel) (hts (.classLink RX0 121 xE1) (by decide +kernel)) (hts (.initialized xE1) (by decide +kernel)) hsa (fun w hw => hts w ((show ∀ w ∈ (vx_atS RX0 125 xE1 xNs).filter goodWord, w ∈ wsX0_checkRange by decide +kernel) w hw)) xh1 (xb1 hT.2) xg1 hT.1 dX0_checkRange_10 dX0_checkRange_13 dX0_checkRange_14 dX0_checkRange_16 dX0_checkRange_19 (Nat.le_of_ble_eq_true rfl) (Nat.le_of_ble_eq_true rfl) (Nat.le_of_ble_eq_true rfl) (Nat.le_of_ble_eq_true rfl) (fun t hgr => ⟨⟨rfl, inR_nf2 (Int32.not_le.mp c7)⟩, hgr⟩)
set_option maxHeartbeats 4000000 in
set_option maxRecDepth 100000 in
/-- checkBollard -/
theorem c_X0_checkBollard (l : Launch) (hfl : l.stackTraces = false) (D : va_G) (cI cZ : ClassId) (h : Nat) (a : Nat → Nat) (σ : St) (H : Heap) (A : Nat → Prop) {nL nB : Nat} (hI : inv σ nL nB) (v : Int32) : ckM l yX0_checkBollard wsX0_checkBollard ({ frames := 6, cells := 1, slots := 6, locals := 90 }) [.ref h, .int v] D (xw cI cZ h a σ) (tyX cI cZ) H A (inR v 0 (nI nB - 1) = true) xE3 := by
  refine ck_of (cc := cX0_checkBollard) (maxL := 2) (ret := none) (by decide) rfl (Nat.le_of_ble_eq_true rfl) ?_
  intro p e s m args below meth c he hout hH hP hK hT ls hl
  obtain ⟨hx, hb, hr, hml, hown, hts, hlocks⟩ := he
  have hown : s.vm.findClass RX0 = some m.cls := hown
  have hl : lv_has ls 2 [(0, .ref h), (1, .int v)] := hl
  have hin : ∀ w ∈ u_ws RX0 TX0 15, w ∈ wsX0_checkBollard := by decide +kernel
  refine lv_iload_n hx hb dX0_checkBollard_0 rfl (lv_at hl 1 rfl) ?_
  refine lv_if_lt (tgt := 12) hx hb dX0_checkBollard_1 (by decide) (fun c1 => ?_) (fun c1 => ?_)
  · obtain ⟨sa, hsa⟩ := hT.2.2.1.2.1
    exact thr_go (A := A) (cls := xE3) (ik := 135) (ic := 139) hfl hx hb hown hlocks hout (by rw [hml]; exact hl.1) hH (by decide +kernel) (hts (.classLink RX0 135 xE3) (by decide +kernel)) (hts (.initialized xE3) (by decide +kernel)) hsa (fun w hw => hts w ((show ∀ w ∈ (vx_atS RX0 139 xE3 xNs).filter goodWord, w ∈ wsX0_checkBollard by decide +kernel) w hw)) xh3 (xb3 hT.2) xg3 hT.1 dX0_checkBollard_12 dX0_checkBollard_15 dX0_checkBollard_16 dX0_checkBollard_18 dX0_checkBollard_21 (Nat.le_of_ble_eq_true rfl) (Nat.le_of_ble_eq_true rfl) (Nat.le_of_ble_eq_true rfl) (Nat.le_of_ble_eq_true rfl) (fun t hgr => ⟨⟨rfl, inR_nf1 c1⟩, hgr⟩)
  · refine lv_iload_n hx hb dX0_checkBollard_4 rfl (lv_at hl 1 rfl) ?_
    refine lv_aload_n hx hb dX0_checkBollard_5 rfl (lv_at hl 0 rfl) ?_
    refine x_get hin hx hb hts hown hK hP rfl 4 (by decide) (v := .int (nI nB)) (congrArg (fun z => some (Value.int z)) hI.2.2.1) (by decide +kernel) dX0_checkBollard_6 ?_
    refine lv_icmp_lt (tgt := 22) hx hb dX0_checkBollard_9 (by decide) (fun c9 => ?_) (fun c9 => ?_)
    · exact ck_ret hx hb hr hlocks hH (line_in (by have := hI.2.2.2.1; omega) c1 c9) dX0_checkBollard_22
    · obtain ⟨sa, hsa⟩ := hT.2.2.1.2.1
      exact thr_go (A := A) (cls := xE3) (ik := 135) (ic := 139) hfl hx hb hown hlocks hout (by rw [hml]; exact hl.1) hH (by decide +kernel) (hts (.classLink RX0 135 xE3) (by decide +kernel)) (hts (.initialized xE3) (by decide +kernel)) hsa (fun w hw => hts w ((show ∀ w ∈ (vx_atS RX0 139 xE3 xNs).filter goodWord, w ∈ wsX0_checkBollard by decide +kernel) w hw)) xh3 (xb3 hT.2) xg3 hT.1 dX0_checkBollard_12 dX0_checkBollard_15 dX0_checkBollard_16 dX0_checkBollard_18 dX0_checkBollard_21 (Nat.le_of_ble_eq_true rfl) (Nat.le_of_ble_eq_true rfl) (Nat.le_of_ble_eq_true rfl) (Nat.le_of_ble_eq_true rfl) (fun t hgr => ⟨⟨rfl, line_out (by have := hI.2.2.2.1; omega) c9⟩, hgr⟩)
set_option maxHeartbeats 4000000 in
set_option maxRecDepth 100000 in
/-- checkLine -/
theorem c_X0_checkLine (l : Launch) (hfl : l.stackTraces = false) (D : va_G) (cI cZ : ClassId) (h : Nat) (a : Nat → Nat) (σ : St) (H : Heap) (A : Nat → Prop) {nL nB : Nat} (hI : inv σ nL nB) (v : Int32) : ckM l yX0_checkLine wsX0_checkLine ({ frames := 6, cells := 1, slots := 6, locals := 90 }) [.ref h, .int v] D (xw cI cZ h a σ) (tyX cI cZ) H A (inR v 0 (nI nL - 1) = true) xE3 := by
  refine ck_of (cc := cX0_checkLine) (maxL := 2) (ret := none) (by decide) rfl (Nat.le_of_ble_eq_true rfl) ?_
  intro p e s m args below meth c he hout hH hP hK hT ls hl
  obtain ⟨hx, hb, hr, hml, hown, hts, hlocks⟩ := he
  have hown : s.vm.findClass RX0 = some m.cls := hown
  have hl : lv_has ls 2 [(0, .ref h), (1, .int v)] := hl
  have hin : ∀ w ∈ u_ws RX0 TX0 15, w ∈ wsX0_checkLine := by decide +kernel
  refine lv_iload_n hx hb dX0_checkLine_0 rfl (lv_at hl 1 rfl) ?_
  refine lv_if_lt (tgt := 12) hx hb dX0_checkLine_1 (by decide) (fun c1 => ?_) (fun c1 => ?_)
  · obtain ⟨sa, hsa⟩ := hT.2.2.1.2.2.1
    exact thr_go (A := A) (cls := xE3) (ik := 135) (ic := 139) hfl hx hb hown hlocks hout (by rw [hml]; exact hl.1) hH (by decide +kernel) (hts (.classLink RX0 135 xE3) (by decide +kernel)) (hts (.initialized xE3) (by decide +kernel)) hsa (fun w hw => hts w ((show ∀ w ∈ (vx_atS RX0 139 xE3 xNs).filter goodWord, w ∈ wsX0_checkLine by decide +kernel) w hw)) xh3 (xb3 hT.2) xg3 hT.1 dX0_checkLine_12 dX0_checkLine_15 dX0_checkLine_16 dX0_checkLine_18 dX0_checkLine_21 (Nat.le_of_ble_eq_true rfl) (Nat.le_of_ble_eq_true rfl) (Nat.le_of_ble_eq_true rfl) (Nat.le_of_ble_eq_true rfl) (fun t hgr => ⟨⟨rfl, inR_nf1 c1⟩, hgr⟩)
  · refine lv_iload_n hx hb dX0_checkLine_4 rfl (lv_at hl 1 rfl) ?_
    refine lv_aload_n hx hb dX0_checkLine_5 rfl (lv_at hl 0 rfl) ?_
    refine x_get hin hx hb hts hown hK hP rfl 7 (by decide) (v := .int (nI nL)) (congrArg (fun z => some (Value.int z)) hI.1) (by decide +kernel) dX0_checkLine_6 ?_
    refine lv_icmp_lt (tgt := 22) hx hb dX0_checkLine_9 (by decide) (fun c9 => ?_) (fun c9 => ?_)
    · exact ck_ret hx hb hr hlocks hH (line_in (by have := hI.2.1; omega) c1 c9) dX0_checkLine_22
    · obtain ⟨sa, hsa⟩ := hT.2.2.1.2.2.1
      exact thr_go (A := A) (cls := xE3) (ik := 135) (ic := 139) hfl hx hb hown hlocks hout (by rw [hml]; exact hl.1) hH (by decide +kernel) (hts (.classLink RX0 135 xE3) (by decide +kernel)) (hts (.initialized xE3) (by decide +kernel)) hsa (fun w hw => hts w ((show ∀ w ∈ (vx_atS RX0 139 xE3 xNs).filter goodWord, w ∈ wsX0_checkLine by decide +kernel) w hw)) xh3 (xb3 hT.2) xg3 hT.1 dX0_checkLine_12 dX0_checkLine_15 dX0_checkLine_16 dX0_checkLine_18 dX0_checkLine_21 (Nat.le_of_ble_eq_true rfl) (Nat.le_of_ble_eq_true rfl) (Nat.le_of_ble_eq_true rfl) (Nat.le_of_ble_eq_true rfl) (fun t hgr => ⟨⟨rfl, line_out (by have := hI.2.1; omega) c9⟩, hgr⟩)
set_option maxHeartbeats 4000000 in
set_option maxRecDepth 100000 in
/-- tendThrough -/
theorem c_X0_tendThrough (l : Launch) (D : va_G) (cI cZ : ClassId) (h : Nat) (a : Nat → Nat) (σ : St) (Hi : Heap) (A : Nat → Prop) (hD : va_D A (xw cI cZ h a σ)) {nL nB : Nat} (hI : inv σ nL nB) (f u : Nat) (hf : f ≤ u) (hu : u < 48) : wrM l yX0_tendThrough wsX0_tendThrough ({ frames := 6, cells := 0, slots := 0, locals := 143 }) [.ref h, .int (nI f), .int (nI u)] D (xw cI cZ h a σ) (tyX cI cZ) Hi (S := St) (fun ρ => xw cI cZ h a ρ) (fun r ρ => r = plR (u + 1 - f) σ f 0 ∧ ∀ k, k ≠ 12 → ρ k = σ k) A := by
  refine wr_of (cc := cX0_tendThrough) (maxL := 5) (ret := some .int) (by decide) rfl (Nat.le_of_ble_eq_true rfl) ?_
  intro p e s m args below meth c9 he hH hP hK ls hl
  obtain ⟨hx, hb, hr, hml, hown, hts, hlocks⟩ := he
  have hown : s.vm.findClass RX0 = some m.cls := hown
  have hS : va_S A Hi Hi [] := va_S.rf
  have hL : σ 7 0 = nI nL := hI.1
  have hL10 : nL ≤ 10 := hI.2.1
  have hl : lv_has ls 5 [(0, .ref h), (1, .int (nI f)), (2, .int (nI u))] := hl
  refine lv_iconst (v := 0) hx hb dX0_tendThrough_0 (by decide) ?_
  refine lv_istore_n (lv' := [(3, .int 0), (0, .ref h), (1, .int (nI f)), (2, .int (nI u))]) hx hb dX0_tendThrough_1 rfl hl (by decide) rfl (fun ls hl => ?_)
  refine lv_iload_n hx hb dX0_tendThrough_2 rfl (lv_at hl 2 rfl) ?_
  refine lv_istore (lv' := [(4, .int (nI f)), (3, .int 0), (0, .ref h), (1, .int (nI f)), (2, .int (nI u))]) hx hb dX0_tendThrough_3 hl (by decide) rfl (fun ls hl => ?_)
  suffices K : ∀ (n t c : Nat) (ρ : St) (H : Heap) (locs : List Loc) (ls : Array Slot), t + n = u + 1 → inv ρ nL nB → (∀ k, k ≠ 12 → ρ k = σ k) → plR n ρ t c = plR (u + 1 - f) σ f 0 → va_P D vwCl (xw cI cZ h a ρ) H → va_S A Hi H locs → lv_has ls 5 [(4, .int (nI t)), (3, .int (nI c)), (0, .ref h), (1, .int (nI f)), (2, .int (nI u))] → W p l e _ s m args below meth c9 H locs 0 0 (wrQ below D (fun ρ : St => xw cI cZ h a ρ) (fun r ρ => r = plR (u + 1 - f) σ f 0 ∧ ∀ k, k ≠ 12 → ρ k = σ k) A args s) (F0 m 5 ls []) by
    exact K (u + 1 - f) f 0 σ Hi [] ls (by omega) hI (fun _ _ => rfl) rfl hP hS (lv_sub hl [0, 1, 2, 3, 4] rfl)
  intro n
  induction n with
  | zero =>
      intro t c ρ H locs ls ht hIr hag hpl hP hS hl
      refine lv_iload hx hb dX0_tendThrough_5 (lv_at hl 0 rfl) ?_
      refine lv_iload_n hx hb dX0_tendThrough_7 rfl (lv_at hl 4 rfl) ?_
      refine lv_icmp_gt (tgt := 47) hx hb dX0_tendThrough_8 (by decide) (fun c8 => ?_) (fun c8 => ?_)
      · refine lv_iload_n hx hb dX0_tendThrough_47 rfl (lv_at hl 1 rfl) ?_
        exact wr_ret (v := (nI c)) ρ hx hb hr hlocks hH hS hP ⟨hpl, hag⟩ dX0_tendThrough_48
      · exact absurd (nI_lt (a := u) (b := t) (by omega) (by omega)) c8
  | succ n ih =>
      intro t c ρ H locs ls ht hIr hag hpl hP hS hl
      have ht48 : t < 48 := by omega
      refine lv_iload hx hb dX0_tendThrough_5 (lv_at hl 0 rfl) ?_
      refine lv_iload_n hx hb dX0_tendThrough_7 rfl (lv_at hl 4 rfl) ?_
      refine lv_icmp_gt (tgt := 47) hx hb dX0_tendThrough_8 (by decide) (fun c8 => ?_) (fun c8 => ?_)
      · exact absurd c8 (nI_nlt (by omega) (by omega))
      · refine lv_aload_n hx hb dX0_tendThrough_11 rfl (lv_at hl 2 rfl) ?_
        refine lv_iload hx hb dX0_tendThrough_12 (lv_at hl 0 rfl) ?_
        refine ro_callV 1 hx hb hml hown hts hl.1 hP hK 0 0 rfl rfl (As := [.int (nI t)]) (rest := []) (c_X0_holdsIn l D cI cZ h a ρ H hIr t ht48) gX0_tendThrough_X0_holdsIn rfl rfl rfl (by decide +kernel) ⟨Nat.le_of_ble_eq_true rfl, Nat.le_of_ble_eq_true rfl⟩ rfl rfl (Nat.le_of_ble_eq_true rfl) dX0_tendThrough_14 ⟨Nat.zero_le _, Nat.zero_le _⟩ (fun r1 hr1 => ?_)
        subst hr1
        refine lv_if_ne (tgt := 41) hx hb dX0_tendThrough_17 (by decide) (fun c17 => ?_) (fun c17 => ?_)
        · refine lv_iinc (v := (nI (t + 1))) (lv' := [(4, .int (nI (t + 1))), (3, .int (nI c)), (0, .ref h), (1, .int (nI f)), (2, .int (nI u))]) hx hb dX0_tendThrough_41 hl (k := 0) rfl (by exact nI_add _ 1) (by decide) rfl (fun ls hl => ?_)
          refine lv_goto (tgt := 5) hx hb dX0_tendThrough_44 (by decide) ?_
          exact ih (t + 1) c ρ H locs ls (by omega) hIr hag (by rw [← hpl]; show _ = (if safe_ ρ t = true then plR n ρ (t + 1) c else _); rw [if_pos (bI_t c17)]) hP hS (lv_sub hl [0, 1, 2, 3, 4] rfl)
        · have hns : ¬ safe_ ρ t = true := by rw [bI_f c17]; decide
          have hD1 : va_D A (xw cI cZ h a ρ) := xD hD
          refine lv_aload_n hx hb dX0_tendThrough_20 rfl (lv_at hl 2 rfl) ?_
          refine lv_iload hx hb dX0_tendThrough_21 (lv_at hl 0 rfl) ?_
          refine wr_callV 1 hx hb hml hown hts hl.1 hP hK hS (fun _ h9 => h9) 0 0 rfl rfl (As := [.int (nI t)]) (rest := []) (c_X0_tendFastLines l D cI cZ h a ρ H A hD1 hIr t ht48) gX0_tendThrough_X0_tendFastLines rfl rfl rfl (by decide +kernel) ⟨Nat.le_of_ble_eq_true rfl, Nat.le_of_ble_eq_true rfl⟩ rfl rfl (Nat.le_of_ble_eq_true rfl) dX0_tendThrough_23 ⟨Nat.zero_le _, Nat.zero_le _⟩ (fun r2 u2 H locs hr2 hP hS _ _ => ?_)
          refine lv_pop hx hb dX0_tendThrough_26 rfl ?_
          refine lv_iinc (v := (nI (c + 1))) (lv' := [(3, .int (nI (c + 1))), (4, .int (nI t)), (0, .ref h), (1, .int (nI f)), (2, .int (nI u))]) hx hb dX0_tendThrough_27 hl (k := 1) rfl (by exact nI_add _ 1) (by decide) rfl (fun ls hl => ?_)
          refine lv_aload_n hx hb dX0_tendThrough_30 rfl (lv_at hl 2 rfl) ?_
          refine lv_iload hx hb dX0_tendThrough_31 (lv_at hl 1 rfl) ?_
          refine ro_callV 1 hx hb hml hown hts hl.1 hP hK 0 0 rfl rfl (As := [.int (nI t)]) (rest := []) (c_X0_holdsIn l D cI cZ h a (tnd ρ t) H (inv_tnd hIr ht48) t ht48) gX0_tendThrough_X0_holdsIn rfl rfl rfl (by decide +kernel) ⟨Nat.le_of_ble_eq_true rfl, Nat.le_of_ble_eq_true rfl⟩ rfl rfl (Nat.le_of_ble_eq_true rfl) dX0_tendThrough_33 ⟨Nat.zero_le _, Nat.zero_le _⟩ (fun r3 hr3 => ?_)
          subst hr3
          have hag2 : ∀ k, k ≠ 12 → tnd ρ t k = σ k := fun k hk => by
            show cond (Nat.beq k 12) _ (ρ k) = σ k
            rw [show Nat.beq k 12 = false from Bool.eq_false_iff.mpr (fun q => hk (Nat.eq_of_beq_eq_true q))]; exact hag k hk
          refine lv_if_ne (tgt := 41) hx hb dX0_tendThrough_36 (by decide) (fun c36 => ?_) (fun c36 => ?_)
          · refine lv_iinc (v := (nI (t + 1))) (lv' := [(4, .int (nI (t + 1))), (3, .int (nI (c + 1))), (0, .ref h), (1, .int (nI f)), (2, .int (nI u))]) hx hb dX0_tendThrough_41 hl (k := 1) rfl (by exact nI_add _ 1) (by decide) rfl (fun ls hl => ?_)
            refine lv_goto (tgt := 5) hx hb dX0_tendThrough_44 (by decide) ?_
            exact ih (t + 1) (c + 1) (tnd ρ t) H locs ls (by omega) (inv_tnd hIr ht48) hag2 (by rw [← hpl]; show _ = (if safe_ ρ t = true then plR n ρ (t + 1) c else if safe_ (tnd ρ t) t = true then plR n (tnd ρ t) (t + 1) (c + 1) else -1); rw [if_neg hns, if_pos (bI_t c36)]) hP hS (lv_sub hl [0, 1, 2, 3, 4] rfl)
          · refine lv_iconst (v := (-1)) hx hb dX0_tendThrough_39 (by decide) ?_
            exact wr_ret (v := (-1)) (tnd ρ t) hx hb hr hlocks hH hS hP ⟨by rw [← hpl]; show _ = (if safe_ ρ t = true then plR n ρ (t + 1) c else if safe_ (tnd ρ t) t = true then plR n (tnd ρ t) (t + 1) (c + 1) else -1); rw [if_neg hns, if_neg (by rw [bI_f c36]; decide)], hag2⟩ dX0_tendThrough_40
end
section
/-! MoorWatch's face. -/
abbrev tN (v : Int32) : Nat := v.toNatClampNeg
theorem tN_nI {t : Nat} (h : t < 1000) : tN (nI t) = t := nI_clamp (by omega)
def ldF (f : Nat → Int32) (t : Nat) (v : Int32) (k : Nat) : Nat → Int32 := fun j => if t ≤ j ∧ j < k then v else f j
/-- the first hour that is not safe among n hours from t on -/
def fuR : Nat → St → Nat → Int32
  | 0, _, _ => -1
  | n + 1, σ, t => if safe_ σ t then fuR n σ (t + 1) else nI t
def mx0 (x : Int32) : Int32 := if 0 < x then x else 0
def nxF (σ : St) (j : Nat) : Int32 := if σ 13 j = 0 then 1 else 0
def abS (σ : St) (nB : Nat) (p lim : Int32) : St := st (st (st σ 5 (upd (σ 5) nB p)) 6 (upd (σ 6) nB lim)) 4 (fun _ => nI (nB + 1))
def alS (σ : St) (nL : Nat) (pt : Int32) (b : Int32) (sf sr : Int32) : St := st (st (st (st (st (st (st σ 8 (upd (σ 8) nL b)) 9 (upd (σ 9) nL (σ 5 (tN b) - pt))) 10 (upd (σ 10) nL sf)) 11 (upd (σ 11) nL sr)) 12 (upd (σ 12) nL (LENs (σ 5 (tN b) - pt) 300))) 13 (upd (σ 13) nL 1)) 7 (fun _ => nI (nL + 1))
def tdR (σ : St) (line hour slack : Int32) : Int32 := mx0 (len_ σ (tN line) (tN hour) (bal σ (tN hour)) + slack)
/-- what a call throws: by goes()'s number the class of that place -/
def xcp (K : Int32) (e1 e2 e3 : String) (E : String) : Prop := (K = 1 ∧ E = e1) ∨ (K = 2 ∧ E = e2) ∨ (K = 3 ∧ E = e3)
theorem nt {b : Bool} (h : ¬ b = true) : b = false := by cases b <;> simp_all
theorem gk1 {b1 b2 b3 : Bool} (h : b1 = false) : goK b1 b2 b3 = 1 := by rw [h]; rfl
theorem gk2 {b1 b2 b3 : Bool} (h1 : b1 = true) (h2 : b2 = false) : goK b1 b2 b3 = 2 := by rw [h1, h2]; rfl
theorem gk3 {b1 b2 b3 : Bool} (h1 : b1 = true) (h2 : b2 = true) (h3 : b3 = false) : goK b1 b2 b3 = 3 := by rw [h1, h2, h3]; rfl
theorem gk0 {b1 b2 b3 : Bool} (h1 : b1 = true) (h2 : b2 = true) (h3 : b3 = true) : goK b1 b2 b3 = 0 := by rw [h1, h2, h3]; rfl
theorem an1 {x y : Bool} (h : x = false) : (x && y) = false := by rw [h]; rfl
theorem an2 {x y : Bool} (h : y = false) : (x && y) = false := by rw [h]; exact Bool.and_false _
theorem ant {x y : Bool} (h1 : x = true) (h2 : y = true) : (x && y) = true := by rw [h1, h2]; rfl
theorem arr_eq {cA : ClassId} {n : Nat} {f g : Nat → Int32} (h : ∀ j, j < n → f j = g j) : vp_cell cA (n, .inl f) = vp_cell cA (n, .inl g) := by
  show arrV cA n (fun j => .int (f j)) = arrV cA n (fun j => .int (g j))
  unfold arrV
  congr 1
  apply Array.ext
  · simp
  · intro i h1 h2
    simp only [Array.getElem_ofFn]
    rw [h i (by simpa using h1)]
theorem va_P_cell {D : va_G} {W0 : va_W} {H : Heap} {i b : Nat} {cA : ClassId} {n : Nat} {f g : Nat → Int32} (hP : va_P D vwCl W0 H) (hi : W0[i]? = some (b, .inl (cA, n, .inl f))) (h : ∀ j, j < n → f j = g j) : va_P D vwCl (W0.set i (b, .inl (cA, n, .inl g))) H := by
  intro k q hk
  rcases Nat.decEq k i with e | e
  · rw [List.getElem?_set_ne (fun w => e w.symm)] at hk
    exact hP k q hk
  · subst e
    have hlt : k < W0.length := (List.getElem?_eq_some_iff.mp hi).1
    rw [List.getElem?_set_self hlt] at hk
    cases hk
    have h2 := hP k _ hi
    show H[b]? = some (vp_cell cA (n, .inl g))
    rw [← arr_eq h]
    exact h2
theorem ldF_up {f : Nat → Int32} {t k : Nat} {v : Int32} (h : t ≤ k) : upd (ldF f t v k) k v = ldF f t v (k + 1) := by
  funext j
  unfold upd ldF
  by_cases e : j = k
  · rw [if_pos e, if_pos ⟨by omega, by omega⟩]
  · rw [if_neg e]
    by_cases w : t ≤ j ∧ j < k
    · rw [if_pos w, if_pos ⟨w.1, by omega⟩]
    · rw [if_neg w, if_neg (fun q => w ⟨q.1, by omega⟩)]
theorem ldF_0 {f : Nat → Int32} {t : Nat} {v : Int32} : ldF f t v t = f := by
  funext j
  unfold ldF
  rw [if_neg (by omega)]
theorem st_ne {σ : St} {k j : Nat} {f : Nat → Int32} (h : j ≠ k) : st σ k f j = σ j := by
  show cond (Nat.beq j k) f (σ j) = σ j
  rw [show Nat.beq j k = false from Bool.eq_false_iff.mpr (fun q => h (Nat.eq_of_beq_eq_true q))]
  rfl
theorem st_eq {σ : St} {k : Nat} {f : Nat → Int32} : st σ k f k = f := by
  show cond (Nat.beq k k) f (σ k) = f
  rw [show Nat.beq k k = true from Nat.beq_refl k]
  rfl
theorem tdS_14 (σ : St) (g : Nat → Int32) (t : Nat) (s : Int32) : ∀ n : Nat, tdS (st σ 14 g) t s n = tdS σ t s n := by
  intro n
  induction n with
  | zero => rfl
  | succ n ih =>
    show (if σ 13 n = 0 then tdS (st σ 14 g) t s n else upd (tdS (st σ 14 g) t s n) n (len_ σ n t s)) = (if σ 13 n = 0 then tdS σ t s n else upd (tdS σ t s n) n (len_ σ n t s))
    rw [ih]
theorem tnd_14 (σ : St) (g : Nat → Int32) (t : Nat) : tnd (st σ 14 g) t = st (tnd σ t) 14 g := by
  funext k
  have e0 : tnd (st σ 14 g) t = st (st σ 14 g) 12 (tdS σ t (bal σ t) (nL_ σ)) := by
    show st (st σ 14 g) 12 (tdS (st σ 14 g) t (bal σ t) (nL_ σ)) = _
    rw [tdS_14]
  rw [e0]
  show st (st σ 14 g) 12 (tdS σ t (bal σ t) (nL_ σ)) k = st (st σ 12 (tdS σ t (bal σ t) (nL_ σ))) 14 g k
  by_cases e : k = 12
  · subst e; rw [st_eq, st_ne (by decide), st_eq]
  · rw [st_ne e]
    by_cases w : k = 14
    · subst w; rw [st_eq, st_eq]
    · rw [st_ne w, st_ne w, st_ne e]
theorem plR_14 (g : Nat → Int32) : ∀ (n : Nat) (σ : St) (t c : Nat), plR n (st σ 14 g) t c = plR n σ t c := by
  intro n
  induction n with
  | zero => intro σ t c; rfl
  | succ n ih =>
    intro σ t c
    show (if safe_ σ t = true then plR n (st σ 14 g) (t + 1) c else if safe_ (tnd (st σ 14 g) t) t = true then plR n (tnd (st σ 14 g) t) (t + 1) (c + 1) else -1) = (if safe_ σ t = true then plR n σ (t + 1) c else if safe_ (tnd σ t) t = true then plR n (tnd σ t) (t + 1) (c + 1) else -1)
    rw [ih, tnd_14, ih]
    rfl
set_option maxHeartbeats 4000000 in
set_option maxRecDepth 100000 in
/-- tendAll -/
theorem c_X0_tendAll (l : Launch) (hfl : l.stackTraces = false) (D : va_G) (cI cZ : ClassId) (h : Nat) (a : Nat → Nat) (σ : St) (Hi : Heap) (A : Nat → Prop) (hD : va_D A (xw cI cZ h a σ)) {nL nB : Nat} (hI : inv σ nL nB) (hour : Int32) : thM l yX0_tendAll wsX0_tendAll ({ frames := 7, cells := 1, slots := 6, locals := 143 }) [.ref h, .int hour] D (xw cI cZ h a σ) (tyX cI cZ) Hi A (S := St) (fun ρ => xw cI cZ h a ρ) (fun r ρ => goK (inR hour 0 47) true true = 0 ∧ r = tdC σ (tN hour) (bal σ (tN hour)) nL ∧ ρ = tnd σ (tN hour)) (xcp (goK (inR hour 0 47) true true) xE3 xE1 xE2) := by
  refine th_of (cc := cX0_tendAll) (maxL := 2) (ret := some .int) (by decide) rfl (Nat.le_of_ble_eq_true rfl) ?_
  intro p e s m args below meth c9 he hout hH hP hK hT ls hl
  obtain ⟨hx, hb, hr, hml, hown, hts, hlocks⟩ := he
  have hown : s.vm.findClass RX0 = some m.cls := hown
  have hS : va_S A Hi Hi [] := va_S.rf
  have hL : σ 7 0 = nI nL := hI.1
  have hL10 : nL ≤ 10 := hI.2.1
  have hB : σ 4 0 = nI nB := hI.2.2.1
  have hB6 : nB ≤ 6 := hI.2.2.2.1
  have hl : lv_has ls 2 [(0, .ref h), (1, .int hour)] := hl
  refine lv_iload_n hx hb dX0_tendAll_0 rfl (lv_at hl 1 rfl) ?_
  refine ck_callS 1 hx hb hml hown hts hlocks hout hl.1 hP hK hT (As := [.int hour]) (rest := []) (c_X0_checkHour l hfl D (xw cI cZ h a σ) (tyX cI cZ) Hi A hour) gX0_tendAll_X0_checkHour rfl rfl rfl (by decide +kernel) ⟨Nat.le_of_ble_eq_true rfl, Nat.le_of_ble_eq_true rfl⟩ rfl rfl (Nat.le_of_ble_eq_true rfl) dX0_tendAll_1 ⟨Nat.le_of_ble_eq_true rfl, Nat.le_of_ble_eq_true rfl⟩ (fun q => Or.inl ⟨gk1 (nt q), rfl⟩) (fun c1 => ?_)
  obtain ⟨t, ht48, rfl⟩ := inR_hour c1
  have et : tN (nI t) = t := tN_nI (by omega)
  refine lv_aload_n hx hb dX0_tendAll_4 rfl (lv_at hl 0 rfl) ?_
  refine lv_iload_n hx hb dX0_tendAll_5 rfl (lv_at hl 1 rfl) ?_
  refine wr_callV 1 hx hb hml hown hts hl.1 hP hK hS (fun _ h9 => h9) 0 0 rfl rfl (As := [.int (nI t)]) (rest := []) (c_X0_tendFastLines l D cI cZ h a σ Hi A hD hI t ht48) gX0_tendAll_X0_tendFastLines rfl rfl rfl (by decide +kernel) ⟨Nat.le_of_ble_eq_true rfl, Nat.le_of_ble_eq_true rfl⟩ rfl rfl (Nat.le_of_ble_eq_true rfl) dX0_tendAll_6 ⟨Nat.zero_le _, Nat.zero_le _⟩ (fun r1 u1 H locs hr1 hP hS _ _ => ?_)
  subst hr1
  exact th_ret (v := (tdC σ t (bal σ t) nL)) (tnd σ t) hx hb hr hlocks hH hS hP ⟨gk0 c1 rfl rfl, by rw [et], by rw [et]⟩ dX0_tendAll_9
set_option maxHeartbeats 4000000 in
set_option maxRecDepth 100000 in
/-- setTide -/
theorem c_X0_setTide (l : Launch) (hfl : l.stackTraces = false) (D : va_G) (cI cZ : ClassId) (h : Nat) (a : Nat → Nat) (σ : St) (Hi : Heap) (A : Nat → Prop) (hD : va_D A (xw cI cZ h a σ)) {nL nB : Nat} (hI : inv σ nL nB) (hour v : Int32) : thM l yX0_setTide wsX0_setTide ({ frames := 7, cells := 1, slots := 6, locals := 112 }) [.ref h, .int hour, .int v] D (xw cI cZ h a σ) (tyX cI cZ) Hi A (S := St) (fun ρ => xw cI cZ h a ρ) (fun r ρ => goK (inR hour 0 47) (inR v (-200) 200) true = 0 ∧ r = σ 0 (tN hour) ∧ ρ = st σ 0 (upd (σ 0) (tN hour) v)) (xcp (goK (inR hour 0 47) (inR v (-200) 200) true) xE3 xE1 xE2) := by
  refine th_of (cc := cX0_setTide) (maxL := 4) (ret := some .int) (by decide) rfl (Nat.le_of_ble_eq_true rfl) ?_
  intro p e s m args below meth c9 he hout hH hP hK hT ls hl
  obtain ⟨hx, hb, hr, hml, hown, hts, hlocks⟩ := he
  have hown : s.vm.findClass RX0 = some m.cls := hown
  have hS : va_S A Hi Hi [] := va_S.rf
  have hL : σ 7 0 = nI nL := hI.1
  have hL10 : nL ≤ 10 := hI.2.1
  have hB : σ 4 0 = nI nB := hI.2.2.1
  have hB6 : nB ≤ 6 := hI.2.2.2.1
  have hl : lv_has ls 4 [(0, .ref h), (1, .int hour), (2, .int v)] := hl
  have hin : ∀ w ∈ u_ws RX0 TX0 15, w ∈ wsX0_setTide := by decide +kernel
  refine lv_iload_n hx hb dX0_setTide_0 rfl (lv_at hl 1 rfl) ?_
  refine ck_callS 1 hx hb hml hown hts hlocks hout hl.1 hP hK hT (As := [.int hour]) (rest := []) (c_X0_checkHour l hfl D (xw cI cZ h a σ) (tyX cI cZ) Hi A hour) gX0_setTide_X0_checkHour rfl rfl rfl (by decide +kernel) ⟨Nat.le_of_ble_eq_true rfl, Nat.le_of_ble_eq_true rfl⟩ rfl rfl (Nat.le_of_ble_eq_true rfl) dX0_setTide_1 ⟨Nat.le_of_ble_eq_true rfl, Nat.le_of_ble_eq_true rfl⟩ (fun q => Or.inl ⟨gk1 (nt q), rfl⟩) (fun c1 => ?_)
  refine lv_iload_n hx hb dX0_setTide_4 rfl (lv_at hl 2 rfl) ?_
  refine lv_sipush (v := (-200)) hx hb dX0_setTide_5 (by decide) ?_
  refine lv_sipush (v := 200) hx hb dX0_setTide_8 (by decide) ?_
  refine ck_callS 3 hx hb hml hown hts hlocks hout hl.1 hP hK hT (As := [.int v, .int (-200), .int 200]) (rest := []) (c_X0_checkRange l hfl D (xw cI cZ h a σ) (tyX cI cZ) Hi A v (-200) 200) gX0_setTide_X0_checkRange rfl rfl rfl (by decide +kernel) ⟨Nat.le_of_ble_eq_true rfl, Nat.le_of_ble_eq_true rfl⟩ rfl rfl (Nat.le_of_ble_eq_true rfl) dX0_setTide_11 ⟨Nat.le_of_ble_eq_true rfl, Nat.le_of_ble_eq_true rfl⟩ (fun q => Or.inr (Or.inl ⟨gk2 c1 (nt q), rfl⟩)) (fun c2 => ?_)
  obtain ⟨t, ht48, rfl⟩ := inR_hour c1
  have et : tN (nI t) = t := tN_nI (by omega)
  refine lv_aload_n hx hb dX0_setTide_14 rfl (lv_at hl 0 rfl) ?_
  refine x_get hin hx hb hts hown hK hP rfl 0 (by decide) (v := .ref (a 0)) rfl (by decide +kernel) dX0_setTide_15 ?_
  refine lv_iload_n hx hb dX0_setTide_18 rfl (lv_at hl 1 rfl) ?_
  refine xa_ld hx hb hK hP 1 0 rfl rfl (j := t) ht48 (by decide) dX0_setTide_19 ?_
  refine lv_istore_n (lv' := [(3, .int (σ 0 t)), (0, .ref h), (1, .int (nI t)), (2, .int v)]) hx hb dX0_setTide_20 rfl hl (by decide) rfl (fun ls hl => ?_)
  refine lv_aload_n hx hb dX0_setTide_21 rfl (lv_at hl 1 rfl) ?_
  refine x_get hin hx hb hts hown hK hP rfl 0 (by decide) (v := .ref (a 0)) rfl (by decide +kernel) dX0_setTide_22 ?_
  refine lv_iload_n hx hb dX0_setTide_25 rfl (lv_at hl 2 rfl) ?_
  refine lv_iload_n hx hb dX0_setTide_26 rfl (lv_at hl 3 rfl) ?_
  refine xa_st hx hb hK hP hD hS 1 0 rfl rfl (j := t) ht48 (by decide) dX0_setTide_27 (fun H locs hP hD hS => ?_)
  have hP : va_P D vwCl (xw cI cZ h a (st σ 0 (upd (σ 0) t v))) H := hP
  have hD : va_D A (xw cI cZ h a (st σ 0 (upd (σ 0) t v))) := hD
  refine lv_iload_n hx hb dX0_setTide_28 rfl (lv_at hl 0 rfl) ?_
  exact th_ret (v := (σ 0 t)) (st σ 0 (upd (σ 0) t v)) hx hb hr hlocks hH hS hP ⟨gk0 c1 c2 rfl, by rw [et], by rw [et]⟩ dX0_setTide_29
set_option maxHeartbeats 4000000 in
set_option maxRecDepth 100000 in
/-- setPassing -/
theorem c_X0_setPassing (l : Launch) (hfl : l.stackTraces = false) (D : va_G) (cI cZ : ClassId) (h : Nat) (a : Nat → Nat) (σ : St) (Hi : Heap) (A : Nat → Prop) (hD : va_D A (xw cI cZ h a σ)) {nL nB : Nat} (hI : inv σ nL nB) (hour v : Int32) : thM l yX0_setPassing wsX0_setPassing ({ frames := 7, cells := 1, slots := 6, locals := 112 }) [.ref h, .int hour, .int v] D (xw cI cZ h a σ) (tyX cI cZ) Hi A (S := St) (fun ρ => xw cI cZ h a ρ) (fun r ρ => goK (inR hour 0 47) (inR v (-1000000) 1000000) true = 0 ∧ r = σ 2 (tN hour) ∧ ρ = st σ 2 (upd (σ 2) (tN hour) v)) (xcp (goK (inR hour 0 47) (inR v (-1000000) 1000000) true) xE3 xE1 xE2) := by
  refine th_of (cc := cX0_setPassing) (maxL := 4) (ret := some .int) (by decide) rfl (Nat.le_of_ble_eq_true rfl) ?_
  intro p e s m args below meth c9 he hout hH hP hK hT ls hl
  obtain ⟨hx, hb, hr, hml, hown, hts, hlocks⟩ := he
  have hown : s.vm.findClass RX0 = some m.cls := hown
  have hS : va_S A Hi Hi [] := va_S.rf
  have hL : σ 7 0 = nI nL := hI.1
  have hL10 : nL ≤ 10 := hI.2.1
  have hB : σ 4 0 = nI nB := hI.2.2.1
  have hB6 : nB ≤ 6 := hI.2.2.2.1
  have hl : lv_has ls 4 [(0, .ref h), (1, .int hour), (2, .int v)] := hl
  have hin : ∀ w ∈ u_ws RX0 TX0 15, w ∈ wsX0_setPassing := by decide +kernel
  refine lv_iload_n hx hb dX0_setPassing_0 rfl (lv_at hl 1 rfl) ?_
  refine ck_callS 1 hx hb hml hown hts hlocks hout hl.1 hP hK hT (As := [.int hour]) (rest := []) (c_X0_checkHour l hfl D (xw cI cZ h a σ) (tyX cI cZ) Hi A hour) gX0_setPassing_X0_checkHour rfl rfl rfl (by decide +kernel) ⟨Nat.le_of_ble_eq_true rfl, Nat.le_of_ble_eq_true rfl⟩ rfl rfl (Nat.le_of_ble_eq_true rfl) dX0_setPassing_1 ⟨Nat.le_of_ble_eq_true rfl, Nat.le_of_ble_eq_true rfl⟩ (fun q => Or.inl ⟨gk1 (nt q), rfl⟩) (fun c1 => ?_)
  refine lv_iload_n hx hb dX0_setPassing_4 rfl (lv_at hl 2 rfl) ?_
  refine lv_ldc (v := (-1000000)) hx hb hown (hts (.constant RX0 85 (-1000000)) (by decide +kernel)) dX0_setPassing_5 ?_
  refine lv_ldc (v := (1000000)) hx hb hown (hts (.constant RX0 61 (1000000)) (by decide +kernel)) dX0_setPassing_7 ?_
  refine ck_callS 3 hx hb hml hown hts hlocks hout hl.1 hP hK hT (As := [.int v, .int (-1000000), .int 1000000]) (rest := []) (c_X0_checkRange l hfl D (xw cI cZ h a σ) (tyX cI cZ) Hi A v (-1000000) 1000000) gX0_setPassing_X0_checkRange rfl rfl rfl (by decide +kernel) ⟨Nat.le_of_ble_eq_true rfl, Nat.le_of_ble_eq_true rfl⟩ rfl rfl (Nat.le_of_ble_eq_true rfl) dX0_setPassing_9 ⟨Nat.le_of_ble_eq_true rfl, Nat.le_of_ble_eq_true rfl⟩ (fun q => Or.inr (Or.inl ⟨gk2 c1 (nt q), rfl⟩)) (fun c2 => ?_)
  obtain ⟨t, ht48, rfl⟩ := inR_hour c1
  have et : tN (nI t) = t := tN_nI (by omega)
  refine lv_aload_n hx hb dX0_setPassing_12 rfl (lv_at hl 0 rfl) ?_
  refine x_get hin hx hb hts hown hK hP rfl 2 (by decide) (v := .ref (a 2)) rfl (by decide +kernel) dX0_setPassing_13 ?_
  refine lv_iload_n hx hb dX0_setPassing_16 rfl (lv_at hl 1 rfl) ?_
  refine xa_ld hx hb hK hP 3 0 rfl rfl (j := t) ht48 (by decide) dX0_setPassing_17 ?_
  refine lv_istore_n (lv' := [(3, .int (σ 2 t)), (0, .ref h), (1, .int (nI t)), (2, .int v)]) hx hb dX0_setPassing_18 rfl hl (by decide) rfl (fun ls hl => ?_)
  refine lv_aload_n hx hb dX0_setPassing_19 rfl (lv_at hl 1 rfl) ?_
  refine x_get hin hx hb hts hown hK hP rfl 2 (by decide) (v := .ref (a 2)) rfl (by decide +kernel) dX0_setPassing_20 ?_
  refine lv_iload_n hx hb dX0_setPassing_23 rfl (lv_at hl 2 rfl) ?_
  refine lv_iload_n hx hb dX0_setPassing_24 rfl (lv_at hl 3 rfl) ?_
  refine xa_st hx hb hK hP hD hS 3 0 rfl rfl (j := t) ht48 (by decide) dX0_setPassing_25 (fun H locs hP hD hS => ?_)
  have hP : va_P D vwCl (xw cI cZ h a (st σ 2 (upd (σ 2) t v))) H := hP
  have hD : va_D A (xw cI cZ h a (st σ 2 (upd (σ 2) t v))) := hD
  refine lv_iload_n hx hb dX0_setPassing_26 rfl (lv_at hl 0 rfl) ?_
  exact th_ret (v := (σ 2 t)) (st σ 2 (upd (σ 2) t v)) hx hb hr hlocks hH hS hP ⟨gk0 c1 c2 rfl, by rw [et], by rw [et]⟩ dX0_setPassing_27
set_option maxHeartbeats 4000000 in
set_option maxRecDepth 100000 in
/-- setWind -/
theorem c_X0_setWind (l : Launch) (hfl : l.stackTraces = false) (D : va_G) (cI cZ : ClassId) (h : Nat) (a : Nat → Nat) (σ : St) (Hi : Heap) (A : Nat → Prop) (hD : va_D A (xw cI cZ h a σ)) {nL nB : Nat} (hI : inv σ nL nB) (v : Int32) : thM l yX0_setWind wsX0_setWind ({ frames := 7, cells := 1, slots := 6, locals := 112 }) [.ref h, .int v] D (xw cI cZ h a σ) (tyX cI cZ) Hi A (S := St) (fun ρ => xw cI cZ h a ρ) (fun r ρ => goK (inR v (-1000000) 1000000) true true = 0 ∧ r = σ 3 0 ∧ ρ = st σ 3 (fun _ => v)) (xcp (goK (inR v (-1000000) 1000000) true true) xE1 xE2 xE3) := by
  refine th_of (cc := cX0_setWind) (maxL := 3) (ret := some .int) (by decide) rfl (Nat.le_of_ble_eq_true rfl) ?_
  intro p e s m args below meth c9 he hout hH hP hK hT ls hl
  obtain ⟨hx, hb, hr, hml, hown, hts, hlocks⟩ := he
  have hown : s.vm.findClass RX0 = some m.cls := hown
  have hS : va_S A Hi Hi [] := va_S.rf
  have hL : σ 7 0 = nI nL := hI.1
  have hL10 : nL ≤ 10 := hI.2.1
  have hB : σ 4 0 = nI nB := hI.2.2.1
  have hB6 : nB ≤ 6 := hI.2.2.2.1
  have hl : lv_has ls 3 [(0, .ref h), (1, .int v)] := hl
  have hin : ∀ w ∈ u_ws RX0 TX0 15, w ∈ wsX0_setWind := by decide +kernel
  refine lv_iload_n hx hb dX0_setWind_0 rfl (lv_at hl 1 rfl) ?_
  refine lv_ldc (v := (-1000000)) hx hb hown (hts (.constant RX0 85 (-1000000)) (by decide +kernel)) dX0_setWind_1 ?_
  refine lv_ldc (v := (1000000)) hx hb hown (hts (.constant RX0 61 (1000000)) (by decide +kernel)) dX0_setWind_3 ?_
  refine ck_callS 3 hx hb hml hown hts hlocks hout hl.1 hP hK hT (As := [.int v, .int (-1000000), .int 1000000]) (rest := []) (c_X0_checkRange l hfl D (xw cI cZ h a σ) (tyX cI cZ) Hi A v (-1000000) 1000000) gX0_setWind_X0_checkRange rfl rfl rfl (by decide +kernel) ⟨Nat.le_of_ble_eq_true rfl, Nat.le_of_ble_eq_true rfl⟩ rfl rfl (Nat.le_of_ble_eq_true rfl) dX0_setWind_5 ⟨Nat.le_of_ble_eq_true rfl, Nat.le_of_ble_eq_true rfl⟩ (fun q => Or.inl ⟨gk1 (nt q), rfl⟩) (fun c1 => ?_)
  refine lv_aload_n hx hb dX0_setWind_8 rfl (lv_at hl 0 rfl) ?_
  refine x_get hin hx hb hts hown hK hP rfl 3 (by decide) (v := .int (σ 3 0)) rfl (by decide +kernel) dX0_setWind_9 ?_
  refine lv_istore_n (lv' := [(2, .int (σ 3 0)), (0, .ref h), (1, .int v)]) hx hb dX0_setWind_12 rfl hl (by decide) rfl (fun ls hl => ?_)
  refine lv_aload_n hx hb dX0_setWind_13 rfl (lv_at hl 1 rfl) ?_
  refine lv_iload_n hx hb dX0_setWind_14 rfl (lv_at hl 2 rfl) ?_
  refine x_put hin hx hb hts hown hK hP hD hS rfl 3 (by decide) (by decide +kernel) rfl (by decide +kernel) (Nat.le_of_ble_eq_true rfl) dX0_setWind_15 (fun H locs hP hD hS => ?_)
  have hP : va_P D vwCl (xw cI cZ h a (st σ 3 (fun _ => v))) H := hP
  have hD : va_D A (xw cI cZ h a (st σ 3 (fun _ => v))) := hD
  refine lv_iload_n hx hb dX0_setWind_18 rfl (lv_at hl 0 rfl) ?_
  exact th_ret (v := (σ 3 0)) (st σ 3 (fun _ => v)) hx hb hr hlocks hH hS hP ⟨gk0 c1 rfl rfl, rfl, rfl⟩ dX0_setWind_19
set_option maxHeartbeats 4000000 in
set_option maxRecDepth 100000 in
/-- setLoad -/
theorem c_X0_setLoad (l : Launch) (hfl : l.stackTraces = false) (D : va_G) (cI cZ : ClassId) (h : Nat) (a : Nat → Nat) (σ : St) (Hi : Heap) (A : Nat → Prop) (hD : va_D A (xw cI cZ h a σ)) {nL nB : Nat} (hI : inv σ nL nB) (hour v : Int32) : thM l yX0_setLoad wsX0_setLoad ({ frames := 7, cells := 1, slots := 6, locals := 112 }) [.ref h, .int hour, .int v] D (xw cI cZ h a σ) (tyX cI cZ) Hi A (S := St) (fun ρ => xw cI cZ h a ρ) (fun r ρ => goK (inR hour 0 47) (inR v (-200) 200) true = 0 ∧ r = σ 1 (tN hour) ∧ ρ = st σ 1 (ldF (σ 1) (tN hour) v 48)) (xcp (goK (inR hour 0 47) (inR v (-200) 200) true) xE3 xE1 xE2) := by
  refine th_of (cc := cX0_setLoad) (maxL := 5) (ret := some .int) (by decide) rfl (Nat.le_of_ble_eq_true rfl) ?_
  intro p e s m args below meth c9 he hout hH hP hK hT ls hl
  obtain ⟨hx, hb, hr, hml, hown, hts, hlocks⟩ := he
  have hown : s.vm.findClass RX0 = some m.cls := hown
  have hS : va_S A Hi Hi [] := va_S.rf
  have hL : σ 7 0 = nI nL := hI.1
  have hL10 : nL ≤ 10 := hI.2.1
  have hB : σ 4 0 = nI nB := hI.2.2.1
  have hB6 : nB ≤ 6 := hI.2.2.2.1
  have hl : lv_has ls 5 [(0, .ref h), (1, .int hour), (2, .int v)] := hl
  have hin : ∀ w ∈ u_ws RX0 TX0 15, w ∈ wsX0_setLoad := by decide +kernel
  refine lv_iload_n hx hb dX0_setLoad_0 rfl (lv_at hl 1 rfl) ?_
  refine ck_callS 1 hx hb hml hown hts hlocks hout hl.1 hP hK hT (As := [.int hour]) (rest := []) (c_X0_checkHour l hfl D (xw cI cZ h a σ) (tyX cI cZ) Hi A hour) gX0_setLoad_X0_checkHour rfl rfl rfl (by decide +kernel) ⟨Nat.le_of_ble_eq_true rfl, Nat.le_of_ble_eq_true rfl⟩ rfl rfl (Nat.le_of_ble_eq_true rfl) dX0_setLoad_1 ⟨Nat.le_of_ble_eq_true rfl, Nat.le_of_ble_eq_true rfl⟩ (fun q => Or.inl ⟨gk1 (nt q), rfl⟩) (fun c1 => ?_)
  refine lv_iload_n hx hb dX0_setLoad_4 rfl (lv_at hl 2 rfl) ?_
  refine lv_sipush (v := (-200)) hx hb dX0_setLoad_5 (by decide) ?_
  refine lv_sipush (v := 200) hx hb dX0_setLoad_8 (by decide) ?_
  refine ck_callS 3 hx hb hml hown hts hlocks hout hl.1 hP hK hT (As := [.int v, .int (-200), .int 200]) (rest := []) (c_X0_checkRange l hfl D (xw cI cZ h a σ) (tyX cI cZ) Hi A v (-200) 200) gX0_setLoad_X0_checkRange rfl rfl rfl (by decide +kernel) ⟨Nat.le_of_ble_eq_true rfl, Nat.le_of_ble_eq_true rfl⟩ rfl rfl (Nat.le_of_ble_eq_true rfl) dX0_setLoad_11 ⟨Nat.le_of_ble_eq_true rfl, Nat.le_of_ble_eq_true rfl⟩ (fun q => Or.inr (Or.inl ⟨gk2 c1 (nt q), rfl⟩)) (fun c2 => ?_)
  obtain ⟨t, ht48, rfl⟩ := inR_hour c1
  have et : tN (nI t) = t := tN_nI (by omega)
  refine lv_aload_n hx hb dX0_setLoad_14 rfl (lv_at hl 0 rfl) ?_
  refine x_get hin hx hb hts hown hK hP rfl 1 (by decide) (v := .ref (a 1)) rfl (by decide +kernel) dX0_setLoad_15 ?_
  refine lv_iload_n hx hb dX0_setLoad_18 rfl (lv_at hl 1 rfl) ?_
  refine xa_ld hx hb hK hP 2 0 rfl rfl (j := t) ht48 (by decide) dX0_setLoad_19 ?_
  refine lv_istore_n (lv' := [(3, .int (σ 1 t)), (0, .ref h), (1, .int (nI t)), (2, .int v)]) hx hb dX0_setLoad_20 rfl hl (by decide) rfl (fun ls hl => ?_)
  refine lv_iload_n hx hb dX0_setLoad_21 rfl (lv_at hl 2 rfl) ?_
  refine lv_istore (lv' := [(4, .int (nI t)), (3, .int (σ 1 t)), (0, .ref h), (1, .int (nI t)), (2, .int v)]) hx hb dX0_setLoad_22 hl (by decide) rfl (fun ls hl => ?_)
  suffices K : ∀ (n k : Nat) (H : Heap) (locs : List Loc) (ls : Array Slot), k + n = 48 → t ≤ k → va_P D vwCl (xw cI cZ h a (st σ 1 (ldF (σ 1) t v k))) H → va_S A Hi H locs → lv_has ls 5 [(4, .int (nI k)), (3, .int (σ 1 t)), (0, .ref h), (1, .int (nI t)), (2, .int v)] → W p l e _ s m args below meth c9 H locs 0 0 (thQ below D Hi A (S := St) (fun ρ => xw cI cZ h a ρ) (fun r ρ => goK (inR (nI t) 0 47) (inR v (-200) 200) true = 0 ∧ r = σ 1 (tN (nI t)) ∧ ρ = st σ 1 (ldF (σ 1) (tN (nI t)) v 48)) (xcp (goK (inR (nI t) 0 47) (inR v (-200) 200) true) xE3 xE1 xE2) args s) (F0 m 24 ls []) by
    exact K (48 - t) t Hi [] ls (by omega) (Nat.le_refl _) (by rw [ldF_0]; exact hP) hS (lv_sub hl [0, 1, 2, 3, 4] rfl)
  intro n
  induction n with
  | zero =>
      intro k H locs ls hk htk hP hS hl
      refine lv_iload hx hb dX0_setLoad_24 (lv_at hl 0 rfl) ?_
      refine lv_bipush (v := 48) hx hb dX0_setLoad_26 (by decide) ?_
      refine lv_icmp_ge (tgt := 45) hx hb dX0_setLoad_28 (by decide) (fun c28 => ?_) (fun c28 => ?_)
      · rw [show k = 48 by omega] at hP
        refine lv_iload_n hx hb dX0_setLoad_45 rfl (lv_at hl 1 rfl) ?_
        exact th_ret (v := (σ 1 t)) (st σ 1 (ldF (σ 1) t v 48)) hx hb hr hlocks hH hS hP ⟨gk0 c1 c2 rfl, by rw [et], by rw [et]⟩ dX0_setLoad_46
      · exact absurd (nI_le (a := 48) (b := k) (by omega) (by omega)) c28
  | succ n ih =>
      intro k H locs ls hk htk hP hS hl
      have hD : va_D A (xw cI cZ h a (st σ 1 (ldF (σ 1) t v k))) := xD hD
      refine lv_iload hx hb dX0_setLoad_24 (lv_at hl 0 rfl) ?_
      refine lv_bipush (v := 48) hx hb dX0_setLoad_26 (by decide) ?_
      refine lv_icmp_ge (tgt := 45) hx hb dX0_setLoad_28 (by decide) (fun c28 => ?_) (fun c28 => ?_)
      · exact absurd c28 (nI_ge (a := k) (b := 48) (by omega) (by omega))
      · refine lv_aload_n hx hb dX0_setLoad_31 rfl (lv_at hl 2 rfl) ?_
        refine x_get hin hx hb hts hown hK hP rfl 1 (by decide) (v := .ref (a 1)) rfl (by decide +kernel) dX0_setLoad_32 ?_
        refine lv_iload hx hb dX0_setLoad_35 (lv_at hl 0 rfl) ?_
        refine lv_iload_n hx hb dX0_setLoad_37 rfl (lv_at hl 4 rfl) ?_
        refine xa_st hx hb hK hP hD hS 2 0 rfl rfl (j := k) (by omega) (by decide) dX0_setLoad_38 (fun H locs hP hD hS => ?_)
        have hP : va_P D vwCl (xw cI cZ h a (st (st σ 1 (ldF (σ 1) t v k)) 1 (upd ((st σ 1 (ldF (σ 1) t v k)) 1) k v))) H := hP
        have hD : va_D A (xw cI cZ h a (st (st σ 1 (ldF (σ 1) t v k)) 1 (upd ((st σ 1 (ldF (σ 1) t v k)) 1) k v))) := hD
        have hP : va_P D vwCl (xw cI cZ h a (st σ 1 (ldF (σ 1) t v (k + 1)))) H := by rw [← ldF_up htk]; exact hP
        refine lv_iinc (v := (nI (k + 1))) (lv' := [(4, .int (nI (k + 1))), (3, .int (σ 1 t)), (0, .ref h), (1, .int (nI t)), (2, .int v)]) hx hb dX0_setLoad_39 hl (k := 0) rfl (by exact nI_add _ 1) (by decide) rfl (fun ls hl => ?_)
        refine lv_goto (tgt := 24) hx hb dX0_setLoad_42 (by decide) ?_
        exact ih (k + 1) H locs ls (by omega) (by omega) hP hS (lv_sub hl [0, 1, 2, 3, 4] rfl)
set_option maxHeartbeats 4000000 in
set_option maxRecDepth 100000 in
/-- toggle -/
theorem c_X0_toggle (l : Launch) (hfl : l.stackTraces = false) (D : va_G) (cI cZ : ClassId) (h : Nat) (a : Nat → Nat) (σ : St) (Hi : Heap) (A : Nat → Prop) (hD : va_D A (xw cI cZ h a σ)) {nL nB : Nat} (hI : inv σ nL nB) (line : Int32) : thM l yX0_toggle wsX0_toggle ({ frames := 7, cells := 1, slots := 6, locals := 111 }) [.ref h, .int line] D (xw cI cZ h a σ) (tyX cI cZ) Hi A (S := St) (fun ρ => xw cI cZ h a ρ) (fun r ρ => goK (inR line 0 (nI nL - 1)) true true = 0 ∧ r = nxF σ (tN line) ∧ ρ = st σ 13 (upd (σ 13) (tN line) (nxF σ (tN line)))) (xcp (goK (inR line 0 (nI nL - 1)) true true) xE3 xE1 xE2) := by
  refine th_of (cc := cX0_toggle) (maxL := 2) (ret := some .boolean) (by decide) rfl (Nat.le_of_ble_eq_true rfl) ?_
  intro p e s m args below meth c9 he hout hH hP hK hT ls hl
  obtain ⟨hx, hb, hr, hml, hown, hts, hlocks⟩ := he
  have hown : s.vm.findClass RX0 = some m.cls := hown
  have hS : va_S A Hi Hi [] := va_S.rf
  have hL : σ 7 0 = nI nL := hI.1
  have hL10 : nL ≤ 10 := hI.2.1
  have hB : σ 4 0 = nI nB := hI.2.2.1
  have hB6 : nB ≤ 6 := hI.2.2.2.1
  have hl : lv_has ls 2 [(0, .ref h), (1, .int line)] := hl
  have hin : ∀ w ∈ u_ws RX0 TX0 15, w ∈ wsX0_toggle := by decide +kernel
  refine lv_aload_n hx hb dX0_toggle_0 rfl (lv_at hl 0 rfl) ?_
  refine lv_iload_n hx hb dX0_toggle_1 rfl (lv_at hl 1 rfl) ?_
  refine ck_callV 1 hx hb hml hown hts hlocks hout hl.1 hP hK hT 0 0 rfl rfl (As := [.int line]) (rest := []) (c_X0_checkLine l hfl D cI cZ h a σ Hi A hI line) gX0_toggle_X0_checkLine rfl rfl rfl (by decide +kernel) ⟨Nat.le_of_ble_eq_true rfl, Nat.le_of_ble_eq_true rfl⟩ rfl rfl (Nat.le_of_ble_eq_true rfl) dX0_toggle_2 ⟨Nat.le_of_ble_eq_true rfl, Nat.le_of_ble_eq_true rfl⟩ (fun q => Or.inl ⟨gk1 (nt q), rfl⟩) (fun c1 => ?_)
  obtain ⟨j, hj, rfl⟩ := inR_line (by omega) c1
  have ej : tN (nI j) = j := tN_nI (by omega)
  refine lv_aload_n hx hb dX0_toggle_5 rfl (lv_at hl 0 rfl) ?_
  refine x_get hin hx hb hts hown hK hP rfl 13 (by decide) (v := .ref (a 13)) rfl (by decide +kernel) dX0_toggle_6 ?_
  refine lv_iload_n hx hb dX0_toggle_9 rfl (lv_at hl 1 rfl) ?_
  refine lv_aload_n hx hb dX0_toggle_10 rfl (lv_at hl 0 rfl) ?_
  refine x_get hin hx hb hts hown hK hP rfl 13 (by decide) (v := .ref (a 13)) rfl (by decide +kernel) dX0_toggle_11 ?_
  refine lv_iload_n hx hb dX0_toggle_14 rfl (lv_at hl 1 rfl) ?_
  refine xa_zld hx hb hK hP 11 1 rfl rfl (j := j) (by omega) (by decide) dX0_toggle_15 ?_
  refine lv_if_ne (tgt := 23) hx hb dX0_toggle_16 (by decide) (fun c16 => ?_) (fun c16 => ?_)
  · refine lv_iconst (v := 0) hx hb dX0_toggle_23 (by decide) ?_
    refine lv_topi (fun y9 e9 => ?_)
    rw [show y9 = (nxF σ j) from e9.trans (by unfold nxF; rw [if_neg c16])]
    refine xa_zst hx hb hK hP hD hS 11 1 rfl rfl (j := j) (by unfold nxF; rw [if_neg c16]; rfl) (by omega) (by decide) dX0_toggle_24 (fun H locs hP hD hS => ?_)
    have hP : va_P D vwCl (xw cI cZ h a (st σ 13 (upd (σ 13) j (nxF σ j)))) H := hP
    have hD : va_D A (xw cI cZ h a (st σ 13 (upd (σ 13) j (nxF σ j)))) := hD
    refine lv_aload_n hx hb dX0_toggle_25 rfl (lv_at hl 0 rfl) ?_
    refine x_get hin hx hb hts hown hK hP rfl 13 (by decide) (v := .ref (a 13)) rfl (by decide +kernel) dX0_toggle_26 ?_
    refine lv_iload_n hx hb dX0_toggle_29 rfl (lv_at hl 1 rfl) ?_
    refine xa_zld hx hb hK hP 11 1 rfl rfl (j := j) (by omega) (by decide) dX0_toggle_30 ?_
    rw [show (st σ 13 (upd (σ 13) j (nxF σ j))) 13 j = (nxF σ j) from by show (if j = j then _ else _) = _; rw [if_pos rfl]]
    exact th_zret (v := (nxF σ j)) (st σ 13 (upd (σ 13) j (nxF σ j))) hx hb hr hlocks hH hS hP (by unfold nxF; rw [if_neg c16]; exact ⟨false, rfl⟩) ⟨gk0 c1 rfl rfl, by rw [ej], by rw [ej]⟩ dX0_toggle_31
  · refine lv_iconst (v := 1) hx hb dX0_toggle_19 (by decide) ?_
    refine lv_goto (tgt := 24) hx hb dX0_toggle_20 (by decide) ?_
    refine lv_topi (fun y9 e9 => ?_)
    rw [show y9 = (nxF σ j) from e9.trans (by unfold nxF; rw [if_pos c16])]
    refine xa_zst hx hb hK hP hD hS 11 1 rfl rfl (j := j) (by unfold nxF; rw [if_pos c16]; rfl) (by omega) (by decide) dX0_toggle_24 (fun H locs hP hD hS => ?_)
    have hP : va_P D vwCl (xw cI cZ h a (st σ 13 (upd (σ 13) j (nxF σ j)))) H := hP
    have hD : va_D A (xw cI cZ h a (st σ 13 (upd (σ 13) j (nxF σ j)))) := hD
    refine lv_aload_n hx hb dX0_toggle_25 rfl (lv_at hl 0 rfl) ?_
    refine x_get hin hx hb hts hown hK hP rfl 13 (by decide) (v := .ref (a 13)) rfl (by decide +kernel) dX0_toggle_26 ?_
    refine lv_iload_n hx hb dX0_toggle_29 rfl (lv_at hl 1 rfl) ?_
    refine xa_zld hx hb hK hP 11 1 rfl rfl (j := j) (by omega) (by decide) dX0_toggle_30 ?_
    rw [show (st σ 13 (upd (σ 13) j (nxF σ j))) 13 j = (nxF σ j) from by show (if j = j then _ else _) = _; rw [if_pos rfl]]
    exact th_zret (v := (nxF σ j)) (st σ 13 (upd (σ 13) j (nxF σ j))) hx hb hr hlocks hH hS hP (by unfold nxF; rw [if_pos c16]; exact ⟨true, rfl⟩) ⟨gk0 c1 rfl rfl, by rw [ej], by rw [ej]⟩ dX0_toggle_31
set_option maxHeartbeats 4000000 in
set_option maxRecDepth 100000 in
/-- addBollard -/
theorem c_X0_addBollard (l : Launch) (hfl : l.stackTraces = false) (D : va_G) (cI cZ : ClassId) (h : Nat) (a : Nat → Nat) (σ : St) (Hi : Heap) (A : Nat → Prop) (hD : va_D A (xw cI cZ h a σ)) {nL nB : Nat} (hI : inv σ nL nB) (pl lim : Int32) : thM l yX0_addBollard wsX0_addBollard ({ frames := 7, cells := 1, slots := 6, locals := 112 }) [.ref h, .int pl, .int lim] D (xw cI cZ h a σ) (tyX cI cZ) Hi A (S := St) (fun ρ => xw cI cZ h a ρ) (fun r ρ => goK (inR pl (-5000) 5000 && inR lim 1 1000000) (decide (nB < 6)) true = 0 ∧ r = nI nB ∧ ρ = abS σ nB pl lim) (xcp (goK (inR pl (-5000) 5000 && inR lim 1 1000000) (decide (nB < 6)) true) xE1 xE2 xE3) := by
  refine th_of (cc := cX0_addBollard) (maxL := 4) (ret := some .int) (by decide) rfl (Nat.le_of_ble_eq_true rfl) ?_
  intro p e s m args below meth c9 he hout hH hP hK hT ls hl
  obtain ⟨hx, hb, hr, hml, hown, hts, hlocks⟩ := he
  have hown : s.vm.findClass RX0 = some m.cls := hown
  have hS : va_S A Hi Hi [] := va_S.rf
  have hL : σ 7 0 = nI nL := hI.1
  have hL10 : nL ≤ 10 := hI.2.1
  have hB : σ 4 0 = nI nB := hI.2.2.1
  have hB6 : nB ≤ 6 := hI.2.2.2.1
  have hl : lv_has ls 4 [(0, .ref h), (1, .int pl), (2, .int lim)] := hl
  have hin : ∀ w ∈ u_ws RX0 TX0 15, w ∈ wsX0_addBollard := by decide +kernel
  refine lv_iload_n hx hb dX0_addBollard_0 rfl (lv_at hl 1 rfl) ?_
  refine lv_sipush (v := (-5000)) hx hb dX0_addBollard_1 (by decide) ?_
  refine lv_sipush (v := 5000) hx hb dX0_addBollard_4 (by decide) ?_
  refine ck_callS 3 hx hb hml hown hts hlocks hout hl.1 hP hK hT (As := [.int pl, .int (-5000), .int 5000]) (rest := []) (c_X0_checkRange l hfl D (xw cI cZ h a σ) (tyX cI cZ) Hi A pl (-5000) 5000) gX0_addBollard_X0_checkRange rfl rfl rfl (by decide +kernel) ⟨Nat.le_of_ble_eq_true rfl, Nat.le_of_ble_eq_true rfl⟩ rfl rfl (Nat.le_of_ble_eq_true rfl) dX0_addBollard_7 ⟨Nat.le_of_ble_eq_true rfl, Nat.le_of_ble_eq_true rfl⟩ (fun q => Or.inl ⟨gk1 (an1 (nt q)), rfl⟩) (fun c1 => ?_)
  refine lv_iload_n hx hb dX0_addBollard_10 rfl (lv_at hl 2 rfl) ?_
  refine lv_iconst (v := 1) hx hb dX0_addBollard_11 (by decide) ?_
  refine lv_ldc (v := (1000000)) hx hb hown (hts (.constant RX0 61 (1000000)) (by decide +kernel)) dX0_addBollard_12 ?_
  refine ck_callS 3 hx hb hml hown hts hlocks hout hl.1 hP hK hT (As := [.int lim, .int 1, .int 1000000]) (rest := []) (c_X0_checkRange l hfl D (xw cI cZ h a σ) (tyX cI cZ) Hi A lim 1 1000000) gX0_addBollard_X0_checkRange rfl rfl rfl (by decide +kernel) ⟨Nat.le_of_ble_eq_true rfl, Nat.le_of_ble_eq_true rfl⟩ rfl rfl (Nat.le_of_ble_eq_true rfl) dX0_addBollard_14 ⟨Nat.le_of_ble_eq_true rfl, Nat.le_of_ble_eq_true rfl⟩ (fun q => Or.inl ⟨gk1 (an2 (nt q)), rfl⟩) (fun c2 => ?_)
  refine lv_aload_n hx hb dX0_addBollard_17 rfl (lv_at hl 0 rfl) ?_
  refine x_get hin hx hb hts hown hK hP rfl 4 (by decide) (v := .int (nI nB)) (congrArg (fun z => some (Value.int z)) hB) (by decide +kernel) dX0_addBollard_18 ?_
  refine lv_bipush (v := 6) hx hb dX0_addBollard_21 (by decide) ?_
  refine lv_icmp_lt (tgt := 36) hx hb dX0_addBollard_23 (by decide) (fun c23 => ?_) (fun c23 => ?_)
  · have hlt : nB < 6 := (nI_ltI (a := nB) (b := 6) (by omega) (by omega)).mp c23
    refine lv_aload_n hx hb dX0_addBollard_36 rfl (lv_at hl 0 rfl) ?_
    refine x_get hin hx hb hts hown hK hP rfl 4 (by decide) (v := .int (nI nB)) (congrArg (fun z => some (Value.int z)) hB) (by decide +kernel) dX0_addBollard_37 ?_
    refine lv_istore_n (lv' := [(3, .int (nI nB)), (0, .ref h), (1, .int pl), (2, .int lim)]) hx hb dX0_addBollard_40 rfl hl (by decide) rfl (fun ls hl => ?_)
    refine lv_aload_n hx hb dX0_addBollard_41 rfl (lv_at hl 1 rfl) ?_
    refine x_get hin hx hb hts hown hK hP rfl 5 (by decide) (v := .ref (a 5)) rfl (by decide +kernel) dX0_addBollard_42 ?_
    refine lv_iload_n hx hb dX0_addBollard_45 rfl (lv_at hl 0 rfl) ?_
    refine lv_iload_n hx hb dX0_addBollard_46 rfl (lv_at hl 2 rfl) ?_
    refine xa_st hx hb hK hP hD hS 4 0 rfl rfl (j := nB) hlt (by decide) dX0_addBollard_47 (fun H locs hP hD hS => ?_)
    have hP : va_P D vwCl (xw cI cZ h a (st σ 5 (upd (σ 5) nB pl))) H := hP
    have hD : va_D A (xw cI cZ h a (st σ 5 (upd (σ 5) nB pl))) := hD
    refine lv_aload_n hx hb dX0_addBollard_48 rfl (lv_at hl 1 rfl) ?_
    refine x_get hin hx hb hts hown hK hP rfl 6 (by decide) (v := .ref (a 6)) rfl (by decide +kernel) dX0_addBollard_49 ?_
    refine lv_iload_n hx hb dX0_addBollard_52 rfl (lv_at hl 0 rfl) ?_
    refine lv_iload_n hx hb dX0_addBollard_53 rfl (lv_at hl 3 rfl) ?_
    refine xa_st hx hb hK hP hD hS 5 0 rfl rfl (j := nB) hlt (by decide) dX0_addBollard_54 (fun H locs hP hD hS => ?_)
    have hP : va_P D vwCl (xw cI cZ h a (st (st σ 5 (upd (σ 5) nB pl)) 6 (upd ((st σ 5 (upd (σ 5) nB pl)) 6) nB lim))) H := hP
    have hD : va_D A (xw cI cZ h a (st (st σ 5 (upd (σ 5) nB pl)) 6 (upd ((st σ 5 (upd (σ 5) nB pl)) 6) nB lim))) := hD
    refine lv_aload_n hx hb dX0_addBollard_55 rfl (lv_at hl 1 rfl) ?_
    refine lv_iload_n hx hb dX0_addBollard_56 rfl (lv_at hl 0 rfl) ?_
    refine lv_iconst (v := 1) hx hb dX0_addBollard_57 (by decide) ?_
    refine lv_iadd hx hb dX0_addBollard_58 ?_
    rw [nI_1]
    refine x_put hin hx hb hts hown hK hP hD hS rfl 4 (by decide) (by decide +kernel) rfl (by decide +kernel) (Nat.le_of_ble_eq_true rfl) dX0_addBollard_59 (fun H locs hP hD hS => ?_)
    have hP : va_P D vwCl (xw cI cZ h a (st (st (st σ 5 (upd (σ 5) nB pl)) 6 (upd ((st σ 5 (upd (σ 5) nB pl)) 6) nB lim)) 4 (fun _ => (nI (nB + 1))))) H := hP
    have hD : va_D A (xw cI cZ h a (st (st (st σ 5 (upd (σ 5) nB pl)) 6 (upd ((st σ 5 (upd (σ 5) nB pl)) 6) nB lim)) 4 (fun _ => (nI (nB + 1))))) := hD
    refine lv_iload_n hx hb dX0_addBollard_62 rfl (lv_at hl 0 rfl) ?_
    exact th_ret (v := (nI nB)) (abS σ nB pl lim) hx hb hr hlocks hH hS hP ⟨gk0 (ant c1 c2) (decide_eq_true hlt) rfl, rfl, rfl⟩ dX0_addBollard_63
  · obtain ⟨sa, hsa⟩ := hT.2.1.1
    exact thr_go (A := A) (cls := xE2) (ik := 62) (ic := 66) hfl hx hb hown hlocks hout (by rw [hml]; exact hl.1) hH (by decide +kernel) (hts (.classLink RX0 62 xE2) (by decide +kernel)) (hts (.initialized xE2) (by decide +kernel)) hsa (fun w hw => hts w ((show ∀ w ∈ (vx_atS RX0 66 xE2 xNs).filter goodWord, w ∈ wsX0_addBollard by decide +kernel) w hw)) xh2 (xb2 hT.2) xg2 hT.1 dX0_addBollard_26 dX0_addBollard_29 dX0_addBollard_30 dX0_addBollard_32 dX0_addBollard_35 (Nat.le_of_ble_eq_true rfl) (Nat.le_of_ble_eq_true rfl) (Nat.le_of_ble_eq_true rfl) (Nat.le_of_ble_eq_true rfl) (fun t hgr => ⟨Or.inr (Or.inl ⟨gk2 (ant c1 c2) (decide_eq_false (fun w => c23 ((nI_ltI (a := nB) (b := 6) (by omega) (by omega)).mpr w))), rfl⟩), hgr⟩)
set_option maxHeartbeats 4000000 in
set_option maxRecDepth 100000 in
/-- addLine -/
theorem c_X0_addLine (l : Launch) (hfl : l.stackTraces = false) (D : va_G) (cI cZ : ClassId) (h : Nat) (a : Nat → Nat) (σ : St) (Hi : Heap) (A : Nat → Prop) (hD : va_D A (xw cI cZ h a σ)) {nL nB : Nat} (hI : inv σ nL nB) (pt bo sf sr : Int32) : thM l yX0_addLine wsX0_addLine ({ frames := 7, cells := 1, slots := 6, locals := 112 }) [.ref h, .int pt, .int bo, .int sf, .int sr] D (xw cI cZ h a σ) (tyX cI cZ) Hi A (S := St) (fun ρ => xw cI cZ h a ρ) (fun r ρ => goK (inR bo 0 (nI nB - 1)) (inR pt (-5000) 5000 && (inR sf 1 100 && inR sr 1 1000000)) (decide (nL < 10)) = 0 ∧ r = nI nL ∧ ρ = alS σ nL pt bo sf sr) (xcp (goK (inR bo 0 (nI nB - 1)) (inR pt (-5000) 5000 && (inR sf 1 100 && inR sr 1 1000000)) (decide (nL < 10))) xE3 xE1 xE2) := by
  refine th_of (cc := cX0_addLine) (maxL := 7) (ret := some .int) (by decide) rfl (Nat.le_of_ble_eq_true rfl) ?_
  intro p e s m args below meth c9 he hout hH hP hK hT ls hl
  obtain ⟨hx, hb, hr, hml, hown, hts, hlocks⟩ := he
  have hown : s.vm.findClass RX0 = some m.cls := hown
  have hS : va_S A Hi Hi [] := va_S.rf
  have hL : σ 7 0 = nI nL := hI.1
  have hL10 : nL ≤ 10 := hI.2.1
  have hB : σ 4 0 = nI nB := hI.2.2.1
  have hB6 : nB ≤ 6 := hI.2.2.2.1
  have hl : lv_has ls 7 [(0, .ref h), (1, .int pt), (2, .int bo), (3, .int sf), (4, .int sr)] := hl
  have hin : ∀ w ∈ u_ws RX0 TX0 15, w ∈ wsX0_addLine := by decide +kernel
  refine lv_aload_n hx hb dX0_addLine_0 rfl (lv_at hl 0 rfl) ?_
  refine lv_iload_n hx hb dX0_addLine_1 rfl (lv_at hl 2 rfl) ?_
  refine ck_callV 1 hx hb hml hown hts hlocks hout hl.1 hP hK hT 0 0 rfl rfl (As := [.int bo]) (rest := []) (c_X0_checkBollard l hfl D cI cZ h a σ Hi A hI bo) gX0_addLine_X0_checkBollard rfl rfl rfl (by decide +kernel) ⟨Nat.le_of_ble_eq_true rfl, Nat.le_of_ble_eq_true rfl⟩ rfl rfl (Nat.le_of_ble_eq_true rfl) dX0_addLine_2 ⟨Nat.le_of_ble_eq_true rfl, Nat.le_of_ble_eq_true rfl⟩ (fun q => Or.inl ⟨gk1 (nt q), rfl⟩) (fun c1 => ?_)
  refine lv_iload_n hx hb dX0_addLine_5 rfl (lv_at hl 1 rfl) ?_
  refine lv_sipush (v := (-5000)) hx hb dX0_addLine_6 (by decide) ?_
  refine lv_sipush (v := 5000) hx hb dX0_addLine_9 (by decide) ?_
  refine ck_callS 3 hx hb hml hown hts hlocks hout hl.1 hP hK hT (As := [.int pt, .int (-5000), .int 5000]) (rest := []) (c_X0_checkRange l hfl D (xw cI cZ h a σ) (tyX cI cZ) Hi A pt (-5000) 5000) gX0_addLine_X0_checkRange rfl rfl rfl (by decide +kernel) ⟨Nat.le_of_ble_eq_true rfl, Nat.le_of_ble_eq_true rfl⟩ rfl rfl (Nat.le_of_ble_eq_true rfl) dX0_addLine_12 ⟨Nat.le_of_ble_eq_true rfl, Nat.le_of_ble_eq_true rfl⟩ (fun q => Or.inr (Or.inl ⟨gk2 c1 (an1 (nt q)), rfl⟩)) (fun c2 => ?_)
  refine lv_iload_n hx hb dX0_addLine_15 rfl (lv_at hl 3 rfl) ?_
  refine lv_iconst (v := 1) hx hb dX0_addLine_16 (by decide) ?_
  refine lv_bipush (v := 100) hx hb dX0_addLine_17 (by decide) ?_
  refine ck_callS 3 hx hb hml hown hts hlocks hout hl.1 hP hK hT (As := [.int sf, .int 1, .int 100]) (rest := []) (c_X0_checkRange l hfl D (xw cI cZ h a σ) (tyX cI cZ) Hi A sf 1 100) gX0_addLine_X0_checkRange rfl rfl rfl (by decide +kernel) ⟨Nat.le_of_ble_eq_true rfl, Nat.le_of_ble_eq_true rfl⟩ rfl rfl (Nat.le_of_ble_eq_true rfl) dX0_addLine_19 ⟨Nat.le_of_ble_eq_true rfl, Nat.le_of_ble_eq_true rfl⟩ (fun q => Or.inr (Or.inl ⟨gk2 c1 (an2 (an1 (nt q))), rfl⟩)) (fun c3 => ?_)
  refine lv_iload hx hb dX0_addLine_22 (lv_at hl 4 rfl) ?_
  refine lv_iconst (v := 1) hx hb dX0_addLine_24 (by decide) ?_
  refine lv_ldc (v := (1000000)) hx hb hown (hts (.constant RX0 61 (1000000)) (by decide +kernel)) dX0_addLine_25 ?_
  refine ck_callS 3 hx hb hml hown hts hlocks hout hl.1 hP hK hT (As := [.int sr, .int 1, .int 1000000]) (rest := []) (c_X0_checkRange l hfl D (xw cI cZ h a σ) (tyX cI cZ) Hi A sr 1 1000000) gX0_addLine_X0_checkRange rfl rfl rfl (by decide +kernel) ⟨Nat.le_of_ble_eq_true rfl, Nat.le_of_ble_eq_true rfl⟩ rfl rfl (Nat.le_of_ble_eq_true rfl) dX0_addLine_27 ⟨Nat.le_of_ble_eq_true rfl, Nat.le_of_ble_eq_true rfl⟩ (fun q => Or.inr (Or.inl ⟨gk2 c1 (an2 (an2 (nt q))), rfl⟩)) (fun c4 => ?_)
  refine lv_aload_n hx hb dX0_addLine_30 rfl (lv_at hl 0 rfl) ?_
  refine x_get hin hx hb hts hown hK hP rfl 7 (by decide) (v := .int (nI nL)) (congrArg (fun z => some (Value.int z)) hL) (by decide +kernel) dX0_addLine_31 ?_
  refine lv_bipush (v := 10) hx hb dX0_addLine_34 (by decide) ?_
  refine lv_icmp_lt (tgt := 49) hx hb dX0_addLine_36 (by decide) (fun c36 => ?_) (fun c36 => ?_)
  · have hlt : nL < 10 := (nI_ltI (a := nL) (b := 10) (by omega) (by omega)).mp c36
    obtain ⟨b, hb_, rfl⟩ := inR_line (by omega) c1
    have eb : tN (nI b) = b := tN_nI (by omega)
    refine lv_aload_n hx hb dX0_addLine_49 rfl (lv_at hl 0 rfl) ?_
    refine x_get hin hx hb hts hown hK hP rfl 7 (by decide) (v := .int (nI nL)) (congrArg (fun z => some (Value.int z)) hL) (by decide +kernel) dX0_addLine_50 ?_
    refine lv_istore (lv' := [(5, .int (nI nL)), (0, .ref h), (1, .int pt), (2, .int (nI b)), (3, .int sf), (4, .int sr)]) hx hb dX0_addLine_53 hl (by decide) rfl (fun ls hl => ?_)
    refine lv_aload_n hx hb dX0_addLine_55 rfl (lv_at hl 1 rfl) ?_
    refine x_get hin hx hb hts hown hK hP rfl 5 (by decide) (v := .ref (a 5)) rfl (by decide +kernel) dX0_addLine_56 ?_
    refine lv_iload_n hx hb dX0_addLine_59 rfl (lv_at hl 3 rfl) ?_
    refine xa_ld hx hb hK hP 4 0 rfl rfl (j := b) (by omega) (by decide) dX0_addLine_60 ?_
    refine lv_iload_n hx hb dX0_addLine_61 rfl (lv_at hl 2 rfl) ?_
    refine lv_isub hx hb dX0_addLine_62 ?_
    refine lv_istore (lv' := [(6, .int ((σ 5 b) - pt)), (5, .int (nI nL)), (0, .ref h), (1, .int pt), (2, .int (nI b)), (3, .int sf), (4, .int sr)]) hx hb dX0_addLine_63 hl (by decide) rfl (fun ls hl => ?_)
    refine lv_aload_n hx hb dX0_addLine_65 rfl (lv_at hl 2 rfl) ?_
    refine x_get hin hx hb hts hown hK hP rfl 8 (by decide) (v := .ref (a 8)) rfl (by decide +kernel) dX0_addLine_66 ?_
    refine lv_iload hx hb dX0_addLine_69 (lv_at hl 1 rfl) ?_
    refine lv_iload_n hx hb dX0_addLine_71 rfl (lv_at hl 4 rfl) ?_
    refine xa_st hx hb hK hP hD hS 6 0 rfl rfl (j := nL) hlt (by decide) dX0_addLine_72 (fun H locs hP hD hS => ?_)
    have hP : va_P D vwCl (xw cI cZ h a (st σ 8 (upd (σ 8) nL (nI b)))) H := hP
    have hD : va_D A (xw cI cZ h a (st σ 8 (upd (σ 8) nL (nI b)))) := hD
    refine lv_aload_n hx hb dX0_addLine_73 rfl (lv_at hl 2 rfl) ?_
    refine x_get hin hx hb hts hown hK hP rfl 9 (by decide) (v := .ref (a 9)) rfl (by decide +kernel) dX0_addLine_74 ?_
    refine lv_iload hx hb dX0_addLine_77 (lv_at hl 1 rfl) ?_
    refine lv_iload hx hb dX0_addLine_79 (lv_at hl 0 rfl) ?_
    refine xa_st hx hb hK hP hD hS 7 0 rfl rfl (j := nL) hlt (by decide) dX0_addLine_81 (fun H locs hP hD hS => ?_)
    have hP : va_P D vwCl (xw cI cZ h a (st (st σ 8 (upd (σ 8) nL (nI b))) 9 (upd ((st σ 8 (upd (σ 8) nL (nI b))) 9) nL ((σ 5 b) - pt)))) H := hP
    have hD : va_D A (xw cI cZ h a (st (st σ 8 (upd (σ 8) nL (nI b))) 9 (upd ((st σ 8 (upd (σ 8) nL (nI b))) 9) nL ((σ 5 b) - pt)))) := hD
    refine lv_aload_n hx hb dX0_addLine_82 rfl (lv_at hl 2 rfl) ?_
    refine x_get hin hx hb hts hown hK hP rfl 10 (by decide) (v := .ref (a 10)) rfl (by decide +kernel) dX0_addLine_83 ?_
    refine lv_iload hx hb dX0_addLine_86 (lv_at hl 1 rfl) ?_
    refine lv_iload_n hx hb dX0_addLine_88 rfl (lv_at hl 5 rfl) ?_
    refine xa_st hx hb hK hP hD hS 8 0 rfl rfl (j := nL) hlt (by decide) dX0_addLine_89 (fun H locs hP hD hS => ?_)
    have hP : va_P D vwCl (xw cI cZ h a (st (st (st σ 8 (upd (σ 8) nL (nI b))) 9 (upd ((st σ 8 (upd (σ 8) nL (nI b))) 9) nL ((σ 5 b) - pt))) 10 (upd ((st (st σ 8 (upd (σ 8) nL (nI b))) 9 (upd ((st σ 8 (upd (σ 8) nL (nI b))) 9) nL ((σ 5 b) - pt))) 10) nL sf))) H := hP
    have hD : va_D A (xw cI cZ h a (st (st (st σ 8 (upd (σ 8) nL (nI b))) 9 (upd ((st σ 8 (upd (σ 8) nL (nI b))) 9) nL ((σ 5 b) - pt))) 10 (upd ((st (st σ 8 (upd (σ 8) nL (nI b))) 9 (upd ((st σ 8 (upd (σ 8) nL (nI b))) 9) nL ((σ 5 b) - pt))) 10) nL sf))) := hD
    refine lv_aload_n hx hb dX0_addLine_90 rfl (lv_at hl 2 rfl) ?_
    refine x_get hin hx hb hts hown hK hP rfl 11 (by decide) (v := .ref (a 11)) rfl (by decide +kernel) dX0_addLine_91 ?_
    refine lv_iload hx hb dX0_addLine_94 (lv_at hl 1 rfl) ?_
    refine lv_iload hx hb dX0_addLine_96 (lv_at hl 6 rfl) ?_
    refine xa_st hx hb hK hP hD hS 9 0 rfl rfl (j := nL) hlt (by decide) dX0_addLine_98 (fun H locs hP hD hS => ?_)
    have hP : va_P D vwCl (xw cI cZ h a (st (st (st (st σ 8 (upd (σ 8) nL (nI b))) 9 (upd ((st σ 8 (upd (σ 8) nL (nI b))) 9) nL ((σ 5 b) - pt))) 10 (upd ((st (st σ 8 (upd (σ 8) nL (nI b))) 9 (upd ((st σ 8 (upd (σ 8) nL (nI b))) 9) nL ((σ 5 b) - pt))) 10) nL sf)) 11 (upd ((st (st (st σ 8 (upd (σ 8) nL (nI b))) 9 (upd ((st σ 8 (upd (σ 8) nL (nI b))) 9) nL ((σ 5 b) - pt))) 10 (upd ((st (st σ 8 (upd (σ 8) nL (nI b))) 9 (upd ((st σ 8 (upd (σ 8) nL (nI b))) 9) nL ((σ 5 b) - pt))) 10) nL sf)) 11) nL sr))) H := hP
    have hD : va_D A (xw cI cZ h a (st (st (st (st σ 8 (upd (σ 8) nL (nI b))) 9 (upd ((st σ 8 (upd (σ 8) nL (nI b))) 9) nL ((σ 5 b) - pt))) 10 (upd ((st (st σ 8 (upd (σ 8) nL (nI b))) 9 (upd ((st σ 8 (upd (σ 8) nL (nI b))) 9) nL ((σ 5 b) - pt))) 10) nL sf)) 11 (upd ((st (st (st σ 8 (upd (σ 8) nL (nI b))) 9 (upd ((st σ 8 (upd (σ 8) nL (nI b))) 9) nL ((σ 5 b) - pt))) 10 (upd ((st (st σ 8 (upd (σ 8) nL (nI b))) 9 (upd ((st σ 8 (upd (σ 8) nL (nI b))) 9) nL ((σ 5 b) - pt))) 10) nL sf)) 11) nL sr))) := hD
    refine lv_aload_n hx hb dX0_addLine_99 rfl (lv_at hl 2 rfl) ?_
    refine x_get hin hx hb hts hown hK hP rfl 12 (by decide) (v := .ref (a 12)) rfl (by decide +kernel) dX0_addLine_100 ?_
    refine lv_iload hx hb dX0_addLine_103 (lv_at hl 1 rfl) ?_
    refine lv_iload hx hb dX0_addLine_105 (lv_at hl 0 rfl) ?_
    refine lv_sipush (v := 300) hx hb dX0_addLine_107 (by decide) ?_
    obtain ⟨p1, p2⟩ := hI.2.2.2.2.2.1 b hb_
    obtain ⟨q1, q2⟩ := inR_sp c2
    have e5 : (-5000 : Int32).toInt = -5000 := rfl
    have e6 : (5000 : Int32).toInt = 5000 := rfl
    have e7 : (300 : Int32).toInt = 300 := rfl
    have hA_ : inA (σ 5 b - pt) := by unfold inA; rw [Jvm.Kit.i32_sub (by omega) (by omega)]; omega
    have hH_ : inH 300 := by unfold inH; rw [e7]; omega
    refine ro_callS 2 hx hb hml hown hts hl.1 hP hK (As := [.int ((σ 5 b) - pt), .int 300]) (rest := [.int (nI nL), .ref (a 12)]) (c_X0_lengthOver l D (xw cI cZ h a (st (st (st (st σ 8 (upd (σ 8) nL (nI b))) 9 (upd ((st σ 8 (upd (σ 8) nL (nI b))) 9) nL ((σ 5 b) - pt))) 10 (upd ((st (st σ 8 (upd (σ 8) nL (nI b))) 9 (upd ((st σ 8 (upd (σ 8) nL (nI b))) 9) nL ((σ 5 b) - pt))) 10) nL sf)) 11 (upd ((st (st (st σ 8 (upd (σ 8) nL (nI b))) 9 (upd ((st σ 8 (upd (σ 8) nL (nI b))) 9) nL ((σ 5 b) - pt))) 10 (upd ((st (st σ 8 (upd (σ 8) nL (nI b))) 9 (upd ((st σ 8 (upd (σ 8) nL (nI b))) 9) nL ((σ 5 b) - pt))) 10) nL sf)) 11) nL sr))) (tyX cI cZ) H (σ 5 b - pt) 300 hA_ hH_) gX0_addLine_X0_lengthOver rfl rfl rfl (by decide +kernel) ⟨Nat.le_of_ble_eq_true rfl, Nat.le_of_ble_eq_true rfl⟩ rfl rfl (Nat.le_of_ble_eq_true rfl) dX0_addLine_110 ⟨Nat.zero_le _, Nat.zero_le _⟩ (fun r1 hr1 => ?_)
    subst hr1
    refine xa_st hx hb hK hP hD hS 10 0 rfl rfl (j := nL) hlt (by decide) dX0_addLine_113 (fun H locs hP hD hS => ?_)
    have hP : va_P D vwCl (xw cI cZ h a (st (st (st (st (st σ 8 (upd (σ 8) nL (nI b))) 9 (upd ((st σ 8 (upd (σ 8) nL (nI b))) 9) nL ((σ 5 b) - pt))) 10 (upd ((st (st σ 8 (upd (σ 8) nL (nI b))) 9 (upd ((st σ 8 (upd (σ 8) nL (nI b))) 9) nL ((σ 5 b) - pt))) 10) nL sf)) 11 (upd ((st (st (st σ 8 (upd (σ 8) nL (nI b))) 9 (upd ((st σ 8 (upd (σ 8) nL (nI b))) 9) nL ((σ 5 b) - pt))) 10 (upd ((st (st σ 8 (upd (σ 8) nL (nI b))) 9 (upd ((st σ 8 (upd (σ 8) nL (nI b))) 9) nL ((σ 5 b) - pt))) 10) nL sf)) 11) nL sr)) 12 (upd ((st (st (st (st σ 8 (upd (σ 8) nL (nI b))) 9 (upd ((st σ 8 (upd (σ 8) nL (nI b))) 9) nL ((σ 5 b) - pt))) 10 (upd ((st (st σ 8 (upd (σ 8) nL (nI b))) 9 (upd ((st σ 8 (upd (σ 8) nL (nI b))) 9) nL ((σ 5 b) - pt))) 10) nL sf)) 11 (upd ((st (st (st σ 8 (upd (σ 8) nL (nI b))) 9 (upd ((st σ 8 (upd (σ 8) nL (nI b))) 9) nL ((σ 5 b) - pt))) 10 (upd ((st (st σ 8 (upd (σ 8) nL (nI b))) 9 (upd ((st σ 8 (upd (σ 8) nL (nI b))) 9) nL ((σ 5 b) - pt))) 10) nL sf)) 11) nL sr)) 12) nL (LENs (σ 5 b - pt) 300)))) H := hP
    have hD : va_D A (xw cI cZ h a (st (st (st (st (st σ 8 (upd (σ 8) nL (nI b))) 9 (upd ((st σ 8 (upd (σ 8) nL (nI b))) 9) nL ((σ 5 b) - pt))) 10 (upd ((st (st σ 8 (upd (σ 8) nL (nI b))) 9 (upd ((st σ 8 (upd (σ 8) nL (nI b))) 9) nL ((σ 5 b) - pt))) 10) nL sf)) 11 (upd ((st (st (st σ 8 (upd (σ 8) nL (nI b))) 9 (upd ((st σ 8 (upd (σ 8) nL (nI b))) 9) nL ((σ 5 b) - pt))) 10 (upd ((st (st σ 8 (upd (σ 8) nL (nI b))) 9 (upd ((st σ 8 (upd (σ 8) nL (nI b))) 9) nL ((σ 5 b) - pt))) 10) nL sf)) 11) nL sr)) 12 (upd ((st (st (st (st σ 8 (upd (σ 8) nL (nI b))) 9 (upd ((st σ 8 (upd (σ 8) nL (nI b))) 9) nL ((σ 5 b) - pt))) 10 (upd ((st (st σ 8 (upd (σ 8) nL (nI b))) 9 (upd ((st σ 8 (upd (σ 8) nL (nI b))) 9) nL ((σ 5 b) - pt))) 10) nL sf)) 11 (upd ((st (st (st σ 8 (upd (σ 8) nL (nI b))) 9 (upd ((st σ 8 (upd (σ 8) nL (nI b))) 9) nL ((σ 5 b) - pt))) 10 (upd ((st (st σ 8 (upd (σ 8) nL (nI b))) 9 (upd ((st σ 8 (upd (σ 8) nL (nI b))) 9) nL ((σ 5 b) - pt))) 10) nL sf)) 11) nL sr)) 12) nL (LENs (σ 5 b - pt) 300)))) := hD
    refine lv_aload_n hx hb dX0_addLine_114 rfl (lv_at hl 2 rfl) ?_
    refine x_get hin hx hb hts hown hK hP rfl 13 (by decide) (v := .ref (a 13)) rfl (by decide +kernel) dX0_addLine_115 ?_
    refine lv_iload hx hb dX0_addLine_118 (lv_at hl 1 rfl) ?_
    refine lv_iconst (v := 1) hx hb dX0_addLine_120 (by decide) ?_
    refine xa_zst hx hb hK hP hD hS 11 1 rfl rfl (j := nL) rfl hlt (by decide) dX0_addLine_121 (fun H locs hP hD hS => ?_)
    have hP : va_P D vwCl (xw cI cZ h a (st (st (st (st (st (st σ 8 (upd (σ 8) nL (nI b))) 9 (upd ((st σ 8 (upd (σ 8) nL (nI b))) 9) nL ((σ 5 b) - pt))) 10 (upd ((st (st σ 8 (upd (σ 8) nL (nI b))) 9 (upd ((st σ 8 (upd (σ 8) nL (nI b))) 9) nL ((σ 5 b) - pt))) 10) nL sf)) 11 (upd ((st (st (st σ 8 (upd (σ 8) nL (nI b))) 9 (upd ((st σ 8 (upd (σ 8) nL (nI b))) 9) nL ((σ 5 b) - pt))) 10 (upd ((st (st σ 8 (upd (σ 8) nL (nI b))) 9 (upd ((st σ 8 (upd (σ 8) nL (nI b))) 9) nL ((σ 5 b) - pt))) 10) nL sf)) 11) nL sr)) 12 (upd ((st (st (st (st σ 8 (upd (σ 8) nL (nI b))) 9 (upd ((st σ 8 (upd (σ 8) nL (nI b))) 9) nL ((σ 5 b) - pt))) 10 (upd ((st (st σ 8 (upd (σ 8) nL (nI b))) 9 (upd ((st σ 8 (upd (σ 8) nL (nI b))) 9) nL ((σ 5 b) - pt))) 10) nL sf)) 11 (upd ((st (st (st σ 8 (upd (σ 8) nL (nI b))) 9 (upd ((st σ 8 (upd (σ 8) nL (nI b))) 9) nL ((σ 5 b) - pt))) 10 (upd ((st (st σ 8 (upd (σ 8) nL (nI b))) 9 (upd ((st σ 8 (upd (σ 8) nL (nI b))) 9) nL ((σ 5 b) - pt))) 10) nL sf)) 11) nL sr)) 12) nL (LENs (σ 5 b - pt) 300))) 13 (upd ((st (st (st (st (st σ 8 (upd (σ 8) nL (nI b))) 9 (upd ((st σ 8 (upd (σ 8) nL (nI b))) 9) nL ((σ 5 b) - pt))) 10 (upd ((st (st σ 8 (upd (σ 8) nL (nI b))) 9 (upd ((st σ 8 (upd (σ 8) nL (nI b))) 9) nL ((σ 5 b) - pt))) 10) nL sf)) 11 (upd ((st (st (st σ 8 (upd (σ 8) nL (nI b))) 9 (upd ((st σ 8 (upd (σ 8) nL (nI b))) 9) nL ((σ 5 b) - pt))) 10 (upd ((st (st σ 8 (upd (σ 8) nL (nI b))) 9 (upd ((st σ 8 (upd (σ 8) nL (nI b))) 9) nL ((σ 5 b) - pt))) 10) nL sf)) 11) nL sr)) 12 (upd ((st (st (st (st σ 8 (upd (σ 8) nL (nI b))) 9 (upd ((st σ 8 (upd (σ 8) nL (nI b))) 9) nL ((σ 5 b) - pt))) 10 (upd ((st (st σ 8 (upd (σ 8) nL (nI b))) 9 (upd ((st σ 8 (upd (σ 8) nL (nI b))) 9) nL ((σ 5 b) - pt))) 10) nL sf)) 11 (upd ((st (st (st σ 8 (upd (σ 8) nL (nI b))) 9 (upd ((st σ 8 (upd (σ 8) nL (nI b))) 9) nL ((σ 5 b) - pt))) 10 (upd ((st (st σ 8 (upd (σ 8) nL (nI b))) 9 (upd ((st σ 8 (upd (σ 8) nL (nI b))) 9) nL ((σ 5 b) - pt))) 10) nL sf)) 11) nL sr)) 12) nL (LENs (σ 5 b - pt) 300))) 13) nL 1))) H := hP
    have hD : va_D A (xw cI cZ h a (st (st (st (st (st (st σ 8 (upd (σ 8) nL (nI b))) 9 (upd ((st σ 8 (upd (σ 8) nL (nI b))) 9) nL ((σ 5 b) - pt))) 10 (upd ((st (st σ 8 (upd (σ 8) nL (nI b))) 9 (upd ((st σ 8 (upd (σ 8) nL (nI b))) 9) nL ((σ 5 b) - pt))) 10) nL sf)) 11 (upd ((st (st (st σ 8 (upd (σ 8) nL (nI b))) 9 (upd ((st σ 8 (upd (σ 8) nL (nI b))) 9) nL ((σ 5 b) - pt))) 10 (upd ((st (st σ 8 (upd (σ 8) nL (nI b))) 9 (upd ((st σ 8 (upd (σ 8) nL (nI b))) 9) nL ((σ 5 b) - pt))) 10) nL sf)) 11) nL sr)) 12 (upd ((st (st (st (st σ 8 (upd (σ 8) nL (nI b))) 9 (upd ((st σ 8 (upd (σ 8) nL (nI b))) 9) nL ((σ 5 b) - pt))) 10 (upd ((st (st σ 8 (upd (σ 8) nL (nI b))) 9 (upd ((st σ 8 (upd (σ 8) nL (nI b))) 9) nL ((σ 5 b) - pt))) 10) nL sf)) 11 (upd ((st (st (st σ 8 (upd (σ 8) nL (nI b))) 9 (upd ((st σ 8 (upd (σ 8) nL (nI b))) 9) nL ((σ 5 b) - pt))) 10 (upd ((st (st σ 8 (upd (σ 8) nL (nI b))) 9 (upd ((st σ 8 (upd (σ 8) nL (nI b))) 9) nL ((σ 5 b) - pt))) 10) nL sf)) 11) nL sr)) 12) nL (LENs (σ 5 b - pt) 300))) 13 (upd ((st (st (st (st (st σ 8 (upd (σ 8) nL (nI b))) 9 (upd ((st σ 8 (upd (σ 8) nL (nI b))) 9) nL ((σ 5 b) - pt))) 10 (upd ((st (st σ 8 (upd (σ 8) nL (nI b))) 9 (upd ((st σ 8 (upd (σ 8) nL (nI b))) 9) nL ((σ 5 b) - pt))) 10) nL sf)) 11 (upd ((st (st (st σ 8 (upd (σ 8) nL (nI b))) 9 (upd ((st σ 8 (upd (σ 8) nL (nI b))) 9) nL ((σ 5 b) - pt))) 10 (upd ((st (st σ 8 (upd (σ 8) nL (nI b))) 9 (upd ((st σ 8 (upd (σ 8) nL (nI b))) 9) nL ((σ 5 b) - pt))) 10) nL sf)) 11) nL sr)) 12 (upd ((st (st (st (st σ 8 (upd (σ 8) nL (nI b))) 9 (upd ((st σ 8 (upd (σ 8) nL (nI b))) 9) nL ((σ 5 b) - pt))) 10 (upd ((st (st σ 8 (upd (σ 8) nL (nI b))) 9 (upd ((st σ 8 (upd (σ 8) nL (nI b))) 9) nL ((σ 5 b) - pt))) 10) nL sf)) 11 (upd ((st (st (st σ 8 (upd (σ 8) nL (nI b))) 9 (upd ((st σ 8 (upd (σ 8) nL (nI b))) 9) nL ((σ 5 b) - pt))) 10 (upd ((st (st σ 8 (upd (σ 8) nL (nI b))) 9 (upd ((st σ 8 (upd (σ 8) nL (nI b))) 9) nL ((σ 5 b) - pt))) 10) nL sf)) 11) nL sr)) 12) nL (LENs (σ 5 b - pt) 300))) 13) nL 1))) := hD
    refine lv_aload_n hx hb dX0_addLine_122 rfl (lv_at hl 2 rfl) ?_
    refine lv_iload hx hb dX0_addLine_123 (lv_at hl 1 rfl) ?_
    refine lv_iconst (v := 1) hx hb dX0_addLine_125 (by decide) ?_
    refine lv_iadd hx hb dX0_addLine_126 ?_
    rw [nI_1]
    refine x_put hin hx hb hts hown hK hP hD hS rfl 7 (by decide) (by decide +kernel) rfl (by decide +kernel) (Nat.le_of_ble_eq_true rfl) dX0_addLine_127 (fun H locs hP hD hS => ?_)
    have hP : va_P D vwCl (xw cI cZ h a (st (st (st (st (st (st (st σ 8 (upd (σ 8) nL (nI b))) 9 (upd ((st σ 8 (upd (σ 8) nL (nI b))) 9) nL ((σ 5 b) - pt))) 10 (upd ((st (st σ 8 (upd (σ 8) nL (nI b))) 9 (upd ((st σ 8 (upd (σ 8) nL (nI b))) 9) nL ((σ 5 b) - pt))) 10) nL sf)) 11 (upd ((st (st (st σ 8 (upd (σ 8) nL (nI b))) 9 (upd ((st σ 8 (upd (σ 8) nL (nI b))) 9) nL ((σ 5 b) - pt))) 10 (upd ((st (st σ 8 (upd (σ 8) nL (nI b))) 9 (upd ((st σ 8 (upd (σ 8) nL (nI b))) 9) nL ((σ 5 b) - pt))) 10) nL sf)) 11) nL sr)) 12 (upd ((st (st (st (st σ 8 (upd (σ 8) nL (nI b))) 9 (upd ((st σ 8 (upd (σ 8) nL (nI b))) 9) nL ((σ 5 b) - pt))) 10 (upd ((st (st σ 8 (upd (σ 8) nL (nI b))) 9 (upd ((st σ 8 (upd (σ 8) nL (nI b))) 9) nL ((σ 5 b) - pt))) 10) nL sf)) 11 (upd ((st (st (st σ 8 (upd (σ 8) nL (nI b))) 9 (upd ((st σ 8 (upd (σ 8) nL (nI b))) 9) nL ((σ 5 b) - pt))) 10 (upd ((st (st σ 8 (upd (σ 8) nL (nI b))) 9 (upd ((st σ 8 (upd (σ 8) nL (nI b))) 9) nL ((σ 5 b) - pt))) 10) nL sf)) 11) nL sr)) 12) nL (LENs (σ 5 b - pt) 300))) 13 (upd ((st (st (st (st (st σ 8 (upd (σ 8) nL (nI b))) 9 (upd ((st σ 8 (upd (σ 8) nL (nI b))) 9) nL ((σ 5 b) - pt))) 10 (upd ((st (st σ 8 (upd (σ 8) nL (nI b))) 9 (upd ((st σ 8 (upd (σ 8) nL (nI b))) 9) nL ((σ 5 b) - pt))) 10) nL sf)) 11 (upd ((st (st (st σ 8 (upd (σ 8) nL (nI b))) 9 (upd ((st σ 8 (upd (σ 8) nL (nI b))) 9) nL ((σ 5 b) - pt))) 10 (upd ((st (st σ 8 (upd (σ 8) nL (nI b))) 9 (upd ((st σ 8 (upd (σ 8) nL (nI b))) 9) nL ((σ 5 b) - pt))) 10) nL sf)) 11) nL sr)) 12 (upd ((st (st (st (st σ 8 (upd (σ 8) nL (nI b))) 9 (upd ((st σ 8 (upd (σ 8) nL (nI b))) 9) nL ((σ 5 b) - pt))) 10 (upd ((st (st σ 8 (upd (σ 8) nL (nI b))) 9 (upd ((st σ 8 (upd (σ 8) nL (nI b))) 9) nL ((σ 5 b) - pt))) 10) nL sf)) 11 (upd ((st (st (st σ 8 (upd (σ 8) nL (nI b))) 9 (upd ((st σ 8 (upd (σ 8) nL (nI b))) 9) nL ((σ 5 b) - pt))) 10 (upd ((st (st σ 8 (upd (σ 8) nL (nI b))) 9 (upd ((st σ 8 (upd (σ 8) nL (nI b))) 9) nL ((σ 5 b) - pt))) 10) nL sf)) 11) nL sr)) 12) nL (LENs (σ 5 b - pt) 300))) 13) nL 1)) 7 (fun _ => (nI (nL + 1))))) H := hP
    have hD : va_D A (xw cI cZ h a (st (st (st (st (st (st (st σ 8 (upd (σ 8) nL (nI b))) 9 (upd ((st σ 8 (upd (σ 8) nL (nI b))) 9) nL ((σ 5 b) - pt))) 10 (upd ((st (st σ 8 (upd (σ 8) nL (nI b))) 9 (upd ((st σ 8 (upd (σ 8) nL (nI b))) 9) nL ((σ 5 b) - pt))) 10) nL sf)) 11 (upd ((st (st (st σ 8 (upd (σ 8) nL (nI b))) 9 (upd ((st σ 8 (upd (σ 8) nL (nI b))) 9) nL ((σ 5 b) - pt))) 10 (upd ((st (st σ 8 (upd (σ 8) nL (nI b))) 9 (upd ((st σ 8 (upd (σ 8) nL (nI b))) 9) nL ((σ 5 b) - pt))) 10) nL sf)) 11) nL sr)) 12 (upd ((st (st (st (st σ 8 (upd (σ 8) nL (nI b))) 9 (upd ((st σ 8 (upd (σ 8) nL (nI b))) 9) nL ((σ 5 b) - pt))) 10 (upd ((st (st σ 8 (upd (σ 8) nL (nI b))) 9 (upd ((st σ 8 (upd (σ 8) nL (nI b))) 9) nL ((σ 5 b) - pt))) 10) nL sf)) 11 (upd ((st (st (st σ 8 (upd (σ 8) nL (nI b))) 9 (upd ((st σ 8 (upd (σ 8) nL (nI b))) 9) nL ((σ 5 b) - pt))) 10 (upd ((st (st σ 8 (upd (σ 8) nL (nI b))) 9 (upd ((st σ 8 (upd (σ 8) nL (nI b))) 9) nL ((σ 5 b) - pt))) 10) nL sf)) 11) nL sr)) 12) nL (LENs (σ 5 b - pt) 300))) 13 (upd ((st (st (st (st (st σ 8 (upd (σ 8) nL (nI b))) 9 (upd ((st σ 8 (upd (σ 8) nL (nI b))) 9) nL ((σ 5 b) - pt))) 10 (upd ((st (st σ 8 (upd (σ 8) nL (nI b))) 9 (upd ((st σ 8 (upd (σ 8) nL (nI b))) 9) nL ((σ 5 b) - pt))) 10) nL sf)) 11 (upd ((st (st (st σ 8 (upd (σ 8) nL (nI b))) 9 (upd ((st σ 8 (upd (σ 8) nL (nI b))) 9) nL ((σ 5 b) - pt))) 10 (upd ((st (st σ 8 (upd (σ 8) nL (nI b))) 9 (upd ((st σ 8 (upd (σ 8) nL (nI b))) 9) nL ((σ 5 b) - pt))) 10) nL sf)) 11) nL sr)) 12 (upd ((st (st (st (st σ 8 (upd (σ 8) nL (nI b))) 9 (upd ((st σ 8 (upd (σ 8) nL (nI b))) 9) nL ((σ 5 b) - pt))) 10 (upd ((st (st σ 8 (upd (σ 8) nL (nI b))) 9 (upd ((st σ 8 (upd (σ 8) nL (nI b))) 9) nL ((σ 5 b) - pt))) 10) nL sf)) 11 (upd ((st (st (st σ 8 (upd (σ 8) nL (nI b))) 9 (upd ((st σ 8 (upd (σ 8) nL (nI b))) 9) nL ((σ 5 b) - pt))) 10 (upd ((st (st σ 8 (upd (σ 8) nL (nI b))) 9 (upd ((st σ 8 (upd (σ 8) nL (nI b))) 9) nL ((σ 5 b) - pt))) 10) nL sf)) 11) nL sr)) 12) nL (LENs (σ 5 b - pt) 300))) 13) nL 1)) 7 (fun _ => (nI (nL + 1))))) := hD
    refine lv_iload hx hb dX0_addLine_130 (lv_at hl 1 rfl) ?_
    have hP : va_P D vwCl (xw cI cZ h a (alS σ nL pt (nI b) sf sr)) H := by unfold alS; rw [eb]; exact hP
    exact th_ret (v := (nI nL)) (alS σ nL pt (nI b) sf sr) hx hb hr hlocks hH hS hP ⟨gk0 c1 (ant c2 (ant c3 c4)) (decide_eq_true hlt), rfl, rfl⟩ dX0_addLine_132
  · obtain ⟨sa, hsa⟩ := hT.2.1.2.1
    exact thr_go (A := A) (cls := xE2) (ik := 62) (ic := 66) hfl hx hb hown hlocks hout (by rw [hml]; exact hl.1) hH (by decide +kernel) (hts (.classLink RX0 62 xE2) (by decide +kernel)) (hts (.initialized xE2) (by decide +kernel)) hsa (fun w hw => hts w ((show ∀ w ∈ (vx_atS RX0 66 xE2 xNs).filter goodWord, w ∈ wsX0_addLine by decide +kernel) w hw)) xh2 (xb2 hT.2) xg2 hT.1 dX0_addLine_39 dX0_addLine_42 dX0_addLine_43 dX0_addLine_45 dX0_addLine_48 (Nat.le_of_ble_eq_true rfl) (Nat.le_of_ble_eq_true rfl) (Nat.le_of_ble_eq_true rfl) (Nat.le_of_ble_eq_true rfl) (fun t hgr => ⟨Or.inr (Or.inr ⟨gk3 c1 (ant c2 (ant c3 c4)) (decide_eq_false (fun w => c36 ((nI_ltI (a := nL) (b := 10) (by omega) (by omega)).mpr w))), rfl⟩), hgr⟩)
set_option maxHeartbeats 4000000 in
set_option maxRecDepth 100000 in
/-- tend -/
theorem c_X0_tend (l : Launch) (hfl : l.stackTraces = false) (D : va_G) (cI cZ : ClassId) (h : Nat) (a : Nat → Nat) (σ : St) (Hi : Heap) (A : Nat → Prop) (hD : va_D A (xw cI cZ h a σ)) {nL nB : Nat} (hI : inv σ nL nB) (line hour slack : Int32) : thM l yX0_tend wsX0_tend ({ frames := 7, cells := 1, slots := 6, locals := 118 }) [.ref h, .int line, .int hour, .int slack] D (xw cI cZ h a σ) (tyX cI cZ) Hi A (S := St) (fun ρ => xw cI cZ h a ρ) (fun r ρ => goK (inR line 0 (nI nL - 1) && inR hour 0 47) (inR slack (-100) 100) (decide (¬ σ 13 (tN line) = 0)) = 0 ∧ r = tdR σ line hour slack ∧ ρ = st σ 12 (upd (σ 12) (tN line) (tdR σ line hour slack))) (xcp (goK (inR line 0 (nI nL - 1) && inR hour 0 47) (inR slack (-100) 100) (decide (¬ σ 13 (tN line) = 0))) xE3 xE1 xE2) := by
  refine th_of (cc := cX0_tend) (maxL := 4) (ret := some .int) (by decide) rfl (Nat.le_of_ble_eq_true rfl) ?_
  intro p e s m args below meth c9 he hout hH hP hK hT ls hl
  obtain ⟨hx, hb, hr, hml, hown, hts, hlocks⟩ := he
  have hown : s.vm.findClass RX0 = some m.cls := hown
  have hS : va_S A Hi Hi [] := va_S.rf
  have hL : σ 7 0 = nI nL := hI.1
  have hL10 : nL ≤ 10 := hI.2.1
  have hB : σ 4 0 = nI nB := hI.2.2.1
  have hB6 : nB ≤ 6 := hI.2.2.2.1
  have hl : lv_has ls 4 [(0, .ref h), (1, .int line), (2, .int hour), (3, .int slack)] := hl
  have hin : ∀ w ∈ u_ws RX0 TX0 15, w ∈ wsX0_tend := by decide +kernel
  refine lv_aload_n hx hb dX0_tend_0 rfl (lv_at hl 0 rfl) ?_
  refine lv_iload_n hx hb dX0_tend_1 rfl (lv_at hl 1 rfl) ?_
  refine ck_callV 1 hx hb hml hown hts hlocks hout hl.1 hP hK hT 0 0 rfl rfl (As := [.int line]) (rest := []) (c_X0_checkLine l hfl D cI cZ h a σ Hi A hI line) gX0_tend_X0_checkLine rfl rfl rfl (by decide +kernel) ⟨Nat.le_of_ble_eq_true rfl, Nat.le_of_ble_eq_true rfl⟩ rfl rfl (Nat.le_of_ble_eq_true rfl) dX0_tend_2 ⟨Nat.le_of_ble_eq_true rfl, Nat.le_of_ble_eq_true rfl⟩ (fun q => Or.inl ⟨gk1 (an1 (nt q)), rfl⟩) (fun c1 => ?_)
  refine lv_iload_n hx hb dX0_tend_5 rfl (lv_at hl 2 rfl) ?_
  refine ck_callS 1 hx hb hml hown hts hlocks hout hl.1 hP hK hT (As := [.int hour]) (rest := []) (c_X0_checkHour l hfl D (xw cI cZ h a σ) (tyX cI cZ) Hi A hour) gX0_tend_X0_checkHour rfl rfl rfl (by decide +kernel) ⟨Nat.le_of_ble_eq_true rfl, Nat.le_of_ble_eq_true rfl⟩ rfl rfl (Nat.le_of_ble_eq_true rfl) dX0_tend_6 ⟨Nat.le_of_ble_eq_true rfl, Nat.le_of_ble_eq_true rfl⟩ (fun q => Or.inl ⟨gk1 (an2 (nt q)), rfl⟩) (fun c2 => ?_)
  refine lv_iload_n hx hb dX0_tend_9 rfl (lv_at hl 3 rfl) ?_
  refine lv_bipush (v := (-100)) hx hb dX0_tend_10 (by decide) ?_
  refine lv_bipush (v := 100) hx hb dX0_tend_12 (by decide) ?_
  refine ck_callS 3 hx hb hml hown hts hlocks hout hl.1 hP hK hT (As := [.int slack, .int (-100), .int 100]) (rest := []) (c_X0_checkRange l hfl D (xw cI cZ h a σ) (tyX cI cZ) Hi A slack (-100) 100) gX0_tend_X0_checkRange rfl rfl rfl (by decide +kernel) ⟨Nat.le_of_ble_eq_true rfl, Nat.le_of_ble_eq_true rfl⟩ rfl rfl (Nat.le_of_ble_eq_true rfl) dX0_tend_14 ⟨Nat.le_of_ble_eq_true rfl, Nat.le_of_ble_eq_true rfl⟩ (fun q => Or.inr (Or.inl ⟨gk2 (ant c1 c2) (nt q), rfl⟩)) (fun c3 => ?_)
  obtain ⟨j, hj, rfl⟩ := inR_line (by omega) c1
  have ej : tN (nI j) = j := tN_nI (by omega)
  obtain ⟨t, ht48, rfl⟩ := inR_hour c2
  have et : tN (nI t) = t := tN_nI (by omega)
  refine lv_aload_n hx hb dX0_tend_17 rfl (lv_at hl 0 rfl) ?_
  refine x_get hin hx hb hts hown hK hP rfl 13 (by decide) (v := .ref (a 13)) rfl (by decide +kernel) dX0_tend_18 ?_
  refine lv_iload_n hx hb dX0_tend_21 rfl (lv_at hl 1 rfl) ?_
  refine xa_zld hx hb hK hP 11 1 rfl rfl (j := j) (by omega) (by decide) dX0_tend_22 ?_
  refine lv_if_ne (tgt := 36) hx hb dX0_tend_23 (by decide) (fun c23 => ?_) (fun c23 => ?_)
  · refine lv_aload_n hx hb dX0_tend_36 rfl (lv_at hl 0 rfl) ?_
    refine x_get hin hx hb hts hown hK hP rfl 12 (by decide) (v := .ref (a 12)) rfl (by decide +kernel) dX0_tend_37 ?_
    refine lv_iload_n hx hb dX0_tend_40 rfl (lv_at hl 1 rfl) ?_
    refine lv_iconst (v := 0) hx hb dX0_tend_41 (by decide) ?_
    refine lv_aload_n hx hb dX0_tend_42 rfl (lv_at hl 0 rfl) ?_
    refine lv_iload_n hx hb dX0_tend_43 rfl (lv_at hl 1 rfl) ?_
    refine lv_iload_n hx hb dX0_tend_44 rfl (lv_at hl 2 rfl) ?_
    refine lv_aload_n hx hb dX0_tend_45 rfl (lv_at hl 0 rfl) ?_
    refine lv_iload_n hx hb dX0_tend_46 rfl (lv_at hl 2 rfl) ?_
    refine ro_callV 1 hx hb hml hown hts hl.1 hP hK 0 0 rfl rfl (As := [.int (nI t)]) (rest := [.int (nI t), .int (nI j), .ref h, .int 0, .int (nI j), .ref (a 12)]) (c_X0_balanceOf l D cI cZ h a σ Hi hI t ht48) gX0_tend_X0_balanceOf rfl rfl rfl (by decide +kernel) ⟨Nat.le_of_ble_eq_true rfl, Nat.le_of_ble_eq_true rfl⟩ rfl rfl (Nat.le_of_ble_eq_true rfl) dX0_tend_47 ⟨Nat.zero_le _, Nat.zero_le _⟩ (fun r1 hr1 => ?_)
    subst hr1
    refine ro_callV 3 hx hb hml hown hts hl.1 hP hK 0 0 rfl rfl (As := [.int (nI j), .int (nI t), .int (bal σ t)]) (rest := [.int 0, .int (nI j), .ref (a 12)]) (c_X0_lengthWith l D cI cZ h a σ Hi hI j t hj ht48 (bal σ t) (bal_inS σ t)) gX0_tend_X0_lengthWith rfl rfl rfl (by decide +kernel) ⟨Nat.le_of_ble_eq_true rfl, Nat.le_of_ble_eq_true rfl⟩ rfl rfl (Nat.le_of_ble_eq_true rfl) dX0_tend_50 ⟨Nat.zero_le _, Nat.zero_le _⟩ (fun r2 hr2 => ?_)
    subst hr2
    refine lv_iload_n hx hb dX0_tend_53 rfl (lv_at hl 3 rfl) ?_
    refine lv_iadd hx hb dX0_tend_54 ?_
    refine va_mmax hx hb (by rw [hml]; exact hl.1.symm) hown (hts (.methodLink RX0 113 Lib.Math.max.name) (by decide +kernel)) (hts (.static Lib.Math.max.name) (by decide +kernel)) (hts (.initialized "java/lang/Math") (by decide +kernel)) (hts (.code Lib.Math.max.name Lib.Math.max.code 2 (some .int)) (by decide +kernel)) (Nat.le_of_ble_eq_true rfl) (Nat.le_of_ble_eq_true rfl) (Nat.zero_le _) (Nat.zero_le _) dX0_tend_55 ?_
    rw [show (if 0 < len_ σ j t (bal σ t) + slack then len_ σ j t (bal σ t) + slack else 0) = tdR σ (nI j) (nI t) slack by unfold tdR mx0; rw [ej, et]]
    refine xa_st hx hb hK hP hD hS 10 0 rfl rfl (j := j) (by omega) (by decide) dX0_tend_58 (fun H locs hP hD hS => ?_)
    have hP : va_P D vwCl (xw cI cZ h a (st σ 12 (upd (σ 12) j (tdR σ (nI j) (nI t) slack)))) H := hP
    have hD : va_D A (xw cI cZ h a (st σ 12 (upd (σ 12) j (tdR σ (nI j) (nI t) slack)))) := hD
    refine lv_aload_n hx hb dX0_tend_59 rfl (lv_at hl 0 rfl) ?_
    refine x_get hin hx hb hts hown hK hP rfl 12 (by decide) (v := .ref (a 12)) rfl (by decide +kernel) dX0_tend_60 ?_
    refine lv_iload_n hx hb dX0_tend_63 rfl (lv_at hl 1 rfl) ?_
    refine xa_ld hx hb hK hP 10 0 rfl rfl (j := j) (by omega) (by decide) dX0_tend_64 ?_
    rw [show (st σ 12 (upd (σ 12) j (tdR σ (nI j) (nI t) slack))) 12 j = (tdR σ (nI j) (nI t) slack) from by show (if j = j then _ else _) = _; rw [if_pos rfl]]
    exact th_ret (v := (tdR σ (nI j) (nI t) slack)) (st σ 12 (upd (σ 12) j (tdR σ (nI j) (nI t) slack))) hx hb hr hlocks hH hS hP ⟨gk0 (ant c1 c2) c3 (decide_eq_true (by rw [ej]; exact c23)), rfl, by rw [ej]⟩ dX0_tend_65
  · obtain ⟨sa, hsa⟩ := hT.2.1.2.2.1
    exact thr_go (A := A) (cls := xE2) (ik := 62) (ic := 66) hfl hx hb hown hlocks hout (by rw [hml]; exact hl.1) hH (by decide +kernel) (hts (.classLink RX0 62 xE2) (by decide +kernel)) (hts (.initialized xE2) (by decide +kernel)) hsa (fun w hw => hts w ((show ∀ w ∈ (vx_atS RX0 66 xE2 xNs).filter goodWord, w ∈ wsX0_tend by decide +kernel) w hw)) xh2 (xb2 hT.2) xg2 hT.1 dX0_tend_26 dX0_tend_29 dX0_tend_30 dX0_tend_32 dX0_tend_35 (Nat.le_of_ble_eq_true rfl) (Nat.le_of_ble_eq_true rfl) (Nat.le_of_ble_eq_true rfl) (Nat.le_of_ble_eq_true rfl) (fun t hgr => ⟨Or.inr (Or.inr ⟨gk3 (ant c1 c2) c3 (decide_eq_false (by rw [ej]; exact not_not_intro c23)), rfl⟩), hgr⟩)
set_option maxHeartbeats 4000000 in
set_option maxRecDepth 100000 in
/-- plan -/
theorem c_X0_plan (l : Launch) (hfl : l.stackTraces = false) (D : va_G) (cI cZ : ClassId) (h : Nat) (a : Nat → Nat) (σ : St) (Hi : Heap) (A : Nat → Prop) (hD : va_D A (xw cI cZ h a σ)) {nL nB : Nat} (hI : inv σ nL nB) (fr to : Int32) : thM l yX0_plan wsX0_plan ({ frames := 7, cells := 1, slots := 6, locals := 167 }) [.ref h, .int fr, .int to] D (xw cI cZ h a σ) (tyX cI cZ) Hi A (S := St) (fun ρ => xw cI cZ h a ρ) (fun r ρ => goK (inR fr 0 47 && inR to 0 47) (decide (fr ≤ to)) true = 0 ∧ r = plR (tN to + 1 - tN fr) σ (tN fr) 0 ∧ ∃ g, ρ = st σ 14 g) (xcp (goK (inR fr 0 47 && inR to 0 47) (decide (fr ≤ to)) true) xE3 xE1 xE2) := by
  refine th_of (cc := cX0_plan) (maxL := 4) (ret := some .int) (by decide) rfl (Nat.le_of_ble_eq_true rfl) ?_
  intro p e s m args below meth c9 he hout hH hP hK hT ls hl
  obtain ⟨hx, hb, hr, hml, hown, hts, hlocks⟩ := he
  have hown : s.vm.findClass RX0 = some m.cls := hown
  have hS : va_S A Hi Hi [] := va_S.rf
  have hL : σ 7 0 = nI nL := hI.1
  have hL10 : nL ≤ 10 := hI.2.1
  have hB : σ 4 0 = nI nB := hI.2.2.1
  have hB6 : nB ≤ 6 := hI.2.2.2.1
  have hl : lv_has ls 4 [(0, .ref h), (1, .int fr), (2, .int to)] := hl
  have hin : ∀ w ∈ u_ws RX0 TX0 15, w ∈ wsX0_plan := by decide +kernel
  refine lv_iload_n hx hb dX0_plan_0 rfl (lv_at hl 1 rfl) ?_
  refine ck_callS 1 hx hb hml hown hts hlocks hout hl.1 hP hK hT (As := [.int fr]) (rest := []) (c_X0_checkHour l hfl D (xw cI cZ h a σ) (tyX cI cZ) Hi A fr) gX0_plan_X0_checkHour rfl rfl rfl (by decide +kernel) ⟨Nat.le_of_ble_eq_true rfl, Nat.le_of_ble_eq_true rfl⟩ rfl rfl (Nat.le_of_ble_eq_true rfl) dX0_plan_1 ⟨Nat.le_of_ble_eq_true rfl, Nat.le_of_ble_eq_true rfl⟩ (fun q => Or.inl ⟨gk1 (an1 (nt q)), rfl⟩) (fun c1 => ?_)
  refine lv_iload_n hx hb dX0_plan_4 rfl (lv_at hl 2 rfl) ?_
  refine ck_callS 1 hx hb hml hown hts hlocks hout hl.1 hP hK hT (As := [.int to]) (rest := []) (c_X0_checkHour l hfl D (xw cI cZ h a σ) (tyX cI cZ) Hi A to) gX0_plan_X0_checkHour rfl rfl rfl (by decide +kernel) ⟨Nat.le_of_ble_eq_true rfl, Nat.le_of_ble_eq_true rfl⟩ rfl rfl (Nat.le_of_ble_eq_true rfl) dX0_plan_5 ⟨Nat.le_of_ble_eq_true rfl, Nat.le_of_ble_eq_true rfl⟩ (fun q => Or.inl ⟨gk1 (an2 (nt q)), rfl⟩) (fun c2 => ?_)
  refine lv_iload_n hx hb dX0_plan_8 rfl (lv_at hl 2 rfl) ?_
  refine lv_iload_n hx hb dX0_plan_9 rfl (lv_at hl 1 rfl) ?_
  refine lv_icmp_ge (tgt := 23) hx hb dX0_plan_10 (by decide) (fun c10 => ?_) (fun c10 => ?_)
  · obtain ⟨f, hf48, rfl⟩ := inR_hour c1
    have ef : tN (nI f) = f := tN_nI (by omega)
    obtain ⟨u, hu48, rfl⟩ := inR_hour c2
    have eu : tN (nI u) = u := tN_nI (by omega)
    have hfu : f ≤ u := (nI_leI (by omega) (by omega)).mp c10
    refine lv_aload_n hx hb dX0_plan_23 rfl (lv_at hl 0 rfl) ?_
    refine x_get hin hx hb hts hown hK hP rfl 12 (by decide) (v := .ref (a 12)) rfl (by decide +kernel) dX0_plan_24 ?_
    refine lv_iconst (v := 0) hx hb dX0_plan_27 (by decide) ?_
    refine lv_aload_n hx hb dX0_plan_28 rfl (lv_at hl 0 rfl) ?_
    refine x_get hin hx hb hts hown hK hP rfl 14 (by decide) (v := .ref (a 14)) rfl (by decide +kernel) dX0_plan_29 ?_
    refine lv_iconst (v := 0) hx hb dX0_plan_32 (by decide) ?_
    refine lv_bipush (v := 10) hx hb dX0_plan_33 (by decide) ?_
    refine va_copyi hx hb (by rw [hml]; exact hl.1.symm) hown (hts (.methodLink RX0 126 arraycopyName) (by decide +kernel)) (hts (.native arraycopyName) (by decide +kernel)) (hts (.static arraycopyName) (by decide +kernel)) (hts (.initialized "java/lang/System") (by decide +kernel)) hK hP hD hS 10 12 0 0 rfl rfl rfl rfl rfl (by decide) (by decide) (by decide) (by decide) (by decide) (fun _ _ => rfl) (Nat.le_of_ble_eq_true rfl) (by decide) dX0_plan_35 (fun H locs hP hD hS => ?_)
    have hP : va_P D vwCl (xw cI cZ h a (st σ 14 (va_cpy (σ 12) (σ 14) (0 : Int32).toNatClampNeg (0 : Int32).toNatClampNeg (10 : Int32).toNatClampNeg))) H := hP
    have hD : va_D A (xw cI cZ h a (st σ 14 (va_cpy (σ 12) (σ 14) (0 : Int32).toNatClampNeg (0 : Int32).toNatClampNeg (10 : Int32).toNatClampNeg))) := hD
    obtain ⟨g1, hg1⟩ : ∃ z, z = va_cpy (σ 12) (σ 14) (0 : Int32).toNatClampNeg (0 : Int32).toNatClampNeg (10 : Int32).toNatClampNeg := ⟨_, rfl⟩
    rw [← hg1] at hP hD
    have hg2 : ∀ j, j < 10 → g1 j = σ 12 j := fun j hj => by rw [hg1]; show (if 0 ≤ j ∧ j < 0 + 10 then σ 12 (0 + (j - 0)) else _) = _; rw [if_pos ⟨Nat.zero_le _, by omega⟩]; congr 1; omega
    have hIr : inv (st σ 14 g1) nL nB := hI
    refine lv_aload_n hx hb dX0_plan_38 rfl (lv_at hl 0 rfl) ?_
    refine lv_iload_n hx hb dX0_plan_39 rfl (lv_at hl 1 rfl) ?_
    refine lv_iload_n hx hb dX0_plan_40 rfl (lv_at hl 2 rfl) ?_
    refine wr_callV 2 hx hb hml hown hts hl.1 hP hK hS (fun _ h9 => h9) 0 0 rfl rfl (As := [.int (nI f), .int (nI u)]) (rest := []) (c_X0_tendThrough l D cI cZ h a (st σ 14 g1) H A hD hIr f u hfu hu48) gX0_plan_X0_tendThrough rfl rfl rfl (by decide +kernel) ⟨Nat.le_of_ble_eq_true rfl, Nat.le_of_ble_eq_true rfl⟩ rfl rfl (Nat.le_of_ble_eq_true rfl) dX0_plan_41 ⟨Nat.zero_le _, Nat.zero_le _⟩ (fun r1 ρ H locs hr1 hP hS _ _ => ?_)
    obtain ⟨hr1, hag⟩ := hr1
    rw [plR_14] at hr1
    subst hr1
    have hD : va_D A (xw cI cZ h a ρ) := xD hD
    refine lv_istore_n (lv' := [(3, .int (plR (u + 1 - f) σ f 0)), (0, .ref h), (1, .int (nI f)), (2, .int (nI u))]) hx hb dX0_plan_44 rfl hl (by decide) rfl (fun ls hl => ?_)
    refine lv_aload_n hx hb dX0_plan_45 rfl (lv_at hl 1 rfl) ?_
    refine x_get hin hx hb hts hown hK hP rfl 14 (by decide) (v := .ref (a 14)) rfl (by decide +kernel) dX0_plan_46 ?_
    refine lv_iconst (v := 0) hx hb dX0_plan_49 (by decide) ?_
    refine lv_aload_n hx hb dX0_plan_50 rfl (lv_at hl 1 rfl) ?_
    refine x_get hin hx hb hts hown hK hP rfl 12 (by decide) (v := .ref (a 12)) rfl (by decide +kernel) dX0_plan_51 ?_
    refine lv_iconst (v := 0) hx hb dX0_plan_54 (by decide) ?_
    refine lv_bipush (v := 10) hx hb dX0_plan_55 (by decide) ?_
    refine va_copyi hx hb (by rw [hml]; exact hl.1.symm) hown (hts (.methodLink RX0 126 arraycopyName) (by decide +kernel)) (hts (.native arraycopyName) (by decide +kernel)) (hts (.static arraycopyName) (by decide +kernel)) (hts (.initialized "java/lang/System") (by decide +kernel)) hK hP hD hS 12 10 0 0 rfl rfl rfl rfl rfl (by decide) (by decide) (by decide) (by decide) (by decide) (fun _ _ => rfl) (Nat.le_of_ble_eq_true rfl) (by decide) dX0_plan_57 (fun H locs hP hD hS => ?_)
    have hP : va_P D vwCl (xw cI cZ h a (st ρ 12 (va_cpy (ρ 14) (ρ 12) (0 : Int32).toNatClampNeg (0 : Int32).toNatClampNeg (10 : Int32).toNatClampNeg))) H := hP
    have hD : va_D A (xw cI cZ h a (st ρ 12 (va_cpy (ρ 14) (ρ 12) (0 : Int32).toNatClampNeg (0 : Int32).toNatClampNeg (10 : Int32).toNatClampNeg))) := hD
    have hP : va_P D vwCl (xw cI cZ h a (st σ 14 g1)) H := by
      have e1 : st ρ 12 (va_cpy (ρ 14) (ρ 12) (0 : Int32).toNatClampNeg (0 : Int32).toNatClampNeg (10 : Int32).toNatClampNeg) = st (st σ 14 g1) 12 (va_cpy (ρ 14) (ρ 12) (0 : Int32).toNatClampNeg (0 : Int32).toNatClampNeg (10 : Int32).toNatClampNeg) := by
        funext z
        by_cases ez : z = 12
        · subst ez; rw [st_eq, st_eq]
        · rw [st_ne ez, st_ne ez]; exact hag z ez
      rw [e1] at hP
      have hP2 := va_P_cell (g := σ 12) (i := 10) hP rfl (fun j hj => by show (if 0 ≤ j ∧ j < 0 + 10 then ρ 14 (0 + (j - 0)) else _) = _; rw [if_pos ⟨Nat.zero_le _, by omega⟩, hag 14 (by decide), show 0 + (j - 0) = j by omega]; show g1 j = σ 12 j; exact hg2 j hj)
      exact hP2
    refine lv_iload_n hx hb dX0_plan_60 rfl (lv_at hl 0 rfl) ?_
    exact th_ret (v := (plR (u + 1 - f) σ f 0)) (st σ 14 g1) hx hb hr hlocks hH hS hP ⟨gk0 (ant c1 c2) (decide_eq_true c10) rfl, by rw [ef, eu], ⟨g1, rfl⟩⟩ dX0_plan_61
  · obtain ⟨sa, hsa⟩ := hT.2.1.2.2.2
    exact thr_go (A := A) (cls := xE1) (ik := 121) (ic := 125) hfl hx hb hown hlocks hout (by rw [hml]; exact hl.1) hH (by decide +kernel) (hts (.classLink RX0 121 xE1) (by decide +kernel)) (hts (.initialized xE1) (by decide +kernel)) hsa (fun w hw => hts w ((show ∀ w ∈ (vx_atS RX0 125 xE1 xNs).filter goodWord, w ∈ wsX0_plan by decide +kernel) w hw)) xh1 (xb1 hT.2) xg1 hT.1 dX0_plan_13 dX0_plan_16 dX0_plan_17 dX0_plan_19 dX0_plan_22 (Nat.le_of_ble_eq_true rfl) (Nat.le_of_ble_eq_true rfl) (Nat.le_of_ble_eq_true rfl) (Nat.le_of_ble_eq_true rfl) (fun t hgr => ⟨Or.inr (Or.inl ⟨gk2 (ant c1 c2) (decide_eq_false c10), rfl⟩), hgr⟩)
end
section
/-! MoorWatch made. -/
theorem va_sameI {D : va_G} {cl : List vw_C} {tys : List (ClassId × FieldType)} {U : State} {c1 c2 : ClassId} (hK : va_K D cl tys U) (i j : Nat) (h1 : tys[i]? = some (c1, .int)) (h2 : tys[j]? = some (c2, .int)) : c1 = c2 :=
  Option.some.inj ((show U.vm.findClass _ = some c1 from (hK.2 i _ h1).2).symm.trans (show U.vm.findClass _ = some c2 from (hK.2 j _ h2).2))
set_option maxHeartbeats 4000000 in
set_option maxRecDepth 100000 in
theorem c_X0_init (l : Launch) (D : va_G) (h sz : Nat) : Met l yX0_init wsX0_init ({ frames := 1, cells := 12, slots := 226, locals := 20 }) (va_Pc [.ref h] (fun U => U.heap.size = sz ∧ va_P D vwCl [(h, .inr (0, [.null, .null, .null, .int 0, .int 0, .null, .null, .int 0, .null, .null, .null, .null, .null, .null, .null]))] U.heap ∧ va_K D vwCl [] U ∧ va_D (fun _ => True) [(h, .inr (0, [.null, .null, .null, .int 0, .int 0, .null, .null, .int 0, .null, .null, .null, .null, .null, .null, .null]))])) (va_Qv (fun (_ : ClassId × ClassId × (Nat → Nat)) => True) (fun u t => va_P D vwCl (xw u.1 u.2.1 h u.2.2 (fun _ _ => 0)) t.heap ∧ va_K D vwCl (tyX u.1 u.2.1) t ∧ va_D (va_A [(h, .inr (0, [.null, .null, .null, .int 0, .int 0, .null, .null, .int 0, .null, .null, .null, .null, .null, .null, .null]))] sz) (xw u.1 u.2.1 h u.2.2 (fun _ _ => 0))) (va_A [(h, .inr (0, [.null, .null, .null, .int 0, .int 0, .null, .null, .int 0, .null, .null, .null, .null, .null, .null, .null]))] sz)) 12 226 (va_A [(h, .inr (0, [.null, .null, .null, .int 0, .int 0, .null, .null, .int 0, .null, .null, .null, .null, .null, .null, .null]))] sz) := by
  refine Met.ofW (cc := cX0_init) (maxL := 1) (ret := none) (by decide) rfl ?_
  intro p e s m args below meth c s₁ B hml hv
  obtain ⟨rfl, hsz, hP, hK, hD0⟩ := hv
  have hx := B.exec
  have hb := B.bytes
  have hr := B.returns
  have hts := atoms_spec (ws := wsX0_init) B.pre
  have hown : s.vm.findClass RX0 = some m.cls := findClass_of_methodNamed B.named
  have hlocks := B.notSynchronized
  have hnm : meth.name = "<init>" := (name_of_methodNamed B.named B.method).1
  subst hsz
  have hD := hD0.self (sz := s.heap.size)
  generalize hAe : va_A [(h, .inr (0, [.null, .null, .null, .int 0, .int 0, .null, .null, .int 0, .null, .null, .null, .null, .null, .null, .null]))] s.heap.size = A at hD ⊢
  have hA : ∀ q : Nat, s.heap.size ≤ q → A q := fun q h => by rw [← hAe]; exact Or.inr h
  have hS : va_S A s.heap s.heap [] := va_S.rf
  have hP : va_P D vwCl [(h, .inr (0, [.null, .null, .null, .int 0, .int 0, .null, .null, .int 0, .null, .null, .null, .null, .null, .null, .null]))] s.heap := hP
  have hl := lv_entry ([.ref h]) (n := 1) (Nat.le_of_ble_eq_true rfl)
  rw [lg_entry_eq]
  generalize (lg_sl ([.ref h]) ++ List.replicate (1 - (lg_sl ([.ref h])).length) Slot.unset).toArray = ls at hl ⊢
  have hl : lv_has ls 1 [(0, .ref h)] := hl
  have hin : ∀ w ∈ u_ws RX0 TX0 15, w ∈ wsX0_init := by decide +kernel
  refine lv_aload_n hx hb dX0_init_0 rfl (lv_at hl 0 rfl) ?_
  refine W.objInit hx hb hown (hts (.methodLink RX0 1 objectInit) (by decide +kernel)) (hts (.instanceMethod objectInit) (by decide +kernel)) (hts (.code objectInit ⟨#[0xb1]⟩ 1 none) (by decide +kernel)) rfl (by rw [hml]; exact hl.1) rfl dX0_init_1 (Nat.le_of_ble_eq_true rfl) (Nat.le_of_ble_eq_true rfl) ?_
  refine W.eq (g2 := F0 m 4 ls []) rfl ?_
  refine lv_aload_n hx hb dX0_init_4 rfl (lv_at hl 0 rfl) ?_
  refine lv_bipush (v := 48) hx hb dX0_init_5 (by decide) ?_
  refine va_newa (atype := .int) (ty := .int) (N' := 48) (a0 := (48, .inl (fun _ => 0))) hx hb (hts (.arrayClass .int) (by decide +kernel)) rfl hK hP hD hS hA (fun _ => rfl) (by decide) (by decide) (by decide) (Nat.le_of_ble_eq_true rfl) (Nat.le_of_ble_eq_true rfl) dX0_init_7 (fun q0 c0 H hK hP hD hS => ?_)
  have hK : va_K D vwCl [(c0, .int)] s := hK
  have hP : va_P D vwCl [(h, .inr (0, [.null, .null, .null, .int 0, .int 0, .null, .null, .int 0, .null, .null, .null, .null, .null, .null, .null])), (q0, .inl (c0, 48, .inl (fun _ => 0)))] H := hP
  have hD : va_D A [(h, .inr (0, [.null, .null, .null, .int 0, .int 0, .null, .null, .int 0, .null, .null, .null, .null, .null, .null, .null])), (q0, .inl (c0, 48, .inl (fun _ => 0)))] := hD
  refine va_putF (D := D) (ci := 0) (v := .ref q0) (ty := .array .int) (C := RX0) (T := TX0) (N := 15) hx hb hts hin tyX0 tyX0_ok nmX0 hown hK hP hD hS 0 rfl rfl 0 (by decide) (hts (.fieldLink RX0 9 "MoorWatch" "tides" "[I") (by decide +kernel)) (fun _ h9 => h9) rfl hnm rfl (by decide +kernel) rfl rfl (Nat.le_of_ble_eq_true rfl) dX0_init_9 (fun H locs hP hD hS => ?_)
  have hP : va_P D vwCl [(h, .inr (0, [.ref q0, .null, .null, .int 0, .int 0, .null, .null, .int 0, .null, .null, .null, .null, .null, .null, .null])), (q0, .inl (c0, 48, .inl (fun _ => 0)))] H := hP
  have hD : va_D A [(h, .inr (0, [.ref q0, .null, .null, .int 0, .int 0, .null, .null, .int 0, .null, .null, .null, .null, .null, .null, .null])), (q0, .inl (c0, 48, .inl (fun _ => 0)))] := hD
  refine lv_aload_n hx hb dX0_init_12 rfl (lv_at hl 0 rfl) ?_
  refine lv_bipush (v := 48) hx hb dX0_init_13 (by decide) ?_
  refine va_newa (atype := .int) (ty := .int) (N' := 48) (a0 := (48, .inl (fun _ => 0))) hx hb (hts (.arrayClass .int) (by decide +kernel)) rfl hK hP hD hS hA (fun _ => rfl) (by decide) (by decide) (by decide) (Nat.le_of_ble_eq_true rfl) (Nat.le_of_ble_eq_true rfl) dX0_init_15 (fun q1 c1 H hK hP hD hS => ?_)
  obtain rfl : c0 = c1 := va_sameI (tys := [(c0, .int), (c1, .int)]) hK 0 1 rfl rfl
  have hK : va_K D vwCl [(c0, .int)] s := hK.sub [0] rfl
  have hP : va_P D vwCl [(h, .inr (0, [.ref q0, .null, .null, .int 0, .int 0, .null, .null, .int 0, .null, .null, .null, .null, .null, .null, .null])), (q0, .inl (c0, 48, .inl (fun _ => 0))), (q1, .inl (c0, 48, .inl (fun _ => 0)))] H := hP
  have hD : va_D A [(h, .inr (0, [.ref q0, .null, .null, .int 0, .int 0, .null, .null, .int 0, .null, .null, .null, .null, .null, .null, .null])), (q0, .inl (c0, 48, .inl (fun _ => 0))), (q1, .inl (c0, 48, .inl (fun _ => 0)))] := hD
  refine va_putF (D := D) (ci := 0) (v := .ref q1) (ty := .array .int) (C := RX0) (T := TX0) (N := 15) hx hb hts hin tyX0 tyX0_ok nmX0 hown hK hP hD hS 0 rfl rfl 1 (by decide) (hts (.fieldLink RX0 13 "MoorWatch" "loads" "[I") (by decide +kernel)) (fun _ h9 => h9) rfl hnm rfl (by decide +kernel) rfl rfl (Nat.le_of_ble_eq_true rfl) dX0_init_17 (fun H locs hP hD hS => ?_)
  have hP : va_P D vwCl [(h, .inr (0, [.ref q0, .ref q1, .null, .int 0, .int 0, .null, .null, .int 0, .null, .null, .null, .null, .null, .null, .null])), (q0, .inl (c0, 48, .inl (fun _ => 0))), (q1, .inl (c0, 48, .inl (fun _ => 0)))] H := hP
  have hD : va_D A [(h, .inr (0, [.ref q0, .ref q1, .null, .int 0, .int 0, .null, .null, .int 0, .null, .null, .null, .null, .null, .null, .null])), (q0, .inl (c0, 48, .inl (fun _ => 0))), (q1, .inl (c0, 48, .inl (fun _ => 0)))] := hD
  refine lv_aload_n hx hb dX0_init_20 rfl (lv_at hl 0 rfl) ?_
  refine lv_bipush (v := 48) hx hb dX0_init_21 (by decide) ?_
  refine va_newa (atype := .int) (ty := .int) (N' := 48) (a0 := (48, .inl (fun _ => 0))) hx hb (hts (.arrayClass .int) (by decide +kernel)) rfl hK hP hD hS hA (fun _ => rfl) (by decide) (by decide) (by decide) (Nat.le_of_ble_eq_true rfl) (Nat.le_of_ble_eq_true rfl) dX0_init_23 (fun q2 c2 H hK hP hD hS => ?_)
  obtain rfl : c0 = c2 := va_sameI (tys := [(c0, .int), (c2, .int)]) hK 0 1 rfl rfl
  have hK : va_K D vwCl [(c0, .int)] s := hK.sub [0] rfl
  have hP : va_P D vwCl [(h, .inr (0, [.ref q0, .ref q1, .null, .int 0, .int 0, .null, .null, .int 0, .null, .null, .null, .null, .null, .null, .null])), (q0, .inl (c0, 48, .inl (fun _ => 0))), (q1, .inl (c0, 48, .inl (fun _ => 0))), (q2, .inl (c0, 48, .inl (fun _ => 0)))] H := hP
  have hD : va_D A [(h, .inr (0, [.ref q0, .ref q1, .null, .int 0, .int 0, .null, .null, .int 0, .null, .null, .null, .null, .null, .null, .null])), (q0, .inl (c0, 48, .inl (fun _ => 0))), (q1, .inl (c0, 48, .inl (fun _ => 0))), (q2, .inl (c0, 48, .inl (fun _ => 0)))] := hD
  refine va_putF (D := D) (ci := 0) (v := .ref q2) (ty := .array .int) (C := RX0) (T := TX0) (N := 15) hx hb hts hin tyX0 tyX0_ok nmX0 hown hK hP hD hS 0 rfl rfl 2 (by decide) (hts (.fieldLink RX0 16 "MoorWatch" "passing" "[I") (by decide +kernel)) (fun _ h9 => h9) rfl hnm rfl (by decide +kernel) rfl rfl (Nat.le_of_ble_eq_true rfl) dX0_init_25 (fun H locs hP hD hS => ?_)
  have hP : va_P D vwCl [(h, .inr (0, [.ref q0, .ref q1, .ref q2, .int 0, .int 0, .null, .null, .int 0, .null, .null, .null, .null, .null, .null, .null])), (q0, .inl (c0, 48, .inl (fun _ => 0))), (q1, .inl (c0, 48, .inl (fun _ => 0))), (q2, .inl (c0, 48, .inl (fun _ => 0)))] H := hP
  have hD : va_D A [(h, .inr (0, [.ref q0, .ref q1, .ref q2, .int 0, .int 0, .null, .null, .int 0, .null, .null, .null, .null, .null, .null, .null])), (q0, .inl (c0, 48, .inl (fun _ => 0))), (q1, .inl (c0, 48, .inl (fun _ => 0))), (q2, .inl (c0, 48, .inl (fun _ => 0)))] := hD
  refine lv_aload_n hx hb dX0_init_28 rfl (lv_at hl 0 rfl) ?_
  refine lv_iconst (v := 0) hx hb dX0_init_29 (by decide) ?_
  refine va_put (D := D) (ci := 0) (v := .int 0) (ty := .int) (C := RX0) (T := TX0) (N := 15) hx hb hts hin tyX0 tyX0_ok nmX0 hown hK hP hD hS 0 rfl rfl 3 (by decide) (hts (.fieldLink RX0 19 "MoorWatch" "wind" "I") (by decide +kernel)) (fun _ h9 => h9) rfl (by decide +kernel) rfl rfl (Nat.le_of_ble_eq_true rfl) dX0_init_30 (fun H locs hP hD hS => ?_)
  have hP : va_P D vwCl [(h, .inr (0, [.ref q0, .ref q1, .ref q2, .int 0, .int 0, .null, .null, .int 0, .null, .null, .null, .null, .null, .null, .null])), (q0, .inl (c0, 48, .inl (fun _ => 0))), (q1, .inl (c0, 48, .inl (fun _ => 0))), (q2, .inl (c0, 48, .inl (fun _ => 0)))] H := hP
  have hD : va_D A [(h, .inr (0, [.ref q0, .ref q1, .ref q2, .int 0, .int 0, .null, .null, .int 0, .null, .null, .null, .null, .null, .null, .null])), (q0, .inl (c0, 48, .inl (fun _ => 0))), (q1, .inl (c0, 48, .inl (fun _ => 0))), (q2, .inl (c0, 48, .inl (fun _ => 0)))] := hD
  refine lv_aload_n hx hb dX0_init_33 rfl (lv_at hl 0 rfl) ?_
  refine lv_iconst (v := 0) hx hb dX0_init_34 (by decide) ?_
  refine va_put (D := D) (ci := 0) (v := .int 0) (ty := .int) (C := RX0) (T := TX0) (N := 15) hx hb hts hin tyX0 tyX0_ok nmX0 hown hK hP hD hS 0 rfl rfl 4 (by decide) (hts (.fieldLink RX0 23 "MoorWatch" "bollardCount" "I") (by decide +kernel)) (fun _ h9 => h9) rfl (by decide +kernel) rfl rfl (Nat.le_of_ble_eq_true rfl) dX0_init_35 (fun H locs hP hD hS => ?_)
  have hP : va_P D vwCl [(h, .inr (0, [.ref q0, .ref q1, .ref q2, .int 0, .int 0, .null, .null, .int 0, .null, .null, .null, .null, .null, .null, .null])), (q0, .inl (c0, 48, .inl (fun _ => 0))), (q1, .inl (c0, 48, .inl (fun _ => 0))), (q2, .inl (c0, 48, .inl (fun _ => 0)))] H := hP
  have hD : va_D A [(h, .inr (0, [.ref q0, .ref q1, .ref q2, .int 0, .int 0, .null, .null, .int 0, .null, .null, .null, .null, .null, .null, .null])), (q0, .inl (c0, 48, .inl (fun _ => 0))), (q1, .inl (c0, 48, .inl (fun _ => 0))), (q2, .inl (c0, 48, .inl (fun _ => 0)))] := hD
  refine lv_aload_n hx hb dX0_init_38 rfl (lv_at hl 0 rfl) ?_
  refine lv_bipush (v := 6) hx hb dX0_init_39 (by decide) ?_
  refine va_newa (atype := .int) (ty := .int) (N' := 6) (a0 := (6, .inl (fun _ => 0))) hx hb (hts (.arrayClass .int) (by decide +kernel)) rfl hK hP hD hS hA (fun _ => rfl) (by decide) (by decide) (by decide) (Nat.le_of_ble_eq_true rfl) (Nat.le_of_ble_eq_true rfl) dX0_init_41 (fun q3 c3 H hK hP hD hS => ?_)
  obtain rfl : c0 = c3 := va_sameI (tys := [(c0, .int), (c3, .int)]) hK 0 1 rfl rfl
  have hK : va_K D vwCl [(c0, .int)] s := hK.sub [0] rfl
  have hP : va_P D vwCl [(h, .inr (0, [.ref q0, .ref q1, .ref q2, .int 0, .int 0, .null, .null, .int 0, .null, .null, .null, .null, .null, .null, .null])), (q0, .inl (c0, 48, .inl (fun _ => 0))), (q1, .inl (c0, 48, .inl (fun _ => 0))), (q2, .inl (c0, 48, .inl (fun _ => 0))), (q3, .inl (c0, 6, .inl (fun _ => 0)))] H := hP
  have hD : va_D A [(h, .inr (0, [.ref q0, .ref q1, .ref q2, .int 0, .int 0, .null, .null, .int 0, .null, .null, .null, .null, .null, .null, .null])), (q0, .inl (c0, 48, .inl (fun _ => 0))), (q1, .inl (c0, 48, .inl (fun _ => 0))), (q2, .inl (c0, 48, .inl (fun _ => 0))), (q3, .inl (c0, 6, .inl (fun _ => 0)))] := hD
  refine va_putF (D := D) (ci := 0) (v := .ref q3) (ty := .array .int) (C := RX0) (T := TX0) (N := 15) hx hb hts hin tyX0 tyX0_ok nmX0 hown hK hP hD hS 0 rfl rfl 5 (by decide) (hts (.fieldLink RX0 26 "MoorWatch" "bollardPlaces" "[I") (by decide +kernel)) (fun _ h9 => h9) rfl hnm rfl (by decide +kernel) rfl rfl (Nat.le_of_ble_eq_true rfl) dX0_init_43 (fun H locs hP hD hS => ?_)
  have hP : va_P D vwCl [(h, .inr (0, [.ref q0, .ref q1, .ref q2, .int 0, .int 0, .ref q3, .null, .int 0, .null, .null, .null, .null, .null, .null, .null])), (q0, .inl (c0, 48, .inl (fun _ => 0))), (q1, .inl (c0, 48, .inl (fun _ => 0))), (q2, .inl (c0, 48, .inl (fun _ => 0))), (q3, .inl (c0, 6, .inl (fun _ => 0)))] H := hP
  have hD : va_D A [(h, .inr (0, [.ref q0, .ref q1, .ref q2, .int 0, .int 0, .ref q3, .null, .int 0, .null, .null, .null, .null, .null, .null, .null])), (q0, .inl (c0, 48, .inl (fun _ => 0))), (q1, .inl (c0, 48, .inl (fun _ => 0))), (q2, .inl (c0, 48, .inl (fun _ => 0))), (q3, .inl (c0, 6, .inl (fun _ => 0)))] := hD
  refine lv_aload_n hx hb dX0_init_46 rfl (lv_at hl 0 rfl) ?_
  refine lv_bipush (v := 6) hx hb dX0_init_47 (by decide) ?_
  refine va_newa (atype := .int) (ty := .int) (N' := 6) (a0 := (6, .inl (fun _ => 0))) hx hb (hts (.arrayClass .int) (by decide +kernel)) rfl hK hP hD hS hA (fun _ => rfl) (by decide) (by decide) (by decide) (Nat.le_of_ble_eq_true rfl) (Nat.le_of_ble_eq_true rfl) dX0_init_49 (fun q4 c4 H hK hP hD hS => ?_)
  obtain rfl : c0 = c4 := va_sameI (tys := [(c0, .int), (c4, .int)]) hK 0 1 rfl rfl
  have hK : va_K D vwCl [(c0, .int)] s := hK.sub [0] rfl
  have hP : va_P D vwCl [(h, .inr (0, [.ref q0, .ref q1, .ref q2, .int 0, .int 0, .ref q3, .null, .int 0, .null, .null, .null, .null, .null, .null, .null])), (q0, .inl (c0, 48, .inl (fun _ => 0))), (q1, .inl (c0, 48, .inl (fun _ => 0))), (q2, .inl (c0, 48, .inl (fun _ => 0))), (q3, .inl (c0, 6, .inl (fun _ => 0))), (q4, .inl (c0, 6, .inl (fun _ => 0)))] H := hP
  have hD : va_D A [(h, .inr (0, [.ref q0, .ref q1, .ref q2, .int 0, .int 0, .ref q3, .null, .int 0, .null, .null, .null, .null, .null, .null, .null])), (q0, .inl (c0, 48, .inl (fun _ => 0))), (q1, .inl (c0, 48, .inl (fun _ => 0))), (q2, .inl (c0, 48, .inl (fun _ => 0))), (q3, .inl (c0, 6, .inl (fun _ => 0))), (q4, .inl (c0, 6, .inl (fun _ => 0)))] := hD
  refine va_putF (D := D) (ci := 0) (v := .ref q4) (ty := .array .int) (C := RX0) (T := TX0) (N := 15) hx hb hts hin tyX0 tyX0_ok nmX0 hown hK hP hD hS 0 rfl rfl 6 (by decide) (hts (.fieldLink RX0 29 "MoorWatch" "bollardLimits" "[I") (by decide +kernel)) (fun _ h9 => h9) rfl hnm rfl (by decide +kernel) rfl rfl (Nat.le_of_ble_eq_true rfl) dX0_init_51 (fun H locs hP hD hS => ?_)
  have hP : va_P D vwCl [(h, .inr (0, [.ref q0, .ref q1, .ref q2, .int 0, .int 0, .ref q3, .ref q4, .int 0, .null, .null, .null, .null, .null, .null, .null])), (q0, .inl (c0, 48, .inl (fun _ => 0))), (q1, .inl (c0, 48, .inl (fun _ => 0))), (q2, .inl (c0, 48, .inl (fun _ => 0))), (q3, .inl (c0, 6, .inl (fun _ => 0))), (q4, .inl (c0, 6, .inl (fun _ => 0)))] H := hP
  have hD : va_D A [(h, .inr (0, [.ref q0, .ref q1, .ref q2, .int 0, .int 0, .ref q3, .ref q4, .int 0, .null, .null, .null, .null, .null, .null, .null])), (q0, .inl (c0, 48, .inl (fun _ => 0))), (q1, .inl (c0, 48, .inl (fun _ => 0))), (q2, .inl (c0, 48, .inl (fun _ => 0))), (q3, .inl (c0, 6, .inl (fun _ => 0))), (q4, .inl (c0, 6, .inl (fun _ => 0)))] := hD
  refine lv_aload_n hx hb dX0_init_54 rfl (lv_at hl 0 rfl) ?_
  refine lv_iconst (v := 0) hx hb dX0_init_55 (by decide) ?_
  refine va_put (D := D) (ci := 0) (v := .int 0) (ty := .int) (C := RX0) (T := TX0) (N := 15) hx hb hts hin tyX0 tyX0_ok nmX0 hown hK hP hD hS 0 rfl rfl 7 (by decide) (hts (.fieldLink RX0 32 "MoorWatch" "lineCount" "I") (by decide +kernel)) (fun _ h9 => h9) rfl (by decide +kernel) rfl rfl (Nat.le_of_ble_eq_true rfl) dX0_init_56 (fun H locs hP hD hS => ?_)
  have hP : va_P D vwCl [(h, .inr (0, [.ref q0, .ref q1, .ref q2, .int 0, .int 0, .ref q3, .ref q4, .int 0, .null, .null, .null, .null, .null, .null, .null])), (q0, .inl (c0, 48, .inl (fun _ => 0))), (q1, .inl (c0, 48, .inl (fun _ => 0))), (q2, .inl (c0, 48, .inl (fun _ => 0))), (q3, .inl (c0, 6, .inl (fun _ => 0))), (q4, .inl (c0, 6, .inl (fun _ => 0)))] H := hP
  have hD : va_D A [(h, .inr (0, [.ref q0, .ref q1, .ref q2, .int 0, .int 0, .ref q3, .ref q4, .int 0, .null, .null, .null, .null, .null, .null, .null])), (q0, .inl (c0, 48, .inl (fun _ => 0))), (q1, .inl (c0, 48, .inl (fun _ => 0))), (q2, .inl (c0, 48, .inl (fun _ => 0))), (q3, .inl (c0, 6, .inl (fun _ => 0))), (q4, .inl (c0, 6, .inl (fun _ => 0)))] := hD
  refine lv_aload_n hx hb dX0_init_59 rfl (lv_at hl 0 rfl) ?_
  refine lv_bipush (v := 10) hx hb dX0_init_60 (by decide) ?_
  refine va_newa (atype := .int) (ty := .int) (N' := 10) (a0 := (10, .inl (fun _ => 0))) hx hb (hts (.arrayClass .int) (by decide +kernel)) rfl hK hP hD hS hA (fun _ => rfl) (by decide) (by decide) (by decide) (Nat.le_of_ble_eq_true rfl) (Nat.le_of_ble_eq_true rfl) dX0_init_62 (fun q5 c5 H hK hP hD hS => ?_)
  obtain rfl : c0 = c5 := va_sameI (tys := [(c0, .int), (c5, .int)]) hK 0 1 rfl rfl
  have hK : va_K D vwCl [(c0, .int)] s := hK.sub [0] rfl
  have hP : va_P D vwCl [(h, .inr (0, [.ref q0, .ref q1, .ref q2, .int 0, .int 0, .ref q3, .ref q4, .int 0, .null, .null, .null, .null, .null, .null, .null])), (q0, .inl (c0, 48, .inl (fun _ => 0))), (q1, .inl (c0, 48, .inl (fun _ => 0))), (q2, .inl (c0, 48, .inl (fun _ => 0))), (q3, .inl (c0, 6, .inl (fun _ => 0))), (q4, .inl (c0, 6, .inl (fun _ => 0))), (q5, .inl (c0, 10, .inl (fun _ => 0)))] H := hP
  have hD : va_D A [(h, .inr (0, [.ref q0, .ref q1, .ref q2, .int 0, .int 0, .ref q3, .ref q4, .int 0, .null, .null, .null, .null, .null, .null, .null])), (q0, .inl (c0, 48, .inl (fun _ => 0))), (q1, .inl (c0, 48, .inl (fun _ => 0))), (q2, .inl (c0, 48, .inl (fun _ => 0))), (q3, .inl (c0, 6, .inl (fun _ => 0))), (q4, .inl (c0, 6, .inl (fun _ => 0))), (q5, .inl (c0, 10, .inl (fun _ => 0)))] := hD
  refine va_putF (D := D) (ci := 0) (v := .ref q5) (ty := .array .int) (C := RX0) (T := TX0) (N := 15) hx hb hts hin tyX0 tyX0_ok nmX0 hown hK hP hD hS 0 rfl rfl 8 (by decide) (hts (.fieldLink RX0 35 "MoorWatch" "lineBollards" "[I") (by decide +kernel)) (fun _ h9 => h9) rfl hnm rfl (by decide +kernel) rfl rfl (Nat.le_of_ble_eq_true rfl) dX0_init_64 (fun H locs hP hD hS => ?_)
  have hP : va_P D vwCl [(h, .inr (0, [.ref q0, .ref q1, .ref q2, .int 0, .int 0, .ref q3, .ref q4, .int 0, .ref q5, .null, .null, .null, .null, .null, .null])), (q0, .inl (c0, 48, .inl (fun _ => 0))), (q1, .inl (c0, 48, .inl (fun _ => 0))), (q2, .inl (c0, 48, .inl (fun _ => 0))), (q3, .inl (c0, 6, .inl (fun _ => 0))), (q4, .inl (c0, 6, .inl (fun _ => 0))), (q5, .inl (c0, 10, .inl (fun _ => 0)))] H := hP
  have hD : va_D A [(h, .inr (0, [.ref q0, .ref q1, .ref q2, .int 0, .int 0, .ref q3, .ref q4, .int 0, .ref q5, .null, .null, .null, .null, .null, .null])), (q0, .inl (c0, 48, .inl (fun _ => 0))), (q1, .inl (c0, 48, .inl (fun _ => 0))), (q2, .inl (c0, 48, .inl (fun _ => 0))), (q3, .inl (c0, 6, .inl (fun _ => 0))), (q4, .inl (c0, 6, .inl (fun _ => 0))), (q5, .inl (c0, 10, .inl (fun _ => 0)))] := hD
  refine lv_aload_n hx hb dX0_init_67 rfl (lv_at hl 0 rfl) ?_
  refine lv_bipush (v := 10) hx hb dX0_init_68 (by decide) ?_
  refine va_newa (atype := .int) (ty := .int) (N' := 10) (a0 := (10, .inl (fun _ => 0))) hx hb (hts (.arrayClass .int) (by decide +kernel)) rfl hK hP hD hS hA (fun _ => rfl) (by decide) (by decide) (by decide) (Nat.le_of_ble_eq_true rfl) (Nat.le_of_ble_eq_true rfl) dX0_init_70 (fun q6 c6 H hK hP hD hS => ?_)
  obtain rfl : c0 = c6 := va_sameI (tys := [(c0, .int), (c6, .int)]) hK 0 1 rfl rfl
  have hK : va_K D vwCl [(c0, .int)] s := hK.sub [0] rfl
  have hP : va_P D vwCl [(h, .inr (0, [.ref q0, .ref q1, .ref q2, .int 0, .int 0, .ref q3, .ref q4, .int 0, .ref q5, .null, .null, .null, .null, .null, .null])), (q0, .inl (c0, 48, .inl (fun _ => 0))), (q1, .inl (c0, 48, .inl (fun _ => 0))), (q2, .inl (c0, 48, .inl (fun _ => 0))), (q3, .inl (c0, 6, .inl (fun _ => 0))), (q4, .inl (c0, 6, .inl (fun _ => 0))), (q5, .inl (c0, 10, .inl (fun _ => 0))), (q6, .inl (c0, 10, .inl (fun _ => 0)))] H := hP
  have hD : va_D A [(h, .inr (0, [.ref q0, .ref q1, .ref q2, .int 0, .int 0, .ref q3, .ref q4, .int 0, .ref q5, .null, .null, .null, .null, .null, .null])), (q0, .inl (c0, 48, .inl (fun _ => 0))), (q1, .inl (c0, 48, .inl (fun _ => 0))), (q2, .inl (c0, 48, .inl (fun _ => 0))), (q3, .inl (c0, 6, .inl (fun _ => 0))), (q4, .inl (c0, 6, .inl (fun _ => 0))), (q5, .inl (c0, 10, .inl (fun _ => 0))), (q6, .inl (c0, 10, .inl (fun _ => 0)))] := hD
  refine va_putF (D := D) (ci := 0) (v := .ref q6) (ty := .array .int) (C := RX0) (T := TX0) (N := 15) hx hb hts hin tyX0 tyX0_ok nmX0 hown hK hP hD hS 0 rfl rfl 9 (by decide) (hts (.fieldLink RX0 38 "MoorWatch" "lineReaches" "[I") (by decide +kernel)) (fun _ h9 => h9) rfl hnm rfl (by decide +kernel) rfl rfl (Nat.le_of_ble_eq_true rfl) dX0_init_72 (fun H locs hP hD hS => ?_)
  have hP : va_P D vwCl [(h, .inr (0, [.ref q0, .ref q1, .ref q2, .int 0, .int 0, .ref q3, .ref q4, .int 0, .ref q5, .ref q6, .null, .null, .null, .null, .null])), (q0, .inl (c0, 48, .inl (fun _ => 0))), (q1, .inl (c0, 48, .inl (fun _ => 0))), (q2, .inl (c0, 48, .inl (fun _ => 0))), (q3, .inl (c0, 6, .inl (fun _ => 0))), (q4, .inl (c0, 6, .inl (fun _ => 0))), (q5, .inl (c0, 10, .inl (fun _ => 0))), (q6, .inl (c0, 10, .inl (fun _ => 0)))] H := hP
  have hD : va_D A [(h, .inr (0, [.ref q0, .ref q1, .ref q2, .int 0, .int 0, .ref q3, .ref q4, .int 0, .ref q5, .ref q6, .null, .null, .null, .null, .null])), (q0, .inl (c0, 48, .inl (fun _ => 0))), (q1, .inl (c0, 48, .inl (fun _ => 0))), (q2, .inl (c0, 48, .inl (fun _ => 0))), (q3, .inl (c0, 6, .inl (fun _ => 0))), (q4, .inl (c0, 6, .inl (fun _ => 0))), (q5, .inl (c0, 10, .inl (fun _ => 0))), (q6, .inl (c0, 10, .inl (fun _ => 0)))] := hD
  refine lv_aload_n hx hb dX0_init_75 rfl (lv_at hl 0 rfl) ?_
  refine lv_bipush (v := 10) hx hb dX0_init_76 (by decide) ?_
  refine va_newa (atype := .int) (ty := .int) (N' := 10) (a0 := (10, .inl (fun _ => 0))) hx hb (hts (.arrayClass .int) (by decide +kernel)) rfl hK hP hD hS hA (fun _ => rfl) (by decide) (by decide) (by decide) (Nat.le_of_ble_eq_true rfl) (Nat.le_of_ble_eq_true rfl) dX0_init_78 (fun q7 c7 H hK hP hD hS => ?_)
  obtain rfl : c0 = c7 := va_sameI (tys := [(c0, .int), (c7, .int)]) hK 0 1 rfl rfl
  have hK : va_K D vwCl [(c0, .int)] s := hK.sub [0] rfl
  have hP : va_P D vwCl [(h, .inr (0, [.ref q0, .ref q1, .ref q2, .int 0, .int 0, .ref q3, .ref q4, .int 0, .ref q5, .ref q6, .null, .null, .null, .null, .null])), (q0, .inl (c0, 48, .inl (fun _ => 0))), (q1, .inl (c0, 48, .inl (fun _ => 0))), (q2, .inl (c0, 48, .inl (fun _ => 0))), (q3, .inl (c0, 6, .inl (fun _ => 0))), (q4, .inl (c0, 6, .inl (fun _ => 0))), (q5, .inl (c0, 10, .inl (fun _ => 0))), (q6, .inl (c0, 10, .inl (fun _ => 0))), (q7, .inl (c0, 10, .inl (fun _ => 0)))] H := hP
  have hD : va_D A [(h, .inr (0, [.ref q0, .ref q1, .ref q2, .int 0, .int 0, .ref q3, .ref q4, .int 0, .ref q5, .ref q6, .null, .null, .null, .null, .null])), (q0, .inl (c0, 48, .inl (fun _ => 0))), (q1, .inl (c0, 48, .inl (fun _ => 0))), (q2, .inl (c0, 48, .inl (fun _ => 0))), (q3, .inl (c0, 6, .inl (fun _ => 0))), (q4, .inl (c0, 6, .inl (fun _ => 0))), (q5, .inl (c0, 10, .inl (fun _ => 0))), (q6, .inl (c0, 10, .inl (fun _ => 0))), (q7, .inl (c0, 10, .inl (fun _ => 0)))] := hD
  refine va_putF (D := D) (ci := 0) (v := .ref q7) (ty := .array .int) (C := RX0) (T := TX0) (N := 15) hx hb hts hin tyX0 tyX0_ok nmX0 hown hK hP hD hS 0 rfl rfl 10 (by decide) (hts (.fieldLink RX0 41 "MoorWatch" "lineStiffnesses" "[I") (by decide +kernel)) (fun _ h9 => h9) rfl hnm rfl (by decide +kernel) rfl rfl (Nat.le_of_ble_eq_true rfl) dX0_init_80 (fun H locs hP hD hS => ?_)
  have hP : va_P D vwCl [(h, .inr (0, [.ref q0, .ref q1, .ref q2, .int 0, .int 0, .ref q3, .ref q4, .int 0, .ref q5, .ref q6, .ref q7, .null, .null, .null, .null])), (q0, .inl (c0, 48, .inl (fun _ => 0))), (q1, .inl (c0, 48, .inl (fun _ => 0))), (q2, .inl (c0, 48, .inl (fun _ => 0))), (q3, .inl (c0, 6, .inl (fun _ => 0))), (q4, .inl (c0, 6, .inl (fun _ => 0))), (q5, .inl (c0, 10, .inl (fun _ => 0))), (q6, .inl (c0, 10, .inl (fun _ => 0))), (q7, .inl (c0, 10, .inl (fun _ => 0)))] H := hP
  have hD : va_D A [(h, .inr (0, [.ref q0, .ref q1, .ref q2, .int 0, .int 0, .ref q3, .ref q4, .int 0, .ref q5, .ref q6, .ref q7, .null, .null, .null, .null])), (q0, .inl (c0, 48, .inl (fun _ => 0))), (q1, .inl (c0, 48, .inl (fun _ => 0))), (q2, .inl (c0, 48, .inl (fun _ => 0))), (q3, .inl (c0, 6, .inl (fun _ => 0))), (q4, .inl (c0, 6, .inl (fun _ => 0))), (q5, .inl (c0, 10, .inl (fun _ => 0))), (q6, .inl (c0, 10, .inl (fun _ => 0))), (q7, .inl (c0, 10, .inl (fun _ => 0)))] := hD
  refine lv_aload_n hx hb dX0_init_83 rfl (lv_at hl 0 rfl) ?_
  refine lv_bipush (v := 10) hx hb dX0_init_84 (by decide) ?_
  refine va_newa (atype := .int) (ty := .int) (N' := 10) (a0 := (10, .inl (fun _ => 0))) hx hb (hts (.arrayClass .int) (by decide +kernel)) rfl hK hP hD hS hA (fun _ => rfl) (by decide) (by decide) (by decide) (Nat.le_of_ble_eq_true rfl) (Nat.le_of_ble_eq_true rfl) dX0_init_86 (fun q8 c8 H hK hP hD hS => ?_)
  obtain rfl : c0 = c8 := va_sameI (tys := [(c0, .int), (c8, .int)]) hK 0 1 rfl rfl
  have hK : va_K D vwCl [(c0, .int)] s := hK.sub [0] rfl
  have hP : va_P D vwCl [(h, .inr (0, [.ref q0, .ref q1, .ref q2, .int 0, .int 0, .ref q3, .ref q4, .int 0, .ref q5, .ref q6, .ref q7, .null, .null, .null, .null])), (q0, .inl (c0, 48, .inl (fun _ => 0))), (q1, .inl (c0, 48, .inl (fun _ => 0))), (q2, .inl (c0, 48, .inl (fun _ => 0))), (q3, .inl (c0, 6, .inl (fun _ => 0))), (q4, .inl (c0, 6, .inl (fun _ => 0))), (q5, .inl (c0, 10, .inl (fun _ => 0))), (q6, .inl (c0, 10, .inl (fun _ => 0))), (q7, .inl (c0, 10, .inl (fun _ => 0))), (q8, .inl (c0, 10, .inl (fun _ => 0)))] H := hP
  have hD : va_D A [(h, .inr (0, [.ref q0, .ref q1, .ref q2, .int 0, .int 0, .ref q3, .ref q4, .int 0, .ref q5, .ref q6, .ref q7, .null, .null, .null, .null])), (q0, .inl (c0, 48, .inl (fun _ => 0))), (q1, .inl (c0, 48, .inl (fun _ => 0))), (q2, .inl (c0, 48, .inl (fun _ => 0))), (q3, .inl (c0, 6, .inl (fun _ => 0))), (q4, .inl (c0, 6, .inl (fun _ => 0))), (q5, .inl (c0, 10, .inl (fun _ => 0))), (q6, .inl (c0, 10, .inl (fun _ => 0))), (q7, .inl (c0, 10, .inl (fun _ => 0))), (q8, .inl (c0, 10, .inl (fun _ => 0)))] := hD
  refine va_putF (D := D) (ci := 0) (v := .ref q8) (ty := .array .int) (C := RX0) (T := TX0) (N := 15) hx hb hts hin tyX0 tyX0_ok nmX0 hown hK hP hD hS 0 rfl rfl 11 (by decide) (hts (.fieldLink RX0 44 "MoorWatch" "lineStrengths" "[I") (by decide +kernel)) (fun _ h9 => h9) rfl hnm rfl (by decide +kernel) rfl rfl (Nat.le_of_ble_eq_true rfl) dX0_init_88 (fun H locs hP hD hS => ?_)
  have hP : va_P D vwCl [(h, .inr (0, [.ref q0, .ref q1, .ref q2, .int 0, .int 0, .ref q3, .ref q4, .int 0, .ref q5, .ref q6, .ref q7, .ref q8, .null, .null, .null])), (q0, .inl (c0, 48, .inl (fun _ => 0))), (q1, .inl (c0, 48, .inl (fun _ => 0))), (q2, .inl (c0, 48, .inl (fun _ => 0))), (q3, .inl (c0, 6, .inl (fun _ => 0))), (q4, .inl (c0, 6, .inl (fun _ => 0))), (q5, .inl (c0, 10, .inl (fun _ => 0))), (q6, .inl (c0, 10, .inl (fun _ => 0))), (q7, .inl (c0, 10, .inl (fun _ => 0))), (q8, .inl (c0, 10, .inl (fun _ => 0)))] H := hP
  have hD : va_D A [(h, .inr (0, [.ref q0, .ref q1, .ref q2, .int 0, .int 0, .ref q3, .ref q4, .int 0, .ref q5, .ref q6, .ref q7, .ref q8, .null, .null, .null])), (q0, .inl (c0, 48, .inl (fun _ => 0))), (q1, .inl (c0, 48, .inl (fun _ => 0))), (q2, .inl (c0, 48, .inl (fun _ => 0))), (q3, .inl (c0, 6, .inl (fun _ => 0))), (q4, .inl (c0, 6, .inl (fun _ => 0))), (q5, .inl (c0, 10, .inl (fun _ => 0))), (q6, .inl (c0, 10, .inl (fun _ => 0))), (q7, .inl (c0, 10, .inl (fun _ => 0))), (q8, .inl (c0, 10, .inl (fun _ => 0)))] := hD
  refine lv_aload_n hx hb dX0_init_91 rfl (lv_at hl 0 rfl) ?_
  refine lv_bipush (v := 10) hx hb dX0_init_92 (by decide) ?_
  refine va_newa (atype := .int) (ty := .int) (N' := 10) (a0 := (10, .inl (fun _ => 0))) hx hb (hts (.arrayClass .int) (by decide +kernel)) rfl hK hP hD hS hA (fun _ => rfl) (by decide) (by decide) (by decide) (Nat.le_of_ble_eq_true rfl) (Nat.le_of_ble_eq_true rfl) dX0_init_94 (fun q9 c9 H hK hP hD hS => ?_)
  obtain rfl : c0 = c9 := va_sameI (tys := [(c0, .int), (c9, .int)]) hK 0 1 rfl rfl
  have hK : va_K D vwCl [(c0, .int)] s := hK.sub [0] rfl
  have hP : va_P D vwCl [(h, .inr (0, [.ref q0, .ref q1, .ref q2, .int 0, .int 0, .ref q3, .ref q4, .int 0, .ref q5, .ref q6, .ref q7, .ref q8, .null, .null, .null])), (q0, .inl (c0, 48, .inl (fun _ => 0))), (q1, .inl (c0, 48, .inl (fun _ => 0))), (q2, .inl (c0, 48, .inl (fun _ => 0))), (q3, .inl (c0, 6, .inl (fun _ => 0))), (q4, .inl (c0, 6, .inl (fun _ => 0))), (q5, .inl (c0, 10, .inl (fun _ => 0))), (q6, .inl (c0, 10, .inl (fun _ => 0))), (q7, .inl (c0, 10, .inl (fun _ => 0))), (q8, .inl (c0, 10, .inl (fun _ => 0))), (q9, .inl (c0, 10, .inl (fun _ => 0)))] H := hP
  have hD : va_D A [(h, .inr (0, [.ref q0, .ref q1, .ref q2, .int 0, .int 0, .ref q3, .ref q4, .int 0, .ref q5, .ref q6, .ref q7, .ref q8, .null, .null, .null])), (q0, .inl (c0, 48, .inl (fun _ => 0))), (q1, .inl (c0, 48, .inl (fun _ => 0))), (q2, .inl (c0, 48, .inl (fun _ => 0))), (q3, .inl (c0, 6, .inl (fun _ => 0))), (q4, .inl (c0, 6, .inl (fun _ => 0))), (q5, .inl (c0, 10, .inl (fun _ => 0))), (q6, .inl (c0, 10, .inl (fun _ => 0))), (q7, .inl (c0, 10, .inl (fun _ => 0))), (q8, .inl (c0, 10, .inl (fun _ => 0))), (q9, .inl (c0, 10, .inl (fun _ => 0)))] := hD
  refine va_putF (D := D) (ci := 0) (v := .ref q9) (ty := .array .int) (C := RX0) (T := TX0) (N := 15) hx hb hts hin tyX0 tyX0_ok nmX0 hown hK hP hD hS 0 rfl rfl 12 (by decide) (hts (.fieldLink RX0 47 "MoorWatch" "lineSets" "[I") (by decide +kernel)) (fun _ h9 => h9) rfl hnm rfl (by decide +kernel) rfl rfl (Nat.le_of_ble_eq_true rfl) dX0_init_96 (fun H locs hP hD hS => ?_)
  have hP : va_P D vwCl [(h, .inr (0, [.ref q0, .ref q1, .ref q2, .int 0, .int 0, .ref q3, .ref q4, .int 0, .ref q5, .ref q6, .ref q7, .ref q8, .ref q9, .null, .null])), (q0, .inl (c0, 48, .inl (fun _ => 0))), (q1, .inl (c0, 48, .inl (fun _ => 0))), (q2, .inl (c0, 48, .inl (fun _ => 0))), (q3, .inl (c0, 6, .inl (fun _ => 0))), (q4, .inl (c0, 6, .inl (fun _ => 0))), (q5, .inl (c0, 10, .inl (fun _ => 0))), (q6, .inl (c0, 10, .inl (fun _ => 0))), (q7, .inl (c0, 10, .inl (fun _ => 0))), (q8, .inl (c0, 10, .inl (fun _ => 0))), (q9, .inl (c0, 10, .inl (fun _ => 0)))] H := hP
  have hD : va_D A [(h, .inr (0, [.ref q0, .ref q1, .ref q2, .int 0, .int 0, .ref q3, .ref q4, .int 0, .ref q5, .ref q6, .ref q7, .ref q8, .ref q9, .null, .null])), (q0, .inl (c0, 48, .inl (fun _ => 0))), (q1, .inl (c0, 48, .inl (fun _ => 0))), (q2, .inl (c0, 48, .inl (fun _ => 0))), (q3, .inl (c0, 6, .inl (fun _ => 0))), (q4, .inl (c0, 6, .inl (fun _ => 0))), (q5, .inl (c0, 10, .inl (fun _ => 0))), (q6, .inl (c0, 10, .inl (fun _ => 0))), (q7, .inl (c0, 10, .inl (fun _ => 0))), (q8, .inl (c0, 10, .inl (fun _ => 0))), (q9, .inl (c0, 10, .inl (fun _ => 0)))] := hD
  refine lv_aload_n hx hb dX0_init_99 rfl (lv_at hl 0 rfl) ?_
  refine lv_bipush (v := 10) hx hb dX0_init_100 (by decide) ?_
  refine va_newa (atype := .boolean) (ty := .boolean) (N' := 10) (a0 := (10, .inl (fun _ => 0))) hx hb (hts (.arrayClass .boolean) (by decide +kernel)) rfl hK hP hD hS hA (fun _ => rfl) (by decide) (by decide) (by decide) (Nat.le_of_ble_eq_true rfl) (Nat.le_of_ble_eq_true rfl) dX0_init_102 (fun q10 c10 H hK hP hD hS => ?_)
  have hK : va_K D vwCl [(c0, .int), (c10, .boolean)] s := hK
  have hP : va_P D vwCl [(h, .inr (0, [.ref q0, .ref q1, .ref q2, .int 0, .int 0, .ref q3, .ref q4, .int 0, .ref q5, .ref q6, .ref q7, .ref q8, .ref q9, .null, .null])), (q0, .inl (c0, 48, .inl (fun _ => 0))), (q1, .inl (c0, 48, .inl (fun _ => 0))), (q2, .inl (c0, 48, .inl (fun _ => 0))), (q3, .inl (c0, 6, .inl (fun _ => 0))), (q4, .inl (c0, 6, .inl (fun _ => 0))), (q5, .inl (c0, 10, .inl (fun _ => 0))), (q6, .inl (c0, 10, .inl (fun _ => 0))), (q7, .inl (c0, 10, .inl (fun _ => 0))), (q8, .inl (c0, 10, .inl (fun _ => 0))), (q9, .inl (c0, 10, .inl (fun _ => 0))), (q10, .inl (c10, 10, .inl (fun _ => 0)))] H := hP
  have hD : va_D A [(h, .inr (0, [.ref q0, .ref q1, .ref q2, .int 0, .int 0, .ref q3, .ref q4, .int 0, .ref q5, .ref q6, .ref q7, .ref q8, .ref q9, .null, .null])), (q0, .inl (c0, 48, .inl (fun _ => 0))), (q1, .inl (c0, 48, .inl (fun _ => 0))), (q2, .inl (c0, 48, .inl (fun _ => 0))), (q3, .inl (c0, 6, .inl (fun _ => 0))), (q4, .inl (c0, 6, .inl (fun _ => 0))), (q5, .inl (c0, 10, .inl (fun _ => 0))), (q6, .inl (c0, 10, .inl (fun _ => 0))), (q7, .inl (c0, 10, .inl (fun _ => 0))), (q8, .inl (c0, 10, .inl (fun _ => 0))), (q9, .inl (c0, 10, .inl (fun _ => 0))), (q10, .inl (c10, 10, .inl (fun _ => 0)))] := hD
  refine va_putF (D := D) (ci := 0) (v := .ref q10) (ty := .array .boolean) (C := RX0) (T := TX0) (N := 15) hx hb hts hin tyX0 tyX0_ok nmX0 hown hK hP hD hS 0 rfl rfl 13 (by decide) (hts (.fieldLink RX0 50 "MoorWatch" "lineFast" "[Z") (by decide +kernel)) (fun _ h9 => h9) rfl hnm rfl (by decide +kernel) rfl rfl (Nat.le_of_ble_eq_true rfl) dX0_init_104 (fun H locs hP hD hS => ?_)
  have hP : va_P D vwCl [(h, .inr (0, [.ref q0, .ref q1, .ref q2, .int 0, .int 0, .ref q3, .ref q4, .int 0, .ref q5, .ref q6, .ref q7, .ref q8, .ref q9, .ref q10, .null])), (q0, .inl (c0, 48, .inl (fun _ => 0))), (q1, .inl (c0, 48, .inl (fun _ => 0))), (q2, .inl (c0, 48, .inl (fun _ => 0))), (q3, .inl (c0, 6, .inl (fun _ => 0))), (q4, .inl (c0, 6, .inl (fun _ => 0))), (q5, .inl (c0, 10, .inl (fun _ => 0))), (q6, .inl (c0, 10, .inl (fun _ => 0))), (q7, .inl (c0, 10, .inl (fun _ => 0))), (q8, .inl (c0, 10, .inl (fun _ => 0))), (q9, .inl (c0, 10, .inl (fun _ => 0))), (q10, .inl (c10, 10, .inl (fun _ => 0)))] H := hP
  have hD : va_D A [(h, .inr (0, [.ref q0, .ref q1, .ref q2, .int 0, .int 0, .ref q3, .ref q4, .int 0, .ref q5, .ref q6, .ref q7, .ref q8, .ref q9, .ref q10, .null])), (q0, .inl (c0, 48, .inl (fun _ => 0))), (q1, .inl (c0, 48, .inl (fun _ => 0))), (q2, .inl (c0, 48, .inl (fun _ => 0))), (q3, .inl (c0, 6, .inl (fun _ => 0))), (q4, .inl (c0, 6, .inl (fun _ => 0))), (q5, .inl (c0, 10, .inl (fun _ => 0))), (q6, .inl (c0, 10, .inl (fun _ => 0))), (q7, .inl (c0, 10, .inl (fun _ => 0))), (q8, .inl (c0, 10, .inl (fun _ => 0))), (q9, .inl (c0, 10, .inl (fun _ => 0))), (q10, .inl (c10, 10, .inl (fun _ => 0)))] := hD
  refine lv_aload_n hx hb dX0_init_107 rfl (lv_at hl 0 rfl) ?_
  refine lv_bipush (v := 10) hx hb dX0_init_108 (by decide) ?_
  refine va_newa (atype := .int) (ty := .int) (N' := 10) (a0 := (10, .inl (fun _ => 0))) hx hb (hts (.arrayClass .int) (by decide +kernel)) rfl hK hP hD hS hA (fun _ => rfl) (by decide) (by decide) (by decide) (Nat.le_of_ble_eq_true rfl) (Nat.le_of_ble_eq_true rfl) dX0_init_110 (fun q11 c11 H hK hP hD hS => ?_)
  obtain rfl : c0 = c11 := va_sameI (tys := [(c0, .int), (c10, .boolean), (c11, .int)]) hK 0 2 rfl rfl
  have hK : va_K D vwCl [(c0, .int), (c10, .boolean)] s := hK.sub [0, 1] rfl
  have hP : va_P D vwCl [(h, .inr (0, [.ref q0, .ref q1, .ref q2, .int 0, .int 0, .ref q3, .ref q4, .int 0, .ref q5, .ref q6, .ref q7, .ref q8, .ref q9, .ref q10, .null])), (q0, .inl (c0, 48, .inl (fun _ => 0))), (q1, .inl (c0, 48, .inl (fun _ => 0))), (q2, .inl (c0, 48, .inl (fun _ => 0))), (q3, .inl (c0, 6, .inl (fun _ => 0))), (q4, .inl (c0, 6, .inl (fun _ => 0))), (q5, .inl (c0, 10, .inl (fun _ => 0))), (q6, .inl (c0, 10, .inl (fun _ => 0))), (q7, .inl (c0, 10, .inl (fun _ => 0))), (q8, .inl (c0, 10, .inl (fun _ => 0))), (q9, .inl (c0, 10, .inl (fun _ => 0))), (q10, .inl (c10, 10, .inl (fun _ => 0))), (q11, .inl (c0, 10, .inl (fun _ => 0)))] H := hP
  have hD : va_D A [(h, .inr (0, [.ref q0, .ref q1, .ref q2, .int 0, .int 0, .ref q3, .ref q4, .int 0, .ref q5, .ref q6, .ref q7, .ref q8, .ref q9, .ref q10, .null])), (q0, .inl (c0, 48, .inl (fun _ => 0))), (q1, .inl (c0, 48, .inl (fun _ => 0))), (q2, .inl (c0, 48, .inl (fun _ => 0))), (q3, .inl (c0, 6, .inl (fun _ => 0))), (q4, .inl (c0, 6, .inl (fun _ => 0))), (q5, .inl (c0, 10, .inl (fun _ => 0))), (q6, .inl (c0, 10, .inl (fun _ => 0))), (q7, .inl (c0, 10, .inl (fun _ => 0))), (q8, .inl (c0, 10, .inl (fun _ => 0))), (q9, .inl (c0, 10, .inl (fun _ => 0))), (q10, .inl (c10, 10, .inl (fun _ => 0))), (q11, .inl (c0, 10, .inl (fun _ => 0)))] := hD
  refine va_putF (D := D) (ci := 0) (v := .ref q11) (ty := .array .int) (C := RX0) (T := TX0) (N := 15) hx hb hts hin tyX0 tyX0_ok nmX0 hown hK hP hD hS 0 rfl rfl 14 (by decide) (hts (.fieldLink RX0 54 "MoorWatch" "setsBeforePlan" "[I") (by decide +kernel)) (fun _ h9 => h9) rfl hnm rfl (by decide +kernel) rfl rfl (Nat.le_of_ble_eq_true rfl) dX0_init_112 (fun H locs hP hD hS => ?_)
  have hP : va_P D vwCl [(h, .inr (0, [.ref q0, .ref q1, .ref q2, .int 0, .int 0, .ref q3, .ref q4, .int 0, .ref q5, .ref q6, .ref q7, .ref q8, .ref q9, .ref q10, .ref q11])), (q0, .inl (c0, 48, .inl (fun _ => 0))), (q1, .inl (c0, 48, .inl (fun _ => 0))), (q2, .inl (c0, 48, .inl (fun _ => 0))), (q3, .inl (c0, 6, .inl (fun _ => 0))), (q4, .inl (c0, 6, .inl (fun _ => 0))), (q5, .inl (c0, 10, .inl (fun _ => 0))), (q6, .inl (c0, 10, .inl (fun _ => 0))), (q7, .inl (c0, 10, .inl (fun _ => 0))), (q8, .inl (c0, 10, .inl (fun _ => 0))), (q9, .inl (c0, 10, .inl (fun _ => 0))), (q10, .inl (c10, 10, .inl (fun _ => 0))), (q11, .inl (c0, 10, .inl (fun _ => 0)))] H := hP
  have hD : va_D A [(h, .inr (0, [.ref q0, .ref q1, .ref q2, .int 0, .int 0, .ref q3, .ref q4, .int 0, .ref q5, .ref q6, .ref q7, .ref q8, .ref q9, .ref q10, .ref q11])), (q0, .inl (c0, 48, .inl (fun _ => 0))), (q1, .inl (c0, 48, .inl (fun _ => 0))), (q2, .inl (c0, 48, .inl (fun _ => 0))), (q3, .inl (c0, 6, .inl (fun _ => 0))), (q4, .inl (c0, 6, .inl (fun _ => 0))), (q5, .inl (c0, 10, .inl (fun _ => 0))), (q6, .inl (c0, 10, .inl (fun _ => 0))), (q7, .inl (c0, 10, .inl (fun _ => 0))), (q8, .inl (c0, 10, .inl (fun _ => 0))), (q9, .inl (c0, 10, .inl (fun _ => 0))), (q10, .inl (c10, 10, .inl (fun _ => 0))), (q11, .inl (c0, 10, .inl (fun _ => 0)))] := hD
  exact W.vret hx hb hr (fun t ht hW => ⟨⟨(c0, c10, fun k => [q0, q1, q2, 0, 0, q3, q4, 0, q5, q6, q7, q8, q9, q10, q11].getD k 0), rfl, trivial, by subst ht; exact hP, va_K.moved hW.alike hK, hD⟩, hS.F ht⟩) hS.2.2 dX0_init_115
end
section
/-! The law: contracts that may make cells (gM, hgM), void ones (rvM); calls of them. -/
def notin (W : va_W) (q : Nat) : Prop := ∀ (k : Nat) (p : Nat × va_E), W[k]? = some p → p.1 ≠ q
theorem va_P_l {D : va_G} {W1 W2 : va_W} {H : Heap} (h : va_P D vwCl (W1 ++ W2) H) : va_P D vwCl W1 H := fun k q hk => h k q (by rw [List.getElem?_append_left (List.getElem?_eq_some_iff.mp hk).1]; exact hk)
theorem va_P_r {D : va_G} {W1 W2 : va_W} {H : Heap} (h : va_P D vwCl (W1 ++ W2) H) : va_P D vwCl W2 H := fun k q hk => h (W1.length + k) q (by rw [List.getElem?_append_right (Nat.le_add_right _ _), Nat.add_sub_cancel_left]; exact hk)
theorem va_D_l {A : Nat → Prop} {W1 W2 : va_W} (h : va_D A (W1 ++ W2)) : va_D (fun q => A q ∧ notin W2 q) W1 := by
  have e : ∀ (k : Nat) (q : Nat × va_E), W1[k]? = some q → (W1 ++ W2)[k]? = some q := fun k q hk => by rw [List.getElem?_append_left (List.getElem?_eq_some_iff.mp hk).1]; exact hk
  refine ⟨fun i j p q hp hq he => h.1 i j p q (e i p hp) (e j q hq) he, fun k q hk => ⟨h.2 k q (e k q hk), fun i p hp hpq => ?_⟩⟩
  have h1 := h.1 k (W1.length + i) q p (e k q hk) (by rw [List.getElem?_append_right (Nat.le_add_right _ _), Nat.add_sub_cancel_left]; exact hp) hpq.symm
  have h2 := (List.getElem?_eq_some_iff.mp hk).1
  omega
theorem va_D_r {A : Nat → Prop} {W1 W2 : va_W} (h : va_D A (W1 ++ W2)) : va_D (fun q => A q ∧ notin W1 q) W2 := by
  have e : ∀ (k : Nat) (q : Nat × va_E), W2[k]? = some q → (W1 ++ W2)[W1.length + k]? = some q := fun k q hk => by rw [List.getElem?_append_right (Nat.le_add_right _ _), Nat.add_sub_cancel_left]; exact hk
  refine ⟨fun i j p q hp hq he => by have := h.1 _ _ p q (e i p hp) (e j q hq) he; omega, fun k q hk => ⟨h.2 _ q (e k q hk), fun i p hp hpq => ?_⟩⟩
  have h3 := (List.getElem?_eq_some_iff.mp hp).1
  have h1 := h.1 i (W1.length + k) p q (by rw [List.getElem?_append_left h3]; exact hp) (e k q hk) hpq
  omega
/-- the cells beside a callee's stay -/
theorem keepW {A : Nat → Prop} {D : va_G} {W2 : va_W} {H H1 : Heap} (hP : va_P D vwCl W2 H) (hk : ∀ q : Nat, q < H.size → ¬ (A q ∧ notin W2 q) → H1[q]? = H[q]?) : va_P D vwCl W2 H1 :=
  hP.kept (fun k q hq => hk q.1 (hP k q hq).lt (fun w => w.2 k q hq rfl))
theorem keepG {D : va_G} {W2 : va_W} {H H1 : Heap} (hP : va_P D vwCl W2 H) (hg : grew H H1) : va_P D vwCl W2 H1 :=
  hP.kept (fun k q hq => hg.2 q.1 (hP k q hq).lt)
theorem tpA_nar {A B : Nat → Prop} {H : Heap} {s : State} (h : tpA A H s) (hAB : ∀ q, B q → A q) : tpA B H s := ⟨⟨vx_Zq.narrow h.1.1 hAB, vx_Zq.narrow h.1.2 hAB⟩, h.2⟩
def rvQ (below : List Frame) (H0 : Heap) (args : Array Value) (s : State) : State → Prop := MQ below (va_Qv (fun (_ : Unit) => True) (fun _ t => t.heap = H0) (fun _ => False)) args s 0 0 (fun _ => False)
/-- a method that writes nothing and answers nothing -/
def rvM (l : Launch) (y : MethodName) (ws : List Cond) (rm : Room) (av : List Value) (D : va_G) (W0 : va_W) (tys : List (ClassId × FieldType)) (H0 : Heap) : Prop :=
  Met l y ws rm (roP av D W0 tys H0) (va_Qv (fun (_ : Unit) => True) (fun _ t => t.heap = H0) (fun _ => False)) 0 0 (fun _ => False)
/-- a method that writes among the cells of A, makes n cells of k slots, answers a number -/
def gM (l : Launch) (y : MethodName) (ws : List Cond) (rm : Room) (av : List Value) (D : va_G) (W0 : va_W) (tys : List (ClassId × FieldType)) (H0 : Heap) {S : Type} (Wf : S → va_W) (post : Int32 → S → Prop) (A : Nat → Prop) (n k : Nat) : Prop :=
  Met l y ws rm (roP av D W0 tys H0) (va_Qi post (fun u t => va_P D vwCl (Wf u) t.heap) A) n k A
def gQ (below : List Frame) (D : va_G) {S : Type} (Wf : S → va_W) (post : Int32 → S → Prop) (A : Nat → Prop) (n k : Nat) (args : Array Value) (s : State) : State → Prop := MQ below (va_Qi post (fun u t => va_P D vwCl (Wf u) t.heap) A) args s n k A
/-- the same, of a method that reaches a throw -/
def hgM (l : Launch) (y : MethodName) (ws : List Cond) (rm : Room) (av : List Value) (D : va_G) (W0 : va_W) (tys : List (ClassId × FieldType)) (H0 : Heap) {S : Type} (Wf : S → va_W) (post : Int32 → S → Prop) (A : Nat → Prop) (n k : Nat) : Prop :=
  Met l y ws rm (thP av D W0 tys H0 A) (va_Qi post (fun u t => va_P D vwCl (Wf u) t.heap) A) n k A
section
variable {l : Launch} {y : MethodName} {cc : ByteArray} {maxL : Nat} {ret : Option FieldType} {ws ws' : List Cond} {rm : Room} {av : List Value} {D : va_G} {W0 : va_W} {tys : List (ClassId × FieldType)} {H0 : Heap}
theorem rv_of (hy : plainName y.cls = true) (hw : ws = Cond.code y cc maxL ret :: ws') (hn : (lg_sl av).length ≤ maxL)
    (body : ∀ (p : Program) (e : Env) (s : State) (m : MethodId) (args : Array Value) (below : List Frame) (meth : Method) (c : Code), roE p s m meth c args y cc maxL ret ws → s.heap = H0 → va_P D vwCl W0 H0 → va_K D vwCl tys s → ∀ ls : Array Slot, lv_has ls maxL (lv_args 0 av) → W p l e rm s m args below meth c H0 [] 0 0 (rvQ below H0 args s) (F0 m 0 ls [])) : rvM l y ws rm av D W0 tys H0 := by
  refine Met.ofW (cc := cc) (maxL := maxL) (ret := ret) hy hw ?_
  intro p e s m args below meth c s₁ B hml hv
  obtain ⟨rfl, hH, hP, hK⟩ := hv
  rw [hH, lg_entry_eq]
  exact body p e s m _ below meth c ⟨B.exec, B.bytes, B.returns, hml, findClass_of_methodNamed B.named, atoms_spec (ws := ws) B.pre, B.notSynchronized⟩ hH hP hK _ (lv_entry av hn)
theorem g_of {S : Type} {Wf : S → va_W} {post : Int32 → S → Prop} {A : Nat → Prop} {nc kc : Nat} (hy : plainName y.cls = true) (hw : ws = Cond.code y cc maxL ret :: ws') (hn : (lg_sl av).length ≤ maxL)
    (body : ∀ (p : Program) (e : Env) (s : State) (m : MethodId) (args : Array Value) (below : List Frame) (meth : Method) (c : Code), roE p s m meth c args y cc maxL ret ws → s.heap = H0 → va_P D vwCl W0 H0 → va_K D vwCl tys s → ∀ ls : Array Slot, lv_has ls maxL (lv_args 0 av) → W p l e rm s m args below meth c H0 [] 0 0 (gQ below D Wf post A nc kc args s) (F0 m 0 ls [])) : gM l y ws rm av D W0 tys H0 Wf post A nc kc := by
  refine Met.ofW (cc := cc) (maxL := maxL) (ret := ret) hy hw ?_
  intro p e s m args below meth c s₁ B hml hv
  obtain ⟨rfl, hH, hP, hK⟩ := hv
  rw [hH, lg_entry_eq]
  exact body p e s m _ below meth c ⟨B.exec, B.bytes, B.returns, hml, findClass_of_methodNamed B.named, atoms_spec (ws := ws) B.pre, B.notSynchronized⟩ hH hP hK _ (lv_entry av hn)
theorem hg_of {S : Type} {Wf : S → va_W} {post : Int32 → S → Prop} {A : Nat → Prop} {nc kc : Nat} (hy : plainName y.cls = true) (hw : ws = Cond.code y cc maxL ret :: ws') (hn : (lg_sl av).length ≤ maxL)
    (body : ∀ (p : Program) (e : Env) (s : State) (m : MethodId) (args : Array Value) (below : List Frame) (meth : Method) (c : Code), roE p s m meth c args y cc maxL ret ws → s.heap = H0 → va_P D vwCl W0 H0 → va_K D vwCl tys s → tpA A H0 s → ∀ ls : Array Slot, lv_has ls maxL (lv_args 0 av) → W p l e rm s m args below meth c H0 [] 0 0 (gQ below D Wf post A nc kc args s) (F0 m 0 ls [])) : hgM l y ws rm av D W0 tys H0 Wf post A nc kc := by
  refine Met.ofW (cc := cc) (maxL := maxL) (ret := ret) hy hw ?_
  intro p e s m args below meth c s₁ B hml hv
  obtain ⟨rfl, hH, hP, hK, hT⟩ := hv
  rw [hH, lg_entry_eq]
  exact body p e s m _ below meth c ⟨B.exec, B.bytes, B.returns, hml, findClass_of_methodNamed B.named, atoms_spec (ws := ws) B.pre, B.notSynchronized⟩ hH hP hK hT _ (lv_entry av hn)
/-- a body with handlers, under any start Pc -/
theorem cw_of {S : Type} {Wf : S → va_W} {post : Int32 → S → Prop} {A : Nat → Prop} {nc kc : Nat} {hh : List (Nat × Nat × Nat × Nat)} {B0 : State → Prop} (hy : plainName y.cls = true) (hw : ws = Cond.codeWith y cc maxL ret hh :: ws') (hn : (lg_sl av).length ≤ maxL) (hB0 : ∀ U, B0 U → U.heap = H0)
    (body : ∀ (p : Program) (e : Env) (s : State) (m : MethodId) (args : Array Value) (below : List Frame) (meth : Method) (c : Code), roE p s m meth c args y cc maxL ret ws → c.exceptionTable.toList = tableOf hh → B0 s → ∀ ls : Array Slot, lv_has ls maxL (lv_args 0 av) → W p l e rm s m args below meth c H0 [] 0 0 (gQ below D Wf post A nc kc args s) (F0 m 0 ls [])) : Met l y ws rm (va_Pc av B0) (va_Qi post (fun u t => va_P D vwCl (Wf u) t.heap) A) nc kc A := by
  unfold Met
  refine MetFree.of_bodyS (code := cc) (maxLocals := maxL) (ret := ret) hy ?_ ?_
  · intro args s m h hn
    obtain ⟨m9, meth, c, hn9, h1, h2, h3, h4, -, h5, h6, -⟩ := Cond.codeWith_spec (atoms_spec (ws := ws) h _ (by rw [hw]; exact List.mem_cons_self))
    cases hn.symm.trans hn9
    exact ⟨meth, c, h1, h2, h3, h4, h5, h6⟩
  · intro p e s m args below meth c s₁ B hml hv _
    have hh0 : s₁.heap = s.heap := by rw [B.state]; rfl
    obtain ⟨rfl, hB⟩ := hv
    have hts := atoms_spec (ws := ws) B.pre
    have htab : c.exceptionTable.toList = tableOf hh := vx_table (x := y) B (hts (Cond.codeWith y cc maxL ret hh) (by rw [hw]; exact List.mem_cons_self))
    have K : W p l e rm s m av.toArray below meth c H0 [] 0 0 (gQ below D Wf post A nc kc av.toArray s) (entryFrame m av.toArray maxL) := by
      rw [lg_entry_eq]
      exact body p e s m _ below meth c ⟨B.exec, B.bytes, B.returns, hml, findClass_of_methodNamed B.named, hts, B.notSynchronized⟩ htab hB _ (lv_entry av hn)
    obtain ⟨t, a1, o, b1, b2, b3⟩ := K s₁ (hh0.trans (hB0 _ hB)) (Stand.of_body B)
    exact ⟨t, o, a1, b1, b2, ⟨b3.1, b3.2⟩⟩
end
section
variable {p : Program} {l : Launch} {e : Env} {R : Room} {s : State} {m : MethodId} {args : Array Value} {below : List Frame} {meth : Method} {c : Code} {H : Heap} {locs : List Loc} {cells slots : Nat} {Q : State → Prop}
variable {y : MethodName} {bytes cc : ByteArray} {maxL nL index : Nat} {ret : Option FieldType} {ws ws' : List Cond} {rm : Room} {Ts : List Cond} {own : String} {b : Addr} {As rest st0 : List Value} {pc : Nat} {ls : Array Slot} {D : va_G} {W0 : va_W} {tys : List (ClassId × FieldType)} {A A0 : Nat → Prop} {H0 : Heap}
theorem rv_ret (hexec : p.tables.exec = Jvm.exec) (hb : c.code = cc) (hr : meth.sig.returnType = none) (hlocks : meth.locks = false) (hH : s.heap = H) (hdg : decode cc pc = .ok (.return_, 1)) : W p l e R s m args below meth c H [] 0 0 (rvQ below H args s) (F0 m pc ls []) :=
  W.vret hexec hb hr (fun t ht _ => ⟨⟨(), rfl, trivial, ht⟩, va_F_rf hH ht⟩) (fun _ h => nomatch h) hdg hlocks
theorem g_ret {S : Type} {Wf : S → va_W} {post : Int32 → S → Prop} {nc kc : Nat} {v : Int32} (u : S) (hexec : p.tables.exec = Jvm.exec) (hb : c.code = cc) (hr : meth.sig.returnType = some .int) (hlocks : meth.locks = false) (hH : s.heap = H0) (hS : va_S A H0 H locs) (hP : va_P D vwCl (Wf u) H) (hp : post v u) (hdg : decode cc pc = .ok (.ireturn, 1)) (hc1 : cells ≤ nc) (hc2 : slots ≤ kc) : W p l e R s m args below meth c H locs cells slots (gQ below D Wf post A nc kc args s) (F0 m pc ls [.int v]) :=
  W.widen (k := nc) (n := kc) hc1 hc2 (W.iret (v := v) hexec hb hr (fun t ht _ => ⟨⟨v, u, rfl, hp, (by subst ht; exact hP)⟩, va_S.F (by rw [hH]; exact hS) ht⟩) hS.2.2 hdg hlocks)
theorem g_zret {S : Type} {Wf : S → va_W} {post : Int32 → S → Prop} {nc kc : Nat} {v : Int32} (u : S) (hexec : p.tables.exec = Jvm.exec) (hb : c.code = cc) (hr : meth.sig.returnType = some .boolean) (hlocks : meth.locks = false) (hH : s.heap = H0) (hS : va_S A H0 H locs) (hP : va_P D vwCl (Wf u) H) (hv : ∃ z : Bool, v = bI z) (hp : post v u) (hdg : decode cc pc = .ok (.ireturn, 1)) (hc1 : cells ≤ nc) (hc2 : slots ≤ kc) : W p l e R s m args below meth c H locs cells slots (gQ below D Wf post A nc kc args s) (F0 m pc ls [.int v]) :=
  W.widen (k := nc) (n := kc) hc1 hc2 (W.zret (v := v) hexec hb hr (by obtain ⟨z, rfl⟩ := hv; exact bI_narrow z) (fun t ht _ => ⟨⟨v, u, rfl, hp, (by subst ht; exact hP)⟩, va_S.F (by rw [hH]; exact hS) ht⟩) hS.2.2 hdg hlocks)
/-- a call of a void method that writes nothing -/
theorem rv_go {a : Array Value} (hr : va_Run p l e R s m args below meth c H locs cells slots 0 0 (F0 m pc ls st0) rest (va_Qv (fun (_ : Unit) => True) (fun _ t => t.heap = H) (fun _ => False) a) (fun _ => False))
    (kk : W p l e R s m args below meth c H locs cells slots Q (F0 m (pc + 3) ls rest)) : W p l e R s m args below meth c H locs cells slots Q (F0 m pc ls st0) := by
  intro T hT X
  obtain ⟨v, st₀, t, T', L, h0, X', hL, e1, e2, ⟨⟨u, hv, hp, hb⟩, hF⟩, st⟩ := hr T hT X
  cases hv
  have hL0 : L = [] := by
    cases L with
    | nil => rfl
    | cons q r => exact (hL q List.mem_cons_self).elim
  subst hL0
  rw [List.append_nil] at X'
  obtain ⟨t2, a1, b1⟩ := kk T' (e1.trans hb) X'
  exact ⟨t2, st t2 a1, b1⟩
theorem rv_callV (n : Nat) (hx : p.tables.exec = Jvm.exec) (hb : c.code = cc) (hml : c.maxLocals = nL) (hown : s.vm.findClass own = some m.cls) (hts : ∀ w ∈ Ts, w.before args s = true) (hsize : ls.size = nL)
    (hP : va_P D vwCl W0 H) (hK : va_K D vwCl tys s) (q0 ci : Nat) {q : vw_C} {fs : List Value} (hc : vwCl[ci]? = some q) (he : W0[q0]? = some (b, .inr (ci, fs))) (hM : rvM l y ws rm (.ref b :: As) D W0 tys H) (hG : GoodIn Ts (wsV own index q.1 y ws)) (hw : ws = Cond.code y bytes maxL ret :: ws') (hrc : rm.cells = 0) (hrs : rm.slots = 0)
    (hd : y.cls = q.1 ∧ y.cls ≠ "java/lang/invoke/MethodHandle" ∧ y.cls ≠ "java/lang/invoke/VarHandle" ∧ (parseMethodDescriptor y.desc).map (fun d => d.parameters.length) = some n) (hR : rm.frames + 1 ≤ R.frames ∧ 8 + (maxL + 11) + rm.locals ≤ R.locals) (hn : As.length = n) (hst : st0 = As.reverse ++ .ref b :: rest) (hW : (rest.map fun v => v.category).sum ≤ 8)
    (hdg : decode cc pc = .ok (.invokevirtual index, 3)) (hf : cells ≤ R.cells ∧ slots ≤ R.slots) (kk : W p l e R s m args below meth c H locs cells slots Q (F0 m (pc + 3) ls rest)) : W p l e R s m args below meth c H locs cells slots Q (F0 m pc ls st0) :=
  rv_go (va_runV ⟨hx, hb, hml, hown, hts⟩ hM (cwV n hts hG hw hrc hrs hd hR) ⟨roP_blind, va_recv hK hP hc he, fun U hU hWm => ⟨rfl, hU, hP, va_K.moved hWm.alike hK⟩⟩ rfl hn hsize hst (lv_room hW) hdg hf) kk
theorem rv_callS (n : Nat) (hx : p.tables.exec = Jvm.exec) (hb : c.code = cc) (hml : c.maxLocals = nL) (hown : s.vm.findClass own = some m.cls) (hts : ∀ w ∈ Ts, w.before args s = true) (hsize : ls.size = nL)
    (hP : va_P D vwCl W0 H) (hK : va_K D vwCl tys s) (hM : rvM l y ws rm As D W0 tys H) (hG : GoodIn Ts (va_wsS own index y ws)) (hw : ws = Cond.code y bytes maxL ret :: ws') (hrc : rm.cells = 0) (hrs : rm.slots = 0)
    (hd : y.cls ≠ "java/lang/invoke/MethodHandle" ∧ y.cls ≠ "java/lang/invoke/VarHandle" ∧ (parseMethodDescriptor y.desc).map (fun d => d.parameters.length) = some n) (hR : rm.frames + 1 ≤ R.frames ∧ 8 + (maxL + 11) + rm.locals ≤ R.locals) (hn : As.length = n) (hst : st0 = As.reverse ++ rest) (hW : (rest.map fun v => v.category).sum ≤ 8)
    (hdg : decode cc pc = .ok (.invokestatic index, 3)) (hf : cells ≤ R.cells ∧ slots ≤ R.slots) (kk : W p l e R s m args below meth c H locs cells slots Q (F0 m (pc + 3) ls rest)) : W p l e R s m args below meth c H locs cells slots Q (F0 m pc ls st0) :=
  rv_go (va_runS ⟨hx, hb, hml, hown, hts⟩ hM (va_cwS n hts hG hw hrc hrs hd hR) ⟨roP_blind, fun U hU hWm => ⟨rfl, hU, hP, va_K.moved hWm.alike hK⟩⟩ rfl hn hsize hst (lv_room hW) hdg hf) kk
theorem g_callS {S : Type} {Wf : S → va_W} {post : Int32 → S → Prop} {nc kc : Nat} (n : Nat) (hx : p.tables.exec = Jvm.exec) (hb : c.code = cc) (hml : c.maxLocals = nL) (hown : s.vm.findClass own = some m.cls) (hts : ∀ w ∈ Ts, w.before args s = true) (hsize : ls.size = nL)
    (hP : va_P D vwCl W0 H) (hK : va_K D vwCl tys s) (hS : va_S A0 H0 H locs) (hAA : ∀ q, A q → A0 q) (hM : gM l y ws rm As D W0 tys H Wf post A nc kc) (hG : GoodIn Ts (va_wsS own index y ws)) (hw : ws = Cond.code y bytes maxL ret :: ws') (hrc : rm.cells = nc) (hrs : rm.slots = kc)
    (hd : y.cls ≠ "java/lang/invoke/MethodHandle" ∧ y.cls ≠ "java/lang/invoke/VarHandle" ∧ (parseMethodDescriptor y.desc).map (fun d => d.parameters.length) = some n) (hR : rm.frames + 1 ≤ R.frames ∧ 8 + (maxL + 11) + rm.locals ≤ R.locals) (hn : As.length = n) (hst : st0 = As.reverse ++ rest) (hW : (rest.map fun v => v.category).sum ≤ 8)
    (hdg : decode cc pc = .ok (.invokestatic index, 3)) (hf : cells + nc ≤ R.cells ∧ slots + kc ≤ R.slots) (kk : ∀ (r : Int32) (u : S) (H1 : Heap) (locs1 : List Loc), post r u → va_P D vwCl (Wf u) H1 → va_S A0 H0 H1 locs1 → H.size ≤ H1.size → (∀ q : Nat, q < H.size → ¬ A q → H1[q]? = H[q]?) → W p l e R s m args below meth c H1 locs1 (cells + nc) (slots + kc) Q (F0 m (pc + 3) ls (.int r :: rest))) : W p l e R s m args below meth c H locs cells slots Q (F0 m pc ls st0) :=
  va_calli (va_runS ⟨hx, hb, hml, hown, hts⟩ hM (va_cwS n hts hG hw hrc hrs hd hR) ⟨roP_blind, fun U hU hWm => ⟨rfl, hU, hP, va_K.moved hWm.alike hK⟩⟩ rfl hn hsize hst (lv_room hW) hdg hf) hS (fun q _ h => hAA q h) hAA (fun r u t H1 locs1 ht _ hp hB hz hk hS1 => kk r u H1 locs1 hp (by rw [← ht]; exact hB) hS1 hz hk)
theorem hg_callS {S : Type} {Wf : S → va_W} {post : Int32 → S → Prop} {nc kc : Nat} (n : Nat) (hx : p.tables.exec = Jvm.exec) (hb : c.code = cc) (hml : c.maxLocals = nL) (hown : s.vm.findClass own = some m.cls) (hts : ∀ w ∈ Ts, w.before args s = true) (hsize : ls.size = nL)
    (hP : va_P D vwCl W0 H) (hK : va_K D vwCl tys s) (hT : tpA A H s) (hS : va_S A0 H0 H locs) (hAA : ∀ q, A q → A0 q) (hM : hgM l y ws rm As D W0 tys H Wf post A nc kc) (hG : GoodIn Ts (va_wsS own index y ws)) (hw : ws = Cond.code y bytes maxL ret :: ws') (hrc : rm.cells = nc) (hrs : rm.slots = kc)
    (hd : y.cls ≠ "java/lang/invoke/MethodHandle" ∧ y.cls ≠ "java/lang/invoke/VarHandle" ∧ (parseMethodDescriptor y.desc).map (fun d => d.parameters.length) = some n) (hR : rm.frames + 1 ≤ R.frames ∧ 8 + (maxL + 11) + rm.locals ≤ R.locals) (hn : As.length = n) (hst : st0 = As.reverse ++ rest) (hW : (rest.map fun v => v.category).sum ≤ 8)
    (hdg : decode cc pc = .ok (.invokestatic index, 3)) (hf : cells + nc ≤ R.cells ∧ slots + kc ≤ R.slots) (kk : ∀ (r : Int32) (u : S) (H1 : Heap) (locs1 : List Loc), post r u → va_P D vwCl (Wf u) H1 → va_S A0 H0 H1 locs1 → H.size ≤ H1.size → (∀ q : Nat, q < H.size → ¬ A q → H1[q]? = H[q]?) → W p l e R s m args below meth c H1 locs1 (cells + nc) (slots + kc) Q (F0 m (pc + 3) ls (.int r :: rest))) : W p l e R s m args below meth c H locs cells slots Q (F0 m pc ls st0) :=
  va_calli (va_runS ⟨hx, hb, hml, hown, hts⟩ hM (va_cwS n hts hG hw hrc hrs hd hR) ⟨thP_blind, fun U hU hWm => ⟨rfl, hU, hP, va_K.moved hWm.alike hK, tpA_warm hWm hT⟩⟩ rfl hn hsize hst (lv_room hW) hdg hf) hS (fun q _ h => hAA q h) hAA (fun r u t H1 locs1 ht _ hp hB hz hk hS1 => kk r u H1 locs1 hp (by rw [← ht]; exact hB) hS1 hz hk)
/-- of a method with handlers -/
theorem hg_callSW {S : Type} {Wf : S → va_W} {post : Int32 → S → Prop} {nc kc : Nat} {hh : List (Nat × Nat × Nat × Nat)} (n : Nat) (hx : p.tables.exec = Jvm.exec) (hb : c.code = cc) (hml : c.maxLocals = nL) (hown : s.vm.findClass own = some m.cls) (hts : ∀ w ∈ Ts, w.before args s = true) (hsize : ls.size = nL)
    (hP : va_P D vwCl W0 H) (hK : va_K D vwCl tys s) (hT : tpA A H s) (hS : va_S A0 H0 H locs) (hAA : ∀ q, A q → A0 q) (hM : hgM l y ws rm As D W0 tys H Wf post A nc kc) (hG : GoodIn Ts (va_wsS own index y ws)) (hw : ws = Cond.codeWith y bytes maxL ret hh :: ws') (hrc : rm.cells = nc) (hrs : rm.slots = kc)
    (hd : y.cls ≠ "java/lang/invoke/MethodHandle" ∧ y.cls ≠ "java/lang/invoke/VarHandle" ∧ (parseMethodDescriptor y.desc).map (fun d => d.parameters.length) = some n) (hR : rm.frames + 1 ≤ R.frames ∧ 8 + (maxL + 11) + rm.locals ≤ R.locals) (hn : As.length = n) (hst : st0 = As.reverse ++ rest) (hW : (rest.map fun v => v.category).sum ≤ 8)
    (hdg : decode cc pc = .ok (.invokestatic index, 3)) (hf : cells + nc ≤ R.cells ∧ slots + kc ≤ R.slots) (kk : ∀ (r : Int32) (u : S) (H1 : Heap) (locs1 : List Loc), post r u → va_P D vwCl (Wf u) H1 → va_S A0 H0 H1 locs1 → H.size ≤ H1.size → (∀ q : Nat, q < H.size → ¬ A q → H1[q]? = H[q]?) → W p l e R s m args below meth c H1 locs1 (cells + nc) (slots + kc) Q (F0 m (pc + 3) ls (.int r :: rest))) : W p l e R s m args below meth c H locs cells slots Q (F0 m pc ls st0) :=
  va_calli (vx_runSW ⟨hx, hb, hml, hown, hts⟩ hM (vx_cwSW n hts hG hw hrc hrs hd hR) ⟨thP_blind, fun U hU hWm => ⟨rfl, hU, hP, va_K.moved hWm.alike hK, tpA_warm hWm hT⟩⟩ rfl hn hsize hst (lv_room hW) hdg hf) hS (fun q _ h => hAA q h) hAA (fun r u t H1 locs1 ht _ hp hB hz hk hS1 => kk r u H1 locs1 hp (by rw [← ht]; exact hB) hS1 hz hk)
theorem th_callV {S : Type} {Wf : S → va_W} {post : Int32 → S → Prop} {XP : String → Prop} (n : Nat) (hx : p.tables.exec = Jvm.exec) (hb : c.code = cc) (hml : c.maxLocals = nL) (hown : s.vm.findClass own = some m.cls) (hts : ∀ w ∈ Ts, w.before args s = true) (hsize : ls.size = nL)
    (hP : va_P D vwCl W0 H) (hK : va_K D vwCl tys s) (hT : tpA A H s) (hS : va_S A0 H0 H locs) (hAA : ∀ q, A q → A0 q) (q0 ci : Nat) {q : vw_C} {fs : List Value} (hc : vwCl[ci]? = some q) (he : W0[q0]? = some (b, .inr (ci, fs))) (hM : thM l y ws rm (.ref b :: As) D W0 tys H A Wf post XP) (hG : GoodIn Ts (wsV own index q.1 y ws)) (hw : ws = Cond.code y bytes maxL ret :: ws') (hrc : rm.cells = 1) (hrs : rm.slots = 6)
    (hd : y.cls = q.1 ∧ y.cls ≠ "java/lang/invoke/MethodHandle" ∧ y.cls ≠ "java/lang/invoke/VarHandle" ∧ (parseMethodDescriptor y.desc).map (fun d => d.parameters.length) = some n) (hR : rm.frames + 1 ≤ R.frames ∧ 8 + (maxL + 11) + rm.locals ≤ R.locals) (hn : As.length = n) (hst : st0 = As.reverse ++ .ref b :: rest) (hW : (rest.map fun v => v.category).sum ≤ 8)
    (hdg : decode cc pc = .ok (.invokevirtual index, 3)) (hf : cells + 1 ≤ R.cells ∧ slots + 6 ≤ R.slots)
    (kx : ∀ (E : String) (ce : Cell) (q9 : Addr) (H1 : Heap) (locs1 : List Loc), XP E → grew H H1 → va_S A0 H0 H1 locs1 → H1[q9]? = some ce → ce.vm = .none → s.vm.findClass E = some ce.cls → vx_W p l e R s m args below meth c H1 locs1 (cells + 1) (slots + 6) Q (F0 m pc ls rest) q9)
    (kk : ∀ (r : Int32) (u : S) (H1 : Heap) (locs1 : List Loc), post r u → va_P D vwCl (Wf u) H1 → va_S A0 H0 H1 locs1 → (∀ q : Nat, q < H.size → ¬ A q → H1[q]? = H[q]?) → W p l e R s m args below meth c H1 locs1 (cells + 1) (slots + 6) Q (F0 m (pc + 3) ls (.int r :: rest))) : W p l e R s m args below meth c H locs cells slots Q (F0 m pc ls st0) := by
  intro T hT0 X
  rcases vx_runV ⟨hx, hb, hml, hown, hts⟩ hM (cwV n hts hG hw hrc hrs hd hR) ⟨thP_blind, va_recv hK hP hc he, fun U hU hWm => ⟨rfl, hU, hP, va_K.moved hWm.alike hK, tpA_warm hWm hT⟩⟩ rfl hn hsize hst (lv_room hW) hdg hf T hT0 X with ⟨v, st₀, t, T', L, h0, X', hL, e1, e2, ⟨⟨r, u, hv, hp, hb9⟩, hF⟩, st⟩ | ⟨q9, st₀, t, T', L, E, ce, h0, X', hL, e1, e2, ⟨hxp, hg⟩, hce, hcv, hcl, st⟩
  · cases hv
    obtain ⟨k1, k2, k3⟩ := vx_keep h0 e1 hS (fun q _ h => hAA q h) hAA hL hF
    obtain ⟨t2, a1, b1⟩ := kk r u T'.heap (locs ++ L) hp (by rw [e1]; exact hb9) k3 k2 T' rfl X'
    exact ⟨t2, st t2 a1, b1⟩
  · have hg2 : grew H T'.heap := by rw [e1]; exact hg
    have hS2 : va_S A0 H0 T'.heap (locs ++ L) := ⟨Nat.le_trans hS.1 hg2.1, fun q h1 h2 => (hg2.2 q (Nat.lt_of_lt_of_le h1 hS.1)).trans (hS.2.1 q h1 h2), fun q hq => by
      rcases List.mem_append.mp hq with h | h
      · exact hS.2.2 q h
      · exact hAA _ (hL q h)⟩
    obtain ⟨t2, a1, b1⟩ := kx E ce q9 T'.heap (locs ++ L) hxp hg2 hS2 (by rw [e1]; exact hce) hcv hcl T' rfl X'
    exact ⟨t2, st.trans a1, b1⟩
/-- a call of the face that cannot throw here -/
theorem ok_callV {S : Type} {Wf : S → va_W} {post : Int32 → S → Prop} {XP : String → Prop} (n : Nat) (hx : p.tables.exec = Jvm.exec) (hb : c.code = cc) (hml : c.maxLocals = nL) (hown : s.vm.findClass own = some m.cls) (hts : ∀ w ∈ Ts, w.before args s = true) (hsize : ls.size = nL)
    (hP : va_P D vwCl W0 H) (hK : va_K D vwCl tys s) (hT : tpA A H s) (hS : va_S A0 H0 H locs) (hAA : ∀ q, A q → A0 q) (q0 ci : Nat) {q : vw_C} {fs : List Value} (hc : vwCl[ci]? = some q) (he : W0[q0]? = some (b, .inr (ci, fs))) (hM : thM l y ws rm (.ref b :: As) D W0 tys H A Wf post XP) (hno : ∀ E, ¬ XP E) (hG : GoodIn Ts (wsV own index q.1 y ws)) (hw : ws = Cond.code y bytes maxL ret :: ws') (hrc : rm.cells = 1) (hrs : rm.slots = 6)
    (hd : y.cls = q.1 ∧ y.cls ≠ "java/lang/invoke/MethodHandle" ∧ y.cls ≠ "java/lang/invoke/VarHandle" ∧ (parseMethodDescriptor y.desc).map (fun d => d.parameters.length) = some n) (hR : rm.frames + 1 ≤ R.frames ∧ 8 + (maxL + 11) + rm.locals ≤ R.locals) (hn : As.length = n) (hst : st0 = As.reverse ++ .ref b :: rest) (hW : (rest.map fun v => v.category).sum ≤ 8)
    (hdg : decode cc pc = .ok (.invokevirtual index, 3)) (hf : cells + 1 ≤ R.cells ∧ slots + 6 ≤ R.slots)
    (kk : ∀ (r : Int32) (u : S) (H1 : Heap) (locs1 : List Loc), post r u → va_P D vwCl (Wf u) H1 → va_S A0 H0 H1 locs1 → (∀ q : Nat, q < H.size → ¬ A q → H1[q]? = H[q]?) → W p l e R s m args below meth c H1 locs1 (cells + 1) (slots + 6) Q (F0 m (pc + 3) ls (.int r :: rest))) : W p l e R s m args below meth c H locs cells slots Q (F0 m pc ls st0) :=
  th_callV n hx hb hml hown hts hsize hP hK hT hS hAA q0 ci hc he hM hG hw hrc hrs hd hR hn hst hW hdg hf (fun E _ _ _ _ hxp _ _ _ _ _ => (hno E hxp).elim) kk
theorem xcp_no {K : Int32} {e1 e2 e3 : String} (h : K = 0) : ∀ E, ¬ xcp K e1 e2 e3 E := by
  intro E hx
  subst h
  rcases hx with ⟨h, -⟩ | ⟨h, -⟩ | ⟨h, -⟩ <;> exact absurd h (by decide)
end
theorem gkn2 {b1 b3 : Bool} (h : goK b1 true b3 = 2) : False := by cases b1 <;> cases b3 <;> exact absurd h (by decide)
theorem gkn3 {b1 b2 : Bool} (h : goK b1 b2 true = 3) : False := by cases b1 <;> cases b2 <;> exact absurd h (by decide)
theorem bI_01 (b : Bool) : bI b = 0 ∨ bI b = 1 := by cases b; exact Or.inl rfl; exact Or.inr rfl
theorem nx_01 (σ : St) (j : Nat) : nxF σ j = 0 ∨ nxF σ j = 1 := by unfold nxF; by_cases h : σ 13 j = 0; rw [if_pos h]; exact Or.inr rfl; rw [if_neg h]; exact Or.inl rfl

theorem goK_0 {b1 b2 b3 : Bool} (h : goK b1 b2 b3 = 0) : b1 = true ∧ b2 = true ∧ b3 = true := by cases b1 <;> cases b2 <;> cases b3 <;> first | exact ⟨rfl, rfl, rfl⟩ | exact absurd h (by decide)
theorem inR_b {v lo hi : Int32} {x y : Int} (h : inR v lo hi = true) (hx : lo.toInt = x) (hy : hi.toInt = y) : x ≤ v.toInt ∧ v.toInt ≤ y := by rw [← hx, ← hy]; exact inR_sp h
theorem inv_0 {σ : St} {nL nB : Nat} {f : Nat → Int32} (h : inv σ nL nB) (hf : ∀ t, t < 48 → -200 ≤ (f t).toInt ∧ (f t).toInt ≤ 200) : inv (st σ 0 f) nL nB := by
  obtain ⟨h1, h2, h3, h4, h5, h6, h7⟩ := h
  exact ⟨h1, h2, h3, h4, fun t ht => ⟨(hf t ht).1, (hf t ht).2, (h5 t ht).2.2.1, (h5 t ht).2.2.2⟩, h6, h7⟩
theorem inv_1 {σ : St} {nL nB : Nat} {f : Nat → Int32} (h : inv σ nL nB) (hf : ∀ t, t < 48 → -200 ≤ (f t).toInt ∧ (f t).toInt ≤ 200) : inv (st σ 1 f) nL nB := by
  obtain ⟨h1, h2, h3, h4, h5, h6, h7⟩ := h
  exact ⟨h1, h2, h3, h4, fun t ht => ⟨(h5 t ht).1, (h5 t ht).2.1, (hf t ht).1, (hf t ht).2⟩, h6, h7⟩
theorem inv_tide {σ : St} {nL nB k : Nat} {v : Int32} (h : inv σ nL nB) (hv : inR v (-200) 200 = true) : inv (st σ 0 (upd (σ 0) k v)) nL nB := by
  obtain ⟨v1, v2⟩ := inR_b hv (x := -200) (y := 200) rfl rfl
  refine inv_0 h (fun t ht => ?_)
  obtain ⟨a1, a2, -⟩ := h.2.2.2.2.1 t ht
  show -200 ≤ (if t = k then v else σ 0 t).toInt ∧ (if t = k then v else σ 0 t).toInt ≤ 200
  by_cases e : t = k
  · rw [if_pos e]; exact ⟨v1, v2⟩
  · rw [if_neg e]; exact ⟨a1, a2⟩
theorem inv_load {σ : St} {nL nB k : Nat} {v : Int32} (h : inv σ nL nB) (hv : inR v (-200) 200 = true) : inv (st σ 1 (ldF (σ 1) k v 48)) nL nB := by
  obtain ⟨v1, v2⟩ := inR_b hv (x := -200) (y := 200) rfl rfl
  refine inv_1 h (fun t ht => ?_)
  obtain ⟨-, -, a1, a2⟩ := h.2.2.2.2.1 t ht
  unfold ldF
  by_cases e : k ≤ t ∧ t < 48
  · rw [if_pos e]; exact ⟨v1, v2⟩
  · rw [if_neg e]; exact ⟨a1, a2⟩
theorem inv_tog {σ : St} {nL nB k : Nat} (h : inv σ nL nB) : inv (st σ 13 (upd (σ 13) k (nxF σ k))) nL nB := by
  obtain ⟨h1, h2, h3, h4, h5, h6, h7⟩ := h
  refine ⟨h1, h2, h3, h4, h5, h6, fun j hj => ?_⟩
  obtain ⟨a1, a2, a3, a4, a5, a6⟩ := h7 j hj
  refine ⟨a1, a2, a3, a4, a5, ?_⟩
  show (if j = k then nxF σ k else σ 13 j) = 0 ∨ (if j = k then nxF σ k else σ 13 j) = 1
  by_cases e : j = k
  · rw [if_pos e]; exact nx_01 σ k
  · rw [if_neg e]; exact a6
theorem inv_ab {σ : St} {nL nB : Nat} {p lim : Int32} (h : inv σ nL nB) (hp : inR p (-5000) 5000 = true) (hlt : nB < 6) : inv (abS σ nB p lim) nL (nB + 1) := by
  obtain ⟨v1, v2⟩ := inR_b hp (x := -5000) (y := 5000) rfl rfl
  obtain ⟨h1, h2, h3, h4, h5, h6, h7⟩ := h
  refine ⟨h1, h2, rfl, by omega, h5, fun b hb => ?_, fun j hj => ?_⟩
  · show -5000 ≤ (if b = nB then p else σ 5 b).toInt ∧ (if b = nB then p else σ 5 b).toInt ≤ 5000
    by_cases e : b = nB
    · rw [if_pos e]; exact ⟨v1, v2⟩
    · rw [if_neg e]; exact h6 b (by omega)
  · obtain ⟨⟨b, hb, eb⟩, a2, a3, a4, a5, a6⟩ := h7 j hj
    exact ⟨⟨b, by omega, eb⟩, a2, a3, a4, a5, a6⟩
theorem inv_al' {σ : St} {nL nB : Nat} {pt bo sf sr : Int32} (h : inv σ nL nB) (hb : inR bo 0 (nI nB - 1) = true) (hp : inR pt (-5000) 5000 = true) (hsf : inR sf 1 100 = true) (hsr : inR sr 1 1000000 = true) (hlt : nL < 10) : inv (alS σ nL pt bo sf sr) (nL + 1) nB := by
  obtain ⟨p1, p2⟩ := inR_b hp (x := -5000) (y := 5000) rfl rfl
  obtain ⟨s1, s2⟩ := inR_b hsf (x := 1) (y := 100) rfl rfl
  obtain ⟨r1, r2⟩ := inR_b hsr (x := 1) (y := 1000000) rfl rfl
  obtain ⟨h1, h2, h3, h4, h5, h6, h7⟩ := h
  obtain ⟨b, hb2, rfl⟩ := inR_line (by omega) hb
  have eb : tN (nI b) = b := tN_nI (by omega)
  obtain ⟨q1, q2⟩ := h6 b hb2
  have er : (σ 5 b - pt).toInt = (σ 5 b).toInt - pt.toInt := Jvm.Kit.i32_sub (by omega) (by omega)
  have e7 : (300 : Int32).toInt = 300 := rfl
  have hA : inA (σ 5 b - pt) := by unfold inA; omega
  have hH : inH 300 := by unfold inH; omega
  obtain ⟨n, en, hn⟩ := LENs_le hA hH
  have en2 : (nI n).toInt = (n : Int) := nI_ti (by omega)
  unfold alS
  rw [eb]
  refine ⟨rfl, by omega, h3, h4, h5, h6, fun j hj => ?_⟩
  by_cases e : j = nL
  · refine ⟨⟨b, hb2, ?_⟩, ?_, ?_, ?_, ?_, ?_⟩
    · show (if j = nL then nI b else σ 8 j) = nI b
      rw [if_pos e]
    · show -10000 ≤ (if j = nL then σ 5 b - pt else σ 9 j).toInt ∧ (if j = nL then σ 5 b - pt else σ 9 j).toInt ≤ 10000
      rw [if_pos e]; omega
    · show 1 ≤ (if j = nL then sf else σ 10 j).toInt ∧ (if j = nL then sf else σ 10 j).toInt ≤ 100
      rw [if_pos e]; omega
    · show 1 ≤ (if j = nL then sr else σ 11 j).toInt ∧ (if j = nL then sr else σ 11 j).toInt ≤ 1000000
      rw [if_pos e]; omega
    · show 0 ≤ (if j = nL then LENs (σ 5 b - pt) 300 else σ 12 j).toInt ∧ (if j = nL then LENs (σ 5 b - pt) 300 else σ 12 j).toInt ≤ 20000
      rw [if_pos e, en]; omega
    · show (if j = nL then 1 else σ 13 j) = 0 ∨ (if j = nL then 1 else σ 13 j) = 1
      rw [if_pos e]; exact Or.inr rfl
  · obtain ⟨⟨b9, hb9, eb9⟩, a2, a3, a4, a5, a6⟩ := h7 j (by omega)
    refine ⟨⟨b9, hb9, ?_⟩, ?_, ?_, ?_, ?_, ?_⟩
    · show (if j = nL then nI b else σ 8 j) = nI b9
      rw [if_neg e]; exact eb9
    · show -10000 ≤ (if j = nL then σ 5 b - pt else σ 9 j).toInt ∧ (if j = nL then σ 5 b - pt else σ 9 j).toInt ≤ 10000
      rw [if_neg e]; exact a2
    · show 1 ≤ (if j = nL then sf else σ 10 j).toInt ∧ (if j = nL then sf else σ 10 j).toInt ≤ 100
      rw [if_neg e]; exact a3
    · show 1 ≤ (if j = nL then sr else σ 11 j).toInt ∧ (if j = nL then sr else σ 11 j).toInt ≤ 1000000
      rw [if_neg e]; exact a4
    · show 0 ≤ (if j = nL then LENs (σ 5 b - pt) 300 else σ 12 j).toInt ∧ (if j = nL then LENs (σ 5 b - pt) 300 else σ 12 j).toInt ≤ 20000
      rw [if_neg e]; exact a5
    · show (if j = nL then 1 else σ 13 j) = 0 ∨ (if j = nL then 1 else σ 13 j) = 1
      rw [if_neg e]; exact a6
theorem inv_tend {σ : St} {nL nB : Nat} {line hour slack : Int32} (h : inv σ nL nB) (hl : inR line 0 (nI nL - 1) = true) (hh : inR hour 0 47 = true) (hs : inR slack (-100) 100 = true) : inv (st σ 12 (upd (σ 12) (tN line) (tdR σ line hour slack))) nL nB := by
  obtain ⟨v1, v2⟩ := inR_b hs (x := -100) (y := 100) rfl rfl
  have h2 := h.2.1
  obtain ⟨j, hj, rfl⟩ := inR_line (by omega) hl
  obtain ⟨t, ht, rfl⟩ := inR_hour hh
  have ej : tN (nI j) = j := tN_nI (by omega)
  have et : tN (nI t) = t := tN_nI (by omega)
  obtain ⟨n, en, hn⟩ := inv_len h hj ht (bal_inS σ t)
  have en2 : (nI n).toInt = (n : Int) := nI_ti (by omega)
  have e0 : (0 : Int32).toInt = 0 := rfl
  have ea : (nI n + slack).toInt = (n : Int) + slack.toInt := by rw [Jvm.Kit.i32_add (by omega) (by omega), en2]
  refine inv_st12 h (fun i hi => ?_)
  obtain ⟨-, -, -, -, a5, -⟩ := h.2.2.2.2.2.2 i hi
  rw [ej]
  show 0 ≤ (if i = j then tdR σ (nI j) (nI t) slack else σ 12 i).toInt ∧ (if i = j then tdR σ (nI j) (nI t) slack else σ 12 i).toInt ≤ 20000
  by_cases e : i = j
  · rw [if_pos e]
    unfold tdR mx0
    rw [ej, et, en]
    by_cases w : 0 < nI n + slack
    · rw [if_pos w]
      have w2 := i_lt.mp w
      omega
    · rw [if_neg w]; omega
  · rw [if_neg e]; exact a5
theorem tpA_kept {A : Nat → Prop} {H0 H : Heap} {locs : List Loc} {s : State} (h : tpA A H0 s) (hS : va_S A H0 H locs) : tpA A H s := ⟨⟨vx_Zq.kept h.1.1 (fun a h1 h2 => hS.2.1 a h1 h2), vx_Zq.kept h.1.2 (fun a h1 h2 => hS.2.1 a h1 h2)⟩, h.2⟩
theorem sc_ld {p : Program} {l : Launch} {e : Env} {R : Room} {s : State} {m : MethodId} {args : Array Value} {below : List Frame} {meth : Method} {c : Code} {H : Heap} {locs : List Loc} {cells slots : Nat} {Q : State → Prop} {cc : ByteArray} {pc : Nat} {ls : Array Slot} {rest : List Value} {A : Nat → Prop} {H0 : Heap} (hx : p.tables.exec = Jvm.exec) (hb : c.code = cc) {b L : Nat} {xs : Nat → Int32} (hX : va_X b L xs s H0) (hbl : b < H0.size) (hbA : ¬ A b) (hS : va_S A H0 H locs) {i : Nat} (hi : i < L) (hL : L ≤ 2560) (hdg : decode cc pc = .ok (.iaload, 1))
    (kk : W p l e R s m args below meth c H locs cells slots Q (F0 m (pc + 1) ls (.int (xs i) :: rest))) : W p l e R s m args below meth c H locs cells slots Q (F0 m pc ls (.int (nI i) :: .ref b :: rest)) :=
  va_sld hx hb hX hbl hbA hS (vp_in_nI hi (by omega)) hdg (by rw [nI_clamp (by omega)]; exact kk)
end
section
/-! MoorWatch: its checks where they pass, its reading calls at right arguments: nothing is written, nothing made. -/
set_option maxHeartbeats 4000000 in
set_option maxRecDepth 100000 in
theorem v_X0_checkHour (l : Launch) (D : va_G) (W0 : va_W) (tys : List (ClassId × FieldType)) (H : Heap) (t : Nat) (ht48 : t < 48) : rvM l yX0_checkHour wsX0_checkHour ({ frames := 0, cells := 0, slots := 0, locals := 0 }) [.int (nI t)] D W0 tys H := by
  refine rv_of (cc := cX0_checkHour) (maxL := 1) (ret := none) (by decide) rfl (Nat.le_of_ble_eq_true rfl) ?_
  intro p e s m args below meth c he hH hP hK ls hl
  obtain ⟨hx, hb, hr, hml, hown, hts, hlocks⟩ := he
  have hown : s.vm.findClass RX0 = some m.cls := hown
  have hl : lv_has ls 1 [(0, .int (nI t))] := hl
  refine lv_iload_n hx hb dX0_checkHour_0 rfl (lv_at hl 0 rfl) ?_
  refine lv_if_lt (tgt := 10) hx hb dX0_checkHour_1 (by decide) (fun c1 => ?_) (fun c1 => ?_)
  · exact absurd c1 (nI_pos (by omega))
  · refine lv_iload_n hx hb dX0_checkHour_4 rfl (lv_at hl 0 rfl) ?_
    refine lv_bipush (v := 48) hx hb dX0_checkHour_5 (by decide) ?_
    refine lv_icmp_lt (tgt := 20) hx hb dX0_checkHour_7 (by decide) (fun c7 => ?_) (fun c7 => ?_)
    · exact rv_ret hx hb hr hlocks hH dX0_checkHour_20
    · exact absurd (nI_lt (a := t) (b := 48) (by omega) (by omega)) c7
set_option maxHeartbeats 4000000 in
set_option maxRecDepth 100000 in
theorem v_X0_checkRange (l : Launch) (D : va_G) (W0 : va_W) (tys : List (ClassId × FieldType)) (H : Heap) (v lo hi : Int32) (h1 : ¬ v < lo) (h2 : v ≤ hi) : rvM l yX0_checkRange wsX0_checkRange ({ frames := 0, cells := 0, slots := 0, locals := 0 }) [.int v, .int lo, .int hi] D W0 tys H := by
  refine rv_of (cc := cX0_checkRange) (maxL := 3) (ret := none) (by decide) rfl (Nat.le_of_ble_eq_true rfl) ?_
  intro p e s m args below meth c he hH hP hK ls hl
  obtain ⟨hx, hb, hr, hml, hown, hts, hlocks⟩ := he
  have hown : s.vm.findClass RX0 = some m.cls := hown
  have hl : lv_has ls 3 [(0, .int v), (1, .int lo), (2, .int hi)] := hl
  refine lv_iload_n hx hb dX0_checkRange_0 rfl (lv_at hl 0 rfl) ?_
  refine lv_iload_n hx hb dX0_checkRange_1 rfl (lv_at hl 1 rfl) ?_
  refine lv_icmp_lt (tgt := 10) hx hb dX0_checkRange_2 (by decide) (fun c2 => ?_) (fun c2 => ?_)
  · exact absurd c2 h1
  · refine lv_iload_n hx hb dX0_checkRange_5 rfl (lv_at hl 0 rfl) ?_
    refine lv_iload_n hx hb dX0_checkRange_6 rfl (lv_at hl 2 rfl) ?_
    refine lv_icmp_le (tgt := 20) hx hb dX0_checkRange_7 (by decide) (fun c7 => ?_) (fun c7 => ?_)
    · exact rv_ret hx hb hr hlocks hH dX0_checkRange_20
    · exact absurd h2 c7
set_option maxHeartbeats 4000000 in
set_option maxRecDepth 100000 in
theorem v_X0_checkLine (l : Launch) (D : va_G) (cI cZ : ClassId) (h : Nat) (a : Nat → Nat) (σ : St) (H : Heap) {nL nB : Nat} (hI : inv σ nL nB) (j : Nat) (hj : j < nL) : rvM l yX0_checkLine wsX0_checkLine ({ frames := 0, cells := 0, slots := 0, locals := 0 }) [.ref h, .int (nI j)] D (xw cI cZ h a σ) (tyX cI cZ) H := by
  refine rv_of (cc := cX0_checkLine) (maxL := 2) (ret := none) (by decide) rfl (Nat.le_of_ble_eq_true rfl) ?_
  intro p e s m args below meth c he hH hP hK ls hl
  obtain ⟨hx, hb, hr, hml, hown, hts, hlocks⟩ := he
  have hown : s.vm.findClass RX0 = some m.cls := hown
  have hl : lv_has ls 2 [(0, .ref h), (1, .int (nI j))] := hl
  have hin : ∀ w ∈ u_ws RX0 TX0 15, w ∈ wsX0_checkLine := by decide +kernel
  have hL : σ 7 0 = nI nL := hI.1
  have hL10 : nL ≤ 10 := hI.2.1
  have hB : σ 4 0 = nI nB := hI.2.2.1
  have hB6 : nB ≤ 6 := hI.2.2.2.1
  refine lv_iload_n hx hb dX0_checkLine_0 rfl (lv_at hl 1 rfl) ?_
  refine lv_if_lt (tgt := 12) hx hb dX0_checkLine_1 (by decide) (fun c1 => ?_) (fun c1 => ?_)
  · exact absurd c1 (nI_pos (by omega))
  · refine lv_iload_n hx hb dX0_checkLine_4 rfl (lv_at hl 1 rfl) ?_
    refine lv_aload_n hx hb dX0_checkLine_5 rfl (lv_at hl 0 rfl) ?_
    refine x_get hin hx hb hts hown hK hP rfl 7 (by decide) (v := .int (nI nL)) (congrArg (fun z => some (Value.int z)) hL) (by decide +kernel) dX0_checkLine_6 ?_
    refine lv_icmp_lt (tgt := 22) hx hb dX0_checkLine_9 (by decide) (fun c9 => ?_) (fun c9 => ?_)
    · exact rv_ret hx hb hr hlocks hH dX0_checkLine_22
    · exact absurd (nI_lt (a := j) (b := nL) hj (by omega)) c9
set_option maxHeartbeats 4000000 in
set_option maxRecDepth 100000 in
theorem v_X0_checkBollard (l : Launch) (D : va_G) (cI cZ : ClassId) (h : Nat) (a : Nat → Nat) (σ : St) (H : Heap) {nL nB : Nat} (hI : inv σ nL nB) (j : Nat) (hj : j < nB) : rvM l yX0_checkBollard wsX0_checkBollard ({ frames := 0, cells := 0, slots := 0, locals := 0 }) [.ref h, .int (nI j)] D (xw cI cZ h a σ) (tyX cI cZ) H := by
  refine rv_of (cc := cX0_checkBollard) (maxL := 2) (ret := none) (by decide) rfl (Nat.le_of_ble_eq_true rfl) ?_
  intro p e s m args below meth c he hH hP hK ls hl
  obtain ⟨hx, hb, hr, hml, hown, hts, hlocks⟩ := he
  have hown : s.vm.findClass RX0 = some m.cls := hown
  have hl : lv_has ls 2 [(0, .ref h), (1, .int (nI j))] := hl
  have hin : ∀ w ∈ u_ws RX0 TX0 15, w ∈ wsX0_checkBollard := by decide +kernel
  have hL : σ 7 0 = nI nL := hI.1
  have hL10 : nL ≤ 10 := hI.2.1
  have hB : σ 4 0 = nI nB := hI.2.2.1
  have hB6 : nB ≤ 6 := hI.2.2.2.1
  refine lv_iload_n hx hb dX0_checkBollard_0 rfl (lv_at hl 1 rfl) ?_
  refine lv_if_lt (tgt := 12) hx hb dX0_checkBollard_1 (by decide) (fun c1 => ?_) (fun c1 => ?_)
  · exact absurd c1 (nI_pos (by omega))
  · refine lv_iload_n hx hb dX0_checkBollard_4 rfl (lv_at hl 1 rfl) ?_
    refine lv_aload_n hx hb dX0_checkBollard_5 rfl (lv_at hl 0 rfl) ?_
    refine x_get hin hx hb hts hown hK hP rfl 4 (by decide) (v := .int (nI nB)) (congrArg (fun z => some (Value.int z)) hB) (by decide +kernel) dX0_checkBollard_6 ?_
    refine lv_icmp_lt (tgt := 22) hx hb dX0_checkBollard_9 (by decide) (fun c9 => ?_) (fun c9 => ?_)
    · exact rv_ret hx hb hr hlocks hH dX0_checkBollard_22
    · exact absurd (nI_lt (a := j) (b := nB) hj (by omega)) c9
set_option maxHeartbeats 4000000 in
set_option maxRecDepth 100000 in
theorem r_X0_force (l : Launch) (D : va_G) (cI cZ : ClassId) (h : Nat) (a : Nat → Nat) (σ : St) (H : Heap) {nL nB : Nat} (hI : inv σ nL nB) (t : Nat) (ht48 : t < 48) (s9 : Int32) (hs9 : inS s9) : roM l yX0_force wsX0_force ({ frames := 4, cells := 0, slots := 0, locals := 93 }) [.ref h, .int (nI t), .int s9] D (xw cI cZ h a σ) (tyX cI cZ) H (fun r => r = frc σ t s9) := by
  refine ro_of (cc := cX0_force) (maxL := 3) (ret := some .int) (by decide) rfl (Nat.le_of_ble_eq_true rfl) ?_
  intro p e s m args below meth c he hH hP hK ls hl
  obtain ⟨hx, hb, hr, hml, hown, hts, hlocks⟩ := he
  have hown : s.vm.findClass RX0 = some m.cls := hown
  have hl : lv_has ls 3 [(0, .ref h), (1, .int (nI t)), (2, .int s9)] := hl
  refine lv_iload_n hx hb dX0_force_0 rfl (lv_at hl 1 rfl) ?_
  refine rv_callS 1 hx hb hml hown hts hl.1 hP hK (As := [.int (nI t)]) (rest := []) (v_X0_checkHour l D (xw cI cZ h a σ) (tyX cI cZ) H t ht48) gX0_force_X0_checkHour rfl rfl rfl (by decide +kernel) ⟨Nat.le_of_ble_eq_true rfl, Nat.le_of_ble_eq_true rfl⟩ rfl rfl (Nat.le_of_ble_eq_true rfl) dX0_force_1 ⟨Nat.zero_le _, Nat.zero_le _⟩ ?_
  refine lv_iload_n hx hb dX0_force_4 rfl (lv_at hl 2 rfl) ?_
  refine lv_sipush (v := (-200)) hx hb dX0_force_5 (by decide) ?_
  refine lv_sipush (v := 200) hx hb dX0_force_8 (by decide) ?_
  refine rv_callS 3 hx hb hml hown hts hl.1 hP hK (As := [.int s9, .int (-200), .int 200]) (rest := []) (v_X0_checkRange l D (xw cI cZ h a σ) (tyX cI cZ) H s9 (-200) 200 (fun q => by have q2 := i_lt.mp q; have e : (-200 : Int32).toInt = -200 := rfl; have := hs9.1; omega) (i_le.mpr (by have e : (200 : Int32).toInt = 200 := rfl; have := hs9.2; omega))) gX0_force_X0_checkRange rfl rfl rfl (by decide +kernel) ⟨Nat.le_of_ble_eq_true rfl, Nat.le_of_ble_eq_true rfl⟩ rfl rfl (Nat.le_of_ble_eq_true rfl) dX0_force_11 ⟨Nat.zero_le _, Nat.zero_le _⟩ ?_
  refine lv_aload_n hx hb dX0_force_14 rfl (lv_at hl 0 rfl) ?_
  refine lv_iload_n hx hb dX0_force_15 rfl (lv_at hl 1 rfl) ?_
  refine lv_iload_n hx hb dX0_force_16 rfl (lv_at hl 2 rfl) ?_
  refine ro_callV 2 hx hb hml hown hts hl.1 hP hK 0 0 rfl rfl (As := [.int (nI t), .int s9]) (rest := []) (c_X0_forceWith l D cI cZ h a σ H hI t ht48 s9 hs9) gX0_force_X0_forceWith rfl rfl rfl (by decide +kernel) ⟨Nat.le_of_ble_eq_true rfl, Nat.le_of_ble_eq_true rfl⟩ rfl rfl (Nat.le_of_ble_eq_true rfl) dX0_force_17 ⟨Nat.zero_le _, Nat.zero_le _⟩ (fun r1 hr1 => ?_)
  subst hr1
  exact ro_ret (v := (frc σ t s9)) hx hb hr hlocks hH rfl dX0_force_20
set_option maxHeartbeats 4000000 in
set_option maxRecDepth 100000 in
theorem r_X0_shift (l : Launch) (D : va_G) (cI cZ : ClassId) (h : Nat) (a : Nat → Nat) (σ : St) (H : Heap) {nL nB : Nat} (hI : inv σ nL nB) (t : Nat) (ht48 : t < 48) : roM l yX0_shift wsX0_shift ({ frames := 5, cells := 0, slots := 0, locals := 118 }) [.ref h, .int (nI t)] D (xw cI cZ h a σ) (tyX cI cZ) H (fun r => r = bal σ t) := by
  refine ro_of (cc := cX0_shift) (maxL := 2) (ret := some .int) (by decide) rfl (Nat.le_of_ble_eq_true rfl) ?_
  intro p e s m args below meth c he hH hP hK ls hl
  obtain ⟨hx, hb, hr, hml, hown, hts, hlocks⟩ := he
  have hown : s.vm.findClass RX0 = some m.cls := hown
  have hl : lv_has ls 2 [(0, .ref h), (1, .int (nI t))] := hl
  refine lv_iload_n hx hb dX0_shift_0 rfl (lv_at hl 1 rfl) ?_
  refine rv_callS 1 hx hb hml hown hts hl.1 hP hK (As := [.int (nI t)]) (rest := []) (v_X0_checkHour l D (xw cI cZ h a σ) (tyX cI cZ) H t ht48) gX0_shift_X0_checkHour rfl rfl rfl (by decide +kernel) ⟨Nat.le_of_ble_eq_true rfl, Nat.le_of_ble_eq_true rfl⟩ rfl rfl (Nat.le_of_ble_eq_true rfl) dX0_shift_1 ⟨Nat.zero_le _, Nat.zero_le _⟩ ?_
  refine lv_aload_n hx hb dX0_shift_4 rfl (lv_at hl 0 rfl) ?_
  refine lv_iload_n hx hb dX0_shift_5 rfl (lv_at hl 1 rfl) ?_
  refine ro_callV 1 hx hb hml hown hts hl.1 hP hK 0 0 rfl rfl (As := [.int (nI t)]) (rest := []) (c_X0_balanceOf l D cI cZ h a σ H hI t ht48) gX0_shift_X0_balanceOf rfl rfl rfl (by decide +kernel) ⟨Nat.le_of_ble_eq_true rfl, Nat.le_of_ble_eq_true rfl⟩ rfl rfl (Nat.le_of_ble_eq_true rfl) dX0_shift_6 ⟨Nat.zero_le _, Nat.zero_le _⟩ (fun r1 hr1 => ?_)
  subst hr1
  exact ro_ret (v := (bal σ t)) hx hb hr hlocks hH rfl dX0_shift_9
set_option maxHeartbeats 4000000 in
set_option maxRecDepth 100000 in
theorem r_X0_isAdrift (l : Launch) (D : va_G) (cI cZ : ClassId) (h : Nat) (a : Nat → Nat) (σ : St) (H : Heap) {nL nB : Nat} (hI : inv σ nL nB) (t : Nat) (ht48 : t < 48) : roM l yX0_isAdrift wsX0_isAdrift ({ frames := 5, cells := 0, slots := 0, locals := 118 }) [.ref h, .int (nI t)] D (xw cI cZ h a σ) (tyX cI cZ) H (fun r => r = bI (drfW σ t (bal σ t))) := by
  refine ro_of (cc := cX0_isAdrift) (maxL := 2) (ret := some .boolean) (by decide) rfl (Nat.le_of_ble_eq_true rfl) ?_
  intro p e s m args below meth c he hH hP hK ls hl
  obtain ⟨hx, hb, hr, hml, hown, hts, hlocks⟩ := he
  have hown : s.vm.findClass RX0 = some m.cls := hown
  have hl : lv_has ls 2 [(0, .ref h), (1, .int (nI t))] := hl
  refine lv_iload_n hx hb dX0_isAdrift_0 rfl (lv_at hl 1 rfl) ?_
  refine rv_callS 1 hx hb hml hown hts hl.1 hP hK (As := [.int (nI t)]) (rest := []) (v_X0_checkHour l D (xw cI cZ h a σ) (tyX cI cZ) H t ht48) gX0_isAdrift_X0_checkHour rfl rfl rfl (by decide +kernel) ⟨Nat.le_of_ble_eq_true rfl, Nat.le_of_ble_eq_true rfl⟩ rfl rfl (Nat.le_of_ble_eq_true rfl) dX0_isAdrift_1 ⟨Nat.zero_le _, Nat.zero_le _⟩ ?_
  refine lv_aload_n hx hb dX0_isAdrift_4 rfl (lv_at hl 0 rfl) ?_
  refine lv_iload_n hx hb dX0_isAdrift_5 rfl (lv_at hl 1 rfl) ?_
  refine lv_aload_n hx hb dX0_isAdrift_6 rfl (lv_at hl 0 rfl) ?_
  refine lv_iload_n hx hb dX0_isAdrift_7 rfl (lv_at hl 1 rfl) ?_
  refine ro_callV 1 hx hb hml hown hts hl.1 hP hK 0 0 rfl rfl (As := [.int (nI t)]) (rest := [.int (nI t), .ref h]) (c_X0_balanceOf l D cI cZ h a σ H hI t ht48) gX0_isAdrift_X0_balanceOf rfl rfl rfl (by decide +kernel) ⟨Nat.le_of_ble_eq_true rfl, Nat.le_of_ble_eq_true rfl⟩ rfl rfl (Nat.le_of_ble_eq_true rfl) dX0_isAdrift_8 ⟨Nat.zero_le _, Nat.zero_le _⟩ (fun r1 hr1 => ?_)
  subst hr1
  refine ro_callV 2 hx hb hml hown hts hl.1 hP hK 0 0 rfl rfl (As := [.int (nI t), .int (bal σ t)]) (rest := []) (c_X0_driftsWith l D cI cZ h a σ H hI t ht48 (bal σ t) (bal_inS σ t)) gX0_isAdrift_X0_driftsWith rfl rfl rfl (by decide +kernel) ⟨Nat.le_of_ble_eq_true rfl, Nat.le_of_ble_eq_true rfl⟩ rfl rfl (Nat.le_of_ble_eq_true rfl) dX0_isAdrift_11 ⟨Nat.zero_le _, Nat.zero_le _⟩ (fun r2 hr2 => ?_)
  subst hr2
  exact ro_zret (v := (bI (drfW σ t (bal σ t)))) hx hb hr hlocks hH ⟨_, rfl⟩ rfl dX0_isAdrift_14
set_option maxHeartbeats 4000000 in
set_option maxRecDepth 100000 in
theorem r_X0_length (l : Launch) (D : va_G) (cI cZ : ClassId) (h : Nat) (a : Nat → Nat) (σ : St) (H : Heap) {nL nB : Nat} (hI : inv σ nL nB) (j t : Nat) (hj : j < nL) (ht48 : t < 48) : roM l yX0_length wsX0_length ({ frames := 5, cells := 0, slots := 0, locals := 118 }) [.ref h, .int (nI j), .int (nI t)] D (xw cI cZ h a σ) (tyX cI cZ) H (fun r => r = len_ σ j t (bal σ t)) := by
  refine ro_of (cc := cX0_length) (maxL := 3) (ret := some .int) (by decide) rfl (Nat.le_of_ble_eq_true rfl) ?_
  intro p e s m args below meth c he hH hP hK ls hl
  obtain ⟨hx, hb, hr, hml, hown, hts, hlocks⟩ := he
  have hown : s.vm.findClass RX0 = some m.cls := hown
  have hl : lv_has ls 3 [(0, .ref h), (1, .int (nI j)), (2, .int (nI t))] := hl
  refine lv_aload_n hx hb dX0_length_0 rfl (lv_at hl 0 rfl) ?_
  refine lv_iload_n hx hb dX0_length_1 rfl (lv_at hl 1 rfl) ?_
  refine rv_callV 1 hx hb hml hown hts hl.1 hP hK 0 0 rfl rfl (As := [.int (nI j)]) (rest := []) (v_X0_checkLine l D cI cZ h a σ H hI j hj) gX0_length_X0_checkLine rfl rfl rfl (by decide +kernel) ⟨Nat.le_of_ble_eq_true rfl, Nat.le_of_ble_eq_true rfl⟩ rfl rfl (Nat.le_of_ble_eq_true rfl) dX0_length_2 ⟨Nat.zero_le _, Nat.zero_le _⟩ ?_
  refine lv_iload_n hx hb dX0_length_5 rfl (lv_at hl 2 rfl) ?_
  refine rv_callS 1 hx hb hml hown hts hl.1 hP hK (As := [.int (nI t)]) (rest := []) (v_X0_checkHour l D (xw cI cZ h a σ) (tyX cI cZ) H t ht48) gX0_length_X0_checkHour rfl rfl rfl (by decide +kernel) ⟨Nat.le_of_ble_eq_true rfl, Nat.le_of_ble_eq_true rfl⟩ rfl rfl (Nat.le_of_ble_eq_true rfl) dX0_length_6 ⟨Nat.zero_le _, Nat.zero_le _⟩ ?_
  refine lv_aload_n hx hb dX0_length_9 rfl (lv_at hl 0 rfl) ?_
  refine lv_iload_n hx hb dX0_length_10 rfl (lv_at hl 1 rfl) ?_
  refine lv_iload_n hx hb dX0_length_11 rfl (lv_at hl 2 rfl) ?_
  refine lv_aload_n hx hb dX0_length_12 rfl (lv_at hl 0 rfl) ?_
  refine lv_iload_n hx hb dX0_length_13 rfl (lv_at hl 2 rfl) ?_
  refine ro_callV 1 hx hb hml hown hts hl.1 hP hK 0 0 rfl rfl (As := [.int (nI t)]) (rest := [.int (nI t), .int (nI j), .ref h]) (c_X0_balanceOf l D cI cZ h a σ H hI t ht48) gX0_length_X0_balanceOf rfl rfl rfl (by decide +kernel) ⟨Nat.le_of_ble_eq_true rfl, Nat.le_of_ble_eq_true rfl⟩ rfl rfl (Nat.le_of_ble_eq_true rfl) dX0_length_14 ⟨Nat.zero_le _, Nat.zero_le _⟩ (fun r1 hr1 => ?_)
  subst hr1
  refine ro_callV 3 hx hb hml hown hts hl.1 hP hK 0 0 rfl rfl (As := [.int (nI j), .int (nI t), .int (bal σ t)]) (rest := []) (c_X0_lengthWith l D cI cZ h a σ H hI j t hj ht48 (bal σ t) (bal_inS σ t)) gX0_length_X0_lengthWith rfl rfl rfl (by decide +kernel) ⟨Nat.le_of_ble_eq_true rfl, Nat.le_of_ble_eq_true rfl⟩ rfl rfl (Nat.le_of_ble_eq_true rfl) dX0_length_17 ⟨Nat.zero_le _, Nat.zero_le _⟩ (fun r2 hr2 => ?_)
  subst hr2
  exact ro_ret (v := (len_ σ j t (bal σ t))) hx hb hr hlocks hH rfl dX0_length_20
set_option maxHeartbeats 4000000 in
set_option maxRecDepth 100000 in
theorem r_X0_tension (l : Launch) (D : va_G) (cI cZ : ClassId) (h : Nat) (a : Nat → Nat) (σ : St) (H : Heap) {nL nB : Nat} (hI : inv σ nL nB) (j t : Nat) (hj : j < nL) (ht48 : t < 48) : roM l yX0_tension wsX0_tension ({ frames := 5, cells := 0, slots := 0, locals := 118 }) [.ref h, .int (nI j), .int (nI t)] D (xw cI cZ h a σ) (tyX cI cZ) H (fun r => r = tn_ σ j t (bal σ t)) := by
  refine ro_of (cc := cX0_tension) (maxL := 3) (ret := some .int) (by decide) rfl (Nat.le_of_ble_eq_true rfl) ?_
  intro p e s m args below meth c he hH hP hK ls hl
  obtain ⟨hx, hb, hr, hml, hown, hts, hlocks⟩ := he
  have hown : s.vm.findClass RX0 = some m.cls := hown
  have hl : lv_has ls 3 [(0, .ref h), (1, .int (nI j)), (2, .int (nI t))] := hl
  refine lv_aload_n hx hb dX0_tension_0 rfl (lv_at hl 0 rfl) ?_
  refine lv_iload_n hx hb dX0_tension_1 rfl (lv_at hl 1 rfl) ?_
  refine rv_callV 1 hx hb hml hown hts hl.1 hP hK 0 0 rfl rfl (As := [.int (nI j)]) (rest := []) (v_X0_checkLine l D cI cZ h a σ H hI j hj) gX0_tension_X0_checkLine rfl rfl rfl (by decide +kernel) ⟨Nat.le_of_ble_eq_true rfl, Nat.le_of_ble_eq_true rfl⟩ rfl rfl (Nat.le_of_ble_eq_true rfl) dX0_tension_2 ⟨Nat.zero_le _, Nat.zero_le _⟩ ?_
  refine lv_iload_n hx hb dX0_tension_5 rfl (lv_at hl 2 rfl) ?_
  refine rv_callS 1 hx hb hml hown hts hl.1 hP hK (As := [.int (nI t)]) (rest := []) (v_X0_checkHour l D (xw cI cZ h a σ) (tyX cI cZ) H t ht48) gX0_tension_X0_checkHour rfl rfl rfl (by decide +kernel) ⟨Nat.le_of_ble_eq_true rfl, Nat.le_of_ble_eq_true rfl⟩ rfl rfl (Nat.le_of_ble_eq_true rfl) dX0_tension_6 ⟨Nat.zero_le _, Nat.zero_le _⟩ ?_
  refine lv_aload_n hx hb dX0_tension_9 rfl (lv_at hl 0 rfl) ?_
  refine lv_iload_n hx hb dX0_tension_10 rfl (lv_at hl 1 rfl) ?_
  refine lv_aload_n hx hb dX0_tension_11 rfl (lv_at hl 0 rfl) ?_
  refine lv_iload_n hx hb dX0_tension_12 rfl (lv_at hl 1 rfl) ?_
  refine lv_iload_n hx hb dX0_tension_13 rfl (lv_at hl 2 rfl) ?_
  refine lv_aload_n hx hb dX0_tension_14 rfl (lv_at hl 0 rfl) ?_
  refine lv_iload_n hx hb dX0_tension_15 rfl (lv_at hl 2 rfl) ?_
  refine ro_callV 1 hx hb hml hown hts hl.1 hP hK 0 0 rfl rfl (As := [.int (nI t)]) (rest := [.int (nI t), .int (nI j), .ref h, .int (nI j), .ref h]) (c_X0_balanceOf l D cI cZ h a σ H hI t ht48) gX0_tension_X0_balanceOf rfl rfl rfl (by decide +kernel) ⟨Nat.le_of_ble_eq_true rfl, Nat.le_of_ble_eq_true rfl⟩ rfl rfl (Nat.le_of_ble_eq_true rfl) dX0_tension_16 ⟨Nat.zero_le _, Nat.zero_le _⟩ (fun r1 hr1 => ?_)
  subst hr1
  refine ro_callV 3 hx hb hml hown hts hl.1 hP hK 0 0 rfl rfl (As := [.int (nI j), .int (nI t), .int (bal σ t)]) (rest := [.int (nI j), .ref h]) (c_X0_lengthWith l D cI cZ h a σ H hI j t hj ht48 (bal σ t) (bal_inS σ t)) gX0_tension_X0_lengthWith rfl rfl rfl (by decide +kernel) ⟨Nat.le_of_ble_eq_true rfl, Nat.le_of_ble_eq_true rfl⟩ rfl rfl (Nat.le_of_ble_eq_true rfl) dX0_tension_19 ⟨Nat.zero_le _, Nat.zero_le _⟩ (fun r2 hr2 => ?_)
  subst hr2
  refine ro_callV 2 hx hb hml hown hts hl.1 hP hK 0 0 rfl rfl (As := [.int (nI j), .int (len_ σ j t (bal σ t))]) (rest := []) (c_X0_tensionAtLength l D cI cZ h a σ H j (by have := hI.2.1; omega) (len_ σ j t (bal σ t))) gX0_tension_X0_tensionAtLength rfl rfl rfl (by decide +kernel) ⟨Nat.le_of_ble_eq_true rfl, Nat.le_of_ble_eq_true rfl⟩ rfl rfl (Nat.le_of_ble_eq_true rfl) dX0_tension_22 ⟨Nat.zero_le _, Nat.zero_le _⟩ (fun r3 hr3 => ?_)
  subst hr3
  exact ro_ret (v := (tens_ σ j (len_ σ j t (bal σ t)))) hx hb hr hlocks hH rfl dX0_tension_25
set_option maxHeartbeats 4000000 in
set_option maxRecDepth 100000 in
theorem r_X0_onBollard (l : Launch) (D : va_G) (cI cZ : ClassId) (h : Nat) (a : Nat → Nat) (σ : St) (H : Heap) {nL nB : Nat} (hI : inv σ nL nB) (j t : Nat) (hj : j < nB) (ht48 : t < 48) : roM l yX0_onBollard wsX0_onBollard ({ frames := 5, cells := 0, slots := 0, locals := 118 }) [.ref h, .int (nI j), .int (nI t)] D (xw cI cZ h a σ) (tyX cI cZ) H (fun r => r = sumOn_ σ (nI j) t (bal σ t)) := by
  refine ro_of (cc := cX0_onBollard) (maxL := 3) (ret := some .int) (by decide) rfl (Nat.le_of_ble_eq_true rfl) ?_
  intro p e s m args below meth c he hH hP hK ls hl
  obtain ⟨hx, hb, hr, hml, hown, hts, hlocks⟩ := he
  have hown : s.vm.findClass RX0 = some m.cls := hown
  have hl : lv_has ls 3 [(0, .ref h), (1, .int (nI j)), (2, .int (nI t))] := hl
  refine lv_aload_n hx hb dX0_onBollard_0 rfl (lv_at hl 0 rfl) ?_
  refine lv_iload_n hx hb dX0_onBollard_1 rfl (lv_at hl 1 rfl) ?_
  refine rv_callV 1 hx hb hml hown hts hl.1 hP hK 0 0 rfl rfl (As := [.int (nI j)]) (rest := []) (v_X0_checkBollard l D cI cZ h a σ H hI j hj) gX0_onBollard_X0_checkBollard rfl rfl rfl (by decide +kernel) ⟨Nat.le_of_ble_eq_true rfl, Nat.le_of_ble_eq_true rfl⟩ rfl rfl (Nat.le_of_ble_eq_true rfl) dX0_onBollard_2 ⟨Nat.zero_le _, Nat.zero_le _⟩ ?_
  refine lv_iload_n hx hb dX0_onBollard_5 rfl (lv_at hl 2 rfl) ?_
  refine rv_callS 1 hx hb hml hown hts hl.1 hP hK (As := [.int (nI t)]) (rest := []) (v_X0_checkHour l D (xw cI cZ h a σ) (tyX cI cZ) H t ht48) gX0_onBollard_X0_checkHour rfl rfl rfl (by decide +kernel) ⟨Nat.le_of_ble_eq_true rfl, Nat.le_of_ble_eq_true rfl⟩ rfl rfl (Nat.le_of_ble_eq_true rfl) dX0_onBollard_6 ⟨Nat.zero_le _, Nat.zero_le _⟩ ?_
  refine lv_aload_n hx hb dX0_onBollard_9 rfl (lv_at hl 0 rfl) ?_
  refine lv_iload_n hx hb dX0_onBollard_10 rfl (lv_at hl 1 rfl) ?_
  refine lv_iload_n hx hb dX0_onBollard_11 rfl (lv_at hl 2 rfl) ?_
  refine lv_aload_n hx hb dX0_onBollard_12 rfl (lv_at hl 0 rfl) ?_
  refine lv_iload_n hx hb dX0_onBollard_13 rfl (lv_at hl 2 rfl) ?_
  refine ro_callV 1 hx hb hml hown hts hl.1 hP hK 0 0 rfl rfl (As := [.int (nI t)]) (rest := [.int (nI t), .int (nI j), .ref h]) (c_X0_balanceOf l D cI cZ h a σ H hI t ht48) gX0_onBollard_X0_balanceOf rfl rfl rfl (by decide +kernel) ⟨Nat.le_of_ble_eq_true rfl, Nat.le_of_ble_eq_true rfl⟩ rfl rfl (Nat.le_of_ble_eq_true rfl) dX0_onBollard_14 ⟨Nat.zero_le _, Nat.zero_le _⟩ (fun r1 hr1 => ?_)
  subst hr1
  refine ro_callV 3 hx hb hml hown hts hl.1 hP hK 0 0 rfl rfl (As := [.int (nI j), .int (nI t), .int (bal σ t)]) (rest := []) (c_X0_bollardTension l D cI cZ h a σ H hI (nI j) t ht48 (bal σ t) (bal_inS σ t)) gX0_onBollard_X0_bollardTension rfl rfl rfl (by decide +kernel) ⟨Nat.le_of_ble_eq_true rfl, Nat.le_of_ble_eq_true rfl⟩ rfl rfl (Nat.le_of_ble_eq_true rfl) dX0_onBollard_17 ⟨Nat.zero_le _, Nat.zero_le _⟩ (fun r2 hr2 => ?_)
  subst hr2
  exact ro_ret (v := (sumOn_ σ (nI j) t (bal σ t))) hx hb hr hlocks hH rfl dX0_onBollard_20
set_option maxHeartbeats 4000000 in
set_option maxRecDepth 100000 in
theorem r_X0_isSafe (l : Launch) (D : va_G) (cI cZ : ClassId) (h : Nat) (a : Nat → Nat) (σ : St) (H : Heap) {nL nB : Nat} (hI : inv σ nL nB) (t : Nat) (ht48 : t < 48) : roM l yX0_isSafe wsX0_isSafe ({ frames := 6, cells := 0, slots := 0, locals := 140 }) [.ref h, .int (nI t)] D (xw cI cZ h a σ) (tyX cI cZ) H (fun r => r = bI (safe_ σ t)) := by
  refine ro_of (cc := cX0_isSafe) (maxL := 2) (ret := some .boolean) (by decide) rfl (Nat.le_of_ble_eq_true rfl) ?_
  intro p e s m args below meth c he hH hP hK ls hl
  obtain ⟨hx, hb, hr, hml, hown, hts, hlocks⟩ := he
  have hown : s.vm.findClass RX0 = some m.cls := hown
  have hl : lv_has ls 2 [(0, .ref h), (1, .int (nI t))] := hl
  refine lv_iload_n hx hb dX0_isSafe_0 rfl (lv_at hl 1 rfl) ?_
  refine rv_callS 1 hx hb hml hown hts hl.1 hP hK (As := [.int (nI t)]) (rest := []) (v_X0_checkHour l D (xw cI cZ h a σ) (tyX cI cZ) H t ht48) gX0_isSafe_X0_checkHour rfl rfl rfl (by decide +kernel) ⟨Nat.le_of_ble_eq_true rfl, Nat.le_of_ble_eq_true rfl⟩ rfl rfl (Nat.le_of_ble_eq_true rfl) dX0_isSafe_1 ⟨Nat.zero_le _, Nat.zero_le _⟩ ?_
  refine lv_aload_n hx hb dX0_isSafe_4 rfl (lv_at hl 0 rfl) ?_
  refine lv_iload_n hx hb dX0_isSafe_5 rfl (lv_at hl 1 rfl) ?_
  refine ro_callV 1 hx hb hml hown hts hl.1 hP hK 0 0 rfl rfl (As := [.int (nI t)]) (rest := []) (c_X0_holdsIn l D cI cZ h a σ H hI t ht48) gX0_isSafe_X0_holdsIn rfl rfl rfl (by decide +kernel) ⟨Nat.le_of_ble_eq_true rfl, Nat.le_of_ble_eq_true rfl⟩ rfl rfl (Nat.le_of_ble_eq_true rfl) dX0_isSafe_6 ⟨Nat.zero_le _, Nat.zero_le _⟩ (fun r1 hr1 => ?_)
  subst hr1
  exact ro_zret (v := (bI (safe_ σ t))) hx hb hr hlocks hH ⟨_, rfl⟩ rfl dX0_isSafe_9
set_option maxHeartbeats 4000000 in
set_option maxRecDepth 100000 in
theorem r_X0_firstUnsafe (l : Launch) (D : va_G) (cI cZ : ClassId) (h : Nat) (a : Nat → Nat) (σ : St) (H : Heap) {nL nB : Nat} (hI : inv σ nL nB) (t : Nat) (ht48 : t < 48) : roM l yX0_firstUnsafe wsX0_firstUnsafe ({ frames := 6, cells := 0, slots := 0, locals := 140 }) [.ref h, .int (nI t)] D (xw cI cZ h a σ) (tyX cI cZ) H (fun r => r = fuR (48 - t) σ t) := by
  refine ro_of (cc := cX0_firstUnsafe) (maxL := 3) (ret := some .int) (by decide) rfl (Nat.le_of_ble_eq_true rfl) ?_
  intro p e s m args below meth c he hH hP hK ls hl
  obtain ⟨hx, hb, hr, hml, hown, hts, hlocks⟩ := he
  have hown : s.vm.findClass RX0 = some m.cls := hown
  have hl : lv_has ls 3 [(0, .ref h), (1, .int (nI t))] := hl
  refine lv_iload_n hx hb dX0_firstUnsafe_0 rfl (lv_at hl 1 rfl) ?_
  refine rv_callS 1 hx hb hml hown hts hl.1 hP hK (As := [.int (nI t)]) (rest := []) (v_X0_checkHour l D (xw cI cZ h a σ) (tyX cI cZ) H t ht48) gX0_firstUnsafe_X0_checkHour rfl rfl rfl (by decide +kernel) ⟨Nat.le_of_ble_eq_true rfl, Nat.le_of_ble_eq_true rfl⟩ rfl rfl (Nat.le_of_ble_eq_true rfl) dX0_firstUnsafe_1 ⟨Nat.zero_le _, Nat.zero_le _⟩ ?_
  refine lv_iload_n hx hb dX0_firstUnsafe_4 rfl (lv_at hl 1 rfl) ?_
  refine lv_istore_n (lv' := [(2, .int (nI t)), (0, .ref h), (1, .int (nI t))]) hx hb dX0_firstUnsafe_5 rfl hl (by decide) rfl (fun ls hl => ?_)
  suffices K : ∀ (n k : Nat) (ls : Array Slot), k + n = 48 → fuR n σ k = fuR (48 - t) σ t → lv_has ls 3 [(2, .int (nI k)), (0, .ref h), (1, .int (nI t))] → W p l e _ s m args below meth c H [] 0 0 (roQ below H (fun r => r = fuR (48 - t) σ t) args s) (F0 m 6 ls []) by
    exact K (48 - t) t ls (by omega) rfl (lv_sub hl [0, 1, 2] rfl)
  intro n
  induction n with
  | zero =>
    intro k ls hk hf hl
    refine lv_iload_n hx hb dX0_firstUnsafe_6 rfl (lv_at hl 0 rfl) ?_
    refine lv_bipush (v := 48) hx hb dX0_firstUnsafe_7 (by decide) ?_
    refine lv_icmp_ge (tgt := 28) hx hb dX0_firstUnsafe_9 (by decide) (fun c9 => ?_) (fun c9 => ?_)
    · refine lv_iconst (v := (-1)) hx hb dX0_firstUnsafe_28 (by decide) ?_
      exact ro_ret (v := (-1)) hx hb hr hlocks hH (by show (-1 : Int32) = _; rw [← hf]; rfl) dX0_firstUnsafe_29
    · exact absurd (nI_le (a := 48) (b := k) (by omega) (by omega)) c9
  | succ n ih =>
    intro k ls hk hf hl
    refine lv_iload_n hx hb dX0_firstUnsafe_6 rfl (lv_at hl 0 rfl) ?_
    refine lv_bipush (v := 48) hx hb dX0_firstUnsafe_7 (by decide) ?_
    refine lv_icmp_ge (tgt := 28) hx hb dX0_firstUnsafe_9 (by decide) (fun c9 => ?_) (fun c9 => ?_)
    · exact absurd c9 (nI_ge (a := k) (b := 48) (by omega) (by omega))
    · refine lv_aload_n hx hb dX0_firstUnsafe_12 rfl (lv_at hl 1 rfl) ?_
      refine lv_iload_n hx hb dX0_firstUnsafe_13 rfl (lv_at hl 0 rfl) ?_
      refine ro_callV 1 hx hb hml hown hts hl.1 hP hK 0 0 rfl rfl (As := [.int (nI k)]) (rest := []) (c_X0_holdsIn l D cI cZ h a σ H hI k (by omega)) gX0_firstUnsafe_X0_holdsIn rfl rfl rfl (by decide +kernel) ⟨Nat.le_of_ble_eq_true rfl, Nat.le_of_ble_eq_true rfl⟩ rfl rfl (Nat.le_of_ble_eq_true rfl) dX0_firstUnsafe_14 ⟨Nat.zero_le _, Nat.zero_le _⟩ (fun r1 hr1 => ?_)
      subst hr1
      refine lv_if_ne (tgt := 22) hx hb dX0_firstUnsafe_17 (by decide) (fun c17 => ?_) (fun c17 => ?_)
      · refine lv_iinc (v := (nI (k + 1))) (lv' := [(2, .int (nI (k + 1))), (0, .ref h), (1, .int (nI t))]) hx hb dX0_firstUnsafe_22 hl (k := 0) rfl (by exact nI_add _ 1) (by decide) rfl (fun ls hl => ?_)
        refine lv_goto (tgt := 6) hx hb dX0_firstUnsafe_25 (by decide) ?_
        exact ih (k + 1) ls (by omega) (by rw [← hf]; show _ = (if safe_ σ k = true then fuR n σ (k + 1) else nI k); rw [if_pos (bI_t c17)]) (lv_sub hl [0, 1, 2] rfl)
      · refine lv_iload_n hx hb dX0_firstUnsafe_20 rfl (lv_at hl 0 rfl) ?_
        exact ro_ret (v := (nI k)) hx hb hr hlocks hH (by show nI k = _; rw [← hf]; show nI k = (if safe_ σ k = true then fuR n σ (k + 1) else nI k); rw [if_neg (by rw [bI_f c17]; decide)]) dX0_firstUnsafe_21
end
section
/-! The law's own words: its rows beside a state of MoorWatch, and what its numbers are. -/
abbrev tyI (cI : ClassId) : List (ClassId × FieldType) := [(cI, .int)]
abbrev lw3 (cI : ClassId) (ab al am : Nat) (bf lf mf : Nat → Int32) : va_W := [(ab, .inl (cI, 8, .inl bf)), (al, .inl (cI, 36, .inl lf)), (am, .inl (cI, 3, .inl mf))]
/-- the law's rows b, l, m say what the state σ says -/
def lrel (σ : St) (nL nB : Nat) (bf lf mf : Nat → Int32) : Prop := (nL ≤ 6 ∧ nB ≤ 4) ∧ (mf 0 = nI nB ∧ mf 1 = nI nL ∧ mf 2 = σ 3 0) ∧ (∀ k, k < nB → bf (2 * k) = σ 5 k ∧ bf (2 * k + 1) = σ 6 k) ∧ (∀ j, j < nL → (∃ k, k < nB ∧ lf (6 * j + 1) = nI k ∧ σ 8 j = nI k ∧ σ 9 j = bf (2 * k) - lf (6 * j)) ∧ lf (6 * j + 2) = σ 10 j ∧ lf (6 * j + 3) = σ 11 j ∧ lf (6 * j + 4) = σ 12 j ∧ ((lf (6 * j + 5) = 0 ∧ σ 13 j = 1) ∨ (lf (6 * j + 5) = 1 ∧ σ 13 j = 0)))
theorem i64n {x : Int64} (h1 : -1000000000000 ≤ x.toInt) (h2 : x.toInt ≤ 1000000000000) : (-x).toInt = -x.toInt := by
  have q : -Int64.ofInt x.toInt = Int64.ofInt (-x.toInt) := Int64.neg_ofInt
  rw [Int64.ofInt_toInt] at q
  rw [q]
  exact Int64.toInt_ofInt_of_le (by omega) (by omega)
theorem i64_0 : (0 : Int64).toInt = 0 := rfl
theorem abs_div {M S : Int64} (h1 : -1000000000000 ≤ M.toInt) (h2 : M.toInt ≤ 1000000000000) (hM : M < 0) (hS : 0 < S.toInt) : -(-M / S) = M / S := by
  have e1 : M.toInt < 0 := by have := Int64.lt_iff_toInt_lt.mp hM; rwa [i64_0] at this
  have hne : S ≠ -1 := fun q => by rw [q] at hS; exact absurd hS (by decide)
  have e2 : (-M).toInt = -M.toInt := i64n h1 h2
  have e3 : (-M / S).toInt = (-M.toInt) / S.toInt := by rw [Int64.toInt_div_of_ne_right _ _ hne, e2, Int.tdiv_eq_ediv_of_nonneg (by omega)]
  have e4 : (M / S).toInt = -((-M.toInt) / S.toInt) := by
    rw [Int64.toInt_div_of_ne_right _ _ hne, show M.toInt = -(-M.toInt) by omega, Int.neg_tdiv, Int.tdiv_eq_ediv_of_nonneg (by omega), Int.neg_neg]
  have b1 : 0 ≤ (-M.toInt) / S.toInt := Int.ediv_nonneg (by omega) (by omega)
  have b2 : (-M.toInt) / S.toInt ≤ -M.toInt := Int.ediv_le_self _ (by omega)
  apply Int64.toInt_inj.mp
  rw [i64n (by rw [e3]; omega) (by rw [e3]; omega), e3, e4]
theorem long_lq {x y : Int32} (h1 : 0 ≤ x.toInt ∧ x.toInt ≤ 1022400) (h2 : 1 ≤ y.toInt ∧ y.toInt ≤ 1000000) : ((11 : Int64) * y.toInt64 < (20 : Int64) * x.toInt64) ↔ ¬ x * 100 ≤ y * 55 := by
  have e1 : (11 : Int64).toInt = 11 := rfl
  have e2 : (20 : Int64).toInt = 20 := rfl
  have e3 : (100 : Int32).toInt = 100 := rfl
  have e4 : (55 : Int32).toInt = 55 := rfl
  have a1 : ((11 : Int64) * y.toInt64).toInt = 11 * y.toInt := by rw [Jvm.Kit.i64_mul (by rw [e1, Int32.toInt_toInt64]; omega) (by rw [e1, Int32.toInt_toInt64]; omega), e1, Int32.toInt_toInt64]
  have a2 : ((20 : Int64) * x.toInt64).toInt = 20 * x.toInt := by rw [Jvm.Kit.i64_mul (by rw [e2, Int32.toInt_toInt64]; omega) (by rw [e2, Int32.toInt_toInt64]; omega), e2, Int32.toInt_toInt64]
  have a3 : (x * 100).toInt = x.toInt * 100 := by rw [Jvm.Kit.i32_mul (by rw [e3]; omega) (by rw [e3]; omega), e3]
  have a4 : (y * 55).toInt = y.toInt * 55 := by rw [Jvm.Kit.i32_mul (by rw [e4]; omega) (by rw [e4]; omega), e4]
  rw [Int64.lt_iff_toInt_lt, i_le, a1, a2, a3, a4]
  omega
theorem add64 (x y : Int32) : (x.toInt64 + y.toInt64).toInt32 = x + y := by rw [Int64.toInt32_add, Int32.toInt32_toInt64, Int32.toInt32_toInt64]
/-- the law's square of a way and a height, as a long -/
theorem sq64 {x y : Int32} (hx : inA x) (hy : inH y) : x.toInt64 * x.toInt64 + y.toInt64 * y.toInt64 = lN (sq2 x y) := by
  obtain ⟨a1, a2⟩ := sq_le hx.1 hx.2
  obtain ⟨b1, b2⟩ := sq_le hy.1 hy.2
  obtain ⟨c1, c2⟩ := sq2_le hx hy
  have e1 : (x.toInt64 * x.toInt64).toInt = x.toInt * x.toInt := by rw [Jvm.Kit.i64_mul (by rw [Int32.toInt_toInt64]; omega) (by rw [Int32.toInt_toInt64]; omega), Int32.toInt_toInt64]
  have e2 : (y.toInt64 * y.toInt64).toInt = y.toInt * y.toInt := by rw [Jvm.Kit.i64_mul (by rw [Int32.toInt_toInt64]; omega) (by rw [Int32.toInt_toInt64]; omega), Int32.toInt_toInt64]
  apply Int64.toInt_inj.mp
  rw [Jvm.Kit.i64_add (by omega) (by omega), e1, e2, pk_lT (by omega), c2]
theorem lrel_ln {σ : St} {nL nB : Nat} {bf lf mf : Nat → Int32} (hR : lrel σ nL nB bf lf mf) {j : Nat} (hj : j < nL) : ∃ k, k < 4 ∧ lf (6 * j + 1) = nI k ∧ ∀ s, bf (2 * k) - lf (6 * j) - s = σ 9 j - s := by
  obtain ⟨⟨h1, h2⟩, -, -, h3⟩ := hR
  obtain ⟨⟨k, hk, e1, e2, e3⟩, -⟩ := h3 j hj
  exact ⟨k, by omega, e1, fun s => by rw [e3]⟩
theorem inR_mk {v lo hi : Int32} {x y : Int} (hx : lo.toInt = x) (hy : hi.toInt = y) (h1 : x ≤ v.toInt) (h2 : v.toInt ≤ y) : inR v lo hi = true := inR_t (fun q => by have := i_lt.mp q; omega) (fun q => by have := i_lt.mp q; omega)
/-- a halving by >> -/
theorem zI_shr {z : Int} (h1 : -1000 ≤ z) (h2 : z ≤ 1000) : zI z >>> (1 &&& 31) = zI (z / 2) := by
  have e := pk_shr (zI z) (1 &&& 31) 1 (by decide)
  rw [zI_ti (by omega) (by omega)] at e
  apply zI_of
  rw [e, Int.shiftRight_eq_div_pow]
  rfl
theorem allB_mono {f : Nat → Bool} {k n : Nat} (h : allB f k = false) (hkn : k ≤ n) : allB f n = false := by
  induction n with
  | zero => have e : k = 0 := by omega
            rw [e] at h; exact h
  | succ n ih =>
    rcases Nat.lt_or_ge n k with q | q
    · have e : k = n + 1 := by omega
      rw [e] at h; exact h
    · show (allB f n && f n) = false
      rw [ih q]; rfl
end
section
/-! The law: root, away, length, tension, force. -/
set_option maxHeartbeats 4000000 in
set_option maxRecDepth 100000 in
theorem c_L_root (l : Launch) (D : va_G) (W0 : va_W) (tys : List (ClassId × FieldType)) (H : Heap) (N : Nat) (hN : N ≤ 104530000) : roM l yL_root wsL_root ({ frames := 0, cells := 0, slots := 0, locals := 0 }) [.long (lN N)] D W0 tys H (fun r => r = nI (isq N)) := by
  refine ro_of (cc := cL_root) (maxL := 6) (ret := some .int) (by decide) rfl (Nat.le_of_ble_eq_true rfl) ?_
  intro p e s m args below meth c he hH hP hK ls hl
  obtain ⟨hx, hb, hr, hml, hown, hts, hlocks⟩ := he
  have hown : s.vm.findClass RL = some m.cls := hown
  have hl : lv_has ls 6 [(0, .long (lN N))] := hl
  refine lv_lconst (v := 0) hx hb dL_root_0 (by decide) ?_
  refine lv_lstore_n (lv' := [(2, .long 0), (0, .long (lN N))]) hx hb dL_root_1 rfl hl (by decide) rfl (fun ls hl => ?_)
  refine lv_ldc2 (v := (16384)) hx hb hown (hts (.constantLong RL 9 (16384)) (by decide +kernel)) dL_root_2 ?_
  refine lv_lstore (lv' := [(4, .long 16384), (2, .long 0), (0, .long (lN N))]) hx hb dL_root_5 hl (by decide) rfl (fun ls hl => ?_)
  suffices K : ∀ (n r : Nat) (ls : Array Slot), r + 2 ^ n ≤ 32768 → r * r ≤ N → N < (r + 2 ^ n) * (r + 2 ^ n) → lv_has ls 6 [(4, .long (lN (2 ^ n / 2))), (2, .long (lN r)), (0, .long (lN N))] → W p l e _ s m args below meth c H [] 0 0 (roQ below H (fun r => r = nI (isq N)) args s) (F0 m 7 ls []) by
    exact K 15 0 ls (by decide) (Nat.zero_le _) (by have : (0 + 2 ^ 15) * (0 + 2 ^ 15) = 1073741824 := rfl; omega) (lv_sub hl [0, 1, 2] rfl)
  intro n
  induction n with
  | zero =>
    intro r ls h1 h2 h3 hl
    refine lv_lload hx hb dL_root_7 (lv_at hl 0 rfl) ?_
    refine lv_lconst (v := 0) hx hb dL_root_9 (by decide) ?_
    refine W.lcmp hx hb dL_root_10 ?_
    refine lv_if_le (tgt := 48) hx hb dL_root_11 (by decide) (fun c11 => ?_) (fun c11 => ?_)
    · refine lv_lload_n hx hb dL_root_48 rfl (lv_at hl 1 rfl) ?_
      refine lv_l2i hx hb dL_root_49 (lN_i r) ?_
      exact ro_ret (v := (nI r)) hx hb hr hlocks hH (by rw [isq_uniq h2 h3]) dL_root_50
    · exact absurd ((lg_cmp_le _ _).mpr (show lN (2 ^ 0 / 2) ≤ 0 by decide)) c11
  | succ n ih =>
    intro r ls h1 h2 h3 hl
    have e2 : 2 ^ (n + 1) = 2 * 2 ^ n := by rw [Nat.pow_succ]; omega
    have ed : 2 ^ (n + 1) / 2 = 2 ^ n := by omega
    have hp : 0 < 2 ^ n := Nat.pow_pos (by decide)
    rw [ed] at hl
    refine lv_lload hx hb dL_root_7 (lv_at hl 0 rfl) ?_
    refine lv_lconst (v := 0) hx hb dL_root_9 (by decide) ?_
    refine W.lcmp hx hb dL_root_10 ?_
    refine lv_if_le (tgt := 48) hx hb dL_root_11 (by decide) (fun c11 => ?_) (fun c11 => ?_)
    · exact absurd ((lg_cmp_le _ _).mp c11) (fun w => by have w2 := (pk_lLE (a := 2 ^ n) (b := 0) (by omega) (by omega)).mp w; omega)
    · refine lv_lload_n hx hb dL_root_14 rfl (lv_at hl 1 rfl) ?_
      refine lv_lload_n hx hb dL_root_15 rfl (lv_at hl 1 rfl) ?_
      refine lv_lload hx hb dL_root_16 (lv_at hl 0 rfl) ?_
      refine lv_ladd hx hb dL_root_18 ?_
      refine lv_topl (fun y9 e9 => ?_)
      rw [show y9 = (lN (r + 2 ^ n)) from e9.trans (lN_add _ _)]
      refine lv_lload_n hx hb dL_root_19 rfl (lv_at hl 1 rfl) ?_
      refine lv_lload hx hb dL_root_20 (lv_at hl 0 rfl) ?_
      refine lv_ladd hx hb dL_root_22 ?_
      refine lv_topl (fun y9 e9 => ?_)
      rw [show y9 = (lN (r + 2 ^ n)) from e9.trans (lN_add _ _)]
      refine lv_lmul hx hb dL_root_23 ?_
      refine lv_topl (fun y9 e9 => ?_)
      rw [show y9 = (lN ((r + 2 ^ n) * (r + 2 ^ n))) from e9.trans (lN_mul _ _)]
      have hm : (r + 2 ^ n) * (r + 2 ^ n) ≤ 32768 * 32768 := Nat.mul_le_mul (by omega) (by omega)
      refine lv_lload_n hx hb dL_root_24 rfl (lv_at hl 2 rfl) ?_
      refine W.lcmp hx hb dL_root_25 ?_
      refine lv_if_gt (tgt := 34) hx hb dL_root_26 (by decide) (fun c26 => ?_) (fun c26 => ?_)
      · have hgt : N < (r + 2 ^ n) * (r + 2 ^ n) := (pk_lLT (by omega) (by omega)).mp ((lg_cmp_gt _ _).mp c26)
        refine lv_lconst (v := 0) hx hb dL_root_34 (by decide) ?_
        refine lv_ladd hx hb dL_root_35 ?_
        refine lv_topl (fun y9 e9 => ?_)
        rw [show y9 = (lN r) from e9.trans (lN_add r 0)]
        refine lv_lstore_n (lv' := [(2, .long (lN r)), (4, .long (lN (2 ^ n))), (0, .long (lN N))]) hx hb dL_root_36 rfl hl (by decide) rfl (fun ls hl => ?_)
        refine lv_lload hx hb dL_root_37 (lv_at hl 1 rfl) ?_
        refine lv_ldc2 (v := (2)) hx hb hown (hts (.constantLong RL 11 (2)) (by decide +kernel)) dL_root_39 ?_
        refine lv_ldiv hx hb dL_root_42 (by decide) ?_
        refine lv_topl (fun y9 e9 => ?_)
        rw [show y9 = (lN (2 ^ n / 2)) from e9.trans (pk_lDiv (a := 2 ^ n) (b := 2) (by omega) (by omega) (by omega))]
        refine lv_lstore (lv' := [(4, .long (lN (2 ^ n / 2))), (2, .long (lN r)), (0, .long (lN N))]) hx hb dL_root_43 hl (by decide) rfl (fun ls hl => ?_)
        refine lv_goto (tgt := 7) hx hb dL_root_45 (by decide) ?_
        exact ih r ls (by omega) h2 hgt (lv_sub hl [0, 1, 2] rfl)
      · have hle : (r + 2 ^ n) * (r + 2 ^ n) ≤ N := Nat.not_lt.mp (fun v => c26 ((lg_cmp_gt _ _).mpr ((pk_lLT (by omega) (by omega)).mpr v)))
        refine lv_lload hx hb dL_root_29 (lv_at hl 0 rfl) ?_
        refine lv_goto (tgt := 35) hx hb dL_root_31 (by decide) ?_
        refine lv_ladd hx hb dL_root_35 ?_
        refine lv_topl (fun y9 e9 => ?_)
        rw [show y9 = (lN (r + 2 ^ n)) from e9.trans (lN_add _ _)]
        refine lv_lstore_n (lv' := [(2, .long (lN (r + 2 ^ n))), (4, .long (lN (2 ^ n))), (0, .long (lN N))]) hx hb dL_root_36 rfl hl (by decide) rfl (fun ls hl => ?_)
        refine lv_lload hx hb dL_root_37 (lv_at hl 1 rfl) ?_
        refine lv_ldc2 (v := (2)) hx hb hown (hts (.constantLong RL 11 (2)) (by decide +kernel)) dL_root_39 ?_
        refine lv_ldiv hx hb dL_root_42 (by decide) ?_
        refine lv_topl (fun y9 e9 => ?_)
        rw [show y9 = (lN (2 ^ n / 2)) from e9.trans (pk_lDiv (a := 2 ^ n) (b := 2) (by omega) (by omega) (by omega))]
        refine lv_lstore (lv' := [(4, .long (lN (2 ^ n / 2))), (2, .long (lN (r + 2 ^ n))), (0, .long (lN N))]) hx hb dL_root_43 hl (by decide) rfl (fun ls hl => ?_)
        refine lv_goto (tgt := 7) hx hb dL_root_45 (by decide) ?_
        exact ih (r + 2 ^ n) ls (by omega) hle (by rw [show r + 2 ^ n + 2 ^ n = r + 2 ^ (n + 1) by omega]; exact h3) (lv_sub hl [0, 1, 2] rfl)
set_option maxHeartbeats 4000000 in
set_option maxRecDepth 100000 in
theorem c_L_away (l : Launch) (D : va_G) (cI : ClassId) (ab al am : Nat) (bf lf mf : Nat → Int32) (H : Heap) (j k : Nat) (hj : j < 6) (hk : k < 4) (ek : lf (6 * j + 1) = nI k) (s9 : Int32) : roM l yL_away wsL_away ({ frames := 0, cells := 0, slots := 0, locals := 0 }) [.ref ab, .ref al, .int (nI j), .int s9] D (lw3 cI ab al am bf lf mf) (tyI cI) H (fun r => r = bf (2 * k) - lf (6 * j) - s9) := by
  refine ro_of (cc := cL_away) (maxL := 4) (ret := some .int) (by decide) rfl (Nat.le_of_ble_eq_true rfl) ?_
  intro p e s m args below meth c he hH hP hK ls hl
  obtain ⟨hx, hb, hr, hml, hown, hts, hlocks⟩ := he
  have hown : s.vm.findClass RL = some m.cls := hown
  have hl : lv_has ls 4 [(0, .ref ab), (1, .ref al), (2, .int (nI j)), (3, .int s9)] := hl
  refine lv_aload_n hx hb dL_away_0 rfl (lv_at hl 0 rfl) ?_
  refine lv_iconst (v := 2) hx hb dL_away_1 (by decide) ?_
  refine lv_aload_n hx hb dL_away_2 rfl (lv_at hl 1 rfl) ?_
  refine lv_bipush (v := 6) hx hb dL_away_3 (by decide) ?_
  refine lv_iload_n hx hb dL_away_5 rfl (lv_at hl 2 rfl) ?_
  refine lv_imul hx hb dL_away_6 ?_
  refine lv_topi (fun y9 e9 => ?_)
  rw [show y9 = (nI (6 * j)) from e9.trans (pk_mul 6 j)]
  refine lv_iconst (v := 1) hx hb dL_away_7 (by decide) ?_
  refine lv_iadd hx hb dL_away_8 ?_
  refine lv_topi (fun y9 e9 => ?_)
  rw [show y9 = (nI (6 * j + 1)) from e9.trans (nI_add (6 * j) 1)]
  refine xa_ld hx hb hK hP 1 0 rfl rfl (j := (6 * j + 1)) (by omega) (by decide) dL_away_9 ?_
  rw [show (lf (6 * j + 1)) = (nI k) from ek]
  refine lv_imul hx hb dL_away_10 ?_
  refine lv_topi (fun y9 e9 => ?_)
  rw [show y9 = (nI (2 * k)) from e9.trans (pk_mul 2 k)]
  refine xa_ld hx hb hK hP 0 0 rfl rfl (j := (2 * k)) (by omega) (by decide) dL_away_11 ?_
  refine lv_aload_n hx hb dL_away_12 rfl (lv_at hl 1 rfl) ?_
  refine lv_bipush (v := 6) hx hb dL_away_13 (by decide) ?_
  refine lv_iload_n hx hb dL_away_15 rfl (lv_at hl 2 rfl) ?_
  refine lv_imul hx hb dL_away_16 ?_
  refine lv_topi (fun y9 e9 => ?_)
  rw [show y9 = (nI (6 * j)) from e9.trans (pk_mul 6 j)]
  refine xa_ld hx hb hK hP 1 0 rfl rfl (j := (6 * j)) (by omega) (by decide) dL_away_17 ?_
  refine lv_isub hx hb dL_away_18 ?_
  refine lv_iload_n hx hb dL_away_19 rfl (lv_at hl 3 rfl) ?_
  refine lv_isub hx hb dL_away_20 ?_
  exact ro_ret (v := (((bf (2 * k)) - (lf (6 * j))) - s9)) hx hb hr hlocks hH rfl dL_away_21
set_option maxHeartbeats 4000000 in
set_option maxRecDepth 100000 in
theorem c_L_length (l : Launch) (D : va_G) (cI : ClassId) (ab al am : Nat) (bf lf mf : Nat → Int32) (H : Heap) (j k : Nat) (hj : j < 6) (hk : k < 4) (ek : lf (6 * j + 1) = nI k) (hh9 s9 : Int32) (hA : inA (bf (2 * k) - lf (6 * j) - s9)) (hY : inH hh9) : roM l yL_length wsL_length ({ frames := 1, cells := 0, slots := 0, locals := 25 }) [.ref ab, .ref al, .int (nI j), .int hh9, .int s9] D (lw3 cI ab al am bf lf mf) (tyI cI) H (fun r => r = LENs (bf (2 * k) - lf (6 * j) - s9) hh9) := by
  refine ro_of (cc := cL_length) (maxL := 7) (ret := some .int) (by decide) rfl (Nat.le_of_ble_eq_true rfl) ?_
  intro p e s m args below meth c he hH hP hK ls hl
  obtain ⟨hx, hb, hr, hml, hown, hts, hlocks⟩ := he
  have hown : s.vm.findClass RL = some m.cls := hown
  have hl : lv_has ls 7 [(0, .ref ab), (1, .ref al), (2, .int (nI j)), (3, .int hh9), (4, .int s9)] := hl
  refine lv_aload_n hx hb dL_length_0 rfl (lv_at hl 0 rfl) ?_
  refine lv_aload_n hx hb dL_length_1 rfl (lv_at hl 1 rfl) ?_
  refine lv_iload_n hx hb dL_length_2 rfl (lv_at hl 2 rfl) ?_
  refine lv_iload hx hb dL_length_3 (lv_at hl 4 rfl) ?_
  refine ro_callS 4 hx hb hml hown hts hl.1 hP hK (As := [.ref ab, .ref al, .int (nI j), .int s9]) (rest := []) (c_L_away l D cI ab al am bf lf mf H j k hj hk ek s9) gL_length_L_away rfl rfl rfl (by decide +kernel) ⟨Nat.le_of_ble_eq_true rfl, Nat.le_of_ble_eq_true rfl⟩ rfl rfl (Nat.le_of_ble_eq_true rfl) dL_length_5 ⟨Nat.zero_le _, Nat.zero_le _⟩ (fun r1 hr1 => ?_)
  subst hr1
  refine lv_i2l hx hb dL_length_8 rfl ?_
  refine lv_lstore (lv' := [(5, .long (bf (2 * k) - lf (6 * j) - s9).toInt64), (0, .ref ab), (1, .ref al), (2, .int (nI j)), (3, .int hh9), (4, .int s9)]) hx hb dL_length_9 hl (by decide) rfl (fun ls hl => ?_)
  refine lv_lload hx hb dL_length_11 (lv_at hl 0 rfl) ?_
  refine lv_lload hx hb dL_length_13 (lv_at hl 0 rfl) ?_
  refine lv_lmul hx hb dL_length_15 ?_
  refine lv_iload_n hx hb dL_length_16 rfl (lv_at hl 4 rfl) ?_
  refine lv_i2l hx hb dL_length_17 rfl ?_
  refine lv_iload_n hx hb dL_length_18 rfl (lv_at hl 4 rfl) ?_
  refine lv_i2l hx hb dL_length_19 rfl ?_
  refine lv_lmul hx hb dL_length_20 ?_
  refine lv_ladd hx hb dL_length_21 ?_
  refine lv_topl (fun y9 e9 => ?_)
  rw [show y9 = (lN (sq2 (bf (2 * k) - lf (6 * j) - s9) hh9)) from e9.trans (sq64 hA hY)]
  refine ro_callS 1 hx hb hml hown hts hl.1 hP hK (As := [.long (lN (sq2 (bf (2 * k) - lf (6 * j) - s9) hh9))]) (rest := []) (c_L_root l D (lw3 cI ab al am bf lf mf) (tyI cI) H (sq2 (bf (2 * k) - lf (6 * j) - s9) hh9) (sq2_le hA hY).1) gL_length_L_root rfl rfl rfl (by decide +kernel) ⟨Nat.le_of_ble_eq_true rfl, Nat.le_of_ble_eq_true rfl⟩ rfl rfl (Nat.le_of_ble_eq_true rfl) dL_length_22 ⟨Nat.zero_le _, Nat.zero_le _⟩ (fun r2 hr2 => ?_)
  subst hr2
  exact ro_ret (v := (nI (isq (sq2 (bf (2 * k) - lf (6 * j) - s9) hh9)))) hx hb hr hlocks hH rfl dL_length_25
set_option maxHeartbeats 4000000 in
set_option maxRecDepth 100000 in
theorem c_L_len (l : Launch) (D : va_G) (cI : ClassId) (ab al am : Nat) (bf lf mf : Nat → Int32) (H : Heap) (σ : St) {nL nB : Nat} (hI : inv σ nL nB) (hR : lrel σ nL nB bf lf mf) (j t : Nat) (hj : j < nL) (ht48 : t < 48) (s9 : Int32) (hs9 : inS s9) : roM l yL_length wsL_length ({ frames := 1, cells := 0, slots := 0, locals := 25 }) [.ref ab, .ref al, .int (nI j), .int (ht σ t), .int s9] D (lw3 cI ab al am bf lf mf) (tyI cI) H (fun r => r = len_ σ j t s9) := by
  obtain ⟨k, hk, ek, es⟩ := lrel_ln hR hj
  have hA : inA (bf (2 * k) - lf (6 * j) - s9) := by rw [es]; exact inv_al hI hj hs9
  have hL6 := hR.1.1
  have h := c_L_length l D cI ab al am bf lf mf H j k (by omega) hk ek (ht σ t) s9 hA (inv_ht hI ht48)
  rw [es] at h
  exact h
set_option maxHeartbeats 4000000 in
set_option maxRecDepth 100000 in
theorem c_L_awy (l : Launch) (D : va_G) (cI : ClassId) (ab al am : Nat) (bf lf mf : Nat → Int32) (H : Heap) (σ : St) {nL nB : Nat} (hI : inv σ nL nB) (hR : lrel σ nL nB bf lf mf) (j : Nat) (hj : j < nL) (s9 : Int32) : roM l yL_away wsL_away ({ frames := 0, cells := 0, slots := 0, locals := 0 }) [.ref ab, .ref al, .int (nI j), .int s9] D (lw3 cI ab al am bf lf mf) (tyI cI) H (fun r => r = σ 9 j - s9) := by
  obtain ⟨k, hk, ek, es⟩ := lrel_ln hR hj
  have hL6 := hR.1.1
  have h := c_L_away l D cI ab al am bf lf mf H j k (by omega) hk ek s9
  rw [es] at h
  exact h
set_option maxHeartbeats 4000000 in
set_option maxRecDepth 100000 in
theorem c_L_tension (l : Launch) (D : va_G) (cI : ClassId) (ab al am : Nat) (bf lf mf : Nat → Int32) (H : Heap) (σ : St) {nL nB : Nat} (hI : inv σ nL nB) (hR : lrel σ nL nB bf lf mf) (j t : Nat) (hj : j < nL) (ht48 : t < 48) (s9 : Int32) (hs9 : inS s9) : roM l yL_tension wsL_tension ({ frames := 2, cells := 0, slots := 0, locals := 51 }) [.ref ab, .ref al, .int (nI j), .int (ht σ t), .int s9] D (lw3 cI ab al am bf lf mf) (tyI cI) H (fun r => r = tn_ σ j t s9) := by
  refine ro_of (cc := cL_tension) (maxL := 6) (ret := some .int) (by decide) rfl (Nat.le_of_ble_eq_true rfl) ?_
  intro p e s m args below meth c he hH hP hK ls hl
  obtain ⟨hx, hb, hr, hml, hown, hts, hlocks⟩ := he
  have hown : s.vm.findClass RL = some m.cls := hown
  obtain ⟨⟨hL6, hB4⟩, ⟨hm0, hm1, hm2⟩, hRb, hRl⟩ := id hR
  have hl : lv_has ls 6 [(0, .ref ab), (1, .ref al), (2, .int (nI j)), (3, .int (ht σ t)), (4, .int s9)] := hl
  obtain ⟨-, e2, e3, e4, e5⟩ := hRl j hj
  obtain ⟨n9, en9, hn9⟩ := inv_len hI hj ht48 hs9
  obtain ⟨-, -, -, -, ⟨z1, z2⟩, -⟩ := hI.2.2.2.2.2.2 j hj
  have ed : (len_ σ j t s9 - σ 12 j).toInt = (n9 : Int) - (σ 12 j).toInt := by rw [Jvm.Kit.i32_sub (by rw [en9, nI_ti (by omega)]; omega) (by rw [en9, nI_ti (by omega)]; omega), en9, nI_ti (by omega)]
  refine lv_aload_n hx hb dL_tension_0 rfl (lv_at hl 0 rfl) ?_
  refine lv_aload_n hx hb dL_tension_1 rfl (lv_at hl 1 rfl) ?_
  refine lv_iload_n hx hb dL_tension_2 rfl (lv_at hl 2 rfl) ?_
  refine lv_iload_n hx hb dL_tension_3 rfl (lv_at hl 3 rfl) ?_
  refine lv_iload hx hb dL_tension_4 (lv_at hl 4 rfl) ?_
  refine ro_callS 5 hx hb hml hown hts hl.1 hP hK (As := [.ref ab, .ref al, .int (nI j), .int (ht σ t), .int s9]) (rest := []) (c_L_len l D cI ab al am bf lf mf H σ hI hR j t hj ht48 s9 hs9) gL_tension_L_length rfl rfl rfl (by decide +kernel) ⟨Nat.le_of_ble_eq_true rfl, Nat.le_of_ble_eq_true rfl⟩ rfl rfl (Nat.le_of_ble_eq_true rfl) dL_tension_6 ⟨Nat.zero_le _, Nat.zero_le _⟩ (fun r1 hr1 => ?_)
  subst hr1
  refine lv_aload_n hx hb dL_tension_9 rfl (lv_at hl 1 rfl) ?_
  refine lv_bipush (v := 6) hx hb dL_tension_10 (by decide) ?_
  refine lv_iload_n hx hb dL_tension_12 rfl (lv_at hl 2 rfl) ?_
  refine lv_imul hx hb dL_tension_13 ?_
  refine lv_topi (fun y9 e9 => ?_)
  rw [show y9 = (nI (6 * j)) from e9.trans (pk_mul 6 j)]
  refine lv_iconst (v := 4) hx hb dL_tension_14 (by decide) ?_
  refine lv_iadd hx hb dL_tension_15 ?_
  refine lv_topi (fun y9 e9 => ?_)
  rw [show y9 = (nI (6 * j + 4)) from e9.trans (nI_add (6 * j) 4)]
  refine xa_ld hx hb hK hP 1 0 rfl rfl (j := (6 * j + 4)) (by omega) (by decide) dL_tension_16 ?_
  rw [show (lf (6 * j + 4)) = (σ 12 j) from e4]
  refine lv_isub hx hb dL_tension_17 ?_
  refine lv_istore (lv' := [(5, .int ((len_ σ j t s9) - (σ 12 j))), (0, .ref ab), (1, .ref al), (2, .int (nI j)), (3, .int (ht σ t)), (4, .int s9)]) hx hb dL_tension_18 hl (by decide) rfl (fun ls hl => ?_)
  refine lv_aload_n hx hb dL_tension_20 rfl (lv_at hl 2 rfl) ?_
  refine lv_bipush (v := 6) hx hb dL_tension_21 (by decide) ?_
  refine lv_iload_n hx hb dL_tension_23 rfl (lv_at hl 3 rfl) ?_
  refine lv_imul hx hb dL_tension_24 ?_
  refine lv_topi (fun y9 e9 => ?_)
  rw [show y9 = (nI (6 * j)) from e9.trans (pk_mul 6 j)]
  refine lv_iconst (v := 5) hx hb dL_tension_25 (by decide) ?_
  refine lv_iadd hx hb dL_tension_26 ?_
  refine lv_topi (fun y9 e9 => ?_)
  rw [show y9 = (nI (6 * j + 5)) from e9.trans (nI_add (6 * j) 5)]
  refine xa_ld hx hb hK hP 1 0 rfl rfl (j := (6 * j + 5)) (by omega) (by decide) dL_tension_27 ?_
  refine lv_iconst (v := 1) hx hb dL_tension_28 (by decide) ?_
  refine lv_icmp_eq (tgt := 37) hx hb dL_tension_29 (by decide) (fun c29 => ?_) (fun c29 => ?_)
  · have q0 : σ 13 j = 0 := e5.elim (fun q => absurd (q.1.symm.trans c29) (by decide)) (fun q => q.2)
    refine lv_iconst (v := 0) hx hb dL_tension_37 (by decide) ?_
    refine lv_goto (tgt := 52) hx hb dL_tension_38 (by decide) ?_
    exact ro_ret (v := 0) hx hb hr hlocks hH (by show (0 : Int32) = tens_ σ j (len_ σ j t s9); unfold tens_; rw [if_pos q0]) dL_tension_52
  · have q1 : ¬ σ 13 j = 0 := e5.elim (fun q => by rw [q.2]; decide) (fun q => absurd q.1 c29)
    refine lv_iload hx hb dL_tension_32 (lv_at hl 0 rfl) ?_
    refine lv_if_gt (tgt := 41) hx hb dL_tension_34 (by decide) (fun c34 => ?_) (fun c34 => ?_)
    · refine lv_aload_n hx hb dL_tension_41 rfl (lv_at hl 2 rfl) ?_
      refine lv_bipush (v := 6) hx hb dL_tension_42 (by decide) ?_
      refine lv_iload_n hx hb dL_tension_44 rfl (lv_at hl 3 rfl) ?_
      refine lv_imul hx hb dL_tension_45 ?_
      refine lv_topi (fun y9 e9 => ?_)
      rw [show y9 = (nI (6 * j)) from e9.trans (pk_mul 6 j)]
      refine lv_iconst (v := 2) hx hb dL_tension_46 (by decide) ?_
      refine lv_iadd hx hb dL_tension_47 ?_
      refine lv_topi (fun y9 e9 => ?_)
      rw [show y9 = (nI (6 * j + 2)) from e9.trans (nI_add (6 * j) 2)]
      refine xa_ld hx hb hK hP 1 0 rfl rfl (j := (6 * j + 2)) (by omega) (by decide) dL_tension_48 ?_
      rw [show (lf (6 * j + 2)) = (σ 10 j) from e2]
      refine lv_iload hx hb dL_tension_49 (lv_at hl 0 rfl) ?_
      refine lv_imul hx hb dL_tension_51 ?_
      exact ro_ret (v := ((σ 10 j) * ((len_ σ j t s9) - (σ 12 j)))) hx hb hr hlocks hH (by show _ = tens_ σ j (len_ σ j t s9); unfold tens_; rw [if_neg q1, if_pos c34]) dL_tension_52
    · refine lv_iconst (v := 0) hx hb dL_tension_37 (by decide) ?_
      refine lv_goto (tgt := 52) hx hb dL_tension_38 (by decide) ?_
      exact ro_ret (v := 0) hx hb hr hlocks hH (by show (0 : Int32) = tens_ σ j (len_ σ j t s9); unfold tens_; rw [if_neg q1, if_neg c34, Int32.mul_zero]) dL_tension_52
set_option maxHeartbeats 4000000 in
set_option maxRecDepth 100000 in
theorem c_L_force (l : Launch) (D : va_G) (cI : ClassId) (ab al am : Nat) (bf lf mf : Nat → Int32) (H : Heap) (σ : St) {nL nB : Nat} (hI : inv σ nL nB) (hR : lrel σ nL nB bf lf mf) (t : Nat) (ht48 : t < 48) (s9 : Int32) (hs9 : inS s9) : roM l yL_force wsL_force ({ frames := 3, cells := 0, slots := 0, locals := 76 }) [.ref ab, .ref al, .ref am, .int (ht σ t), .int (σ 2 t), .int s9] D (lw3 cI ab al am bf lf mf) (tyI cI) H (fun r => r = frc σ t s9) := by
  refine ro_of (cc := cL_force) (maxL := 15) (ret := some .int) (by decide) rfl (Nat.le_of_ble_eq_true rfl) ?_
  intro p e s m args below meth c he hH hP hK ls hl
  obtain ⟨hx, hb, hr, hml, hown, hts, hlocks⟩ := he
  have hown : s.vm.findClass RL = some m.cls := hown
  obtain ⟨⟨hL6, hB4⟩, ⟨hm0, hm1, hm2⟩, hRb, hRl⟩ := id hR
  have hl : lv_has ls 15 [(0, .ref ab), (1, .ref al), (2, .ref am), (3, .int (ht σ t)), (4, .int (σ 2 t)), (5, .int s9)] := hl
  refine lv_aload_n hx hb dL_force_0 rfl (lv_at hl 2 rfl) ?_
  refine lv_iconst (v := 2) hx hb dL_force_1 (by decide) ?_
  refine xa_ld hx hb hK hP 2 0 rfl rfl (j := 2) (by omega) (by decide) dL_force_2 ?_
  rw [show (mf 2) = (σ 3 0) from hm2]
  refine lv_i2l hx hb dL_force_3 rfl ?_
  refine lv_iload hx hb dL_force_4 (lv_at hl 4 rfl) ?_
  refine lv_i2l hx hb dL_force_6 rfl ?_
  refine lv_ladd hx hb dL_force_7 ?_
  refine lv_lstore (lv' := [(6, .long ((σ 3 0).toInt64 + (σ 2 t).toInt64)), (0, .ref ab), (1, .ref al), (2, .ref am), (3, .int (ht σ t)), (4, .int (σ 2 t)), (5, .int s9)]) hx hb dL_force_8 hl (by decide) rfl (fun ls hl => ?_)
  refine lv_iconst (v := 0) hx hb dL_force_10 (by decide) ?_
  refine lv_istore (lv' := [(8, .int 0), (6, .long ((σ 3 0).toInt64 + (σ 2 t).toInt64)), (0, .ref ab), (1, .ref al), (2, .ref am), (3, .int (ht σ t)), (4, .int (σ 2 t)), (5, .int s9)]) hx hb dL_force_11 hl (by decide) rfl (fun ls hl => ?_)
  suffices K : ∀ (n k : Nat) (w : Int64) (ls : Array Slot), k + n = nL → w.toInt32 = acc (fun j => pull_ σ j t s9) (σ 3 0 + σ 2 t) k → lv_has ls 15 [(8, .int (nI k)), (6, .long w), (0, .ref ab), (1, .ref al), (2, .ref am), (3, .int (ht σ t)), (4, .int (σ 2 t)), (5, .int s9)] → W p l e _ s m args below meth c H [] 0 0 (roQ below H (fun r => r = frc σ t s9) args s) (F0 m 13 ls []) by
    exact K nL 0 _ ls (by omega) (add64 _ _) (lv_sub hl [0, 1, 2, 3, 4, 5, 6, 7] rfl)
  intro n
  induction n with
  | zero =>
    intro k w ls hk hw hl
    refine lv_iload hx hb dL_force_13 (lv_at hl 0 rfl) ?_
    refine lv_aload_n hx hb dL_force_15 rfl (lv_at hl 4 rfl) ?_
    refine lv_iconst (v := 1) hx hb dL_force_16 (by decide) ?_
    refine xa_ld hx hb hK hP 2 0 rfl rfl (j := 1) (by omega) (by decide) dL_force_17 ?_
    rw [show (mf 1) = (nI nL) from hm1]
    refine lv_icmp_ge (tgt := 115) hx hb dL_force_18 (by decide) (fun c18 => ?_) (fun c18 => ?_)
    · refine lv_lload hx hb dL_force_115 (lv_at hl 1 rfl) ?_
      refine lv_l2i hx hb dL_force_117 rfl ?_
      exact ro_ret (v := w.toInt32) hx hb hr hlocks hH (by rw [hw, show k = nL by omega]; unfold frc; rw [inv_nL hI]) dL_force_118
    · exact absurd (nI_le (a := nL) (b := k) (by omega) (by omega)) c18
  | succ n ih =>
    intro k w ls hk hw hl
    refine lv_iload hx hb dL_force_13 (lv_at hl 0 rfl) ?_
    refine lv_aload_n hx hb dL_force_15 rfl (lv_at hl 4 rfl) ?_
    refine lv_iconst (v := 1) hx hb dL_force_16 (by decide) ?_
    refine xa_ld hx hb hK hP 2 0 rfl rfl (j := 1) (by omega) (by decide) dL_force_17 ?_
    rw [show (mf 1) = (nI nL) from hm1]
    refine lv_icmp_ge (tgt := 115) hx hb dL_force_18 (by decide) (fun c18 => ?_) (fun c18 => ?_)
    · exact absurd c18 (nI_ge (a := k) (b := nL) (by omega) (by omega))
    · have hk1 : k < nL := by omega
      obtain ⟨n9, en9, hn9⟩ := inv_len hI hk1 ht48 hs9
      obtain ⟨t1, t2⟩ := inv_tn hI hk1 ht48 hs9
      obtain ⟨a1, a2⟩ := inv_al hI hk1 hs9
      refine lv_aload_n hx hb dL_force_21 rfl (lv_at hl 2 rfl) ?_
      refine lv_aload_n hx hb dL_force_22 rfl (lv_at hl 3 rfl) ?_
      refine lv_iload hx hb dL_force_23 (lv_at hl 0 rfl) ?_
      refine lv_iload_n hx hb dL_force_25 rfl (lv_at hl 5 rfl) ?_
      refine lv_iload hx hb dL_force_26 (lv_at hl 7 rfl) ?_
      refine ro_callS 5 hx hb hml hown hts hl.1 hP hK (As := [.ref ab, .ref al, .int (nI k), .int (ht σ t), .int s9]) (rest := []) (c_L_len l D cI ab al am bf lf mf H σ hI hR k t hk1 ht48 s9 hs9) gL_force_L_length rfl rfl rfl (by decide +kernel) ⟨Nat.le_of_ble_eq_true rfl, Nat.le_of_ble_eq_true rfl⟩ rfl rfl (Nat.le_of_ble_eq_true rfl) dL_force_28 ⟨Nat.zero_le _, Nat.zero_le _⟩ (fun r1 hr1 => ?_)
      subst hr1
      refine lv_i2l hx hb dL_force_31 rfl ?_
      refine lv_lstore (lv' := [(9, .long (len_ σ k t s9).toInt64), (8, .int (nI k)), (6, .long w), (0, .ref ab), (1, .ref al), (2, .ref am), (3, .int (ht σ t)), (4, .int (σ 2 t)), (5, .int s9)]) hx hb dL_force_32 hl (by decide) rfl (fun ls hl => ?_)
      refine lv_aload_n hx hb dL_force_34 rfl (lv_at hl 3 rfl) ?_
      refine lv_aload_n hx hb dL_force_35 rfl (lv_at hl 4 rfl) ?_
      refine lv_iload hx hb dL_force_36 (lv_at hl 1 rfl) ?_
      refine lv_iload_n hx hb dL_force_38 rfl (lv_at hl 6 rfl) ?_
      refine lv_iload hx hb dL_force_39 (lv_at hl 8 rfl) ?_
      refine ro_callS 5 hx hb hml hown hts hl.1 hP hK (As := [.ref ab, .ref al, .int (nI k), .int (ht σ t), .int s9]) (rest := []) (c_L_tension l D cI ab al am bf lf mf H σ hI hR k t hk1 ht48 s9 hs9) gL_force_L_tension rfl rfl rfl (by decide +kernel) ⟨Nat.le_of_ble_eq_true rfl, Nat.le_of_ble_eq_true rfl⟩ rfl rfl (Nat.le_of_ble_eq_true rfl) dL_force_41 ⟨Nat.zero_le _, Nat.zero_le _⟩ (fun r2 hr2 => ?_)
      subst hr2
      refine lv_i2l hx hb dL_force_44 rfl ?_
      refine lv_aload_n hx hb dL_force_45 rfl (lv_at hl 3 rfl) ?_
      refine lv_aload_n hx hb dL_force_46 rfl (lv_at hl 4 rfl) ?_
      refine lv_iload hx hb dL_force_47 (lv_at hl 1 rfl) ?_
      refine lv_iload hx hb dL_force_49 (lv_at hl 8 rfl) ?_
      refine ro_callS 4 hx hb hml hown hts hl.1 hP hK (As := [.ref ab, .ref al, .int (nI k), .int s9]) (rest := [.long (tn_ σ k t s9).toInt64]) (c_L_awy l D cI ab al am bf lf mf H σ hI hR k hk1 s9) gL_force_L_away rfl rfl rfl (by decide +kernel) ⟨Nat.le_of_ble_eq_true rfl, Nat.le_of_ble_eq_true rfl⟩ rfl rfl (Nat.le_of_ble_eq_true rfl) dL_force_51 ⟨Nat.zero_le _, Nat.zero_le _⟩ (fun r3 hr3 => ?_)
      subst hr3
      refine lv_i2l hx hb dL_force_54 rfl ?_
      refine lv_lmul hx hb dL_force_55 ?_
      have mb : -10428480000 ≤ (tn_ σ k t s9).toInt * (σ 9 k - s9).toInt ∧ (tn_ σ k t s9).toInt * (σ 9 k - s9).toInt ≤ 10428480000 := by
        have b1 := Int.mul_nonneg t1 (show 0 ≤ 10200 - (σ 9 k - s9).toInt by omega)
        have b2 := Int.mul_nonneg t1 (show 0 ≤ 10200 + (σ 9 k - s9).toInt by omega)
        rw [Int.mul_sub] at b1
        rw [Int.mul_add] at b2
        omega
      have em : ((tn_ σ k t s9).toInt64 * (σ 9 k - s9).toInt64).toInt = (tn_ σ k t s9).toInt * (σ 9 k - s9).toInt := by rw [Jvm.Kit.i64_mul (by rw [Int32.toInt_toInt64, Int32.toInt_toInt64]; omega) (by rw [Int32.toInt_toInt64, Int32.toInt_toInt64]; omega), Int32.toInt_toInt64, Int32.toInt_toInt64]
      have es : ((len_ σ k t s9).toInt64).toInt = (n9 : Int) := by rw [Int32.toInt_toInt64, en9, nI_ti (by omega)]
      obtain ⟨mm, hmm⟩ : ∃ z : Int64, z = ((tn_ σ k t s9).toInt64 * (σ 9 k - s9).toInt64) := ⟨_, rfl⟩
      rw [← hmm] at em ⊢
      obtain ⟨ss, hss⟩ : ∃ z : Int64, z = (len_ σ k t s9).toInt64 := ⟨_, rfl⟩
      rw [← hss] at es hl
      have hs : ∀ (d : Int64) (ls : Array Slot), d.toInt32 = pull_ σ k t s9 → lv_has ls 15 [(6, .long (w + d)), (8, .int (nI k)), (0, .ref ab), (1, .ref al), (2, .ref am), (3, .int (ht σ t)), (4, .int (σ 2 t)), (5, .int s9)] → W p l e ({ frames := 3, cells := 0, slots := 0, locals := 76 }) s m args below meth c H [] 0 0 (roQ below H (fun r => r = frc σ t s9) args s) (F0 m 109 ls []) := by
        intro d ls hd hl
        refine lv_iinc (v := (nI (k + 1))) (lv' := [(8, .int (nI (k + 1))), (6, .long (w + d)), (0, .ref ab), (1, .ref al), (2, .ref am), (3, .int (ht σ t)), (4, .int (σ 2 t)), (5, .int s9)]) hx hb dL_force_109 hl (k := 1) rfl (by exact nI_add _ 1) (by decide) rfl (fun ls hl => ?_)
        refine lv_goto (tgt := 13) hx hb dL_force_112 (by decide) ?_
        exact ih (k + 1) (w + d) ls (by omega) (by rw [Int64.toInt32_add, hw, hd]; rfl) (lv_sub hl [0, 1, 2, 3, 4, 5, 6, 7] rfl)
      refine lv_lstore (lv' := [(11, .long mm), (9, .long ss), (8, .int (nI k)), (6, .long w), (0, .ref ab), (1, .ref al), (2, .ref am), (3, .int (ht σ t)), (4, .int (σ 2 t)), (5, .int s9)]) hx hb dL_force_56 hl (by decide) rfl (fun ls hl => ?_)
      refine lv_lload hx hb dL_force_58 (lv_at hl 1 rfl) ?_
      refine lv_lconst (v := 0) hx hb dL_force_60 (by decide) ?_
      refine W.lcmp hx hb dL_force_61 ?_
      refine lv_if_ne (tgt := 69) hx hb dL_force_62 (by decide) (fun c62 => ?_) (fun c62 => ?_)
      · have c62 : ¬ ss = 0 := fun u => c62 ((lg_cmp_eq _ _).mpr u)
        have hn0 : ¬ len_ σ k t s9 ≤ 0 := fun u => c62 (by have u2 := i_le.mp u; have u0 : (0 : Int32).toInt = 0 := rfl; rw [en9, nI_ti (by omega), u0] at u2; exact Int64.toInt_inj.mp (by rw [es, i64_0]; omega))
        have hn1 : 0 < ss.toInt := by have u1 : ¬ n9 = 0 := fun u => c62 (Int64.toInt_inj.mp (by rw [es, i64_0, u]; rfl)); omega
        have hpull : (mm / ss).toInt32 = pull_ σ k t s9 := by unfold pull_; rw [if_neg hn0, hmm, hss]
        refine lv_lload hx hb dL_force_69 (lv_at hl 0 rfl) ?_
        refine lv_lconst (v := 0) hx hb dL_force_71 (by decide) ?_
        refine W.lcmp hx hb dL_force_72 ?_
        refine lv_if_ge (tgt := 82) hx hb dL_force_73 (by decide) (fun c73 => ?_) (fun c73 => ?_)
        · have cm : ¬ mm < 0 := Int64.not_lt.mpr ((lg_cmp_ge _ _).mp c73)
          refine lv_lload hx hb dL_force_82 (lv_at hl 0 rfl) ?_
          refine lv_lload hx hb dL_force_84 (lv_at hl 1 rfl) ?_
          refine lv_ldiv hx hb dL_force_86 c62 ?_
          refine lv_lstore (lv' := [(13, .long (mm / ss)), (11, .long mm), (9, .long ss), (8, .int (nI k)), (6, .long w), (0, .ref ab), (1, .ref al), (2, .ref am), (3, .int (ht σ t)), (4, .int (σ 2 t)), (5, .int s9)]) hx hb dL_force_87 hl (by decide) rfl (fun ls hl => ?_)
          refine lv_lload hx hb dL_force_89 (lv_at hl 4 rfl) ?_
          refine lv_lload hx hb dL_force_91 (lv_at hl 1 rfl) ?_
          refine lv_lconst (v := 0) hx hb dL_force_93 (by decide) ?_
          refine W.lcmp hx hb dL_force_94 ?_
          refine lv_if_ge (tgt := 104) hx hb dL_force_95 (by decide) (fun c95 => ?_) (fun c95 => ?_)
          · refine lv_lload hx hb dL_force_104 (lv_at hl 0 rfl) ?_
            refine lv_ladd hx hb dL_force_106 ?_
            refine lv_lstore (lv' := [(6, .long (w + (mm / ss))), (13, .long (mm / ss)), (11, .long mm), (9, .long ss), (8, .int (nI k)), (0, .ref ab), (1, .ref al), (2, .ref am), (3, .int (ht σ t)), (4, .int (σ 2 t)), (5, .int s9)]) hx hb dL_force_107 hl (by decide) rfl (fun ls hl => ?_)
            exact hs (mm / ss) ls hpull (lv_sub hl [0, 4, 5, 6, 7, 8, 9, 10] rfl)
          · exact absurd ((lg_cmp_lt _ _).mp (Int32.not_le.mp c95)) cm
        · have cm : mm < 0 := (lg_cmp_lt _ _).mp (Int32.not_le.mp c73)
          refine lv_lload hx hb dL_force_76 (lv_at hl 0 rfl) ?_
          refine lv_lneg hx hb dL_force_78 ?_
          refine lv_goto (tgt := 84) hx hb dL_force_79 (by decide) ?_
          refine lv_lload hx hb dL_force_84 (lv_at hl 1 rfl) ?_
          refine lv_ldiv hx hb dL_force_86 c62 ?_
          refine lv_lstore (lv' := [(13, .long ((-mm) / ss)), (11, .long mm), (9, .long ss), (8, .int (nI k)), (6, .long w), (0, .ref ab), (1, .ref al), (2, .ref am), (3, .int (ht σ t)), (4, .int (σ 2 t)), (5, .int s9)]) hx hb dL_force_87 hl (by decide) rfl (fun ls hl => ?_)
          refine lv_lload hx hb dL_force_89 (lv_at hl 4 rfl) ?_
          refine lv_lload hx hb dL_force_91 (lv_at hl 1 rfl) ?_
          refine lv_lconst (v := 0) hx hb dL_force_93 (by decide) ?_
          refine W.lcmp hx hb dL_force_94 ?_
          refine lv_if_ge (tgt := 104) hx hb dL_force_95 (by decide) (fun c95 => ?_) (fun c95 => ?_)
          · exact absurd cm (Int64.not_lt.mpr ((lg_cmp_ge _ _).mp c95))
          · refine lv_lload hx hb dL_force_98 (lv_at hl 0 rfl) ?_
            refine lv_lneg hx hb dL_force_100 ?_
            refine lv_goto (tgt := 106) hx hb dL_force_101 (by decide) ?_
            refine lv_ladd hx hb dL_force_106 ?_
            refine lv_lstore (lv' := [(6, .long (w + (-((-mm) / ss)))), (13, .long ((-mm) / ss)), (11, .long mm), (9, .long ss), (8, .int (nI k)), (0, .ref ab), (1, .ref al), (2, .ref am), (3, .int (ht σ t)), (4, .int (σ 2 t)), (5, .int s9)]) hx hb dL_force_107 hl (by decide) rfl (fun ls hl => ?_)
            exact hs (-(-mm / ss)) ls (by rw [abs_div (by omega) (by omega) cm hn1]; exact hpull) (lv_sub hl [0, 4, 5, 6, 7, 8, 9, 10] rfl)
      · have c62 : ss = 0 := (lg_cmp_eq _ _).mp c62
        have hn0 : len_ σ k t s9 ≤ 0 := by rw [c62, i64_0] at es; rw [en9]; exact i_le.mpr (by rw [nI_ti (by omega)]; have u0 : (0 : Int32).toInt = 0 := rfl; omega)
        have hpull : (0 : Int32) = pull_ σ k t s9 := by unfold pull_; rw [if_pos hn0]
        refine lv_lconst (v := 0) hx hb dL_force_65 (by decide) ?_
        refine lv_goto (tgt := 87) hx hb dL_force_66 (by decide) ?_
        refine lv_lstore (lv' := [(13, .long 0), (11, .long mm), (9, .long ss), (8, .int (nI k)), (6, .long w), (0, .ref ab), (1, .ref al), (2, .ref am), (3, .int (ht σ t)), (4, .int (σ 2 t)), (5, .int s9)]) hx hb dL_force_87 hl (by decide) rfl (fun ls hl => ?_)
        refine lv_lload hx hb dL_force_89 (lv_at hl 4 rfl) ?_
        refine lv_lload hx hb dL_force_91 (lv_at hl 1 rfl) ?_
        refine lv_lconst (v := 0) hx hb dL_force_93 (by decide) ?_
        refine W.lcmp hx hb dL_force_94 ?_
        refine lv_if_ge (tgt := 104) hx hb dL_force_95 (by decide) (fun c95 => ?_) (fun c95 => ?_)
        · refine lv_lload hx hb dL_force_104 (lv_at hl 0 rfl) ?_
          refine lv_ladd hx hb dL_force_106 ?_
          refine lv_lstore (lv' := [(6, .long (w + 0)), (13, .long 0), (11, .long mm), (9, .long ss), (8, .int (nI k)), (0, .ref ab), (1, .ref al), (2, .ref am), (3, .int (ht σ t)), (4, .int (σ 2 t)), (5, .int s9)]) hx hb dL_force_107 hl (by decide) rfl (fun ls hl => ?_)
          exact hs 0 ls (by rw [← hpull]; decide) (lv_sub hl [0, 4, 5, 6, 7, 8, 9, 10] rfl)
        · refine lv_lload hx hb dL_force_98 (lv_at hl 0 rfl) ?_
          refine lv_lneg hx hb dL_force_100 ?_
          refine lv_goto (tgt := 106) hx hb dL_force_101 (by decide) ?_
          refine lv_ladd hx hb dL_force_106 ?_
          refine lv_lstore (lv' := [(6, .long (w + (-0))), (13, .long 0), (11, .long mm), (9, .long ss), (8, .int (nI k)), (0, .ref ab), (1, .ref al), (2, .ref am), (3, .int (ht σ t)), (4, .int (σ 2 t)), (5, .int s9)]) hx hb dL_force_107 hl (by decide) rfl (fun ls hl => ?_)
          exact hs (-0) ls (by rw [← hpull]; decide) (lv_sub hl [0, 4, 5, 6, 7, 8, 9, 10] rfl)
end
section
/-! The law: shift, isAdrift, onBollard, isSafe. -/
set_option maxHeartbeats 4000000 in
set_option maxRecDepth 100000 in
theorem c_L_shift (l : Launch) (D : va_G) (cI : ClassId) (ab al am : Nat) (bf lf mf : Nat → Int32) (H : Heap) (σ : St) {nL nB : Nat} (hI : inv σ nL nB) (hR : lrel σ nL nB bf lf mf) (t : Nat) (ht48 : t < 48) : roM l yL_shift wsL_shift ({ frames := 4, cells := 0, slots := 0, locals := 110 }) [.ref ab, .ref al, .ref am, .int (ht σ t), .int (σ 2 t)] D (lw3 cI ab al am bf lf mf) (tyI cI) H (fun r => r = bal σ t) := by
  refine ro_of (cc := cL_shift) (maxL := 9) (ret := some .int) (by decide) rfl (Nat.le_of_ble_eq_true rfl) ?_
  intro p e s m args below meth c he hH hP hK ls hl
  obtain ⟨hx, hb, hr, hml, hown, hts, hlocks⟩ := he
  have hown : s.vm.findClass RL = some m.cls := hown
  obtain ⟨⟨hL6, hB4⟩, ⟨hm0, hm1, hm2⟩, hRb, hRl⟩ := id hR
  have hl : lv_has ls 9 [(0, .ref ab), (1, .ref al), (2, .ref am), (3, .int (ht σ t)), (4, .int (σ 2 t))] := hl
  refine lv_sipush (v := (-200)) hx hb dL_shift_0 (by decide) ?_
  refine lv_istore (lv' := [(5, .int (-200)), (0, .ref ab), (1, .ref al), (2, .ref am), (3, .int (ht σ t)), (4, .int (σ 2 t))]) hx hb dL_shift_3 hl (by decide) rfl (fun ls hl => ?_)
  refine lv_sipush (v := 200) hx hb dL_shift_5 (by decide) ?_
  refine lv_istore (lv' := [(6, .int 200), (5, .int (-200)), (0, .ref ab), (1, .ref al), (2, .ref am), (3, .int (ht σ t)), (4, .int (σ 2 t))]) hx hb dL_shift_8 hl (by decide) rfl (fun ls hl => ?_)
  suffices K : ∀ (n : Nat) (lo hi : Int) (ls : Array Slot), -200 ≤ lo → lo ≤ hi → hi ≤ 200 → (hi - lo).toNat ≤ n → bis (fun z => decide (0 < frc σ t (zI z))) n lo hi = balZ σ t → lv_has ls 9 [(6, .int (zI hi)), (5, .int (zI lo)), (0, .ref ab), (1, .ref al), (2, .ref am), (3, .int (ht σ t)), (4, .int (σ 2 t))] → W p l e _ s m args below meth c H [] 0 0 (roQ below H (fun r => r = bal σ t) args s) (F0 m 10 ls []) by
    exact K 401 (-200) 200 ls (by decide) (by decide) (by decide) (by decide) rfl (lv_sub hl [0, 1, 2, 3, 4, 5, 6] rfl)
  intro n
  induction n with
  | zero =>
    intro lo hi ls h1 h2 h3 h4 h5 hl
    refine lv_iload hx hb dL_shift_10 (lv_at hl 1 rfl) ?_
    refine lv_iload hx hb dL_shift_12 (lv_at hl 0 rfl) ?_
    refine lv_icmp_ge (tgt := 80) hx hb dL_shift_14 (by decide) (fun c14 => ?_) (fun c14 => ?_)
    · have hge : ¬ lo < hi := fun w => absurd ((zI_le (by omega) (by omega) (by omega) (by omega)).mp c14) (by omega)
      rw [bis_end hge] at h5
      refine lv_iload hx hb dL_shift_80 (lv_at hl 1 rfl) ?_
      exact ro_ret (v := (zI lo)) hx hb hr hlocks hH (by rw [h5]; rfl) dL_shift_82
    · have hlt : lo < hi := Int.not_le.mp (fun w => c14 ((zI_le (a := hi) (b := lo) (by omega) (by omega) (by omega) (by omega)).mpr w))
      exact absurd hlt (by omega)
  | succ n ih =>
    intro lo hi ls h1 h2 h3 h4 h5 hl
    refine lv_iload hx hb dL_shift_10 (lv_at hl 1 rfl) ?_
    refine lv_iload hx hb dL_shift_12 (lv_at hl 0 rfl) ?_
    refine lv_icmp_ge (tgt := 80) hx hb dL_shift_14 (by decide) (fun c14 => ?_) (fun c14 => ?_)
    · have hge : ¬ lo < hi := fun w => absurd ((zI_le (by omega) (by omega) (by omega) (by omega)).mp c14) (by omega)
      rw [bis_end hge] at h5
      refine lv_iload hx hb dL_shift_80 (lv_at hl 1 rfl) ?_
      exact ro_ret (v := (zI lo)) hx hb hr hlocks hH (by rw [h5]; rfl) dL_shift_82
    · have hlt : lo < hi := Int.not_le.mp (fun w => c14 ((zI_le (a := hi) (b := lo) (by omega) (by omega) (by omega) (by omega)).mpr w))
      refine lv_iload hx hb dL_shift_17 (lv_at hl 1 rfl) ?_
      refine lv_iload hx hb dL_shift_19 (lv_at hl 0 rfl) ?_
      refine lv_iadd hx hb dL_shift_21 ?_
      refine lv_topi (fun y9 e9 => ?_)
      rw [show y9 = (zI (lo + hi)) from e9.trans (zI_add lo hi)]
      refine lv_iconst (v := 1) hx hb dL_shift_22 (by decide) ?_
      refine lv_ishr hx hb dL_shift_23 ?_
      refine lv_topi (fun y9 e9 => ?_)
      rw [show y9 = (zI ((lo + hi) / 2)) from e9.trans (zI_shr (z := lo + hi) (by omega) (by omega))]
      have hm1 : lo ≤ (lo + hi) / 2 := by omega
      have hm2 : (lo + hi) / 2 < hi := by omega
      have hsm : inS (zI ((lo + hi) / 2)) := by unfold inS; rw [zI_ti (by omega) (by omega)]; omega
      refine lv_istore (lv' := [(7, .int (zI ((lo + hi) / 2))), (6, .int (zI hi)), (5, .int (zI lo)), (0, .ref ab), (1, .ref al), (2, .ref am), (3, .int (ht σ t)), (4, .int (σ 2 t))]) hx hb dL_shift_24 hl (by decide) rfl (fun ls hl => ?_)
      refine lv_aload_n hx hb dL_shift_26 rfl (lv_at hl 3 rfl) ?_
      refine lv_aload_n hx hb dL_shift_27 rfl (lv_at hl 4 rfl) ?_
      refine lv_aload_n hx hb dL_shift_28 rfl (lv_at hl 5 rfl) ?_
      refine lv_iload_n hx hb dL_shift_29 rfl (lv_at hl 6 rfl) ?_
      refine lv_iload hx hb dL_shift_30 (lv_at hl 7 rfl) ?_
      refine lv_iload hx hb dL_shift_32 (lv_at hl 0 rfl) ?_
      refine ro_callS 6 hx hb hml hown hts hl.1 hP hK (As := [.ref ab, .ref al, .ref am, .int (ht σ t), .int (σ 2 t), .int (zI ((lo + hi) / 2))]) (rest := []) (c_L_force l D cI ab al am bf lf mf H σ hI hR t ht48 (zI ((lo + hi) / 2)) hsm) gL_shift_L_force rfl rfl rfl (by decide +kernel) ⟨Nat.le_of_ble_eq_true rfl, Nat.le_of_ble_eq_true rfl⟩ rfl rfl (Nat.le_of_ble_eq_true rfl) dL_shift_34 ⟨Nat.zero_le _, Nat.zero_le _⟩ (fun r1 hr1 => ?_)
      subst hr1
      refine lv_if_le (tgt := 44) hx hb dL_shift_37 (by decide) (fun c37 => ?_) (fun c37 => ?_)
      · have hn : ¬ (fun z => decide (0 < frc σ t (zI z))) ((lo + hi) / 2) = true := fun v => absurd c37 (Int32.not_le.mpr (of_decide_eq_true v))
        refine lv_iconst (v := 0) hx hb dL_shift_44 (by decide) ?_
        refine lv_istore (lv' := [(8, .int 0), (7, .int (zI ((lo + hi) / 2))), (6, .int (zI hi)), (5, .int (zI lo)), (0, .ref ab), (1, .ref al), (2, .ref am), (3, .int (ht σ t)), (4, .int (σ 2 t))]) hx hb dL_shift_45 hl (by decide) rfl (fun ls hl => ?_)
        refine lv_iload hx hb dL_shift_47 (lv_at hl 0 rfl) ?_
        refine lv_if_eq (tgt := 59) hx hb dL_shift_49 (by decide) (fun c49 => ?_) (fun c49 => ?_)
        · refine lv_iload hx hb dL_shift_59 (lv_at hl 3 rfl) ?_
          refine lv_istore (lv' := [(5, .int (zI lo)), (8, .int 0), (7, .int (zI ((lo + hi) / 2))), (6, .int (zI hi)), (0, .ref ab), (1, .ref al), (2, .ref am), (3, .int (ht σ t)), (4, .int (σ 2 t))]) hx hb dL_shift_61 hl (by decide) rfl (fun ls hl => ?_)
          refine lv_iload hx hb dL_shift_63 (lv_at hl 1 rfl) ?_
          refine lv_if_eq (tgt := 73) hx hb dL_shift_65 (by decide) (fun c65 => ?_) (fun c65 => ?_)
          · refine lv_iload hx hb dL_shift_73 (lv_at hl 2 rfl) ?_
            refine lv_istore (lv' := [(6, .int (zI ((lo + hi) / 2))), (5, .int (zI lo)), (8, .int 0), (7, .int (zI ((lo + hi) / 2))), (0, .ref ab), (1, .ref al), (2, .ref am), (3, .int (ht σ t)), (4, .int (σ 2 t))]) hx hb dL_shift_75 hl (by decide) rfl (fun ls hl => ?_)
            refine lv_goto (tgt := 10) hx hb dL_shift_77 (by decide) ?_
            exact ih lo ((lo + hi) / 2) ls h1 hm1 (by omega) (by omega) (by rw [← h5]; exact (bis_dn hlt hn).symm) (lv_sub hl [0, 1, 4, 5, 6, 7, 8] rfl)
          · exact absurd rfl c65
        · exact absurd rfl c49
      · have hn : (fun z => decide (0 < frc σ t (zI z))) ((lo + hi) / 2) = true := decide_eq_true (Int32.not_le.mp c37)
        refine lv_iconst (v := 1) hx hb dL_shift_40 (by decide) ?_
        refine lv_goto (tgt := 45) hx hb dL_shift_41 (by decide) ?_
        refine lv_istore (lv' := [(8, .int 1), (7, .int (zI ((lo + hi) / 2))), (6, .int (zI hi)), (5, .int (zI lo)), (0, .ref ab), (1, .ref al), (2, .ref am), (3, .int (ht σ t)), (4, .int (σ 2 t))]) hx hb dL_shift_45 hl (by decide) rfl (fun ls hl => ?_)
        refine lv_iload hx hb dL_shift_47 (lv_at hl 0 rfl) ?_
        refine lv_if_eq (tgt := 59) hx hb dL_shift_49 (by decide) (fun c49 => ?_) (fun c49 => ?_)
        · exact absurd c49 (by decide)
        · refine lv_iload hx hb dL_shift_52 (lv_at hl 1 rfl) ?_
          refine lv_iconst (v := 1) hx hb dL_shift_54 (by decide) ?_
          refine lv_iadd hx hb dL_shift_55 ?_
          refine lv_topi (fun y9 e9 => ?_)
          rw [show y9 = (zI ((lo + hi) / 2 + 1)) from e9.trans (zI_add _ 1)]
          refine lv_goto (tgt := 61) hx hb dL_shift_56 (by decide) ?_
          refine lv_istore (lv' := [(5, .int (zI ((lo + hi) / 2 + 1))), (8, .int 1), (7, .int (zI ((lo + hi) / 2))), (6, .int (zI hi)), (0, .ref ab), (1, .ref al), (2, .ref am), (3, .int (ht σ t)), (4, .int (σ 2 t))]) hx hb dL_shift_61 hl (by decide) rfl (fun ls hl => ?_)
          refine lv_iload hx hb dL_shift_63 (lv_at hl 1 rfl) ?_
          refine lv_if_eq (tgt := 73) hx hb dL_shift_65 (by decide) (fun c65 => ?_) (fun c65 => ?_)
          · exact absurd c65 (by decide)
          · refine lv_iload hx hb dL_shift_68 (lv_at hl 3 rfl) ?_
            refine lv_goto (tgt := 75) hx hb dL_shift_70 (by decide) ?_
            refine lv_istore (lv' := [(6, .int (zI hi)), (5, .int (zI ((lo + hi) / 2 + 1))), (8, .int 1), (7, .int (zI ((lo + hi) / 2))), (0, .ref ab), (1, .ref al), (2, .ref am), (3, .int (ht σ t)), (4, .int (σ 2 t))]) hx hb dL_shift_75 hl (by decide) rfl (fun ls hl => ?_)
            refine lv_goto (tgt := 10) hx hb dL_shift_77 (by decide) ?_
            exact ih ((lo + hi) / 2 + 1) hi ls (by omega) (by omega) h3 (by omega) (by rw [← h5]; exact (bis_up hlt hn).symm) (lv_sub hl [0, 1, 4, 5, 6, 7, 8] rfl)
set_option maxHeartbeats 4000000 in
set_option maxRecDepth 100000 in
theorem c_L_isAdrift (l : Launch) (D : va_G) (cI : ClassId) (ab al am : Nat) (bf lf mf : Nat → Int32) (H : Heap) (σ : St) {nL nB : Nat} (hI : inv σ nL nB) (hR : lrel σ nL nB bf lf mf) (t : Nat) (ht48 : t < 48) : roM l yL_isAdrift wsL_isAdrift ({ frames := 5, cells := 0, slots := 0, locals := 138 }) [.ref ab, .ref al, .ref am, .int (ht σ t), .int (σ 2 t)] D (lw3 cI ab al am bf lf mf) (tyI cI) H (fun r => r = bI (drfW σ t (bal σ t))) := by
  refine ro_of (cc := cL_isAdrift) (maxL := 7) (ret := some .boolean) (by decide) rfl (Nat.le_of_ble_eq_true rfl) ?_
  intro p e s m args below meth c he hH hP hK ls hl
  obtain ⟨hx, hb, hr, hml, hown, hts, hlocks⟩ := he
  have hown : s.vm.findClass RL = some m.cls := hown
  obtain ⟨⟨hL6, hB4⟩, ⟨hm0, hm1, hm2⟩, hRb, hRl⟩ := id hR
  have hl : lv_has ls 7 [(0, .ref ab), (1, .ref al), (2, .ref am), (3, .int (ht σ t)), (4, .int (σ 2 t))] := hl
  refine lv_aload_n hx hb dL_isAdrift_0 rfl (lv_at hl 0 rfl) ?_
  refine lv_aload_n hx hb dL_isAdrift_1 rfl (lv_at hl 1 rfl) ?_
  refine lv_aload_n hx hb dL_isAdrift_2 rfl (lv_at hl 2 rfl) ?_
  refine lv_iload_n hx hb dL_isAdrift_3 rfl (lv_at hl 3 rfl) ?_
  refine lv_iload hx hb dL_isAdrift_4 (lv_at hl 4 rfl) ?_
  refine ro_callS 5 hx hb hml hown hts hl.1 hP hK (As := [.ref ab, .ref al, .ref am, .int (ht σ t), .int (σ 2 t)]) (rest := []) (c_L_shift l D cI ab al am bf lf mf H σ hI hR t ht48) gL_isAdrift_L_shift rfl rfl rfl (by decide +kernel) ⟨Nat.le_of_ble_eq_true rfl, Nat.le_of_ble_eq_true rfl⟩ rfl rfl (Nat.le_of_ble_eq_true rfl) dL_isAdrift_6 ⟨Nat.zero_le _, Nat.zero_le _⟩ (fun r1 hr1 => ?_)
  subst hr1
  refine lv_istore (lv' := [(5, .int (bal σ t)), (0, .ref ab), (1, .ref al), (2, .ref am), (3, .int (ht σ t)), (4, .int (σ 2 t))]) hx hb dL_isAdrift_9 hl (by decide) rfl (fun ls hl => ?_)
  refine lv_aload_n hx hb dL_isAdrift_11 rfl (lv_at hl 1 rfl) ?_
  refine lv_aload_n hx hb dL_isAdrift_12 rfl (lv_at hl 2 rfl) ?_
  refine lv_aload_n hx hb dL_isAdrift_13 rfl (lv_at hl 3 rfl) ?_
  refine lv_iload_n hx hb dL_isAdrift_14 rfl (lv_at hl 4 rfl) ?_
  refine lv_iload hx hb dL_isAdrift_15 (lv_at hl 5 rfl) ?_
  refine lv_iload hx hb dL_isAdrift_17 (lv_at hl 0 rfl) ?_
  refine ro_callS 6 hx hb hml hown hts hl.1 hP hK (As := [.ref ab, .ref al, .ref am, .int (ht σ t), .int (σ 2 t), .int (bal σ t)]) (rest := []) (c_L_force l D cI ab al am bf lf mf H σ hI hR t ht48 (bal σ t) (bal_inS σ t)) gL_isAdrift_L_force rfl rfl rfl (by decide +kernel) ⟨Nat.le_of_ble_eq_true rfl, Nat.le_of_ble_eq_true rfl⟩ rfl rfl (Nat.le_of_ble_eq_true rfl) dL_isAdrift_19 ⟨Nat.zero_le _, Nat.zero_le _⟩ (fun r2 hr2 => ?_)
  subst hr2
  refine lv_istore (lv' := [(6, .int (frc σ t (bal σ t))), (5, .int (bal σ t)), (0, .ref ab), (1, .ref al), (2, .ref am), (3, .int (ht σ t)), (4, .int (σ 2 t))]) hx hb dL_isAdrift_22 hl (by decide) rfl (fun ls hl => ?_)
  refine lv_iload hx hb dL_isAdrift_24 (lv_at hl 1 rfl) ?_
  refine lv_sipush (v := 200) hx hb dL_isAdrift_26 (by decide) ?_
  refine lv_icmp_ne (tgt := 45) hx hb dL_isAdrift_29 (by decide) (fun c29 => ?_) (fun c29 => ?_)
  · refine lv_iload hx hb dL_isAdrift_45 (lv_at hl 1 rfl) ?_
    refine lv_sipush (v := (-200)) hx hb dL_isAdrift_47 (by decide) ?_
    refine lv_icmp_ne (tgt := 62) hx hb dL_isAdrift_50 (by decide) (fun c50 => ?_) (fun c50 => ?_)
    · refine lv_iconst (v := 0) hx hb dL_isAdrift_62 (by decide) ?_
      exact ro_zret (v := 0) hx hb hr hlocks hH ⟨false, rfl⟩ (by show _ = bI (drfW σ t (bal σ t)); unfold drfW; rw [decide_eq_false c29, decide_eq_false c50]; rfl) dL_isAdrift_63
    · refine lv_iload hx hb dL_isAdrift_53 (lv_at hl 0 rfl) ?_
      refine lv_if_ge (tgt := 62) hx hb dL_isAdrift_55 (by decide) (fun c55 => ?_) (fun c55 => ?_)
      · refine lv_iconst (v := 0) hx hb dL_isAdrift_62 (by decide) ?_
        exact ro_zret (v := 0) hx hb hr hlocks hH ⟨false, rfl⟩ (by show _ = bI (drfW σ t (bal σ t)); unfold drfW; rw [decide_eq_false c29, decide_eq_true c50, decide_eq_false (Int32.not_lt.mpr c55)]; rfl) dL_isAdrift_63
      · refine lv_iconst (v := 1) hx hb dL_isAdrift_58 (by decide) ?_
        refine lv_goto (tgt := 63) hx hb dL_isAdrift_59 (by decide) ?_
        exact ro_zret (v := 1) hx hb hr hlocks hH ⟨true, rfl⟩ (by show _ = bI (drfW σ t (bal σ t)); unfold drfW; rw [decide_eq_false c29, decide_eq_true c50, decide_eq_true (Int32.not_le.mp c55)]; rfl) dL_isAdrift_63
  · have hne : ¬ bal σ t = -200 := fun q => absurd (c29.symm.trans q) (by decide)
    refine lv_iload hx hb dL_isAdrift_32 (lv_at hl 0 rfl) ?_
    refine lv_if_le (tgt := 41) hx hb dL_isAdrift_34 (by decide) (fun c34 => ?_) (fun c34 => ?_)
    · refine lv_iconst (v := 0) hx hb dL_isAdrift_41 (by decide) ?_
      refine lv_goto (tgt := 63) hx hb dL_isAdrift_42 (by decide) ?_
      exact ro_zret (v := 0) hx hb hr hlocks hH ⟨false, rfl⟩ (by show _ = bI (drfW σ t (bal σ t)); unfold drfW; rw [decide_eq_true c29, decide_eq_false (Int32.not_lt.mpr c34), decide_eq_false hne]; rfl) dL_isAdrift_63
    · refine lv_iconst (v := 1) hx hb dL_isAdrift_37 (by decide) ?_
      refine lv_goto (tgt := 63) hx hb dL_isAdrift_38 (by decide) ?_
      exact ro_zret (v := 1) hx hb hr hlocks hH ⟨true, rfl⟩ (by show _ = bI (drfW σ t (bal σ t)); unfold drfW; rw [decide_eq_true c29, decide_eq_true (Int32.not_le.mp c34)]; rfl) dL_isAdrift_63
set_option maxHeartbeats 4000000 in
set_option maxRecDepth 100000 in
theorem c_L_onBollard (l : Launch) (D : va_G) (cI : ClassId) (ab al am : Nat) (bf lf mf : Nat → Int32) (H : Heap) (σ : St) {nL nB : Nat} (hI : inv σ nL nB) (hR : lrel σ nL nB bf lf mf) (t : Nat) (ht48 : t < 48) (s9 : Int32) (hs9 : inS s9) (b9 : Int32) : roM l yL_onBollard wsL_onBollard ({ frames := 3, cells := 0, slots := 0, locals := 76 }) [.ref ab, .ref al, .ref am, .int (ht σ t), .int s9, .int b9] D (lw3 cI ab al am bf lf mf) (tyI cI) H (fun r => r = sumOn_ σ b9 t s9) := by
  refine ro_of (cc := cL_onBollard) (maxL := 8) (ret := some .int) (by decide) rfl (Nat.le_of_ble_eq_true rfl) ?_
  intro p e s m args below meth c he hH hP hK ls hl
  obtain ⟨hx, hb, hr, hml, hown, hts, hlocks⟩ := he
  have hown : s.vm.findClass RL = some m.cls := hown
  obtain ⟨⟨hL6, hB4⟩, ⟨hm0, hm1, hm2⟩, hRb, hRl⟩ := id hR
  have hl : lv_has ls 8 [(0, .ref ab), (1, .ref al), (2, .ref am), (3, .int (ht σ t)), (4, .int s9), (5, .int b9)] := hl
  refine lv_iconst (v := 0) hx hb dL_onBollard_0 (by decide) ?_
  refine lv_istore (lv' := [(6, .int 0), (0, .ref ab), (1, .ref al), (2, .ref am), (3, .int (ht σ t)), (4, .int s9), (5, .int b9)]) hx hb dL_onBollard_1 hl (by decide) rfl (fun ls hl => ?_)
  refine lv_iconst (v := 0) hx hb dL_onBollard_3 (by decide) ?_
  refine lv_istore (lv' := [(7, .int 0), (6, .int 0), (0, .ref ab), (1, .ref al), (2, .ref am), (3, .int (ht σ t)), (4, .int s9), (5, .int b9)]) hx hb dL_onBollard_4 hl (by decide) rfl (fun ls hl => ?_)
  suffices K : ∀ (n k : Nat) (ls : Array Slot), k + n = nL → lv_has ls 8 [(7, .int (nI k)), (6, .int (acc (fun j => if σ 8 j = b9 then tn_ σ j t s9 else 0) 0 k)), (0, .ref ab), (1, .ref al), (2, .ref am), (3, .int (ht σ t)), (4, .int s9), (5, .int b9)] → W p l e _ s m args below meth c H [] 0 0 (roQ below H (fun r => r = sumOn_ σ b9 t s9) args s) (F0 m 6 ls []) by
    exact K nL 0 ls (by omega) (lv_sub hl [0, 1, 2, 3, 4, 5, 6, 7] rfl)
  intro n
  induction n with
  | zero =>
    intro k ls hk hl
    refine lv_iload hx hb dL_onBollard_6 (lv_at hl 0 rfl) ?_
    refine lv_aload_n hx hb dL_onBollard_8 rfl (lv_at hl 4 rfl) ?_
    refine lv_iconst (v := 1) hx hb dL_onBollard_9 (by decide) ?_
    refine xa_ld hx hb hK hP 2 0 rfl rfl (j := 1) (by omega) (by decide) dL_onBollard_10 ?_
    rw [show (mf 1) = (nI nL) from hm1]
    refine lv_icmp_ge (tgt := 53) hx hb dL_onBollard_11 (by decide) (fun c11 => ?_) (fun c11 => ?_)
    · refine lv_iload hx hb dL_onBollard_53 (lv_at hl 1 rfl) ?_
      exact ro_ret (v := (acc (fun j => if σ 8 j = b9 then tn_ σ j t s9 else 0) 0 k)) hx hb hr hlocks hH (by show acc _ _ k = sumOn_ σ b9 t s9; unfold sumOn_; rw [inv_nL hI, show k = nL by omega]) dL_onBollard_55
    · exact absurd (nI_le (a := nL) (b := k) (by omega) (by omega)) c11
  | succ n ih =>
    intro k ls hk hl
    refine lv_iload hx hb dL_onBollard_6 (lv_at hl 0 rfl) ?_
    refine lv_aload_n hx hb dL_onBollard_8 rfl (lv_at hl 4 rfl) ?_
    refine lv_iconst (v := 1) hx hb dL_onBollard_9 (by decide) ?_
    refine xa_ld hx hb hK hP 2 0 rfl rfl (j := 1) (by omega) (by decide) dL_onBollard_10 ?_
    rw [show (mf 1) = (nI nL) from hm1]
    refine lv_icmp_ge (tgt := 53) hx hb dL_onBollard_11 (by decide) (fun c11 => ?_) (fun c11 => ?_)
    · exact absurd c11 (nI_ge (a := k) (b := nL) (by omega) (by omega))
    · have hk1 : k < nL := by omega
      obtain ⟨⟨k9, hk9, ek1, ek2, -⟩, -⟩ := hRl k hk1
      refine lv_iload hx hb dL_onBollard_14 (lv_at hl 1 rfl) ?_
      refine lv_aload_n hx hb dL_onBollard_16 rfl (lv_at hl 3 rfl) ?_
      refine lv_bipush (v := 6) hx hb dL_onBollard_17 (by decide) ?_
      refine lv_iload hx hb dL_onBollard_19 (lv_at hl 0 rfl) ?_
      refine lv_imul hx hb dL_onBollard_21 ?_
      refine lv_topi (fun y9 e9 => ?_)
      rw [show y9 = (nI (6 * k)) from e9.trans (pk_mul 6 k)]
      refine lv_iconst (v := 1) hx hb dL_onBollard_22 (by decide) ?_
      refine lv_iadd hx hb dL_onBollard_23 ?_
      refine lv_topi (fun y9 e9 => ?_)
      rw [show y9 = (nI (6 * k + 1)) from e9.trans (nI_add (6 * k) 1)]
      refine xa_ld hx hb hK hP 1 0 rfl rfl (j := (6 * k + 1)) (by omega) (by decide) dL_onBollard_24 ?_
      rw [show (lf (6 * k + 1)) = (σ 8 k) from (ek1.trans ek2.symm)]
      refine lv_iload hx hb dL_onBollard_25 (lv_at hl 7 rfl) ?_
      refine lv_icmp_ne (tgt := 43) hx hb dL_onBollard_27 (by decide) (fun c27 => ?_) (fun c27 => ?_)
      · refine lv_iconst (v := 0) hx hb dL_onBollard_43 (by decide) ?_
        refine lv_iadd hx hb dL_onBollard_44 ?_
        refine lv_istore (lv' := [(6, .int ((acc (fun j => if σ 8 j = b9 then tn_ σ j t s9 else 0) 0 k) + 0)), (7, .int (nI k)), (0, .ref ab), (1, .ref al), (2, .ref am), (3, .int (ht σ t)), (4, .int s9), (5, .int b9)]) hx hb dL_onBollard_45 hl (by decide) rfl (fun ls hl => ?_)
        refine lv_iinc (v := (nI (k + 1))) (lv' := [(7, .int (nI (k + 1))), (6, .int ((acc (fun j => if σ 8 j = b9 then tn_ σ j t s9 else 0) 0 k) + 0)), (0, .ref ab), (1, .ref al), (2, .ref am), (3, .int (ht σ t)), (4, .int s9), (5, .int b9)]) hx hb dL_onBollard_47 hl (k := 1) rfl (by exact nI_add _ 1) (by decide) rfl (fun ls hl => ?_)
        refine lv_goto (tgt := 6) hx hb dL_onBollard_50 (by decide) ?_
        refine ih (k + 1) ls (by omega) (lv_sub hl [0, 1, 2, 3, 4, 5, 6, 7] ?_)
        have e9 : acc (fun j => if σ 8 j = b9 then tn_ σ j t s9 else 0) 0 (k + 1) = acc (fun j => if σ 8 j = b9 then tn_ σ j t s9 else 0) 0 k + 0 := by show acc (fun j => if σ 8 j = b9 then tn_ σ j t s9 else 0) 0 k + (if σ 8 k = b9 then tn_ σ k t s9 else 0) = _; rw [if_neg c27]
        rw [e9]; rfl
      · refine lv_aload_n hx hb dL_onBollard_30 rfl (lv_at hl 2 rfl) ?_
        refine lv_aload_n hx hb dL_onBollard_31 rfl (lv_at hl 3 rfl) ?_
        refine lv_iload hx hb dL_onBollard_32 (lv_at hl 0 rfl) ?_
        refine lv_iload_n hx hb dL_onBollard_34 rfl (lv_at hl 5 rfl) ?_
        refine lv_iload hx hb dL_onBollard_35 (lv_at hl 6 rfl) ?_
        refine ro_callS 5 hx hb hml hown hts hl.1 hP hK (As := [.ref ab, .ref al, .int (nI k), .int (ht σ t), .int s9]) (rest := [.int (acc (fun j => if σ 8 j = b9 then tn_ σ j t s9 else 0) 0 k)]) (c_L_tension l D cI ab al am bf lf mf H σ hI hR k t hk1 ht48 s9 hs9) gL_onBollard_L_tension rfl rfl rfl (by decide +kernel) ⟨Nat.le_of_ble_eq_true rfl, Nat.le_of_ble_eq_true rfl⟩ rfl rfl (Nat.le_of_ble_eq_true rfl) dL_onBollard_37 ⟨Nat.zero_le _, Nat.zero_le _⟩ (fun r1 hr1 => ?_)
        subst hr1
        refine lv_goto (tgt := 44) hx hb dL_onBollard_40 (by decide) ?_
        refine lv_iadd hx hb dL_onBollard_44 ?_
        refine lv_istore (lv' := [(6, .int ((acc (fun j => if σ 8 j = b9 then tn_ σ j t s9 else 0) 0 k) + (tn_ σ k t s9))), (7, .int (nI k)), (0, .ref ab), (1, .ref al), (2, .ref am), (3, .int (ht σ t)), (4, .int s9), (5, .int b9)]) hx hb dL_onBollard_45 hl (by decide) rfl (fun ls hl => ?_)
        refine lv_iinc (v := (nI (k + 1))) (lv' := [(7, .int (nI (k + 1))), (6, .int ((acc (fun j => if σ 8 j = b9 then tn_ σ j t s9 else 0) 0 k) + (tn_ σ k t s9))), (0, .ref ab), (1, .ref al), (2, .ref am), (3, .int (ht σ t)), (4, .int s9), (5, .int b9)]) hx hb dL_onBollard_47 hl (k := 1) rfl (by exact nI_add _ 1) (by decide) rfl (fun ls hl => ?_)
        refine lv_goto (tgt := 6) hx hb dL_onBollard_50 (by decide) ?_
        refine ih (k + 1) ls (by omega) (lv_sub hl [0, 1, 2, 3, 4, 5, 6, 7] ?_)
        have e9 : acc (fun j => if σ 8 j = b9 then tn_ σ j t s9 else 0) 0 (k + 1) = acc (fun j => if σ 8 j = b9 then tn_ σ j t s9 else 0) 0 k + tn_ σ k t s9 := by show acc (fun j => if σ 8 j = b9 then tn_ σ j t s9 else 0) 0 k + (if σ 8 k = b9 then tn_ σ k t s9 else 0) = _; rw [if_pos c27]
        rw [e9]; rfl
set_option maxHeartbeats 4000000 in
set_option maxRecDepth 100000 in
theorem c_L_isSafe (l : Launch) (D : va_G) (cI : ClassId) (ab al am : Nat) (bf lf mf : Nat → Int32) (H : Heap) (σ : St) {nL nB : Nat} (hI : inv σ nL nB) (hR : lrel σ nL nB bf lf mf) (t : Nat) (ht48 : t < 48) : roM l yL_isSafe wsL_isSafe ({ frames := 6, cells := 0, slots := 0, locals := 164 }) [.ref ab, .ref al, .ref am, .int (ht σ t), .int (σ 2 t)] D (lw3 cI ab al am bf lf mf) (tyI cI) H (fun r => r = bI (safe_ σ t)) := by
  refine ro_of (cc := cL_isSafe) (maxL := 8) (ret := some .boolean) (by decide) rfl (Nat.le_of_ble_eq_true rfl) ?_
  intro p e s m args below meth c he hH hP hK ls hl
  obtain ⟨hx, hb, hr, hml, hown, hts, hlocks⟩ := he
  have hown : s.vm.findClass RL = some m.cls := hown
  obtain ⟨⟨hL6, hB4⟩, ⟨hm0, hm1, hm2⟩, hRb, hRl⟩ := id hR
  have hl : lv_has ls 8 [(0, .ref ab), (1, .ref al), (2, .ref am), (3, .int (ht σ t)), (4, .int (σ 2 t))] := hl
  refine lv_aload_n hx hb dL_isSafe_0 rfl (lv_at hl 0 rfl) ?_
  refine lv_aload_n hx hb dL_isSafe_1 rfl (lv_at hl 1 rfl) ?_
  refine lv_aload_n hx hb dL_isSafe_2 rfl (lv_at hl 2 rfl) ?_
  refine lv_iload_n hx hb dL_isSafe_3 rfl (lv_at hl 3 rfl) ?_
  refine lv_iload hx hb dL_isSafe_4 (lv_at hl 4 rfl) ?_
  refine ro_callS 5 hx hb hml hown hts hl.1 hP hK (As := [.ref ab, .ref al, .ref am, .int (ht σ t), .int (σ 2 t)]) (rest := []) (c_L_shift l D cI ab al am bf lf mf H σ hI hR t ht48) gL_isSafe_L_shift rfl rfl rfl (by decide +kernel) ⟨Nat.le_of_ble_eq_true rfl, Nat.le_of_ble_eq_true rfl⟩ rfl rfl (Nat.le_of_ble_eq_true rfl) dL_isSafe_6 ⟨Nat.zero_le _, Nat.zero_le _⟩ (fun r1 hr1 => ?_)
  subst hr1
  refine lv_istore (lv' := [(5, .int (bal σ t)), (0, .ref ab), (1, .ref al), (2, .ref am), (3, .int (ht σ t)), (4, .int (σ 2 t))]) hx hb dL_isSafe_9 hl (by decide) rfl (fun ls hl => ?_)
  refine lv_aload_n hx hb dL_isSafe_11 rfl (lv_at hl 1 rfl) ?_
  refine lv_aload_n hx hb dL_isSafe_12 rfl (lv_at hl 2 rfl) ?_
  refine lv_aload_n hx hb dL_isSafe_13 rfl (lv_at hl 3 rfl) ?_
  refine lv_iload_n hx hb dL_isSafe_14 rfl (lv_at hl 4 rfl) ?_
  refine lv_iload hx hb dL_isSafe_15 (lv_at hl 5 rfl) ?_
  refine ro_callS 5 hx hb hml hown hts hl.1 hP hK (As := [.ref ab, .ref al, .ref am, .int (ht σ t), .int (σ 2 t)]) (rest := []) (c_L_isAdrift l D cI ab al am bf lf mf H σ hI hR t ht48) gL_isSafe_L_isAdrift rfl rfl rfl (by decide +kernel) ⟨Nat.le_of_ble_eq_true rfl, Nat.le_of_ble_eq_true rfl⟩ rfl rfl (Nat.le_of_ble_eq_true rfl) dL_isSafe_17 ⟨Nat.zero_le _, Nat.zero_le _⟩ (fun r2 hr2 => ?_)
  subst hr2
  have hs : safe_ σ t = (!drfW σ t (bal σ t) && (allB (fun j => decide (tn_ σ j t (bal σ t) * 100 ≤ σ 11 j * 55)) nL && allB (fun k => decide (sumOn_ σ (nI k) t (bal σ t) ≤ σ 6 k)) nB)) := by unfold safe_ safeW lnH blH; rw [inv_nL hI, inv_nB hI]
  rw [hs]
  suffices K2 : ∀ (n k : Nat) (x : Bool) (ls : Array Slot), k + n = nB → (x && true) = ((!drfW σ t (bal σ t) && allB (fun j => decide (tn_ σ j t (bal σ t) * 100 ≤ σ 11 j * 55)) nL) && allB (fun k => decide (sumOn_ σ (nI k) t (bal σ t) ≤ σ 6 k)) k) → lv_has ls 8 [(7, .int (nI k)), (6, .int (bI x)), (0, .ref ab), (1, .ref al), (2, .ref am), (3, .int (ht σ t)), (4, .int (σ 2 t)), (5, .int (bal σ t))] → W p l e _ s m args below meth c H [] 0 0 (roQ below H (fun r => r = bI (!drfW σ t (bal σ t) && (allB (fun j => decide (tn_ σ j t (bal σ t) * 100 ≤ σ 11 j * 55)) nL && allB (fun k => decide (sumOn_ σ (nI k) t (bal σ t) ≤ σ 6 k)) nB))) args s) (F0 m 95 ls []) by
    suffices K1 : ∀ (n k : Nat) (x : Bool) (ls : Array Slot), k + n = nL → x = (!drfW σ t (bal σ t) && allB (fun j => decide (tn_ σ j t (bal σ t) * 100 ≤ σ 11 j * 55)) k) → lv_has ls 8 [(7, .int (nI k)), (6, .int (bI x)), (0, .ref ab), (1, .ref al), (2, .ref am), (3, .int (ht σ t)), (4, .int (σ 2 t)), (5, .int (bal σ t))] → W p l e _ s m args below meth c H [] 0 0 (roQ below H (fun r => r = bI (!drfW σ t (bal σ t) && (allB (fun j => decide (tn_ σ j t (bal σ t) * 100 ≤ σ 11 j * 55)) nL && allB (fun k => decide (sumOn_ σ (nI k) t (bal σ t) ≤ σ 6 k)) nB))) args s) (F0 m 33 ls []) by
      refine lv_if_ne (tgt := 27) hx hb dL_isSafe_20 (by decide) (fun c20 => ?_) (fun c20 => ?_)
      · refine lv_iconst (v := 0) hx hb dL_isSafe_27 (by decide) ?_
        refine lv_istore (lv' := [(6, .int 0), (5, .int (bal σ t)), (0, .ref ab), (1, .ref al), (2, .ref am), (3, .int (ht σ t)), (4, .int (σ 2 t))]) hx hb dL_isSafe_28 hl (by decide) rfl (fun ls hl => ?_)
        refine lv_iconst (v := 0) hx hb dL_isSafe_30 (by decide) ?_
        refine lv_istore (lv' := [(7, .int 0), (6, .int 0), (5, .int (bal σ t)), (0, .ref ab), (1, .ref al), (2, .ref am), (3, .int (ht σ t)), (4, .int (σ 2 t))]) hx hb dL_isSafe_31 hl (by decide) rfl (fun ls hl => ?_)
        exact K1 nL 0 false ls (by omega) (by rw [bI_t c20]; rfl) (lv_sub hl [0, 1, 3, 4, 5, 6, 7, 2] rfl)
      · refine lv_iconst (v := 1) hx hb dL_isSafe_23 (by decide) ?_
        refine lv_goto (tgt := 28) hx hb dL_isSafe_24 (by decide) ?_
        refine lv_istore (lv' := [(6, .int 1), (5, .int (bal σ t)), (0, .ref ab), (1, .ref al), (2, .ref am), (3, .int (ht σ t)), (4, .int (σ 2 t))]) hx hb dL_isSafe_28 hl (by decide) rfl (fun ls hl => ?_)
        refine lv_iconst (v := 0) hx hb dL_isSafe_30 (by decide) ?_
        refine lv_istore (lv' := [(7, .int 0), (6, .int 1), (5, .int (bal σ t)), (0, .ref ab), (1, .ref al), (2, .ref am), (3, .int (ht σ t)), (4, .int (σ 2 t))]) hx hb dL_isSafe_31 hl (by decide) rfl (fun ls hl => ?_)
        exact K1 nL 0 true ls (by omega) (by rw [bI_f c20]; rfl) (lv_sub hl [0, 1, 3, 4, 5, 6, 7, 2] rfl)
    intro n
    induction n with
    | zero =>
        intro k x ls hk hx9 hl
        refine lv_iload hx hb dL_isSafe_33 (lv_at hl 0 rfl) ?_
        refine lv_aload_n hx hb dL_isSafe_35 rfl (lv_at hl 4 rfl) ?_
        refine lv_iconst (v := 1) hx hb dL_isSafe_36 (by decide) ?_
        refine xa_ld hx hb hK hP 2 0 rfl rfl (j := 1) (by omega) (by decide) dL_isSafe_37 ?_
        rw [show (mf 1) = (nI nL) from hm1]
        refine lv_icmp_ge (tgt := 92) hx hb dL_isSafe_38 (by decide) (fun c38 => ?_) (fun c38 => ?_)
        · refine lv_iconst (v := 0) hx hb dL_isSafe_92 (by decide) ?_
          refine lv_istore (lv' := [(7, .int 0), (6, .int (bI x)), (0, .ref ab), (1, .ref al), (2, .ref am), (3, .int (ht σ t)), (4, .int (σ 2 t)), (5, .int (bal σ t))]) hx hb dL_isSafe_93 hl (by decide) rfl (fun ls hl => ?_)
          exact K2 nB 0 x ls (by omega) (by rw [hx9, show k = nL by omega]; show _ = (_ && true); rfl) (lv_sub hl [0, 1, 2, 3, 4, 5, 6, 7] rfl)
        · exact absurd (nI_le (a := nL) (b := k) (by omega) (by omega)) c38
    | succ n ih =>
        intro k x ls hk hx9 hl
        refine lv_iload hx hb dL_isSafe_33 (lv_at hl 0 rfl) ?_
        refine lv_aload_n hx hb dL_isSafe_35 rfl (lv_at hl 4 rfl) ?_
        refine lv_iconst (v := 1) hx hb dL_isSafe_36 (by decide) ?_
        refine xa_ld hx hb hK hP 2 0 rfl rfl (j := 1) (by omega) (by decide) dL_isSafe_37 ?_
        rw [show (mf 1) = (nI nL) from hm1]
        refine lv_icmp_ge (tgt := 92) hx hb dL_isSafe_38 (by decide) (fun c38 => ?_) (fun c38 => ?_)
        · exact absurd c38 (nI_ge (a := k) (b := nL) (by omega) (by omega))
        · have hk1 : k < nL := by omega
          refine lv_iload hx hb dL_isSafe_41 (lv_at hl 1 rfl) ?_
          refine lv_if_eq (tgt := 92) hx hb dL_isSafe_43 (by decide) (fun c43 => ?_) (fun c43 => ?_)
          · have hf := bI_f c43
            refine lv_iconst (v := 0) hx hb dL_isSafe_92 (by decide) ?_
            refine lv_istore (lv' := [(7, .int 0), (6, .int (bI x)), (0, .ref ab), (1, .ref al), (2, .ref am), (3, .int (ht σ t)), (4, .int (σ 2 t)), (5, .int (bal σ t))]) hx hb dL_isSafe_93 hl (by decide) rfl (fun ls hl => ?_)
            exact K2 nB 0 x ls (by omega) (by rw [hf] at hx9 ⊢; exact (Bool.and_eq_false_iff.mp hx9.symm).elim (fun u => by rw [u]; rfl) (fun u => by rw [allB_mono u (by omega), Bool.and_false]; rfl)) (lv_sub hl [0, 1, 2, 3, 4, 5, 6, 7] rfl)
          · have hT := bI_t c43
            obtain ⟨-, e2, e3, e4, e5⟩ := hRl k hk1
            obtain ⟨-, -, -, ⟨y1, y2⟩, -, -⟩ := hI.2.2.2.2.2.2 k hk1
            obtain ⟨t1, t2⟩ := inv_tn hI hk1 ht48 (bal_inS σ t)
            refine lv_ldc2 (v := (20)) hx hb hown (hts (.constantLong RL 42 (20)) (by decide +kernel)) dL_isSafe_46 ?_
            refine lv_aload_n hx hb dL_isSafe_49 rfl (lv_at hl 2 rfl) ?_
            refine lv_aload_n hx hb dL_isSafe_50 rfl (lv_at hl 3 rfl) ?_
            refine lv_iload hx hb dL_isSafe_51 (lv_at hl 0 rfl) ?_
            refine lv_iload_n hx hb dL_isSafe_53 rfl (lv_at hl 5 rfl) ?_
            refine lv_iload hx hb dL_isSafe_54 (lv_at hl 7 rfl) ?_
            refine ro_callS 5 hx hb hml hown hts hl.1 hP hK (As := [.ref ab, .ref al, .int (nI k), .int (ht σ t), .int (bal σ t)]) (rest := [.long 20]) (c_L_tension l D cI ab al am bf lf mf H σ hI hR k t hk1 ht48 (bal σ t) (bal_inS σ t)) gL_isSafe_L_tension rfl rfl rfl (by decide +kernel) ⟨Nat.le_of_ble_eq_true rfl, Nat.le_of_ble_eq_true rfl⟩ rfl rfl (Nat.le_of_ble_eq_true rfl) dL_isSafe_56 ⟨Nat.zero_le _, Nat.zero_le _⟩ (fun r3 hr3 => ?_)
            subst hr3
            refine lv_i2l hx hb dL_isSafe_59 rfl ?_
            refine lv_lmul hx hb dL_isSafe_60 ?_
            refine lv_ldc2 (v := (11)) hx hb hown (hts (.constantLong RL 44 (11)) (by decide +kernel)) dL_isSafe_61 ?_
            refine lv_aload_n hx hb dL_isSafe_64 rfl (lv_at hl 3 rfl) ?_
            refine lv_bipush (v := 6) hx hb dL_isSafe_65 (by decide) ?_
            refine lv_iload hx hb dL_isSafe_67 (lv_at hl 0 rfl) ?_
            refine lv_imul hx hb dL_isSafe_69 ?_
            refine lv_topi (fun y9 e9 => ?_)
            rw [show y9 = (nI (6 * k)) from e9.trans (pk_mul 6 k)]
            refine lv_iconst (v := 3) hx hb dL_isSafe_70 (by decide) ?_
            refine lv_iadd hx hb dL_isSafe_71 ?_
            refine lv_topi (fun y9 e9 => ?_)
            rw [show y9 = (nI (6 * k + 3)) from e9.trans (nI_add (6 * k) 3)]
            refine xa_ld hx hb hK hP 1 0 rfl rfl (j := (6 * k + 3)) (by omega) (by decide) dL_isSafe_72 ?_
            rw [show (lf (6 * k + 3)) = (σ 11 k) from e3]
            refine lv_i2l hx hb dL_isSafe_73 rfl ?_
            refine lv_lmul hx hb dL_isSafe_74 ?_
            refine W.lcmp hx hb dL_isSafe_75 ?_
            have hcmp := long_lq (x := tn_ σ k t (bal σ t)) (y := σ 11 k) ⟨t1, t2⟩ ⟨y1, y2⟩
            refine lv_if_gt (tgt := 83) hx hb dL_isSafe_76 (by decide) (fun c76 => ?_) (fun c76 => ?_)
            · refine lv_iconst (v := 0) hx hb dL_isSafe_83 (by decide) ?_
              refine lv_istore (lv' := [(6, .int 0), (7, .int (nI k)), (0, .ref ab), (1, .ref al), (2, .ref am), (3, .int (ht σ t)), (4, .int (σ 2 t)), (5, .int (bal σ t))]) hx hb dL_isSafe_84 hl (by decide) rfl (fun ls hl => ?_)
              refine lv_iinc (v := (nI (k + 1))) (lv' := [(7, .int (nI (k + 1))), (6, .int 0), (0, .ref ab), (1, .ref al), (2, .ref am), (3, .int (ht σ t)), (4, .int (σ 2 t)), (5, .int (bal σ t))]) hx hb dL_isSafe_86 hl (k := 1) rfl (by exact nI_add _ 1) (by decide) rfl (fun ls hl => ?_)
              refine lv_goto (tgt := 33) hx hb dL_isSafe_89 (by decide) ?_
              exact ih (k + 1) false ls (by omega) (by show false = (_ && (allB (fun j => decide (tn_ σ j t (bal σ t) * 100 ≤ σ 11 j * 55)) k && decide (tn_ σ k t (bal σ t) * 100 ≤ σ 11 k * 55))); rw [decide_eq_false (hcmp.mp ((lg_cmp_gt _ _).mp c76)), Bool.and_false, Bool.and_false]) (lv_sub hl [0, 1, 2, 3, 4, 5, 6, 7] rfl)
            · refine lv_iconst (v := 1) hx hb dL_isSafe_79 (by decide) ?_
              refine lv_goto (tgt := 84) hx hb dL_isSafe_80 (by decide) ?_
              refine lv_istore (lv' := [(6, .int 1), (7, .int (nI k)), (0, .ref ab), (1, .ref al), (2, .ref am), (3, .int (ht σ t)), (4, .int (σ 2 t)), (5, .int (bal σ t))]) hx hb dL_isSafe_84 hl (by decide) rfl (fun ls hl => ?_)
              refine lv_iinc (v := (nI (k + 1))) (lv' := [(7, .int (nI (k + 1))), (6, .int 1), (0, .ref ab), (1, .ref al), (2, .ref am), (3, .int (ht σ t)), (4, .int (σ 2 t)), (5, .int (bal σ t))]) hx hb dL_isSafe_86 hl (k := 1) rfl (by exact nI_add _ 1) (by decide) rfl (fun ls hl => ?_)
              refine lv_goto (tgt := 33) hx hb dL_isSafe_89 (by decide) ?_
              exact ih (k + 1) true ls (by omega) (by show true = (_ && (allB (fun j => decide (tn_ σ j t (bal σ t) * 100 ≤ σ 11 j * 55)) k && decide (tn_ σ k t (bal σ t) * 100 ≤ σ 11 k * 55))); rw [decide_eq_true (Classical.not_not.mp (fun v => c76 ((lg_cmp_gt _ _).mpr (hcmp.mpr v)))), Bool.and_true, ← hx9, hT]) (lv_sub hl [0, 1, 2, 3, 4, 5, 6, 7] rfl)
  intro n
  induction n with
  | zero =>
    intro k x ls hk hx9 hl
    rw [Bool.and_true] at hx9
    refine lv_iload hx hb dL_isSafe_95 (lv_at hl 0 rfl) ?_
    refine lv_aload_n hx hb dL_isSafe_97 rfl (lv_at hl 4 rfl) ?_
    refine lv_iconst (v := 0) hx hb dL_isSafe_98 (by decide) ?_
    refine xa_ld hx hb hK hP 2 0 rfl rfl (j := 0) (by omega) (by decide) dL_isSafe_99 ?_
    rw [show (mf 0) = (nI nB) from hm0]
    refine lv_icmp_ge (tgt := 143) hx hb dL_isSafe_100 (by decide) (fun c100 => ?_) (fun c100 => ?_)
    · refine lv_iload hx hb dL_isSafe_143 (lv_at hl 1 rfl) ?_
      exact ro_zret (v := (bI x)) hx hb hr hlocks hH ⟨_, rfl⟩ (by rw [hx9, show k = nB by omega, Bool.and_assoc]) dL_isSafe_145
    · exact absurd (nI_le (a := nB) (b := k) (by omega) (by omega)) c100
  | succ n ih =>
    intro k x ls hk hx9 hl
    rw [Bool.and_true] at hx9
    refine lv_iload hx hb dL_isSafe_95 (lv_at hl 0 rfl) ?_
    refine lv_aload_n hx hb dL_isSafe_97 rfl (lv_at hl 4 rfl) ?_
    refine lv_iconst (v := 0) hx hb dL_isSafe_98 (by decide) ?_
    refine xa_ld hx hb hK hP 2 0 rfl rfl (j := 0) (by omega) (by decide) dL_isSafe_99 ?_
    rw [show (mf 0) = (nI nB) from hm0]
    refine lv_icmp_ge (tgt := 143) hx hb dL_isSafe_100 (by decide) (fun c100 => ?_) (fun c100 => ?_)
    · exact absurd c100 (nI_ge (a := k) (b := nB) (by omega) (by omega))
    · have hk1 : k < nB := by omega
      refine lv_iload hx hb dL_isSafe_103 (lv_at hl 1 rfl) ?_
      refine lv_if_eq (tgt := 143) hx hb dL_isSafe_105 (by decide) (fun c105 => ?_) (fun c105 => ?_)
      · have hf := bI_f c105
        refine lv_iload hx hb dL_isSafe_143 (lv_at hl 1 rfl) ?_
        exact ro_zret (v := (bI x)) hx hb hr hlocks hH ⟨_, rfl⟩ (by rw [hf] at hx9 ⊢; rw [← Bool.and_assoc]; exact (Bool.and_eq_false_iff.mp hx9.symm).elim (fun u => by rw [u]; rfl) (fun u => by rw [allB_mono u (by omega), Bool.and_false])) dL_isSafe_145
      · have hT := bI_t c105
        obtain ⟨b1, b2⟩ := hRb k hk1
        refine lv_aload_n hx hb dL_isSafe_108 rfl (lv_at hl 2 rfl) ?_
        refine lv_aload_n hx hb dL_isSafe_109 rfl (lv_at hl 3 rfl) ?_
        refine lv_aload_n hx hb dL_isSafe_110 rfl (lv_at hl 4 rfl) ?_
        refine lv_iload_n hx hb dL_isSafe_111 rfl (lv_at hl 5 rfl) ?_
        refine lv_iload hx hb dL_isSafe_112 (lv_at hl 7 rfl) ?_
        refine lv_iload hx hb dL_isSafe_114 (lv_at hl 0 rfl) ?_
        refine ro_callS 6 hx hb hml hown hts hl.1 hP hK (As := [.ref ab, .ref al, .ref am, .int (ht σ t), .int (bal σ t), .int (nI k)]) (rest := []) (c_L_onBollard l D cI ab al am bf lf mf H σ hI hR t ht48 (bal σ t) (bal_inS σ t) (nI k)) gL_isSafe_L_onBollard rfl rfl rfl (by decide +kernel) ⟨Nat.le_of_ble_eq_true rfl, Nat.le_of_ble_eq_true rfl⟩ rfl rfl (Nat.le_of_ble_eq_true rfl) dL_isSafe_116 ⟨Nat.zero_le _, Nat.zero_le _⟩ (fun r3 hr3 => ?_)
        subst hr3
        refine lv_aload_n hx hb dL_isSafe_119 rfl (lv_at hl 2 rfl) ?_
        refine lv_iconst (v := 2) hx hb dL_isSafe_120 (by decide) ?_
        refine lv_iload hx hb dL_isSafe_121 (lv_at hl 0 rfl) ?_
        refine lv_imul hx hb dL_isSafe_123 ?_
        refine lv_topi (fun y9 e9 => ?_)
        rw [show y9 = (nI (2 * k)) from e9.trans (pk_mul 2 k)]
        refine lv_iconst (v := 1) hx hb dL_isSafe_124 (by decide) ?_
        refine lv_iadd hx hb dL_isSafe_125 ?_
        refine lv_topi (fun y9 e9 => ?_)
        rw [show y9 = (nI (2 * k + 1)) from e9.trans (nI_add (2 * k) 1)]
        refine xa_ld hx hb hK hP 0 0 rfl rfl (j := (2 * k + 1)) (by omega) (by decide) dL_isSafe_126 ?_
        rw [show (bf (2 * k + 1)) = (σ 6 k) from b2]
        refine lv_icmp_gt (tgt := 134) hx hb dL_isSafe_127 (by decide) (fun c127 => ?_) (fun c127 => ?_)
        · refine lv_iconst (v := 0) hx hb dL_isSafe_134 (by decide) ?_
          refine lv_istore (lv' := [(6, .int 0), (7, .int (nI k)), (0, .ref ab), (1, .ref al), (2, .ref am), (3, .int (ht σ t)), (4, .int (σ 2 t)), (5, .int (bal σ t))]) hx hb dL_isSafe_135 hl (by decide) rfl (fun ls hl => ?_)
          refine lv_iinc (v := (nI (k + 1))) (lv' := [(7, .int (nI (k + 1))), (6, .int 0), (0, .ref ab), (1, .ref al), (2, .ref am), (3, .int (ht σ t)), (4, .int (σ 2 t)), (5, .int (bal σ t))]) hx hb dL_isSafe_137 hl (k := 1) rfl (by exact nI_add _ 1) (by decide) rfl (fun ls hl => ?_)
          refine lv_goto (tgt := 95) hx hb dL_isSafe_140 (by decide) ?_
          exact ih (k + 1) false ls (by omega) (by show false = (_ && (allB (fun k => decide (sumOn_ σ (nI k) t (bal σ t) ≤ σ 6 k)) k && decide (sumOn_ σ (nI k) t (bal σ t) ≤ σ 6 k))); rw [decide_eq_false (Int32.not_le.mpr c127), Bool.and_false, Bool.and_false]) (lv_sub hl [0, 1, 2, 3, 4, 5, 6, 7] rfl)
        · refine lv_iconst (v := 1) hx hb dL_isSafe_130 (by decide) ?_
          refine lv_goto (tgt := 135) hx hb dL_isSafe_131 (by decide) ?_
          refine lv_istore (lv' := [(6, .int 1), (7, .int (nI k)), (0, .ref ab), (1, .ref al), (2, .ref am), (3, .int (ht σ t)), (4, .int (σ 2 t)), (5, .int (bal σ t))]) hx hb dL_isSafe_135 hl (by decide) rfl (fun ls hl => ?_)
          refine lv_iinc (v := (nI (k + 1))) (lv' := [(7, .int (nI (k + 1))), (6, .int 1), (0, .ref ab), (1, .ref al), (2, .ref am), (3, .int (ht σ t)), (4, .int (σ 2 t)), (5, .int (bal σ t))]) hx hb dL_isSafe_137 hl (k := 1) rfl (by exact nI_add _ 1) (by decide) rfl (fun ls hl => ?_)
          refine lv_goto (tgt := 95) hx hb dL_isSafe_140 (by decide) ?_
          exact ih (k + 1) true ls (by omega) (by show true = (_ && (allB (fun k => decide (sumOn_ σ (nI k) t (bal σ t) ≤ σ 6 k)) k && decide (sumOn_ σ (nI k) t (bal σ t) ≤ σ 6 k))); rw [decide_eq_true (Int32.not_lt.mp c127), Bool.and_true, ← hx9, hT]) (lv_sub hl [0, 1, 2, 3, 4, 5, 6, 7] rfl)
end
section
/-! The law: tended. -/
theorem tl_step {σ : St} {t : Nat} {s9 : Int32} {k nL : Nat} {lf lg : Nat → Int32} {v : Int32} (h1 : ∀ i, i % 6 ≠ 4 → lg i = lf i) (h2 : ∀ j, j < nL → lg (6 * j + 4) = tdS σ t s9 k j) (hv : v = tdS σ t s9 (k + 1) k) : (∀ i, i % 6 ≠ 4 → upd lg (6 * k + 4) v i = lf i) ∧ ∀ j, j < nL → upd lg (6 * k + 4) v (6 * j + 4) = tdS σ t s9 (k + 1) j := by
  refine ⟨fun i hi => ?_, fun j hj => ?_⟩
  · rw [pk_un (by omega)]; exact h1 i hi
  · by_cases e : j = k
    · subst e; rw [pk_us]; exact hv
    · rw [pk_un (by omega), h2 j hj]
      show _ = (if σ 13 k = 0 then tdS σ t s9 k else upd (tdS σ t s9 k) k (len_ σ k t s9)) j
      by_cases q : σ 13 k = 0
      · rw [if_pos q]
      · rw [if_neg q, pk_un e]
theorem td_at {σ : St} {t : Nat} {s9 : Int32} (k : Nat) : tdS σ t s9 (k + 1) k = if σ 13 k = 0 then σ 12 k else len_ σ k t s9 := tdS_lo (k + 1) k (by omega)
theorem tl_end {σ : St} {t nL nB : Nat} {bf lf lg mf : Nat → Int32} (hI : inv σ nL nB) (hR : lrel σ nL nB bf lf mf) (h1 : ∀ i, i % 6 ≠ 4 → lg i = lf i) (h2 : ∀ j, j < nL → lg (6 * j + 4) = tdS σ t (bal σ t) nL j) : lrel (tnd σ t) nL nB bf lg mf := by
  obtain ⟨a1, a2, a3, a4⟩ := hR
  refine ⟨a1, a2, a3, fun j hj => ?_⟩
  obtain ⟨⟨k, hk, e1, e2, e3⟩, e4, e5, e6, e7⟩ := a4 j hj
  refine ⟨⟨k, hk, (h1 _ (by omega)).trans e1, e2, by rw [h1 _ (by omega)]; exact e3⟩, (h1 _ (by omega)).trans e4, (h1 _ (by omega)).trans e5, ?_, by rw [h1 _ (by omega)]; exact e7⟩
  rw [h2 j hj]
  show tdS σ t (bal σ t) nL j = tdS σ t (bal σ t) (nL_ σ) j
  rw [inv_nL hI]
theorem lrel_cp {σ : St} {nL nB : Nat} {bf lf cf mf : Nat → Int32} (hR : lrel σ nL nB bf lf mf) (h : ∀ i, i < 36 → cf i = lf i) : lrel σ nL nB bf cf mf := by
  obtain ⟨a1, a2, a3, a4⟩ := hR
  refine ⟨a1, a2, a3, fun j hj => ?_⟩
  have hj6 : j < 6 := by omega
  obtain ⟨⟨k, hk, e1, e2, e3⟩, e4, e5, e6, e7⟩ := a4 j hj
  exact ⟨⟨k, hk, (h _ (by omega)).trans e1, e2, by rw [h _ (by omega)]; exact e3⟩, (h _ (by omega)).trans e4, (h _ (by omega)).trans e5, (h _ (by omega)).trans e6, by rw [h _ (by omega)]; exact e7⟩
set_option maxHeartbeats 4000000 in
set_option maxRecDepth 100000 in
theorem c_L_tended (l : Launch) (D : va_G) (cI : ClassId) (ab al am : Nat) (bf lf mf : Nat → Int32) (Hi : Heap) (A : Nat → Prop) (hD : va_D A (lw3 cI ab al am bf lf mf)) (hA : ∀ q, Hi.size ≤ q → A q) (σ : St) {nL nB : Nat} (hI : inv σ nL nB) (hR : lrel σ nL nB bf lf mf) (t : Nat) (ht48 : t < 48) : gM l yL_tended wsL_tended ({ frames := 5, cells := 1, slots := 6, locals := 138 }) [.ref ab, .ref al, .ref am, .int (ht σ t), .int (σ 2 t)] D (lw3 cI ab al am bf lf mf) (tyI cI) Hi (S := Nat → Int32) (fun u => lw3 cI ab al am bf u mf) (fun r u => r = tdC σ t (bal σ t) nL ∧ lrel (tnd σ t) nL nB bf u mf) A 1 6 := by
  refine g_of (cc := cL_tended) (maxL := 10) (ret := some .int) (by decide) rfl (Nat.le_of_ble_eq_true rfl) ?_
  intro p e s m args below meth c he hH hP hK ls hl
  obtain ⟨hx, hb, hr, hml, hown, hts, hlocks⟩ := he
  have hown : s.vm.findClass RL = some m.cls := hown
  have hS : va_S A Hi Hi [] := va_S.rf
  obtain ⟨⟨hL6, hB4⟩, ⟨hm0, hm1, hm2⟩, hRb, hRl⟩ := id hR
  have hl : lv_has ls 10 [(0, .ref ab), (1, .ref al), (2, .ref am), (3, .int (ht σ t)), (4, .int (σ 2 t))] := hl
  refine lv_iconst (v := 0) hx hb dL_tended_0 (by decide) ?_
  refine lv_istore (lv' := [(5, .int 0), (0, .ref ab), (1, .ref al), (2, .ref am), (3, .int (ht σ t)), (4, .int (σ 2 t))]) hx hb dL_tended_1 hl (by decide) rfl (fun ls hl => ?_)
  refine lv_aload_n hx hb dL_tended_3 rfl (lv_at hl 1 rfl) ?_
  refine lv_aload_n hx hb dL_tended_4 rfl (lv_at hl 2 rfl) ?_
  refine lv_aload_n hx hb dL_tended_5 rfl (lv_at hl 3 rfl) ?_
  refine lv_iload_n hx hb dL_tended_6 rfl (lv_at hl 4 rfl) ?_
  refine lv_iload hx hb dL_tended_7 (lv_at hl 5 rfl) ?_
  refine ro_callS 5 hx hb hml hown hts hl.1 hP hK (As := [.ref ab, .ref al, .ref am, .int (ht σ t), .int (σ 2 t)]) (rest := []) (c_L_shift l D cI ab al am bf lf mf Hi σ hI hR t ht48) gL_tended_L_shift rfl rfl rfl (by decide +kernel) ⟨Nat.le_of_ble_eq_true rfl, Nat.le_of_ble_eq_true rfl⟩ rfl rfl (Nat.le_of_ble_eq_true rfl) dL_tended_9 ⟨Nat.zero_le _, Nat.zero_le _⟩ (fun r1 hr1 => ?_)
  subst hr1
  refine lv_istore (lv' := [(6, .int (bal σ t)), (5, .int 0), (0, .ref ab), (1, .ref al), (2, .ref am), (3, .int (ht σ t)), (4, .int (σ 2 t))]) hx hb dL_tended_12 hl (by decide) rfl (fun ls hl => ?_)
  refine lv_bipush (v := 6) hx hb dL_tended_14 (by decide) ?_
  refine va_newa (atype := .int) (ty := .int) (N' := 6) (a0 := (6, .inl (fun _ => 0))) hx hb (hts (.arrayClass .int) (by decide +kernel)) rfl hK hP hD hS hA (fun _ => rfl) (by decide) (by decide) (by decide) (Nat.le_of_ble_eq_true rfl) (Nat.le_of_ble_eq_true rfl) dL_tended_16 (fun ao cJ H hK2 hP hD hS => ?_)
  obtain rfl : cI = cJ := va_sameI hK2 0 1 rfl rfl
  refine lv_astore (lv' := [(7, .ref ao), (6, .int (bal σ t)), (5, .int 0), (0, .ref ab), (1, .ref al), (2, .ref am), (3, .int (ht σ t)), (4, .int (σ 2 t))]) hx hb dL_tended_18 hl (by decide) rfl (fun ls hl => ?_)
  refine lv_iconst (v := 0) hx hb dL_tended_20 (by decide) ?_
  refine lv_istore (lv' := [(8, .int 0), (7, .ref ao), (6, .int (bal σ t)), (5, .int 0), (0, .ref ab), (1, .ref al), (2, .ref am), (3, .int (ht σ t)), (4, .int (σ 2 t))]) hx hb dL_tended_21 hl (by decide) rfl (fun ls hl => ?_)
  suffices K2 : ∀ (n k : Nat) (zf lg : Nat → Int32) (H : Heap) (locs : List Loc) (ls : Array Slot), k + n = nL → (∀ j, j < nL → zf j = len_ σ j t (bal σ t)) → (∀ i, i % 6 ≠ 4 → lg i = lf i) → (∀ j, j < nL → lg (6 * j + 4) = tdS σ t (bal σ t) k j) → va_P D vwCl (lw3 cI ab al am bf lg mf ++ [(ao, .inl (cI, 6, .inl zf))]) H → va_D A (lw3 cI ab al am bf lg mf ++ [(ao, .inl (cI, 6, .inl zf))]) → va_S A Hi H locs → lv_has ls 10 [(8, .int (nI k)), (7, .ref ao), (6, .int (bal σ t)), (5, .int (tdC σ t (bal σ t) k)), (0, .ref ab), (1, .ref al), (2, .ref am), (3, .int (ht σ t)), (4, .int (σ 2 t))] → W p l e ({ frames := 5, cells := 1, slots := 6, locals := 138 }) s m args below meth c H locs 1 6 (gQ below D (S := Nat → Int32) (fun u => lw3 cI ab al am bf u mf) (fun r u => r = tdC σ t (bal σ t) nL ∧ lrel (tnd σ t) nL nB bf u mf) A 1 6 args s) (F0 m 55 ls []) by
    suffices K1 : ∀ (n k : Nat) (zf : Nat → Int32) (H : Heap) (locs : List Loc) (ls : Array Slot), k + n = nL → (∀ j, j < k → zf j = len_ σ j t (bal σ t)) → va_P D vwCl (lw3 cI ab al am bf lf mf ++ [(ao, .inl (cI, 6, .inl zf))]) H → va_D A (lw3 cI ab al am bf lf mf ++ [(ao, .inl (cI, 6, .inl zf))]) → va_S A Hi H locs → lv_has ls 10 [(8, .int (nI k)), (7, .ref ao), (6, .int (bal σ t)), (5, .int 0), (0, .ref ab), (1, .ref al), (2, .ref am), (3, .int (ht σ t)), (4, .int (σ 2 t))] → W p l e ({ frames := 5, cells := 1, slots := 6, locals := 138 }) s m args below meth c H locs 1 6 (gQ below D (S := Nat → Int32) (fun u => lw3 cI ab al am bf u mf) (fun r u => r = tdC σ t (bal σ t) nL ∧ lrel (tnd σ t) nL nB bf u mf) A 1 6 args s) (F0 m 23 ls []) by
      exact K1 nL 0 _ H _ ls (by omega) (fun j hj => absurd hj (Nat.not_lt_zero j)) hP hD hS (lv_sub hl [0, 1, 2, 3, 4, 5, 6, 7, 8] rfl)
    intro n
    induction n with
    | zero =>
        intro k zf H locs ls hk hz hP hD hS hl
        refine lv_iload hx hb dL_tended_23 (lv_at hl 0 rfl) ?_
        refine lv_aload_n hx hb dL_tended_25 rfl (lv_at hl 6 rfl) ?_
        refine lv_iconst (v := 1) hx hb dL_tended_26 (by decide) ?_
        refine xa_ld hx hb hK hP 2 0 rfl rfl (j := 1) (by omega) (by decide) dL_tended_27 ?_
        rw [show (mf 1) = (nI nL) from hm1]
        refine lv_icmp_ge (tgt := 52) hx hb dL_tended_28 (by decide) (fun c28 => ?_) (fun c28 => ?_)
        · refine lv_iconst (v := 0) hx hb dL_tended_52 (by decide) ?_
          refine lv_istore (lv' := [(8, .int 0), (7, .ref ao), (6, .int (bal σ t)), (5, .int 0), (0, .ref ab), (1, .ref al), (2, .ref am), (3, .int (ht σ t)), (4, .int (σ 2 t))]) hx hb dL_tended_53 hl (by decide) rfl (fun ls hl => ?_)
          exact K2 nL 0 zf lf H locs ls (by omega) (fun j hj => hz j (by omega)) (fun _ _ => rfl) (fun j hj => by obtain ⟨-, -, -, e4, -⟩ := hRl j hj; exact e4) hP hD hS (lv_sub hl [0, 1, 2, 3, 4, 5, 6, 7, 8] rfl)
        · exact absurd (nI_le (a := nL) (b := k) (by omega) (by omega)) c28
    | succ n ih =>
        intro k zf H locs ls hk hz hP hD hS hl
        refine lv_iload hx hb dL_tended_23 (lv_at hl 0 rfl) ?_
        refine lv_aload_n hx hb dL_tended_25 rfl (lv_at hl 6 rfl) ?_
        refine lv_iconst (v := 1) hx hb dL_tended_26 (by decide) ?_
        refine xa_ld hx hb hK hP 2 0 rfl rfl (j := 1) (by omega) (by decide) dL_tended_27 ?_
        rw [show (mf 1) = (nI nL) from hm1]
        refine lv_icmp_ge (tgt := 52) hx hb dL_tended_28 (by decide) (fun c28 => ?_) (fun c28 => ?_)
        · exact absurd c28 (nI_ge (a := k) (b := nL) (by omega) (by omega))
        · have hk1 : k < nL := by omega
          have hP3 : va_P D vwCl (lw3 cI ab al am bf lf mf) H := hP.sub [0, 1, 2] rfl
          refine lv_aload hx hb dL_tended_31 (lv_at hl 1 rfl) ?_
          refine lv_iload hx hb dL_tended_33 (lv_at hl 0 rfl) ?_
          refine lv_aload_n hx hb dL_tended_35 rfl (lv_at hl 4 rfl) ?_
          refine lv_aload_n hx hb dL_tended_36 rfl (lv_at hl 5 rfl) ?_
          refine lv_iload hx hb dL_tended_37 (lv_at hl 0 rfl) ?_
          refine lv_iload_n hx hb dL_tended_39 rfl (lv_at hl 7 rfl) ?_
          refine lv_iload hx hb dL_tended_40 (lv_at hl 2 rfl) ?_
          refine ro_callS 5 hx hb hml hown hts hl.1 hP3 hK (As := [.ref ab, .ref al, .int (nI k), .int (ht σ t), .int (bal σ t)]) (rest := [.int (nI k), .ref ao]) (c_L_len l D cI ab al am bf lf mf H σ hI hR k t hk1 ht48 (bal σ t) (bal_inS σ t)) gL_tended_L_length rfl rfl rfl (by decide +kernel) ⟨Nat.le_of_ble_eq_true rfl, Nat.le_of_ble_eq_true rfl⟩ rfl rfl (Nat.le_of_ble_eq_true rfl) dL_tended_42 ⟨Nat.le_of_ble_eq_true rfl, Nat.le_of_ble_eq_true rfl⟩ (fun r2 hr2 => ?_)
          subst hr2
          refine xa_st hx hb hK hP hD hS 3 0 rfl rfl (j := k) (by omega) (by decide) dL_tended_45 (fun H locs hP hD hS => ?_)
          have hP : va_P D vwCl (lw3 cI ab al am bf lf mf ++ [(ao, .inl (cI, 6, .inl (upd zf k (len_ σ k t (bal σ t)))))]) H := hP
          have hD : va_D A (lw3 cI ab al am bf lf mf ++ [(ao, .inl (cI, 6, .inl (upd zf k (len_ σ k t (bal σ t)))))]) := hD
          refine lv_iinc (v := (nI (k + 1))) (lv' := [(8, .int (nI (k + 1))), (7, .ref ao), (6, .int (bal σ t)), (5, .int 0), (0, .ref ab), (1, .ref al), (2, .ref am), (3, .int (ht σ t)), (4, .int (σ 2 t))]) hx hb dL_tended_46 hl (k := 0) rfl (by exact nI_add _ 1) (by decide) rfl (fun ls hl => ?_)
          refine lv_goto (tgt := 23) hx hb dL_tended_49 (by decide) ?_
          exact ih (k + 1) (upd zf k (len_ σ k t (bal σ t))) H locs ls (by omega) (fun j hj => by by_cases q : j = k; rw [q, pk_us]; rw [pk_un q]; exact hz j (by omega)) hP hD hS (lv_sub hl [0, 1, 2, 3, 4, 5, 6, 7, 8] rfl)
  intro n
  induction n with
  | zero =>
    intro k zf lg H locs ls hk hz h1 h2 hP hD hS hl
    refine lv_iload hx hb dL_tended_55 (lv_at hl 0 rfl) ?_
    refine lv_aload_n hx hb dL_tended_57 rfl (lv_at hl 6 rfl) ?_
    refine lv_iconst (v := 1) hx hb dL_tended_58 (by decide) ?_
    refine xa_ld hx hb hK hP 2 0 rfl rfl (j := 1) (by omega) (by decide) dL_tended_59 ?_
    rw [show (mf 1) = (nI nL) from hm1]
    refine lv_icmp_ge (tgt := 151) hx hb dL_tended_60 (by decide) (fun c60 => ?_) (fun c60 => ?_)
    · obtain rfl : k = nL := by omega
      have hP3 : va_P D vwCl (lw3 cI ab al am bf lg mf) H := hP.sub [0, 1, 2] rfl
      refine lv_iload hx hb dL_tended_151 (lv_at hl 3 rfl) ?_
      exact g_ret (v := (tdC σ t (bal σ t) k)) lg hx hb hr hlocks hH hS hP3 ⟨rfl, tl_end hI hR h1 h2⟩ dL_tended_153 (Nat.le_of_ble_eq_true rfl) (Nat.le_of_ble_eq_true rfl)
    · exact absurd (nI_le (a := nL) (b := k) (by omega) (by omega)) c60
  | succ n ih =>
    intro k zf lg H locs ls hk hz h1 h2 hP hD hS hl
    refine lv_iload hx hb dL_tended_55 (lv_at hl 0 rfl) ?_
    refine lv_aload_n hx hb dL_tended_57 rfl (lv_at hl 6 rfl) ?_
    refine lv_iconst (v := 1) hx hb dL_tended_58 (by decide) ?_
    refine xa_ld hx hb hK hP 2 0 rfl rfl (j := 1) (by omega) (by decide) dL_tended_59 ?_
    rw [show (mf 1) = (nI nL) from hm1]
    refine lv_icmp_ge (tgt := 151) hx hb dL_tended_60 (by decide) (fun c60 => ?_) (fun c60 => ?_)
    · exact absurd c60 (nI_ge (a := k) (b := nL) (by omega) (by omega))
    · have hk1 : k < nL := by omega
      obtain ⟨-, e2, e3, e4, e5⟩ := hRl k hk1
      have q12 : tdS σ t (bal σ t) k k = σ 12 k := tdS_hi k k (Nat.le_refl k)
      refine lv_aload_n hx hb dL_tended_63 rfl (lv_at hl 5 rfl) ?_
      refine lv_bipush (v := 6) hx hb dL_tended_64 (by decide) ?_
      refine lv_iload hx hb dL_tended_66 (lv_at hl 0 rfl) ?_
      refine lv_imul hx hb dL_tended_68 ?_
      refine lv_topi (fun y9 e9 => ?_)
      rw [show y9 = (nI (6 * k)) from e9.trans (pk_mul 6 k)]
      refine lv_iconst (v := 5) hx hb dL_tended_69 (by decide) ?_
      refine lv_iadd hx hb dL_tended_70 ?_
      refine lv_topi (fun y9 e9 => ?_)
      rw [show y9 = (nI (6 * k + 5)) from e9.trans (nI_add (6 * k) 5)]
      refine xa_ld hx hb hK hP 1 0 rfl rfl (j := (6 * k + 5)) (by omega) (by decide) dL_tended_71 ?_
      rw [show (lg (6 * k + 5)) = (lf (6 * k + 5)) from h1 _ (by omega)]
      refine lv_if_ne (tgt := 96) hx hb dL_tended_72 (by decide) (fun c72 => ?_) (fun c72 => ?_)
      · have q0 : σ 13 k = 0 := e5.elim (fun q => absurd q.1 c72) (fun q => q.2)
        refine lv_iconst (v := 0) hx hb dL_tended_96 (by decide) ?_
        refine lv_istore (lv' := [(9, .int 0), (8, .int (nI k)), (7, .ref ao), (6, .int (bal σ t)), (5, .int (tdC σ t (bal σ t) k)), (0, .ref ab), (1, .ref al), (2, .ref am), (3, .int (ht σ t)), (4, .int (σ 2 t))]) hx hb dL_tended_97 hl (by decide) rfl (fun ls hl => ?_)
        refine lv_aload_n hx hb dL_tended_99 rfl (lv_at hl 6 rfl) ?_
        refine lv_bipush (v := 6) hx hb dL_tended_100 (by decide) ?_
        refine lv_iload hx hb dL_tended_102 (lv_at hl 1 rfl) ?_
        refine lv_imul hx hb dL_tended_104 ?_
        refine lv_topi (fun y9 e9 => ?_)
        rw [show y9 = (nI (6 * k)) from e9.trans (pk_mul 6 k)]
        refine lv_iconst (v := 4) hx hb dL_tended_105 (by decide) ?_
        refine lv_iadd hx hb dL_tended_106 ?_
        refine lv_topi (fun y9 e9 => ?_)
        rw [show y9 = (nI (6 * k + 4)) from e9.trans (nI_add (6 * k) 4)]
        refine lv_iload hx hb dL_tended_107 (lv_at hl 0 rfl) ?_
        refine lv_if_eq (tgt := 120) hx hb dL_tended_109 (by decide) (fun c109 => ?_) (fun c109 => ?_)
        · refine lv_aload_n hx hb dL_tended_120 rfl (lv_at hl 6 rfl) ?_
          refine lv_bipush (v := 6) hx hb dL_tended_121 (by decide) ?_
          refine lv_iload hx hb dL_tended_123 (lv_at hl 1 rfl) ?_
          refine lv_imul hx hb dL_tended_125 ?_
          refine lv_topi (fun y9 e9 => ?_)
          rw [show y9 = (nI (6 * k)) from e9.trans (pk_mul 6 k)]
          refine lv_iconst (v := 4) hx hb dL_tended_126 (by decide) ?_
          refine lv_iadd hx hb dL_tended_127 ?_
          refine lv_topi (fun y9 e9 => ?_)
          rw [show y9 = (nI (6 * k + 4)) from e9.trans (nI_add (6 * k) 4)]
          refine xa_ld hx hb hK hP 1 0 rfl rfl (j := (6 * k + 4)) (by omega) (by decide) dL_tended_128 ?_
          rw [show (lg (6 * k + 4)) = (σ 12 k) from (h2 k hk1).trans q12]
          refine xa_st hx hb hK hP hD hS 1 0 rfl rfl (j := (6 * k + 4)) (by omega) (by decide) dL_tended_129 (fun H locs hP hD hS => ?_)
          have hP : va_P D vwCl (lw3 cI ab al am bf (upd lg (6 * k + 4) (σ 12 k)) mf ++ [(ao, .inl (cI, 6, .inl zf))]) H := hP
          have hD : va_D A (lw3 cI ab al am bf (upd lg (6 * k + 4) (σ 12 k)) mf ++ [(ao, .inl (cI, 6, .inl zf))]) := hD
          refine lv_iload hx hb dL_tended_130 (lv_at hl 4 rfl) ?_
          refine lv_iload hx hb dL_tended_132 (lv_at hl 0 rfl) ?_
          refine lv_if_eq (tgt := 141) hx hb dL_tended_134 (by decide) (fun c134 => ?_) (fun c134 => ?_)
          · refine lv_iconst (v := 0) hx hb dL_tended_141 (by decide) ?_
            refine lv_iadd hx hb dL_tended_142 ?_
            refine lv_istore (lv' := [(5, .int ((tdC σ t (bal σ t) k) + 0)), (9, .int 0), (8, .int (nI k)), (7, .ref ao), (6, .int (bal σ t)), (0, .ref ab), (1, .ref al), (2, .ref am), (3, .int (ht σ t)), (4, .int (σ 2 t))]) hx hb dL_tended_143 hl (by decide) rfl (fun ls hl => ?_)
            refine lv_iinc (v := (nI (k + 1))) (lv' := [(8, .int (nI (k + 1))), (5, .int ((tdC σ t (bal σ t) k) + 0)), (9, .int 0), (7, .ref ao), (6, .int (bal σ t)), (0, .ref ab), (1, .ref al), (2, .ref am), (3, .int (ht σ t)), (4, .int (σ 2 t))]) hx hb dL_tended_145 hl (k := 2) rfl (by exact nI_add _ 1) (by decide) rfl (fun ls hl => ?_)
            refine lv_goto (tgt := 55) hx hb dL_tended_148 (by decide) ?_
            have hst := tl_step (v := (σ 12 k)) h1 h2 (by rw [td_at, if_pos q0])
            have hct : tdC σ t (bal σ t) (k + 1) = tdC σ t (bal σ t) k + 0 := by show acc _ 0 k + (if σ 13 k = 0 then 0 else if len_ σ k t (bal σ t) = σ 12 k then 0 else 1) = _; rw [if_pos q0]; rfl
            refine ih (k + 1) zf (upd lg (6 * k + 4) (σ 12 k)) H locs ls (by omega) hz hst.1 hst.2 hP hD hS (lv_sub hl [0, 3, 4, 1, 5, 6, 7, 8, 9] ?_)
            rw [hct]; rfl
          · exact absurd rfl c134
        · exact absurd rfl c109
      · have q1 : ¬ σ 13 k = 0 := e5.elim (fun q => by rw [q.2]; decide) (fun q => absurd (q.1.symm.trans c72) (by decide))
        refine lv_aload_n hx hb dL_tended_75 rfl (lv_at hl 5 rfl) ?_
        refine lv_bipush (v := 6) hx hb dL_tended_76 (by decide) ?_
        refine lv_iload hx hb dL_tended_78 (lv_at hl 0 rfl) ?_
        refine lv_imul hx hb dL_tended_80 ?_
        refine lv_topi (fun y9 e9 => ?_)
        rw [show y9 = (nI (6 * k)) from e9.trans (pk_mul 6 k)]
        refine lv_iconst (v := 4) hx hb dL_tended_81 (by decide) ?_
        refine lv_iadd hx hb dL_tended_82 ?_
        refine lv_topi (fun y9 e9 => ?_)
        rw [show y9 = (nI (6 * k + 4)) from e9.trans (nI_add (6 * k) 4)]
        refine xa_ld hx hb hK hP 1 0 rfl rfl (j := (6 * k + 4)) (by omega) (by decide) dL_tended_83 ?_
        rw [show (lg (6 * k + 4)) = (σ 12 k) from (h2 k hk1).trans q12]
        refine lv_aload hx hb dL_tended_84 (lv_at hl 1 rfl) ?_
        refine lv_iload hx hb dL_tended_86 (lv_at hl 0 rfl) ?_
        refine xa_ld hx hb hK hP 3 0 rfl rfl (j := k) (by omega) (by decide) dL_tended_88 ?_
        rw [show (zf k) = (len_ σ k t (bal σ t)) from hz k hk1]
        refine lv_icmp_eq (tgt := 96) hx hb dL_tended_89 (by decide) (fun c89 => ?_) (fun c89 => ?_)
        · have qe : len_ σ k t (bal σ t) = σ 12 k := c89.symm
          refine lv_iconst (v := 0) hx hb dL_tended_96 (by decide) ?_
          refine lv_istore (lv' := [(9, .int 0), (8, .int (nI k)), (7, .ref ao), (6, .int (bal σ t)), (5, .int (tdC σ t (bal σ t) k)), (0, .ref ab), (1, .ref al), (2, .ref am), (3, .int (ht σ t)), (4, .int (σ 2 t))]) hx hb dL_tended_97 hl (by decide) rfl (fun ls hl => ?_)
          refine lv_aload_n hx hb dL_tended_99 rfl (lv_at hl 6 rfl) ?_
          refine lv_bipush (v := 6) hx hb dL_tended_100 (by decide) ?_
          refine lv_iload hx hb dL_tended_102 (lv_at hl 1 rfl) ?_
          refine lv_imul hx hb dL_tended_104 ?_
          refine lv_topi (fun y9 e9 => ?_)
          rw [show y9 = (nI (6 * k)) from e9.trans (pk_mul 6 k)]
          refine lv_iconst (v := 4) hx hb dL_tended_105 (by decide) ?_
          refine lv_iadd hx hb dL_tended_106 ?_
          refine lv_topi (fun y9 e9 => ?_)
          rw [show y9 = (nI (6 * k + 4)) from e9.trans (nI_add (6 * k) 4)]
          refine lv_iload hx hb dL_tended_107 (lv_at hl 0 rfl) ?_
          refine lv_if_eq (tgt := 120) hx hb dL_tended_109 (by decide) (fun c109 => ?_) (fun c109 => ?_)
          · refine lv_aload_n hx hb dL_tended_120 rfl (lv_at hl 6 rfl) ?_
            refine lv_bipush (v := 6) hx hb dL_tended_121 (by decide) ?_
            refine lv_iload hx hb dL_tended_123 (lv_at hl 1 rfl) ?_
            refine lv_imul hx hb dL_tended_125 ?_
            refine lv_topi (fun y9 e9 => ?_)
            rw [show y9 = (nI (6 * k)) from e9.trans (pk_mul 6 k)]
            refine lv_iconst (v := 4) hx hb dL_tended_126 (by decide) ?_
            refine lv_iadd hx hb dL_tended_127 ?_
            refine lv_topi (fun y9 e9 => ?_)
            rw [show y9 = (nI (6 * k + 4)) from e9.trans (nI_add (6 * k) 4)]
            refine xa_ld hx hb hK hP 1 0 rfl rfl (j := (6 * k + 4)) (by omega) (by decide) dL_tended_128 ?_
            rw [show (lg (6 * k + 4)) = (σ 12 k) from (h2 k hk1).trans q12]
            refine xa_st hx hb hK hP hD hS 1 0 rfl rfl (j := (6 * k + 4)) (by omega) (by decide) dL_tended_129 (fun H locs hP hD hS => ?_)
            have hP : va_P D vwCl (lw3 cI ab al am bf (upd lg (6 * k + 4) (σ 12 k)) mf ++ [(ao, .inl (cI, 6, .inl zf))]) H := hP
            have hD : va_D A (lw3 cI ab al am bf (upd lg (6 * k + 4) (σ 12 k)) mf ++ [(ao, .inl (cI, 6, .inl zf))]) := hD
            refine lv_iload hx hb dL_tended_130 (lv_at hl 4 rfl) ?_
            refine lv_iload hx hb dL_tended_132 (lv_at hl 0 rfl) ?_
            refine lv_if_eq (tgt := 141) hx hb dL_tended_134 (by decide) (fun c134 => ?_) (fun c134 => ?_)
            · refine lv_iconst (v := 0) hx hb dL_tended_141 (by decide) ?_
              refine lv_iadd hx hb dL_tended_142 ?_
              refine lv_istore (lv' := [(5, .int ((tdC σ t (bal σ t) k) + 0)), (9, .int 0), (8, .int (nI k)), (7, .ref ao), (6, .int (bal σ t)), (0, .ref ab), (1, .ref al), (2, .ref am), (3, .int (ht σ t)), (4, .int (σ 2 t))]) hx hb dL_tended_143 hl (by decide) rfl (fun ls hl => ?_)
              refine lv_iinc (v := (nI (k + 1))) (lv' := [(8, .int (nI (k + 1))), (5, .int ((tdC σ t (bal σ t) k) + 0)), (9, .int 0), (7, .ref ao), (6, .int (bal σ t)), (0, .ref ab), (1, .ref al), (2, .ref am), (3, .int (ht σ t)), (4, .int (σ 2 t))]) hx hb dL_tended_145 hl (k := 2) rfl (by exact nI_add _ 1) (by decide) rfl (fun ls hl => ?_)
              refine lv_goto (tgt := 55) hx hb dL_tended_148 (by decide) ?_
              have hst := tl_step (v := (σ 12 k)) h1 h2 (by rw [td_at, if_neg q1, qe])
              have hct : tdC σ t (bal σ t) (k + 1) = tdC σ t (bal σ t) k + 0 := by show acc _ 0 k + (if σ 13 k = 0 then 0 else if len_ σ k t (bal σ t) = σ 12 k then 0 else 1) = _; rw [if_neg q1, if_pos qe]; rfl
              refine ih (k + 1) zf (upd lg (6 * k + 4) (σ 12 k)) H locs ls (by omega) hz hst.1 hst.2 hP hD hS (lv_sub hl [0, 3, 4, 1, 5, 6, 7, 8, 9] ?_)
              rw [hct]; rfl
            · exact absurd rfl c134
          · exact absurd rfl c109
        · have qn : ¬ len_ σ k t (bal σ t) = σ 12 k := fun q => c89 q.symm
          refine lv_iconst (v := 1) hx hb dL_tended_92 (by decide) ?_
          refine lv_goto (tgt := 97) hx hb dL_tended_93 (by decide) ?_
          refine lv_istore (lv' := [(9, .int 1), (8, .int (nI k)), (7, .ref ao), (6, .int (bal σ t)), (5, .int (tdC σ t (bal σ t) k)), (0, .ref ab), (1, .ref al), (2, .ref am), (3, .int (ht σ t)), (4, .int (σ 2 t))]) hx hb dL_tended_97 hl (by decide) rfl (fun ls hl => ?_)
          refine lv_aload_n hx hb dL_tended_99 rfl (lv_at hl 6 rfl) ?_
          refine lv_bipush (v := 6) hx hb dL_tended_100 (by decide) ?_
          refine lv_iload hx hb dL_tended_102 (lv_at hl 1 rfl) ?_
          refine lv_imul hx hb dL_tended_104 ?_
          refine lv_topi (fun y9 e9 => ?_)
          rw [show y9 = (nI (6 * k)) from e9.trans (pk_mul 6 k)]
          refine lv_iconst (v := 4) hx hb dL_tended_105 (by decide) ?_
          refine lv_iadd hx hb dL_tended_106 ?_
          refine lv_topi (fun y9 e9 => ?_)
          rw [show y9 = (nI (6 * k + 4)) from e9.trans (nI_add (6 * k) 4)]
          refine lv_iload hx hb dL_tended_107 (lv_at hl 0 rfl) ?_
          refine lv_if_eq (tgt := 120) hx hb dL_tended_109 (by decide) (fun c109 => ?_) (fun c109 => ?_)
          · exact absurd c109 (by decide)
          · refine lv_aload hx hb dL_tended_112 (lv_at hl 2 rfl) ?_
            refine lv_iload hx hb dL_tended_114 (lv_at hl 1 rfl) ?_
            refine xa_ld hx hb hK hP 3 0 rfl rfl (j := k) (by omega) (by decide) dL_tended_116 ?_
            rw [show (zf k) = (len_ σ k t (bal σ t)) from hz k hk1]
            refine lv_goto (tgt := 129) hx hb dL_tended_117 (by decide) ?_
            refine xa_st hx hb hK hP hD hS 1 0 rfl rfl (j := (6 * k + 4)) (by omega) (by decide) dL_tended_129 (fun H locs hP hD hS => ?_)
            have hP : va_P D vwCl (lw3 cI ab al am bf (upd lg (6 * k + 4) (len_ σ k t (bal σ t))) mf ++ [(ao, .inl (cI, 6, .inl zf))]) H := hP
            have hD : va_D A (lw3 cI ab al am bf (upd lg (6 * k + 4) (len_ σ k t (bal σ t))) mf ++ [(ao, .inl (cI, 6, .inl zf))]) := hD
            refine lv_iload hx hb dL_tended_130 (lv_at hl 4 rfl) ?_
            refine lv_iload hx hb dL_tended_132 (lv_at hl 0 rfl) ?_
            refine lv_if_eq (tgt := 141) hx hb dL_tended_134 (by decide) (fun c134 => ?_) (fun c134 => ?_)
            · exact absurd c134 (by decide)
            · refine lv_iconst (v := 1) hx hb dL_tended_137 (by decide) ?_
              refine lv_goto (tgt := 142) hx hb dL_tended_138 (by decide) ?_
              refine lv_iadd hx hb dL_tended_142 ?_
              refine lv_istore (lv' := [(5, .int ((tdC σ t (bal σ t) k) + 1)), (9, .int 1), (8, .int (nI k)), (7, .ref ao), (6, .int (bal σ t)), (0, .ref ab), (1, .ref al), (2, .ref am), (3, .int (ht σ t)), (4, .int (σ 2 t))]) hx hb dL_tended_143 hl (by decide) rfl (fun ls hl => ?_)
              refine lv_iinc (v := (nI (k + 1))) (lv' := [(8, .int (nI (k + 1))), (5, .int ((tdC σ t (bal σ t) k) + 1)), (9, .int 1), (7, .ref ao), (6, .int (bal σ t)), (0, .ref ab), (1, .ref al), (2, .ref am), (3, .int (ht σ t)), (4, .int (σ 2 t))]) hx hb dL_tended_145 hl (k := 2) rfl (by exact nI_add _ 1) (by decide) rfl (fun ls hl => ?_)
              refine lv_goto (tgt := 55) hx hb dL_tended_148 (by decide) ?_
              have hst := tl_step (v := (len_ σ k t (bal σ t))) h1 h2 (by rw [td_at, if_neg q1])
              have hct : tdC σ t (bal σ t) (k + 1) = tdC σ t (bal σ t) k + 1 := by show acc _ 0 k + (if σ 13 k = 0 then 0 else if len_ σ k t (bal σ t) = σ 12 k then 0 else 1) = _; rw [if_neg q1, if_neg qn]; rfl
              refine ih (k + 1) zf (upd lg (6 * k + 4) (len_ σ k t (bal σ t))) H locs ls (by omega) hz hst.1 hst.2 hP hD hS (lv_sub hl [0, 3, 4, 1, 5, 6, 7, 8, 9] ?_)
              rw [hct]; rfl
end
section
/-! The law: plan. -/
abbrev lw6 (cI : ClassId) (ab al at9 aw ap am : Nat) (bf lf tf wf pf mf : Nat → Int32) : va_W := [(ab, .inl (cI, 8, .inl bf)), (al, .inl (cI, 36, .inl lf)), (at9, .inl (cI, 48, .inl tf)), (aw, .inl (cI, 48, .inl wf)), (ap, .inl (cI, 48, .inl pf)), (am, .inl (cI, 3, .inl mf))]
set_option maxHeartbeats 4000000 in
set_option maxRecDepth 100000 in
theorem c_L_plan (l : Launch) (D : va_G) (cI : ClassId) (ab al at9 aw ap am : Nat) (bf lf mf : Nat → Int32) (Hi : Heap) (A : Nat → Prop) (σ : St) {nL nB : Nat} (hI : inv σ nL nB) (hR : lrel σ nL nB bf lf mf) (f u : Nat) (hf : f ≤ u) (hu : u < 48) (hD : va_D A (lw6 cI ab al at9 aw ap am bf lf (σ 0) (σ 1) (σ 2) mf)) (hA : ∀ q, Hi.size ≤ q → A q) : gM l yL_plan wsL_plan ({ frames := 7, cells := 49, slots := 324, locals := 191 }) [.ref ab, .ref al, .ref at9, .ref aw, .ref ap, .ref am, .int (nI f), .int (nI u)] D (lw6 cI ab al at9 aw ap am bf lf (σ 0) (σ 1) (σ 2) mf) (tyI cI) Hi (S := Unit) (fun _ => (lw6 cI ab al at9 aw ap am bf lf (σ 0) (σ 1) (σ 2) mf)) (fun r _ => r = plR (u + 1 - f) σ f 0) A 49 324 := by
  refine g_of (cc := cL_plan) (maxL := 12) (ret := some .int) (by decide) rfl (Nat.le_of_ble_eq_true rfl) ?_
  intro p e s m args below meth c he hH hP hK ls hl
  obtain ⟨hx, hb, hr, hml, hown, hts, hlocks⟩ := he
  have hown : s.vm.findClass RL = some m.cls := hown
  have hS : va_S A Hi Hi [] := va_S.rf
  have hl : lv_has ls 12 [(0, .ref ab), (1, .ref al), (2, .ref at9), (3, .ref aw), (4, .ref ap), (5, .ref am), (6, .int (nI f)), (7, .int (nI u))] := hl
  refine lv_bipush (v := 36) hx hb dL_plan_0 (by decide) ?_
  refine va_newa (atype := .int) (ty := .int) (N' := 36) (a0 := (36, .inl (fun _ => 0))) hx hb (hts (.arrayClass .int) (by decide +kernel)) rfl hK hP hD hS hA (fun _ => rfl) (by decide) (by decide) (by decide) (Nat.le_of_ble_eq_true rfl) (Nat.le_of_ble_eq_true rfl) dL_plan_2 (fun ac cJ H hK2 hP hD hS => ?_)
  obtain rfl : cI = cJ := va_sameI hK2 0 1 rfl rfl
  refine lv_astore (lv' := [(8, .ref ac), (0, .ref ab), (1, .ref al), (2, .ref at9), (3, .ref aw), (4, .ref ap), (5, .ref am), (6, .int (nI f)), (7, .int (nI u))]) hx hb dL_plan_4 hl (by decide) rfl (fun ls hl => ?_)
  refine lv_iconst (v := 0) hx hb dL_plan_6 (by decide) ?_
  refine lv_istore (lv' := [(9, .int 0), (8, .ref ac), (0, .ref ab), (1, .ref al), (2, .ref at9), (3, .ref aw), (4, .ref ap), (5, .ref am), (6, .int (nI f)), (7, .int (nI u))]) hx hb dL_plan_7 hl (by decide) rfl (fun ls hl => ?_)
  refine lv_iconst (v := 0) hx hb dL_plan_9 (by decide) ?_
  refine lv_istore (lv' := [(10, .int 0), (9, .int 0), (8, .ref ac), (0, .ref ab), (1, .ref al), (2, .ref at9), (3, .ref aw), (4, .ref ap), (5, .ref am), (6, .int (nI f)), (7, .int (nI u))]) hx hb dL_plan_10 hl (by decide) rfl (fun ls hl => ?_)
  suffices K2 : ∀ (n k c9 : Nat) (σ' : St) (cf : Nat → Int32) (H : Heap) (locs : List Loc) (ls : Array Slot), k + n = u + 1 → f ≤ k → c9 ≤ k → inv σ' nL nB → lrel σ' nL nB bf cf mf → (σ' 0 = σ 0 ∧ σ' 1 = σ 1 ∧ σ' 2 = σ 2) → plR n σ' k c9 = plR (u + 1 - f) σ f 0 → va_P D vwCl (lw6 cI ab al at9 aw ap am bf lf (σ 0) (σ 1) (σ 2) mf ++ [(ac, .inl (cI, 36, .inl cf))]) H → va_D A (lw6 cI ab al at9 aw ap am bf lf (σ 0) (σ 1) (σ 2) mf ++ [(ac, .inl (cI, 36, .inl cf))]) → va_S A Hi H locs → lv_has ls 12 [(10, .int (nI k)), (9, .int (nI c9)), (8, .ref ac), (0, .ref ab), (1, .ref al), (2, .ref at9), (3, .ref aw), (4, .ref ap), (5, .ref am), (6, .int (nI f)), (7, .int (nI u))] → W p l e ({ frames := 7, cells := 49, slots := 324, locals := 191 }) s m args below meth c H locs (1 + (k - f)) (36 + 6 * (k - f)) (gQ below D (S := Unit) (fun _ => (lw6 cI ab al at9 aw ap am bf lf (σ 0) (σ 1) (σ 2) mf)) (fun r _ => r = plR (u + 1 - f) σ f 0) A 49 324 args s) (F0 m 38 ls []) by
    suffices K1 : ∀ (n k : Nat) (cf : Nat → Int32) (H : Heap) (locs : List Loc) (ls : Array Slot), k + n = 36 → (∀ i, i < k → cf i = lf i) → va_P D vwCl (lw6 cI ab al at9 aw ap am bf lf (σ 0) (σ 1) (σ 2) mf ++ [(ac, .inl (cI, 36, .inl cf))]) H → va_D A (lw6 cI ab al at9 aw ap am bf lf (σ 0) (σ 1) (σ 2) mf ++ [(ac, .inl (cI, 36, .inl cf))]) → va_S A Hi H locs → lv_has ls 12 [(10, .int (nI k)), (9, .int 0), (8, .ref ac), (0, .ref ab), (1, .ref al), (2, .ref at9), (3, .ref aw), (4, .ref ap), (5, .ref am), (6, .int (nI f)), (7, .int (nI u))] → W p l e ({ frames := 7, cells := 49, slots := 324, locals := 191 }) s m args below meth c H locs 1 36 (gQ below D (S := Unit) (fun _ => (lw6 cI ab al at9 aw ap am bf lf (σ 0) (σ 1) (σ 2) mf)) (fun r _ => r = plR (u + 1 - f) σ f 0) A 49 324 args s) (F0 m 12 ls []) by
      exact K1 36 0 _ H _ ls (by omega) (fun j hj => absurd hj (Nat.not_lt_zero j)) hP hD hS (lv_sub hl [0, 1, 2, 3, 4, 5, 6, 7, 8, 9, 10] rfl)
    intro n
    induction n with
    | zero =>
        intro k cf H locs ls hk hz hP hD hS hl
        refine lv_iload hx hb dL_plan_12 (lv_at hl 0 rfl) ?_
        refine lv_bipush (v := 36) hx hb dL_plan_14 (by decide) ?_
        refine lv_icmp_ge (tgt := 34) hx hb dL_plan_16 (by decide) (fun c16 => ?_) (fun c16 => ?_)
        · refine lv_iload hx hb dL_plan_34 (lv_at hl 9 rfl) ?_
          refine lv_istore (lv' := [(10, .int (nI f)), (9, .int 0), (8, .ref ac), (0, .ref ab), (1, .ref al), (2, .ref at9), (3, .ref aw), (4, .ref ap), (5, .ref am), (6, .int (nI f)), (7, .int (nI u))]) hx hb dL_plan_36 hl (by decide) rfl (fun ls hl => ?_)
          have K3 := K2 (u + 1 - f) f 0 σ cf H locs _ (by omega) (Nat.le_refl f) (Nat.zero_le f) hI (lrel_cp hR (fun i hi => hz i (by omega))) ⟨rfl, rfl, rfl⟩ rfl hP hD hS (lv_sub hl [0, 1, 2, 3, 4, 5, 6, 7, 8, 9, 10] rfl)
          rw [Nat.sub_self] at K3
          exact K3
        · exact absurd (nI_le (a := 36) (b := k) (by omega) (by omega)) c16
    | succ n ih =>
        intro k cf H locs ls hk hz hP hD hS hl
        refine lv_iload hx hb dL_plan_12 (lv_at hl 0 rfl) ?_
        refine lv_bipush (v := 36) hx hb dL_plan_14 (by decide) ?_
        refine lv_icmp_ge (tgt := 34) hx hb dL_plan_16 (by decide) (fun c16 => ?_) (fun c16 => ?_)
        · exact absurd c16 (nI_ge (a := k) (b := 36) (by omega) (by omega))
        · refine lv_aload hx hb dL_plan_19 (lv_at hl 2 rfl) ?_
          refine lv_iload hx hb dL_plan_21 (lv_at hl 0 rfl) ?_
          refine lv_aload_n hx hb dL_plan_23 rfl (lv_at hl 4 rfl) ?_
          refine lv_iload hx hb dL_plan_24 (lv_at hl 0 rfl) ?_
          refine xa_ld hx hb hK hP 1 0 rfl rfl (j := k) (by omega) (by decide) dL_plan_26 ?_
          refine xa_st hx hb hK hP hD hS 6 0 rfl rfl (j := k) (by omega) (by decide) dL_plan_27 (fun H locs hP hD hS => ?_)
          have hP : va_P D vwCl (lw6 cI ab al at9 aw ap am bf lf (σ 0) (σ 1) (σ 2) mf ++ [(ac, .inl (cI, 36, .inl (upd cf k (lf k))))]) H := hP
          have hD : va_D A (lw6 cI ab al at9 aw ap am bf lf (σ 0) (σ 1) (σ 2) mf ++ [(ac, .inl (cI, 36, .inl (upd cf k (lf k))))]) := hD
          refine lv_iinc (v := (nI (k + 1))) (lv' := [(10, .int (nI (k + 1))), (9, .int 0), (8, .ref ac), (0, .ref ab), (1, .ref al), (2, .ref at9), (3, .ref aw), (4, .ref ap), (5, .ref am), (6, .int (nI f)), (7, .int (nI u))]) hx hb dL_plan_28 hl (k := 0) rfl (by exact nI_add _ 1) (by decide) rfl (fun ls hl => ?_)
          refine lv_goto (tgt := 12) hx hb dL_plan_31 (by decide) ?_
          exact ih (k + 1) (upd cf k (lf k)) H locs ls (by omega) (fun i hi => by by_cases q : i = k; rw [q, pk_us]; rw [pk_un q]; exact hz i (by omega)) hP hD hS (lv_sub hl [0, 1, 2, 3, 4, 5, 6, 7, 8, 9, 10] rfl)
  intro n
  induction n with
  | zero =>
    intro k c9 σ' cf H locs ls hk hfk hck hI' hR' h0 hpl hP hD hS hl
    refine lv_iload hx hb dL_plan_38 (lv_at hl 0 rfl) ?_
    refine lv_iload hx hb dL_plan_40 (lv_at hl 10 rfl) ?_
    refine lv_icmp_gt (tgt := 123) hx hb dL_plan_42 (by decide) (fun c42 => ?_) (fun c42 => ?_)
    · have hP6 : va_P D vwCl (lw6 cI ab al at9 aw ap am bf lf (σ 0) (σ 1) (σ 2) mf) H := hP.sub [0, 1, 2, 3, 4, 5] rfl
      refine lv_iload hx hb dL_plan_123 (lv_at hl 1 rfl) ?_
      exact g_ret (v := (nI c9)) () hx hb hr hlocks hH hS hP6 (by rw [← hpl]; rfl) dL_plan_125 (by omega) (by omega)
    · exact absurd (nI_lt (a := u) (b := k) (by omega) (by omega)) c42
  | succ n ih =>
    intro k c9 σ' cf H locs ls hk hfk hck hI' hR' h0 hpl hP hD hS hl
    refine lv_iload hx hb dL_plan_38 (lv_at hl 0 rfl) ?_
    refine lv_iload hx hb dL_plan_40 (lv_at hl 10 rfl) ?_
    refine lv_icmp_gt (tgt := 123) hx hb dL_plan_42 (by decide) (fun c42 => ?_) (fun c42 => ?_)
    · exact absurd c42 (nI_nlt (by omega) (by omega))
    · have hk48 : k < 48 := by omega
      obtain ⟨h00, h01, h02⟩ := id h0
      have hP3 : va_P D vwCl (lw3 cI ab ac am bf cf mf) H := hP.sub [0, 6, 5] rfl
      refine lv_sipush (v := 300) hx hb dL_plan_45 (by decide) ?_
      refine lv_aload_n hx hb dL_plan_48 rfl (lv_at hl 5 rfl) ?_
      refine lv_iload hx hb dL_plan_49 (lv_at hl 0 rfl) ?_
      refine xa_ld hx hb hK hP 2 0 rfl rfl (j := k) (by omega) (by decide) dL_plan_51 ?_
      rw [show ((σ 0) k) = (σ' 0 k) from (congrFun h00 k).symm]
      refine lv_iadd hx hb dL_plan_52 ?_
      refine lv_aload_n hx hb dL_plan_53 rfl (lv_at hl 6 rfl) ?_
      refine lv_iload hx hb dL_plan_54 (lv_at hl 0 rfl) ?_
      refine xa_ld hx hb hK hP 3 0 rfl rfl (j := k) (by omega) (by decide) dL_plan_56 ?_
      rw [show ((σ 1) k) = (σ' 1 k) from (congrFun h01 k).symm]
      refine lv_iadd hx hb dL_plan_57 ?_
      refine lv_topi (fun y9 e9 => ?_)
      rw [show y9 = (ht σ' k) from e9.trans (rfl)]
      refine lv_istore (lv' := [(11, .int (ht σ' k)), (10, .int (nI k)), (9, .int (nI c9)), (8, .ref ac), (0, .ref ab), (1, .ref al), (2, .ref at9), (3, .ref aw), (4, .ref ap), (5, .ref am), (6, .int (nI f)), (7, .int (nI u))]) hx hb dL_plan_58 hl (by decide) rfl (fun ls hl => ?_)
      refine lv_aload_n hx hb dL_plan_60 rfl (lv_at hl 4 rfl) ?_
      refine lv_aload hx hb dL_plan_61 (lv_at hl 3 rfl) ?_
      refine lv_aload hx hb dL_plan_63 (lv_at hl 9 rfl) ?_
      refine lv_iload hx hb dL_plan_65 (lv_at hl 0 rfl) ?_
      refine lv_aload hx hb dL_plan_67 (lv_at hl 8 rfl) ?_
      refine lv_iload hx hb dL_plan_69 (lv_at hl 1 rfl) ?_
      refine xa_ld hx hb hK hP 4 0 rfl rfl (j := k) (by omega) (by decide) dL_plan_71 ?_
      rw [show ((σ 2) k) = (σ' 2 k) from (congrFun h02 k).symm]
      refine ro_callS 5 hx hb hml hown hts hl.1 hP3 hK (As := [.ref ab, .ref ac, .ref am, .int (ht σ' k), .int (σ' 2 k)]) (rest := []) (c_L_isSafe l D cI ab ac am bf cf mf H σ' hI' hR' k hk48) gL_plan_L_isSafe rfl rfl rfl (by decide +kernel) ⟨Nat.le_of_ble_eq_true rfl, Nat.le_of_ble_eq_true rfl⟩ rfl rfl (Nat.le_of_ble_eq_true rfl) dL_plan_72 ⟨by show 1 + (k - f) ≤ 49; omega, by show 36 + 6 * (k - f) ≤ 324; omega⟩ (fun r1 hr1 => ?_)
      subst hr1
      refine lv_if_ne (tgt := 117) hx hb dL_plan_75 (by decide) (fun c75 => ?_) (fun c75 => ?_)
      · refine lv_iinc (v := (nI (k + 1))) (lv' := [(10, .int (nI (k + 1))), (11, .int (ht σ' k)), (9, .int (nI c9)), (8, .ref ac), (0, .ref ab), (1, .ref al), (2, .ref at9), (3, .ref aw), (4, .ref ap), (5, .ref am), (6, .int (nI f)), (7, .int (nI u))]) hx hb dL_plan_117 hl (k := 1) rfl (by exact nI_add _ 1) (by decide) rfl (fun ls hl => ?_)
        refine lv_goto (tgt := 38) hx hb dL_plan_120 (by decide) ?_
        refine W.widen (k := 1 + (k + 1 - f)) (n := 36 + 6 * (k + 1 - f)) (by omega) (by omega) ?_
        exact ih (k + 1) c9 σ' cf H locs ls (by omega) (by omega) (by omega) hI' hR' h0 (by rw [← hpl]; show _ = (if safe_ σ' k = true then plR n σ' (k + 1) c9 else _); rw [if_pos (bI_t c75)]) hP hD hS (lv_sub hl [0, 2, 3, 4, 5, 6, 7, 8, 9, 10, 11] rfl)
      · have hns : ¬ safe_ σ' k = true := by rw [bI_f c75]; decide
        refine lv_aload_n hx hb dL_plan_78 rfl (lv_at hl 4 rfl) ?_
        refine lv_aload hx hb dL_plan_79 (lv_at hl 3 rfl) ?_
        refine lv_aload hx hb dL_plan_81 (lv_at hl 9 rfl) ?_
        refine lv_iload hx hb dL_plan_83 (lv_at hl 0 rfl) ?_
        refine lv_aload hx hb dL_plan_85 (lv_at hl 8 rfl) ?_
        refine lv_iload hx hb dL_plan_87 (lv_at hl 1 rfl) ?_
        refine xa_ld hx hb hK hP 4 0 rfl rfl (j := k) (by omega) (by decide) dL_plan_89 ?_
        rw [show ((σ 2) k) = (σ' 2 k) from (congrFun h02 k).symm]
        have hD3 : va_D A (lw3 cI ab ac am bf cf mf) := hD.sub [0, 6, 5] (by decide) rfl
        have hF3 : ∀ q, va_A (lw3 cI ab ac am bf cf mf) H.size q → A q := va_free hD hS hA [0, 6, 5] rfl
        refine g_callS 5 hx hb hml hown hts hl.1 hP3 hK hS hF3 (As := [.ref ab, .ref ac, .ref am, .int (ht σ' k), .int (σ' 2 k)]) (rest := []) (c_L_tended l D cI ab ac am bf cf mf H (va_A (lw3 cI ab ac am bf cf mf) H.size) hD3.self (fun q hq => Or.inr hq) σ' hI' hR' k hk48) gL_plan_L_tended rfl rfl rfl (by decide +kernel) ⟨Nat.le_of_ble_eq_true rfl, Nat.le_of_ble_eq_true rfl⟩ rfl rfl (Nat.le_of_ble_eq_true rfl) dL_plan_90 ⟨by show 1 + (k - f) + 1 ≤ 49; omega, by show 36 + 6 * (k - f) + 6 ≤ 324; omega⟩ (fun r2 cg H1 locs1 hp2 hP4 hS hz2 hk2 => ?_)
        obtain ⟨-, hR2⟩ := hp2
        have hD4 : va_D (va_A (lw3 cI ab ac am bf cf mf) H.size) (lw3 cI ab ac am bf cg mf) := va_D_ad (W := lw3 cI ab ac am bf cf mf) rfl hD3.self
        have hj := va_join hP hD [0, 6, 5] [1, 2, 3, 4] (wc := lw3 cI ab ac am bf cf mf) (wr := [(al, .inl (cI, 36, .inl lf)), (at9, .inl (cI, 48, .inl (σ 0))), (aw, .inl (cI, 48, .inl (σ 1))), (ap, .inl (cI, 48, .inl (σ 2)))]) rfl rfl (by decide) (by decide) hk2 hF3 hP4 hD4
        have hP : va_P D vwCl (lw6 cI ab al at9 aw ap am bf lf (σ 0) (σ 1) (σ 2) mf ++ [(ac, .inl (cI, 36, .inl cg))]) H1 := hj.1.sub [4, 0, 1, 2, 3, 6, 5] rfl
        have hD : va_D A (lw6 cI ab al at9 aw ap am bf lf (σ 0) (σ 1) (σ 2) mf ++ [(ac, .inl (cI, 36, .inl cg))]) := hj.2.sub [4, 0, 1, 2, 3, 6, 5] (by decide) rfl
        have hI2 : inv (tnd σ' k) nL nB := inv_tnd hI' hk48
        have hP3 : va_P D vwCl (lw3 cI ab ac am bf cg mf) H1 := hP.sub [0, 6, 5] rfl
        refine lv_pop hx hb dL_plan_93 rfl ?_
        refine lv_iinc (v := (nI (c9 + 1))) (lv' := [(9, .int (nI (c9 + 1))), (11, .int (ht σ' k)), (10, .int (nI k)), (8, .ref ac), (0, .ref ab), (1, .ref al), (2, .ref at9), (3, .ref aw), (4, .ref ap), (5, .ref am), (6, .int (nI f)), (7, .int (nI u))]) hx hb dL_plan_94 hl (k := 2) rfl (by exact nI_add _ 1) (by decide) rfl (fun ls hl => ?_)
        refine lv_aload_n hx hb dL_plan_97 rfl (lv_at hl 4 rfl) ?_
        refine lv_aload hx hb dL_plan_98 (lv_at hl 3 rfl) ?_
        refine lv_aload hx hb dL_plan_100 (lv_at hl 9 rfl) ?_
        refine lv_iload hx hb dL_plan_102 (lv_at hl 1 rfl) ?_
        refine lv_aload hx hb dL_plan_104 (lv_at hl 8 rfl) ?_
        refine lv_iload hx hb dL_plan_106 (lv_at hl 2 rfl) ?_
        refine xa_ld hx hb hK hP 4 0 rfl rfl (j := k) (by omega) (by decide) dL_plan_108 ?_
        rw [show ((σ 2) k) = (σ' 2 k) from (congrFun h02 k).symm]
        refine ro_callS 5 hx hb hml hown hts hl.1 hP3 hK (As := [.ref ab, .ref ac, .ref am, .int (ht σ' k), .int (σ' 2 k)]) (rest := []) (c_L_isSafe l D cI ab ac am bf cg mf H1 (tnd σ' k) hI2 hR2 k hk48) gL_plan_L_isSafe rfl rfl rfl (by decide +kernel) ⟨Nat.le_of_ble_eq_true rfl, Nat.le_of_ble_eq_true rfl⟩ rfl rfl (Nat.le_of_ble_eq_true rfl) dL_plan_109 ⟨by show 1 + (k - f) + 1 ≤ 49; omega, by show 36 + 6 * (k - f) + 6 ≤ 324; omega⟩ (fun r3 hr3 => ?_)
        subst hr3
        refine lv_if_ne (tgt := 117) hx hb dL_plan_112 (by decide) (fun c112 => ?_) (fun c112 => ?_)
        · refine lv_iinc (v := (nI (k + 1))) (lv' := [(10, .int (nI (k + 1))), (9, .int (nI (c9 + 1))), (11, .int (ht σ' k)), (8, .ref ac), (0, .ref ab), (1, .ref al), (2, .ref at9), (3, .ref aw), (4, .ref ap), (5, .ref am), (6, .int (nI f)), (7, .int (nI u))]) hx hb dL_plan_117 hl (k := 2) rfl (by exact nI_add _ 1) (by decide) rfl (fun ls hl => ?_)
          refine lv_goto (tgt := 38) hx hb dL_plan_120 (by decide) ?_
          refine W.widen (k := 1 + (k + 1 - f)) (n := 36 + 6 * (k + 1 - f)) (by omega) (by omega) ?_
          exact ih (k + 1) (c9 + 1) (tnd σ' k) cg H1 locs1 ls (by omega) (by omega) (by omega) hI2 hR2 h0 (by rw [← hpl]; show _ = (if safe_ σ' k = true then _ else if safe_ (tnd σ' k) k = true then plR n (tnd σ' k) (k + 1) (c9 + 1) else -1); rw [if_neg hns, if_pos (bI_t c112)]) hP hD hS (lv_sub hl [0, 1, 3, 4, 5, 6, 7, 8, 9, 10, 11] rfl)
        · have hP6 : va_P D vwCl (lw6 cI ab al at9 aw ap am bf lf (σ 0) (σ 1) (σ 2) mf) H1 := hP.sub [0, 1, 2, 3, 4, 5] rfl
          refine lv_iconst (v := (-1)) hx hb dL_plan_115 (by decide) ?_
          exact g_ret (v := (-1)) () hx hb hr hlocks hH hS hP6 (by rw [← hpl]; show _ = (if safe_ σ' k = true then _ else if safe_ (tnd σ' k) k = true then plR n (tnd σ' k) (k + 1) (c9 + 1) else -1); rw [if_neg hns, if_neg (by rw [bI_f c112]; decide)]) dL_plan_116 (by omega) (by omega)
end
