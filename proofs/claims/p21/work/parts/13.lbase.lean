/-! The law: contracts that may make cells (gM, hgM), void ones (rvM); calls of them. -/
def notin (W : va_W) (q : Nat) : Prop := ∀ (k : Nat) (p : Nat × va_E), W[k]? = some p → p.1 ≠ q
theorem va_P_l {D : va_G} {W1 W2 : va_W} {H : Heap} (h : va_P D vwCl (W1 ++ W2) H) : va_P D vwCl W1 H := fun k q hk => h k q (by rw [List.getElem?_append_left (List.getElem?_eq_some_iff.mp hk).1]; exact hk)
theorem va_P_r {D : va_G} {W1 W2 : va_W} {H : Heap} (h : va_P D vwCl (W1 ++ W2) H) : va_P D vwCl W2 H := fun k q hk => h (W1.length + k) q (by rw [List.getElem?_append_right (Nat.le_add_right _ _), Nat.add_sub_cancel_left]; exact hk)
theorem va_D_l {A : Nat → Prop} {W1 W2 : va_W} (h : va_D A (W1 ++ W2)) : va_D (fun q => A q ∧ notin W2 q) W1 := by
  have e : ∀ (k : Nat) (q : Nat × va_E), W1[k]? = some q → (W1 ++ W2)[k]? = some q := fun k q hk => by rw [List.getElem?_append_left (List.getElem?_eq_some_iff.mp hk).1]; exact hk
  refine ⟨fun i j p q hp hq he => h.1 i j p q (e i p hp) (e j q hq) he, fun k q hk => ⟨h.2 k q (e k q hk), fun i p hp hpq => ?_⟩⟩
  have h1 := h.1 k (W1.length + i) q p (e k q hk) (by rw [List.getElem?_append_right (Nat.le_add_right _ _), Nat.add_sub_cancel_left]; exact hp) hpq.symm
  have h2 := (List.getElem?_eq_some_iff.mp hk).1
  omega
theorem va_D_r {A : Nat → Prop} {W1 W2 : va_W} (h : va_D A (W1 ++ W2)) : va_D (fun q => A q ∧ notin W1 q) W2 := by
  have e : ∀ (k : Nat) (q : Nat × va_E), W2[k]? = some q → (W1 ++ W2)[W1.length + k]? = some q := fun k q hk => by rw [List.getElem?_append_right (Nat.le_add_right _ _), Nat.add_sub_cancel_left]; exact hk
  refine ⟨fun i j p q hp hq he => by have := h.1 _ _ p q (e i p hp) (e j q hq) he; omega, fun k q hk => ⟨h.2 _ q (e k q hk), fun i p hp hpq => ?_⟩⟩
  have h3 := (List.getElem?_eq_some_iff.mp hp).1
  have h1 := h.1 i (W1.length + k) p q (by rw [List.getElem?_append_left h3]; exact hp) (e k q hk) hpq
  omega
/-- the cells beside a callee's stay -/
theorem keepW {A : Nat → Prop} {D : va_G} {W2 : va_W} {H H1 : Heap} (hP : va_P D vwCl W2 H) (hk : ∀ q : Nat, q < H.size → ¬ (A q ∧ notin W2 q) → H1[q]? = H[q]?) : va_P D vwCl W2 H1 :=
  hP.kept (fun k q hq => hk q.1 (hP k q hq).lt (fun w => w.2 k q hq rfl))
theorem keepG {D : va_G} {W2 : va_W} {H H1 : Heap} (hP : va_P D vwCl W2 H) (hg : grew H H1) : va_P D vwCl W2 H1 :=
  hP.kept (fun k q hq => hg.2 q.1 (hP k q hq).lt)
theorem tpA_nar {A B : Nat → Prop} {H : Heap} {s : State} (h : tpA A H s) (hAB : ∀ q, B q → A q) : tpA B H s := ⟨⟨vx_Zq.narrow h.1.1 hAB, vx_Zq.narrow h.1.2 hAB⟩, h.2⟩
def rvQ (below : List Frame) (H0 : Heap) (args : Array Value) (s : State) : State → Prop := MQ below (va_Qv (fun (_ : Unit) => True) (fun _ t => t.heap = H0) (fun _ => False)) args s 0 0 (fun _ => False)
/-- a method that writes nothing and answers nothing -/
def rvM (l : Launch) (y : MethodName) (ws : List Cond) (rm : Room) (av : List Value) (D : va_G) (W0 : va_W) (tys : List (ClassId × FieldType)) (H0 : Heap) : Prop :=
  Met l y ws rm (roP av D W0 tys H0) (va_Qv (fun (_ : Unit) => True) (fun _ t => t.heap = H0) (fun _ => False)) 0 0 (fun _ => False)
/-- a method that writes among the cells of A, makes n cells of k slots, answers a number -/
def gM (l : Launch) (y : MethodName) (ws : List Cond) (rm : Room) (av : List Value) (D : va_G) (W0 : va_W) (tys : List (ClassId × FieldType)) (H0 : Heap) {S : Type} (Wf : S → va_W) (post : Int32 → S → Prop) (A : Nat → Prop) (n k : Nat) : Prop :=
  Met l y ws rm (roP av D W0 tys H0) (va_Qi post (fun u t => va_P D vwCl (Wf u) t.heap) A) n k A
def gQ (below : List Frame) (D : va_G) {S : Type} (Wf : S → va_W) (post : Int32 → S → Prop) (A : Nat → Prop) (n k : Nat) (args : Array Value) (s : State) : State → Prop := MQ below (va_Qi post (fun u t => va_P D vwCl (Wf u) t.heap) A) args s n k A
/-- the same, of a method that reaches a throw -/
def hgM (l : Launch) (y : MethodName) (ws : List Cond) (rm : Room) (av : List Value) (D : va_G) (W0 : va_W) (tys : List (ClassId × FieldType)) (H0 : Heap) {S : Type} (Wf : S → va_W) (post : Int32 → S → Prop) (A : Nat → Prop) (n k : Nat) : Prop :=
  Met l y ws rm (thP av D W0 tys H0 A) (va_Qi post (fun u t => va_P D vwCl (Wf u) t.heap) A) n k A
section
variable {l : Launch} {y : MethodName} {cc : ByteArray} {maxL : Nat} {ret : Option FieldType} {ws ws' : List Cond} {rm : Room} {av : List Value} {D : va_G} {W0 : va_W} {tys : List (ClassId × FieldType)} {H0 : Heap}
theorem rv_of (hy : plainName y.cls = true) (hw : ws = Cond.code y cc maxL ret :: ws') (hn : (lg_sl av).length ≤ maxL)
    (body : ∀ (p : Program) (e : Env) (s : State) (m : MethodId) (args : Array Value) (below : List Frame) (meth : Method) (c : Code), roE p s m meth c args y cc maxL ret ws → s.heap = H0 → va_P D vwCl W0 H0 → va_K D vwCl tys s → ∀ ls : Array Slot, lv_has ls maxL (lv_args 0 av) → W p l e rm s m args below meth c H0 [] 0 0 (rvQ below H0 args s) (F0 m 0 ls [])) : rvM l y ws rm av D W0 tys H0 := by
  refine Met.ofW (cc := cc) (maxL := maxL) (ret := ret) hy hw ?_
  intro p e s m args below meth c s₁ B hml hv
  obtain ⟨rfl, hH, hP, hK⟩ := hv
  rw [hH, lg_entry_eq]
  exact body p e s m _ below meth c ⟨B.exec, B.bytes, B.returns, hml, findClass_of_methodNamed B.named, atoms_spec (ws := ws) B.pre, B.notSynchronized⟩ hH hP hK _ (lv_entry av hn)
theorem g_of {S : Type} {Wf : S → va_W} {post : Int32 → S → Prop} {A : Nat → Prop} {nc kc : Nat} (hy : plainName y.cls = true) (hw : ws = Cond.code y cc maxL ret :: ws') (hn : (lg_sl av).length ≤ maxL)
    (body : ∀ (p : Program) (e : Env) (s : State) (m : MethodId) (args : Array Value) (below : List Frame) (meth : Method) (c : Code), roE p s m meth c args y cc maxL ret ws → s.heap = H0 → va_P D vwCl W0 H0 → va_K D vwCl tys s → ∀ ls : Array Slot, lv_has ls maxL (lv_args 0 av) → W p l e rm s m args below meth c H0 [] 0 0 (gQ below D Wf post A nc kc args s) (F0 m 0 ls [])) : gM l y ws rm av D W0 tys H0 Wf post A nc kc := by
  refine Met.ofW (cc := cc) (maxL := maxL) (ret := ret) hy hw ?_
  intro p e s m args below meth c s₁ B hml hv
  obtain ⟨rfl, hH, hP, hK⟩ := hv
  rw [hH, lg_entry_eq]
  exact body p e s m _ below meth c ⟨B.exec, B.bytes, B.returns, hml, findClass_of_methodNamed B.named, atoms_spec (ws := ws) B.pre, B.notSynchronized⟩ hH hP hK _ (lv_entry av hn)
theorem hg_of {S : Type} {Wf : S → va_W} {post : Int32 → S → Prop} {A : Nat → Prop} {nc kc : Nat} (hy : plainName y.cls = true) (hw : ws = Cond.code y cc maxL ret :: ws') (hn : (lg_sl av).length ≤ maxL)
    (body : ∀ (p : Program) (e : Env) (s : State) (m : MethodId) (args : Array Value) (below : List Frame) (meth : Method) (c : Code), roE p s m meth c args y cc maxL ret ws → s.heap = H0 → va_P D vwCl W0 H0 → va_K D vwCl tys s → tpA A H0 s → ∀ ls : Array Slot, lv_has ls maxL (lv_args 0 av) → W p l e rm s m args below meth c H0 [] 0 0 (gQ below D Wf post A nc kc args s) (F0 m 0 ls [])) : hgM l y ws rm av D W0 tys H0 Wf post A nc kc := by
  refine Met.ofW (cc := cc) (maxL := maxL) (ret := ret) hy hw ?_
  intro p e s m args below meth c s₁ B hml hv
  obtain ⟨rfl, hH, hP, hK, hT⟩ := hv
  rw [hH, lg_entry_eq]
  exact body p e s m _ below meth c ⟨B.exec, B.bytes, B.returns, hml, findClass_of_methodNamed B.named, atoms_spec (ws := ws) B.pre, B.notSynchronized⟩ hH hP hK hT _ (lv_entry av hn)
/-- a body with handlers, under any start Pc -/
theorem cw_of {S : Type} {Wf : S → va_W} {post : Int32 → S → Prop} {A : Nat → Prop} {nc kc : Nat} {hh : List (Nat × Nat × Nat × Nat)} {B0 : State → Prop} (hy : plainName y.cls = true) (hw : ws = Cond.codeWith y cc maxL ret hh :: ws') (hn : (lg_sl av).length ≤ maxL) (hB0 : ∀ U, B0 U → U.heap = H0)
    (body : ∀ (p : Program) (e : Env) (s : State) (m : MethodId) (args : Array Value) (below : List Frame) (meth : Method) (c : Code), roE p s m meth c args y cc maxL ret ws → c.exceptionTable.toList = tableOf hh → B0 s → ∀ ls : Array Slot, lv_has ls maxL (lv_args 0 av) → W p l e rm s m args below meth c H0 [] 0 0 (gQ below D Wf post A nc kc args s) (F0 m 0 ls [])) : Met l y ws rm (va_Pc av B0) (va_Qi post (fun u t => va_P D vwCl (Wf u) t.heap) A) nc kc A := by
  unfold Met
  refine MetFree.of_bodyS (code := cc) (maxLocals := maxL) (ret := ret) hy ?_ ?_
  · intro args s m h hn
    obtain ⟨m9, meth, c, hn9, h1, h2, h3, h4, -, h5, h6, -⟩ := Cond.codeWith_spec (atoms_spec (ws := ws) h _ (by rw [hw]; exact List.mem_cons_self))
    cases hn.symm.trans hn9
    exact ⟨meth, c, h1, h2, h3, h4, h5, h6⟩
  · intro p e s m args below meth c s₁ B hml hv _
    have hh0 : s₁.heap = s.heap := by rw [B.state]; rfl
    obtain ⟨rfl, hB⟩ := hv
    have hts := atoms_spec (ws := ws) B.pre
    have htab : c.exceptionTable.toList = tableOf hh := vx_table (x := y) B (hts (Cond.codeWith y cc maxL ret hh) (by rw [hw]; exact List.mem_cons_self))
    have K : W p l e rm s m av.toArray below meth c H0 [] 0 0 (gQ below D Wf post A nc kc av.toArray s) (entryFrame m av.toArray maxL) := by
      rw [lg_entry_eq]
      exact body p e s m _ below meth c ⟨B.exec, B.bytes, B.returns, hml, findClass_of_methodNamed B.named, hts, B.notSynchronized⟩ htab hB _ (lv_entry av hn)
    obtain ⟨t, a1, o, b1, b2, b3⟩ := K s₁ (hh0.trans (hB0 _ hB)) (Stand.of_body B)
    exact ⟨t, o, a1, b1, b2, ⟨b3.1, b3.2⟩⟩
end
section
variable {p : Program} {l : Launch} {e : Env} {R : Room} {s : State} {m : MethodId} {args : Array Value} {below : List Frame} {meth : Method} {c : Code} {H : Heap} {locs : List Loc} {cells slots : Nat} {Q : State → Prop}
variable {y : MethodName} {bytes cc : ByteArray} {maxL nL index : Nat} {ret : Option FieldType} {ws ws' : List Cond} {rm : Room} {Ts : List Cond} {own : String} {b : Addr} {As rest st0 : List Value} {pc : Nat} {ls : Array Slot} {D : va_G} {W0 : va_W} {tys : List (ClassId × FieldType)} {A A0 : Nat → Prop} {H0 : Heap}
theorem rv_ret (hexec : p.tables.exec = Jvm.exec) (hb : c.code = cc) (hr : meth.sig.returnType = none) (hlocks : meth.locks = false) (hH : s.heap = H) (hdg : decode cc pc = .ok (.return_, 1)) : W p l e R s m args below meth c H [] 0 0 (rvQ below H args s) (F0 m pc ls []) :=
  W.vret hexec hb hr (fun t ht _ => ⟨⟨(), rfl, trivial, ht⟩, va_F_rf hH ht⟩) (fun _ h => nomatch h) hdg hlocks
theorem g_ret {S : Type} {Wf : S → va_W} {post : Int32 → S → Prop} {nc kc : Nat} {v : Int32} (u : S) (hexec : p.tables.exec = Jvm.exec) (hb : c.code = cc) (hr : meth.sig.returnType = some .int) (hlocks : meth.locks = false) (hH : s.heap = H0) (hS : va_S A H0 H locs) (hP : va_P D vwCl (Wf u) H) (hp : post v u) (hdg : decode cc pc = .ok (.ireturn, 1)) (hc1 : cells ≤ nc) (hc2 : slots ≤ kc) : W p l e R s m args below meth c H locs cells slots (gQ below D Wf post A nc kc args s) (F0 m pc ls [.int v]) :=
  W.widen (k := nc) (n := kc) hc1 hc2 (W.iret (v := v) hexec hb hr (fun t ht _ => ⟨⟨v, u, rfl, hp, (by subst ht; exact hP)⟩, va_S.F (by rw [hH]; exact hS) ht⟩) hS.2.2 hdg hlocks)
theorem g_zret {S : Type} {Wf : S → va_W} {post : Int32 → S → Prop} {nc kc : Nat} {v : Int32} (u : S) (hexec : p.tables.exec = Jvm.exec) (hb : c.code = cc) (hr : meth.sig.returnType = some .boolean) (hlocks : meth.locks = false) (hH : s.heap = H0) (hS : va_S A H0 H locs) (hP : va_P D vwCl (Wf u) H) (hv : ∃ z : Bool, v = bI z) (hp : post v u) (hdg : decode cc pc = .ok (.ireturn, 1)) (hc1 : cells ≤ nc) (hc2 : slots ≤ kc) : W p l e R s m args below meth c H locs cells slots (gQ below D Wf post A nc kc args s) (F0 m pc ls [.int v]) :=
  W.widen (k := nc) (n := kc) hc1 hc2 (W.zret (v := v) hexec hb hr (by obtain ⟨z, rfl⟩ := hv; exact bI_narrow z) (fun t ht _ => ⟨⟨v, u, rfl, hp, (by subst ht; exact hP)⟩, va_S.F (by rw [hH]; exact hS) ht⟩) hS.2.2 hdg hlocks)
/-- a call of a void method that writes nothing -/
theorem rv_go {a : Array Value} (hr : va_Run p l e R s m args below meth c H locs cells slots 0 0 (F0 m pc ls st0) rest (va_Qv (fun (_ : Unit) => True) (fun _ t => t.heap = H) (fun _ => False) a) (fun _ => False))
    (kk : W p l e R s m args below meth c H locs cells slots Q (F0 m (pc + 3) ls rest)) : W p l e R s m args below meth c H locs cells slots Q (F0 m pc ls st0) := by
  intro T hT X
  obtain ⟨v, st₀, t, T', L, h0, X', hL, e1, e2, ⟨⟨u, hv, hp, hb⟩, hF⟩, st⟩ := hr T hT X
  cases hv
  have hL0 : L = [] := by
    cases L with
    | nil => rfl
    | cons q r => exact (hL q List.mem_cons_self).elim
  subst hL0
  rw [List.append_nil] at X'
  obtain ⟨t2, a1, b1⟩ := kk T' (e1.trans hb) X'
  exact ⟨t2, st t2 a1, b1⟩
theorem rv_callV (n : Nat) (hx : p.tables.exec = Jvm.exec) (hb : c.code = cc) (hml : c.maxLocals = nL) (hown : s.vm.findClass own = some m.cls) (hts : ∀ w ∈ Ts, w.before args s = true) (hsize : ls.size = nL)
    (hP : va_P D vwCl W0 H) (hK : va_K D vwCl tys s) (q0 ci : Nat) {q : vw_C} {fs : List Value} (hc : vwCl[ci]? = some q) (he : W0[q0]? = some (b, .inr (ci, fs))) (hM : rvM l y ws rm (.ref b :: As) D W0 tys H) (hG : GoodIn Ts (wsV own index q.1 y ws)) (hw : ws = Cond.code y bytes maxL ret :: ws') (hrc : rm.cells = 0) (hrs : rm.slots = 0)
    (hd : y.cls = q.1 ∧ y.cls ≠ "java/lang/invoke/MethodHandle" ∧ y.cls ≠ "java/lang/invoke/VarHandle" ∧ (parseMethodDescriptor y.desc).map (fun d => d.parameters.length) = some n) (hR : rm.frames + 1 ≤ R.frames ∧ 8 + (maxL + 11) + rm.locals ≤ R.locals) (hn : As.length = n) (hst : st0 = As.reverse ++ .ref b :: rest) (hW : (rest.map fun v => v.category).sum ≤ 8)
    (hdg : decode cc pc = .ok (.invokevirtual index, 3)) (hf : cells ≤ R.cells ∧ slots ≤ R.slots) (kk : W p l e R s m args below meth c H locs cells slots Q (F0 m (pc + 3) ls rest)) : W p l e R s m args below meth c H locs cells slots Q (F0 m pc ls st0) :=
  rv_go (va_runV ⟨hx, hb, hml, hown, hts⟩ hM (cwV n hts hG hw hrc hrs hd hR) ⟨roP_blind, va_recv hK hP hc he, fun U hU hWm => ⟨rfl, hU, hP, va_K.moved hWm.alike hK⟩⟩ rfl hn hsize hst (lv_room hW) hdg hf) kk
theorem rv_callS (n : Nat) (hx : p.tables.exec = Jvm.exec) (hb : c.code = cc) (hml : c.maxLocals = nL) (hown : s.vm.findClass own = some m.cls) (hts : ∀ w ∈ Ts, w.before args s = true) (hsize : ls.size = nL)
    (hP : va_P D vwCl W0 H) (hK : va_K D vwCl tys s) (hM : rvM l y ws rm As D W0 tys H) (hG : GoodIn Ts (va_wsS own index y ws)) (hw : ws = Cond.code y bytes maxL ret :: ws') (hrc : rm.cells = 0) (hrs : rm.slots = 0)
    (hd : y.cls ≠ "java/lang/invoke/MethodHandle" ∧ y.cls ≠ "java/lang/invoke/VarHandle" ∧ (parseMethodDescriptor y.desc).map (fun d => d.parameters.length) = some n) (hR : rm.frames + 1 ≤ R.frames ∧ 8 + (maxL + 11) + rm.locals ≤ R.locals) (hn : As.length = n) (hst : st0 = As.reverse ++ rest) (hW : (rest.map fun v => v.category).sum ≤ 8)
    (hdg : decode cc pc = .ok (.invokestatic index, 3)) (hf : cells ≤ R.cells ∧ slots ≤ R.slots) (kk : W p l e R s m args below meth c H locs cells slots Q (F0 m (pc + 3) ls rest)) : W p l e R s m args below meth c H locs cells slots Q (F0 m pc ls st0) :=
  rv_go (va_runS ⟨hx, hb, hml, hown, hts⟩ hM (va_cwS n hts hG hw hrc hrs hd hR) ⟨roP_blind, fun U hU hWm => ⟨rfl, hU, hP, va_K.moved hWm.alike hK⟩⟩ rfl hn hsize hst (lv_room hW) hdg hf) kk
theorem g_callS {S : Type} {Wf : S → va_W} {post : Int32 → S → Prop} {nc kc : Nat} (n : Nat) (hx : p.tables.exec = Jvm.exec) (hb : c.code = cc) (hml : c.maxLocals = nL) (hown : s.vm.findClass own = some m.cls) (hts : ∀ w ∈ Ts, w.before args s = true) (hsize : ls.size = nL)
    (hP : va_P D vwCl W0 H) (hK : va_K D vwCl tys s) (hS : va_S A0 H0 H locs) (hAA : ∀ q, A q → A0 q) (hM : gM l y ws rm As D W0 tys H Wf post A nc kc) (hG : GoodIn Ts (va_wsS own index y ws)) (hw : ws = Cond.code y bytes maxL ret :: ws') (hrc : rm.cells = nc) (hrs : rm.slots = kc)
    (hd : y.cls ≠ "java/lang/invoke/MethodHandle" ∧ y.cls ≠ "java/lang/invoke/VarHandle" ∧ (parseMethodDescriptor y.desc).map (fun d => d.parameters.length) = some n) (hR : rm.frames + 1 ≤ R.frames ∧ 8 + (maxL + 11) + rm.locals ≤ R.locals) (hn : As.length = n) (hst : st0 = As.reverse ++ rest) (hW : (rest.map fun v => v.category).sum ≤ 8)
    (hdg : decode cc pc = .ok (.invokestatic index, 3)) (hf : cells + nc ≤ R.cells ∧ slots + kc ≤ R.slots) (kk : ∀ (r : Int32) (u : S) (H1 : Heap) (locs1 : List Loc), post r u → va_P D vwCl (Wf u) H1 → va_S A0 H0 H1 locs1 → H.size ≤ H1.size → (∀ q : Nat, q < H.size → ¬ A q → H1[q]? = H[q]?) → W p l e R s m args below meth c H1 locs1 (cells + nc) (slots + kc) Q (F0 m (pc + 3) ls (.int r :: rest))) : W p l e R s m args below meth c H locs cells slots Q (F0 m pc ls st0) :=
  va_calli (va_runS ⟨hx, hb, hml, hown, hts⟩ hM (va_cwS n hts hG hw hrc hrs hd hR) ⟨roP_blind, fun U hU hWm => ⟨rfl, hU, hP, va_K.moved hWm.alike hK⟩⟩ rfl hn hsize hst (lv_room hW) hdg hf) hS (fun q _ h => hAA q h) hAA (fun r u t H1 locs1 ht _ hp hB hz hk hS1 => kk r u H1 locs1 hp (by rw [← ht]; exact hB) hS1 hz hk)
theorem hg_callS {S : Type} {Wf : S → va_W} {post : Int32 → S → Prop} {nc kc : Nat} (n : Nat) (hx : p.tables.exec = Jvm.exec) (hb : c.code = cc) (hml : c.maxLocals = nL) (hown : s.vm.findClass own = some m.cls) (hts : ∀ w ∈ Ts, w.before args s = true) (hsize : ls.size = nL)
    (hP : va_P D vwCl W0 H) (hK : va_K D vwCl tys s) (hT : tpA A H s) (hS : va_S A0 H0 H locs) (hAA : ∀ q, A q → A0 q) (hM : hgM l y ws rm As D W0 tys H Wf post A nc kc) (hG : GoodIn Ts (va_wsS own index y ws)) (hw : ws = Cond.code y bytes maxL ret :: ws') (hrc : rm.cells = nc) (hrs : rm.slots = kc)
    (hd : y.cls ≠ "java/lang/invoke/MethodHandle" ∧ y.cls ≠ "java/lang/invoke/VarHandle" ∧ (parseMethodDescriptor y.desc).map (fun d => d.parameters.length) = some n) (hR : rm.frames + 1 ≤ R.frames ∧ 8 + (maxL + 11) + rm.locals ≤ R.locals) (hn : As.length = n) (hst : st0 = As.reverse ++ rest) (hW : (rest.map fun v => v.category).sum ≤ 8)
    (hdg : decode cc pc = .ok (.invokestatic index, 3)) (hf : cells + nc ≤ R.cells ∧ slots + kc ≤ R.slots) (kk : ∀ (r : Int32) (u : S) (H1 : Heap) (locs1 : List Loc), post r u → va_P D vwCl (Wf u) H1 → va_S A0 H0 H1 locs1 → H.size ≤ H1.size → (∀ q : Nat, q < H.size → ¬ A q → H1[q]? = H[q]?) → W p l e R s m args below meth c H1 locs1 (cells + nc) (slots + kc) Q (F0 m (pc + 3) ls (.int r :: rest))) : W p l e R s m args below meth c H locs cells slots Q (F0 m pc ls st0) :=
  va_calli (va_runS ⟨hx, hb, hml, hown, hts⟩ hM (va_cwS n hts hG hw hrc hrs hd hR) ⟨thP_blind, fun U hU hWm => ⟨rfl, hU, hP, va_K.moved hWm.alike hK, tpA_warm hWm hT⟩⟩ rfl hn hsize hst (lv_room hW) hdg hf) hS (fun q _ h => hAA q h) hAA (fun r u t H1 locs1 ht _ hp hB hz hk hS1 => kk r u H1 locs1 hp (by rw [← ht]; exact hB) hS1 hz hk)
/-- of a method with handlers -/
theorem hg_callSW {S : Type} {Wf : S → va_W} {post : Int32 → S → Prop} {nc kc : Nat} {hh : List (Nat × Nat × Nat × Nat)} (n : Nat) (hx : p.tables.exec = Jvm.exec) (hb : c.code = cc) (hml : c.maxLocals = nL) (hown : s.vm.findClass own = some m.cls) (hts : ∀ w ∈ Ts, w.before args s = true) (hsize : ls.size = nL)
    (hP : va_P D vwCl W0 H) (hK : va_K D vwCl tys s) (hT : tpA A H s) (hS : va_S A0 H0 H locs) (hAA : ∀ q, A q → A0 q) (hM : hgM l y ws rm As D W0 tys H Wf post A nc kc) (hG : GoodIn Ts (va_wsS own index y ws)) (hw : ws = Cond.codeWith y bytes maxL ret hh :: ws') (hrc : rm.cells = nc) (hrs : rm.slots = kc)
    (hd : y.cls ≠ "java/lang/invoke/MethodHandle" ∧ y.cls ≠ "java/lang/invoke/VarHandle" ∧ (parseMethodDescriptor y.desc).map (fun d => d.parameters.length) = some n) (hR : rm.frames + 1 ≤ R.frames ∧ 8 + (maxL + 11) + rm.locals ≤ R.locals) (hn : As.length = n) (hst : st0 = As.reverse ++ rest) (hW : (rest.map fun v => v.category).sum ≤ 8)
    (hdg : decode cc pc = .ok (.invokestatic index, 3)) (hf : cells + nc ≤ R.cells ∧ slots + kc ≤ R.slots) (kk : ∀ (r : Int32) (u : S) (H1 : Heap) (locs1 : List Loc), post r u → va_P D vwCl (Wf u) H1 → va_S A0 H0 H1 locs1 → H.size ≤ H1.size → (∀ q : Nat, q < H.size → ¬ A q → H1[q]? = H[q]?) → W p l e R s m args below meth c H1 locs1 (cells + nc) (slots + kc) Q (F0 m (pc + 3) ls (.int r :: rest))) : W p l e R s m args below meth c H locs cells slots Q (F0 m pc ls st0) :=
  va_calli (vx_runSW ⟨hx, hb, hml, hown, hts⟩ hM (vx_cwSW n hts hG hw hrc hrs hd hR) ⟨thP_blind, fun U hU hWm => ⟨rfl, hU, hP, va_K.moved hWm.alike hK, tpA_warm hWm hT⟩⟩ rfl hn hsize hst (lv_room hW) hdg hf) hS (fun q _ h => hAA q h) hAA (fun r u t H1 locs1 ht _ hp hB hz hk hS1 => kk r u H1 locs1 hp (by rw [← ht]; exact hB) hS1 hz hk)
theorem th_callV {S : Type} {Wf : S → va_W} {post : Int32 → S → Prop} {XP : String → Prop} (n : Nat) (hx : p.tables.exec = Jvm.exec) (hb : c.code = cc) (hml : c.maxLocals = nL) (hown : s.vm.findClass own = some m.cls) (hts : ∀ w ∈ Ts, w.before args s = true) (hsize : ls.size = nL)
    (hP : va_P D vwCl W0 H) (hK : va_K D vwCl tys s) (hT : tpA A H s) (hS : va_S A0 H0 H locs) (hAA : ∀ q, A q → A0 q) (q0 ci : Nat) {q : vw_C} {fs : List Value} (hc : vwCl[ci]? = some q) (he : W0[q0]? = some (b, .inr (ci, fs))) (hM : thM l y ws rm (.ref b :: As) D W0 tys H A Wf post XP) (hG : GoodIn Ts (wsV own index q.1 y ws)) (hw : ws = Cond.code y bytes maxL ret :: ws') (hrc : rm.cells = 1) (hrs : rm.slots = 6)
    (hd : y.cls = q.1 ∧ y.cls ≠ "java/lang/invoke/MethodHandle" ∧ y.cls ≠ "java/lang/invoke/VarHandle" ∧ (parseMethodDescriptor y.desc).map (fun d => d.parameters.length) = some n) (hR : rm.frames + 1 ≤ R.frames ∧ 8 + (maxL + 11) + rm.locals ≤ R.locals) (hn : As.length = n) (hst : st0 = As.reverse ++ .ref b :: rest) (hW : (rest.map fun v => v.category).sum ≤ 8)
    (hdg : decode cc pc = .ok (.invokevirtual index, 3)) (hf : cells + 1 ≤ R.cells ∧ slots + 6 ≤ R.slots)
    (kx : ∀ (E : String) (ce : Cell) (q9 : Addr) (H1 : Heap) (locs1 : List Loc), XP E → grew H H1 → va_S A0 H0 H1 locs1 → H1[q9]? = some ce → ce.vm = .none → s.vm.findClass E = some ce.cls → vx_W p l e R s m args below meth c H1 locs1 (cells + 1) (slots + 6) Q (F0 m pc ls rest) q9)
    (kk : ∀ (r : Int32) (u : S) (H1 : Heap) (locs1 : List Loc), post r u → va_P D vwCl (Wf u) H1 → va_S A0 H0 H1 locs1 → (∀ q : Nat, q < H.size → ¬ A q → H1[q]? = H[q]?) → W p l e R s m args below meth c H1 locs1 (cells + 1) (slots + 6) Q (F0 m (pc + 3) ls (.int r :: rest))) : W p l e R s m args below meth c H locs cells slots Q (F0 m pc ls st0) := by
  intro T hT0 X
  rcases vx_runV ⟨hx, hb, hml, hown, hts⟩ hM (cwV n hts hG hw hrc hrs hd hR) ⟨thP_blind, va_recv hK hP hc he, fun U hU hWm => ⟨rfl, hU, hP, va_K.moved hWm.alike hK, tpA_warm hWm hT⟩⟩ rfl hn hsize hst (lv_room hW) hdg hf T hT0 X with ⟨v, st₀, t, T', L, h0, X', hL, e1, e2, ⟨⟨r, u, hv, hp, hb9⟩, hF⟩, st⟩ | ⟨q9, st₀, t, T', L, E, ce, h0, X', hL, e1, e2, ⟨hxp, hg⟩, hce, hcv, hcl, st⟩
  · cases hv
    obtain ⟨k1, k2, k3⟩ := vx_keep h0 e1 hS (fun q _ h => hAA q h) hAA hL hF
    obtain ⟨t2, a1, b1⟩ := kk r u T'.heap (locs ++ L) hp (by rw [e1]; exact hb9) k3 k2 T' rfl X'
    exact ⟨t2, st t2 a1, b1⟩
  · have hg2 : grew H T'.heap := by rw [e1]; exact hg
    have hS2 : va_S A0 H0 T'.heap (locs ++ L) := ⟨Nat.le_trans hS.1 hg2.1, fun q h1 h2 => (hg2.2 q (Nat.lt_of_lt_of_le h1 hS.1)).trans (hS.2.1 q h1 h2), fun q hq => by
      rcases List.mem_append.mp hq with h | h
      · exact hS.2.2 q h
      · exact hAA _ (hL q h)⟩
    obtain ⟨t2, a1, b1⟩ := kx E ce q9 T'.heap (locs ++ L) hxp hg2 hS2 (by rw [e1]; exact hce) hcv hcl T' rfl X'
    exact ⟨t2, st.trans a1, b1⟩
/-- a call of the face that cannot throw here -/
theorem ok_callV {S : Type} {Wf : S → va_W} {post : Int32 → S → Prop} {XP : String → Prop} (n : Nat) (hx : p.tables.exec = Jvm.exec) (hb : c.code = cc) (hml : c.maxLocals = nL) (hown : s.vm.findClass own = some m.cls) (hts : ∀ w ∈ Ts, w.before args s = true) (hsize : ls.size = nL)
    (hP : va_P D vwCl W0 H) (hK : va_K D vwCl tys s) (hT : tpA A H s) (hS : va_S A0 H0 H locs) (hAA : ∀ q, A q → A0 q) (q0 ci : Nat) {q : vw_C} {fs : List Value} (hc : vwCl[ci]? = some q) (he : W0[q0]? = some (b, .inr (ci, fs))) (hM : thM l y ws rm (.ref b :: As) D W0 tys H A Wf post XP) (hno : ∀ E, ¬ XP E) (hG : GoodIn Ts (wsV own index q.1 y ws)) (hw : ws = Cond.code y bytes maxL ret :: ws') (hrc : rm.cells = 1) (hrs : rm.slots = 6)
    (hd : y.cls = q.1 ∧ y.cls ≠ "java/lang/invoke/MethodHandle" ∧ y.cls ≠ "java/lang/invoke/VarHandle" ∧ (parseMethodDescriptor y.desc).map (fun d => d.parameters.length) = some n) (hR : rm.frames + 1 ≤ R.frames ∧ 8 + (maxL + 11) + rm.locals ≤ R.locals) (hn : As.length = n) (hst : st0 = As.reverse ++ .ref b :: rest) (hW : (rest.map fun v => v.category).sum ≤ 8)
    (hdg : decode cc pc = .ok (.invokevirtual index, 3)) (hf : cells + 1 ≤ R.cells ∧ slots + 6 ≤ R.slots)
    (kk : ∀ (r : Int32) (u : S) (H1 : Heap) (locs1 : List Loc), post r u → va_P D vwCl (Wf u) H1 → va_S A0 H0 H1 locs1 → (∀ q : Nat, q < H.size → ¬ A q → H1[q]? = H[q]?) → W p l e R s m args below meth c H1 locs1 (cells + 1) (slots + 6) Q (F0 m (pc + 3) ls (.int r :: rest))) : W p l e R s m args below meth c H locs cells slots Q (F0 m pc ls st0) :=
  th_callV n hx hb hml hown hts hsize hP hK hT hS hAA q0 ci hc he hM hG hw hrc hrs hd hR hn hst hW hdg hf (fun E _ _ _ _ hxp _ _ _ _ _ => (hno E hxp).elim) kk
theorem xcp_no {K : Int32} {e1 e2 e3 : String} (h : K = 0) : ∀ E, ¬ xcp K e1 e2 e3 E := by
  intro E hx
  subst h
  rcases hx with ⟨h, -⟩ | ⟨h, -⟩ | ⟨h, -⟩ <;> exact absurd h (by decide)
end
theorem gkn2 {b1 b3 : Bool} (h : goK b1 true b3 = 2) : False := by cases b1 <;> cases b3 <;> exact absurd h (by decide)
theorem gkn3 {b1 b2 : Bool} (h : goK b1 b2 true = 3) : False := by cases b1 <;> cases b2 <;> exact absurd h (by decide)
theorem bI_01 (b : Bool) : bI b = 0 ∨ bI b = 1 := by cases b; exact Or.inl rfl; exact Or.inr rfl
theorem nx_01 (σ : St) (j : Nat) : nxF σ j = 0 ∨ nxF σ j = 1 := by unfold nxF; by_cases h : σ 13 j = 0; rw [if_pos h]; exact Or.inr rfl; rw [if_neg h]; exact Or.inl rfl

theorem goK_0 {b1 b2 b3 : Bool} (h : goK b1 b2 b3 = 0) : b1 = true ∧ b2 = true ∧ b3 = true := by cases b1 <;> cases b2 <;> cases b3 <;> first | exact ⟨rfl, rfl, rfl⟩ | exact absurd h (by decide)
theorem inR_b {v lo hi : Int32} {x y : Int} (h : inR v lo hi = true) (hx : lo.toInt = x) (hy : hi.toInt = y) : x ≤ v.toInt ∧ v.toInt ≤ y := by rw [← hx, ← hy]; exact inR_sp h
theorem inv_0 {σ : St} {nL nB : Nat} {f : Nat → Int32} (h : inv σ nL nB) (hf : ∀ t, t < 48 → -200 ≤ (f t).toInt ∧ (f t).toInt ≤ 200) : inv (st σ 0 f) nL nB := by
  obtain ⟨h1, h2, h3, h4, h5, h6, h7⟩ := h
  exact ⟨h1, h2, h3, h4, fun t ht => ⟨(hf t ht).1, (hf t ht).2, (h5 t ht).2.2.1, (h5 t ht).2.2.2⟩, h6, h7⟩
theorem inv_1 {σ : St} {nL nB : Nat} {f : Nat → Int32} (h : inv σ nL nB) (hf : ∀ t, t < 48 → -200 ≤ (f t).toInt ∧ (f t).toInt ≤ 200) : inv (st σ 1 f) nL nB := by
  obtain ⟨h1, h2, h3, h4, h5, h6, h7⟩ := h
  exact ⟨h1, h2, h3, h4, fun t ht => ⟨(h5 t ht).1, (h5 t ht).2.1, (hf t ht).1, (hf t ht).2⟩, h6, h7⟩
theorem inv_tide {σ : St} {nL nB k : Nat} {v : Int32} (h : inv σ nL nB) (hv : inR v (-200) 200 = true) : inv (st σ 0 (upd (σ 0) k v)) nL nB := by
  obtain ⟨v1, v2⟩ := inR_b hv (x := -200) (y := 200) rfl rfl
  refine inv_0 h (fun t ht => ?_)
  obtain ⟨a1, a2, -⟩ := h.2.2.2.2.1 t ht
  show -200 ≤ (if t = k then v else σ 0 t).toInt ∧ (if t = k then v else σ 0 t).toInt ≤ 200
  by_cases e : t = k
  · rw [if_pos e]; exact ⟨v1, v2⟩
  · rw [if_neg e]; exact ⟨a1, a2⟩
theorem inv_load {σ : St} {nL nB k : Nat} {v : Int32} (h : inv σ nL nB) (hv : inR v (-200) 200 = true) : inv (st σ 1 (ldF (σ 1) k v 48)) nL nB := by
  obtain ⟨v1, v2⟩ := inR_b hv (x := -200) (y := 200) rfl rfl
  refine inv_1 h (fun t ht => ?_)
  obtain ⟨-, -, a1, a2⟩ := h.2.2.2.2.1 t ht
  unfold ldF
  by_cases e : k ≤ t ∧ t < 48
  · rw [if_pos e]; exact ⟨v1, v2⟩
  · rw [if_neg e]; exact ⟨a1, a2⟩
theorem inv_tog {σ : St} {nL nB k : Nat} (h : inv σ nL nB) : inv (st σ 13 (upd (σ 13) k (nxF σ k))) nL nB := by
  obtain ⟨h1, h2, h3, h4, h5, h6, h7⟩ := h
  refine ⟨h1, h2, h3, h4, h5, h6, fun j hj => ?_⟩
  obtain ⟨a1, a2, a3, a4, a5, a6⟩ := h7 j hj
  refine ⟨a1, a2, a3, a4, a5, ?_⟩
  show (if j = k then nxF σ k else σ 13 j) = 0 ∨ (if j = k then nxF σ k else σ 13 j) = 1
  by_cases e : j = k
  · rw [if_pos e]; exact nx_01 σ k
  · rw [if_neg e]; exact a6
theorem inv_ab {σ : St} {nL nB : Nat} {p lim : Int32} (h : inv σ nL nB) (hp : inR p (-5000) 5000 = true) (hlt : nB < 6) : inv (abS σ nB p lim) nL (nB + 1) := by
  obtain ⟨v1, v2⟩ := inR_b hp (x := -5000) (y := 5000) rfl rfl
  obtain ⟨h1, h2, h3, h4, h5, h6, h7⟩ := h
  refine ⟨h1, h2, rfl, by omega, h5, fun b hb => ?_, fun j hj => ?_⟩
  · show -5000 ≤ (if b = nB then p else σ 5 b).toInt ∧ (if b = nB then p else σ 5 b).toInt ≤ 5000
    by_cases e : b = nB
    · rw [if_pos e]; exact ⟨v1, v2⟩
    · rw [if_neg e]; exact h6 b (by omega)
  · obtain ⟨⟨b, hb, eb⟩, a2, a3, a4, a5, a6⟩ := h7 j hj
    exact ⟨⟨b, by omega, eb⟩, a2, a3, a4, a5, a6⟩
theorem inv_al' {σ : St} {nL nB : Nat} {pt bo sf sr : Int32} (h : inv σ nL nB) (hb : inR bo 0 (nI nB - 1) = true) (hp : inR pt (-5000) 5000 = true) (hsf : inR sf 1 100 = true) (hsr : inR sr 1 1000000 = true) (hlt : nL < 10) : inv (alS σ nL pt bo sf sr) (nL + 1) nB := by
  obtain ⟨p1, p2⟩ := inR_b hp (x := -5000) (y := 5000) rfl rfl
  obtain ⟨s1, s2⟩ := inR_b hsf (x := 1) (y := 100) rfl rfl
  obtain ⟨r1, r2⟩ := inR_b hsr (x := 1) (y := 1000000) rfl rfl
  obtain ⟨h1, h2, h3, h4, h5, h6, h7⟩ := h
  obtain ⟨b, hb2, rfl⟩ := inR_line (by omega) hb
  have eb : tN (nI b) = b := tN_nI (by omega)
  obtain ⟨q1, q2⟩ := h6 b hb2
  have er : (σ 5 b - pt).toInt = (σ 5 b).toInt - pt.toInt := Jvm.Kit.i32_sub (by omega) (by omega)
  have e7 : (300 : Int32).toInt = 300 := rfl
  have hA : inA (σ 5 b - pt) := by unfold inA; omega
  have hH : inH 300 := by unfold inH; omega
  obtain ⟨n, en, hn⟩ := LENs_le hA hH
  have en2 : (nI n).toInt = (n : Int) := nI_ti (by omega)
  unfold alS
  rw [eb]
  refine ⟨rfl, by omega, h3, h4, h5, h6, fun j hj => ?_⟩
  by_cases e : j = nL
  · refine ⟨⟨b, hb2, ?_⟩, ?_, ?_, ?_, ?_, ?_⟩
    · show (if j = nL then nI b else σ 8 j) = nI b
      rw [if_pos e]
    · show -10000 ≤ (if j = nL then σ 5 b - pt else σ 9 j).toInt ∧ (if j = nL then σ 5 b - pt else σ 9 j).toInt ≤ 10000
      rw [if_pos e]; omega
    · show 1 ≤ (if j = nL then sf else σ 10 j).toInt ∧ (if j = nL then sf else σ 10 j).toInt ≤ 100
      rw [if_pos e]; omega
    · show 1 ≤ (if j = nL then sr else σ 11 j).toInt ∧ (if j = nL then sr else σ 11 j).toInt ≤ 1000000
      rw [if_pos e]; omega
    · show 0 ≤ (if j = nL then LENs (σ 5 b - pt) 300 else σ 12 j).toInt ∧ (if j = nL then LENs (σ 5 b - pt) 300 else σ 12 j).toInt ≤ 20000
      rw [if_pos e, en]; omega
    · show (if j = nL then 1 else σ 13 j) = 0 ∨ (if j = nL then 1 else σ 13 j) = 1
      rw [if_pos e]; exact Or.inr rfl
  · obtain ⟨⟨b9, hb9, eb9⟩, a2, a3, a4, a5, a6⟩ := h7 j (by omega)
    refine ⟨⟨b9, hb9, ?_⟩, ?_, ?_, ?_, ?_, ?_⟩
    · show (if j = nL then nI b else σ 8 j) = nI b9
      rw [if_neg e]; exact eb9
    · show -10000 ≤ (if j = nL then σ 5 b - pt else σ 9 j).toInt ∧ (if j = nL then σ 5 b - pt else σ 9 j).toInt ≤ 10000
      rw [if_neg e]; exact a2
    · show 1 ≤ (if j = nL then sf else σ 10 j).toInt ∧ (if j = nL then sf else σ 10 j).toInt ≤ 100
      rw [if_neg e]; exact a3
    · show 1 ≤ (if j = nL then sr else σ 11 j).toInt ∧ (if j = nL then sr else σ 11 j).toInt ≤ 1000000
      rw [if_neg e]; exact a4
    · show 0 ≤ (if j = nL then LENs (σ 5 b - pt) 300 else σ 12 j).toInt ∧ (if j = nL then LENs (σ 5 b - pt) 300 else σ 12 j).toInt ≤ 20000
      rw [if_neg e]; exact a5
    · show (if j = nL then 1 else σ 13 j) = 0 ∨ (if j = nL then 1 else σ 13 j) = 1
      rw [if_neg e]; exact a6
theorem inv_tend {σ : St} {nL nB : Nat} {line hour slack : Int32} (h : inv σ nL nB) (hl : inR line 0 (nI nL - 1) = true) (hh : inR hour 0 47 = true) (hs : inR slack (-100) 100 = true) : inv (st σ 12 (upd (σ 12) (tN line) (tdR σ line hour slack))) nL nB := by
  obtain ⟨v1, v2⟩ := inR_b hs (x := -100) (y := 100) rfl rfl
  have h2 := h.2.1
  obtain ⟨j, hj, rfl⟩ := inR_line (by omega) hl
  obtain ⟨t, ht, rfl⟩ := inR_hour hh
  have ej : tN (nI j) = j := tN_nI (by omega)
  have et : tN (nI t) = t := tN_nI (by omega)
  obtain ⟨n, en, hn⟩ := inv_len h hj ht (bal_inS σ t)
  have en2 : (nI n).toInt = (n : Int) := nI_ti (by omega)
  have e0 : (0 : Int32).toInt = 0 := rfl
  have ea : (nI n + slack).toInt = (n : Int) + slack.toInt := by rw [Jvm.Kit.i32_add (by omega) (by omega), en2]
  refine inv_st12 h (fun i hi => ?_)
  obtain ⟨-, -, -, -, a5, -⟩ := h.2.2.2.2.2.2 i hi
  rw [ej]
  show 0 ≤ (if i = j then tdR σ (nI j) (nI t) slack else σ 12 i).toInt ∧ (if i = j then tdR σ (nI j) (nI t) slack else σ 12 i).toInt ≤ 20000
  by_cases e : i = j
  · rw [if_pos e]
    unfold tdR mx0
    rw [ej, et, en]
    by_cases w : 0 < nI n + slack
    · rw [if_pos w]
      have w2 := i_lt.mp w
      omega
    · rw [if_neg w]; omega
  · rw [if_neg e]; exact a5
theorem tpA_kept {A : Nat → Prop} {H0 H : Heap} {locs : List Loc} {s : State} (h : tpA A H0 s) (hS : va_S A H0 H locs) : tpA A H s := ⟨⟨vx_Zq.kept h.1.1 (fun a h1 h2 => hS.2.1 a h1 h2), vx_Zq.kept h.1.2 (fun a h1 h2 => hS.2.1 a h1 h2)⟩, h.2⟩
theorem sc_ld {p : Program} {l : Launch} {e : Env} {R : Room} {s : State} {m : MethodId} {args : Array Value} {below : List Frame} {meth : Method} {c : Code} {H : Heap} {locs : List Loc} {cells slots : Nat} {Q : State → Prop} {cc : ByteArray} {pc : Nat} {ls : Array Slot} {rest : List Value} {A : Nat → Prop} {H0 : Heap} (hx : p.tables.exec = Jvm.exec) (hb : c.code = cc) {b L : Nat} {xs : Nat → Int32} (hX : va_X b L xs s H0) (hbl : b < H0.size) (hbA : ¬ A b) (hS : va_S A H0 H locs) {i : Nat} (hi : i < L) (hL : L ≤ 2560) (hdg : decode cc pc = .ok (.iaload, 1))
    (kk : W p l e R s m args below meth c H locs cells slots Q (F0 m (pc + 1) ls (.int (xs i) :: rest))) : W p l e R s m args below meth c H locs cells slots Q (F0 m pc ls (.int (nI i) :: .ref b :: rest)) :=
  va_sld hx hb hX hbl hbA hS (vp_in_nI hi (by omega)) hdg (by rw [nI_clamp (by omega)]; exact kk)
