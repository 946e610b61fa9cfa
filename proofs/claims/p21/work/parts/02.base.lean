/-! My own layer over the kit: contracts that write nothing (roM), that write (wrM), checks that throw (ckM), face methods (thM). -/
def bI (b : Bool) : Int32 := if b then 1 else 0
/-- what a method has at its entry -/
def roE (p : Program) (s : State) (m : MethodId) (meth : Method) (c : Code) (args : Array Value) (y : MethodName) (cc : ByteArray) (maxL : Nat) (ret : Option FieldType) (ws : List Cond) : Prop :=
  p.tables.exec = Jvm.exec ∧ c.code = cc ∧ meth.sig.returnType = ret ∧ c.maxLocals = maxL ∧ s.vm.findClass y.cls = some m.cls ∧ (∀ w ∈ ws, w.before args s = true) ∧ meth.locks = false
def roP (av : List Value) (D : va_G) (W0 : va_W) (tys : List (ClassId × FieldType)) (H0 : Heap) : Array Value → State → Prop := va_Pc av (fun U => U.heap = H0 ∧ va_P D vwCl W0 H0 ∧ va_K D vwCl tys U)
theorem roP_blind {av : List Value} {D : va_G} {W0 : va_W} {tys : List (ClassId × FieldType)} {H0 : Heap} : FrameBlind (roP av D W0 tys H0) := by
  intro a U g mk h
  obtain ⟨h1, h2, h3, h4⟩ := h
  exact ⟨h1, h2, h3, va_K.moved (u := U) (U := U.calling g mk a) (Vm.Alike.refl U.vm) h4⟩
/-- a method that writes nothing and answers a number -/
def roM (l : Launch) (y : MethodName) (ws : List Cond) (rm : Room) (av : List Value) (D : va_G) (W0 : va_W) (tys : List (ClassId × FieldType)) (H0 : Heap) (post : Int32 → Prop) : Prop :=
  Met l y ws rm (roP av D W0 tys H0) (va_Qi (fun (r : Int32) (_ : Unit) => post r) (fun _ t => t.heap = H0) (fun _ => False)) 0 0 (fun _ => False)
def roQ (below : List Frame) (H0 : Heap) (post : Int32 → Prop) (args : Array Value) (s : State) : State → Prop := MQ below (va_Qi (fun (r : Int32) (_ : Unit) => post r) (fun _ t => t.heap = H0) (fun _ => False)) args s 0 0 (fun _ => False)
/-- a method that writes among the cells of A and answers a number -/
def wrM (l : Launch) (y : MethodName) (ws : List Cond) (rm : Room) (av : List Value) (D : va_G) (W0 : va_W) (tys : List (ClassId × FieldType)) (H0 : Heap) {S : Type} (Wf : S → va_W) (post : Int32 → S → Prop) (A : Nat → Prop) : Prop :=
  Met l y ws rm (roP av D W0 tys H0) (va_Qi post (fun u t => va_P D vwCl (Wf u) t.heap) A) 0 0 A
def wrQ (below : List Frame) (D : va_G) {S : Type} (Wf : S → va_W) (post : Int32 → S → Prop) (A : Nat → Prop) (args : Array Value) (s : State) : State → Prop := MQ below (va_Qi post (fun u t => va_P D vwCl (Wf u) t.heap) A) args s 0 0 A
def xE1 : String := "java/lang/IllegalArgumentException"
def xE2 : String := "java/lang/IllegalStateException"
def xE3 : String := "java/lang/IndexOutOfBoundsException"
def xNs : List String := ["java/lang/RuntimeException", "java/lang/Exception"]
/-- what a throw needs of the tables -/
def tpW (U : State) : Prop := ((∃ a, vk_R RX0 64 "there are 6 bollards" a U) ∧ (∃ a, vk_R RX0 73 "there are 10 lines" a U) ∧ (∃ a, vk_R RX0 111 "the line is let go" a U) ∧ (∃ a, vk_R RX0 123 "the last hour is before the first" a U)) ∧ ((∃ a, vk_R RX0 137 "no such hour" a U) ∧ (∃ a, vk_R RX0 140 "no such bollard" a U) ∧ (∃ a, vk_R RX0 142 "no such line" a U) ∧ (∃ a, vk_R RX0 144 "out of range" a U)) ∧ (va_Nw (.castable xE1 xE1) U ∧ va_Nw (.castable xE2 xE2) U ∧ va_Nw (.castable xE3 xE3) U) ∧ (va_Nw (.declares (Bundle.initS "java/lang/Throwable")) U ∧ va_Nw (.declares (Bundle.initS "java/lang/Exception")) U ∧ va_Nw (.declares (Bundle.initS "java/lang/RuntimeException")) U) ∧ (va_Nc xE2 xE1 U ∧ va_Nc xE3 xE1 U ∧ va_Nc xE1 xE2 U ∧ va_Nc xE3 xE2 U ∧ va_Nc xE1 xE3 U ∧ va_Nc xE2 xE3 U)
theorem tpW_warm {s U : State} (hW : s.WarmedH U.vm) (h : tpW s) : tpW U := by
  obtain ⟨⟨⟨a1, h1⟩, ⟨a2, h2⟩, ⟨a3, h3⟩, ⟨a4, h4⟩⟩, ⟨⟨a5, h5⟩, ⟨a6, h6⟩, ⟨a7, h7⟩, ⟨a8, h8⟩⟩, ⟨c1, c2, c3⟩, ⟨d1, d2, d3⟩, n1, n2, n3, n4, n5, n6⟩ := h
  exact ⟨⟨⟨a1, h1.warm hW⟩, ⟨a2, h2.warm hW⟩, ⟨a3, h3.warm hW⟩, ⟨a4, h4.warm hW⟩⟩, ⟨⟨a5, h5.warm hW⟩, ⟨a6, h6.warm hW⟩, ⟨a7, h7.warm hW⟩, ⟨a8, h8.warm hW⟩⟩, ⟨c1.warmC hW, c2.warmC hW, c3.warmC hW⟩, ⟨d1.warmD hW, d2.warmD hW, d3.warmD hW⟩, n1.moved hW.alike, n2.moved hW.alike, n3.moved hW.alike, n4.moved hW.alike, n5.moved hW.alike, n6.moved hW.alike⟩
theorem tpW_same {s U : State} (hv : s.vm = U.vm) (h : tpW s) : tpW U := by
  obtain ⟨⟨⟨a1, h1⟩, ⟨a2, h2⟩, ⟨a3, h3⟩, ⟨a4, h4⟩⟩, ⟨⟨a5, h5⟩, ⟨a6, h6⟩, ⟨a7, h7⟩, ⟨a8, h8⟩⟩, ⟨c1, c2, c3⟩, ⟨d1, d2, d3⟩, n1, n2, n3, n4, n5, n6⟩ := h
  have hal : s.vm.Alike U.vm := by rw [hv]; exact Vm.Alike.refl _
  exact ⟨⟨⟨a1, h1.same hv.symm⟩, ⟨a2, h2.same hv.symm⟩, ⟨a3, h3.same hv.symm⟩, ⟨a4, h4.same hv.symm⟩⟩, ⟨⟨a5, h5.same hv.symm⟩, ⟨a6, h6.same hv.symm⟩, ⟨a7, h7.same hv.symm⟩, ⟨a8, h8.same hv.symm⟩⟩, ⟨c1.same rfl hv, c2.same rfl hv, c3.same rfl hv⟩, ⟨d1.same rfl hv, d2.same rfl hv, d3.same rfl hv⟩, n1.moved hal, n2.moved hal, n3.moved hal, n4.moved hal, n5.moved hal, n6.moved hal⟩
def tpS (A : Nat → Prop) (H : Heap) (U : State) : Prop := vx_Zq Bundle.tN "UNASSIGNED_STACK" Bundle.steD A U H ∧ vx_Zq Bundle.tN "SUPPRESSED_SENTINEL" Bundle.listD A U H
def tpA (A : Nat → Prop) (H : Heap) (U : State) : Prop := tpS A H U ∧ tpW U
theorem tpA_warm {A : Nat → Prop} {H : Heap} {s U : State} (hW : s.WarmedH U.vm) (h : tpA A H s) : tpA A H U := ⟨⟨vx_Zq.moved hW.alike h.1.1, vx_Zq.moved hW.alike h.1.2⟩, tpW_warm hW h.2⟩
theorem tpA_same {A : Nat → Prop} {H : Heap} {s U : State} (hv : s.vm = U.vm) (h : tpA A H s) : tpA A H U := by
  have hal : s.vm.Alike U.vm := by rw [hv]; exact Vm.Alike.refl _
  exact ⟨⟨vx_Zq.moved hal h.1.1, vx_Zq.moved hal h.1.2⟩, tpW_same hv h.2⟩
def thP (av : List Value) (D : va_G) (W0 : va_W) (tys : List (ClassId × FieldType)) (H0 : Heap) (A : Nat → Prop) : Array Value → State → Prop := va_Pc av (fun U => U.heap = H0 ∧ va_P D vwCl W0 H0 ∧ va_K D vwCl tys U ∧ tpA A H0 U)
theorem thP_blind {av : List Value} {D : va_G} {W0 : va_W} {tys : List (ClassId × FieldType)} {H0 : Heap} {A : Nat → Prop} : FrameBlind (thP av D W0 tys H0 A) := by
  intro a U g mk h
  obtain ⟨h1, h2, h3, h4, h5⟩ := h
  exact ⟨h1, h2, h3, va_K.moved (u := U) (U := U.calling g mk a) (Vm.Alike.refl U.vm) h4, tpA_same (s := U) (U := U.calling g mk a) rfl h5⟩
/-- the heap grew, nothing old changed -/
def grew (H0 H : Heap) : Prop := H0.size ≤ H.size ∧ ∀ q : Nat, q < H0.size → H[q]? = H0[q]?
def ckX (H0 : Heap) (XP : String → Prop) : String → State → State → Prop := fun E _ t => XP E ∧ grew H0 t.heap
/-- a check: returns where cond holds, throws E where it doesn't -/
def ckM (l : Launch) (y : MethodName) (ws : List Cond) (rm : Room) (av : List Value) (D : va_G) (W0 : va_W) (tys : List (ClassId × FieldType)) (H0 : Heap) (A : Nat → Prop) (cond : Prop) (E : String) : Prop :=
  vx_Met l y ws rm (thP av D W0 tys H0 A) (va_Qv (fun (_ : Unit) => cond) (fun _ t => t.heap = H0) (fun _ => False)) (ckX H0 (fun E' => E' = E ∧ ¬ cond)) 1 6 (fun _ => False)
def ckQ (below : List Frame) (H0 : Heap) (cond : Prop) (E : String) (args : Array Value) (s : State) : State → Prop := vx_MQ below (va_Qv (fun (_ : Unit) => cond) (fun _ t => t.heap = H0) (fun _ => False)) (ckX H0 (fun E' => E' = E ∧ ¬ cond)) args s 1 6 (fun _ => False)
/-- a method of the face: answers a number and writes among the cells of A, or throws and writes nothing -/
def thM (l : Launch) (y : MethodName) (ws : List Cond) (rm : Room) (av : List Value) (D : va_G) (W0 : va_W) (tys : List (ClassId × FieldType)) (H0 : Heap) (A : Nat → Prop) {S : Type} (Wf : S → va_W) (post : Int32 → S → Prop) (XP : String → Prop) : Prop :=
  vx_Met l y ws rm (thP av D W0 tys H0 A) (va_Qi post (fun u t => va_P D vwCl (Wf u) t.heap) A) (ckX H0 XP) 1 6 A
def thQ (below : List Frame) (D : va_G) (H0 : Heap) (A : Nat → Prop) {S : Type} (Wf : S → va_W) (post : Int32 → S → Prop) (XP : String → Prop) (args : Array Value) (s : State) : State → Prop := vx_MQ below (va_Qi post (fun u t => va_P D vwCl (Wf u) t.heap) A) (ckX H0 XP) args s 1 6 A
section
variable {l : Launch} {y : MethodName} {cc : ByteArray} {maxL : Nat} {ret : Option FieldType} {ws ws' : List Cond} {rm : Room} {av : List Value} {D : va_G} {W0 : va_W} {tys : List (ClassId × FieldType)} {H0 : Heap}
theorem ro_of {post : Int32 → Prop} (hy : plainName y.cls = true) (hw : ws = Cond.code y cc maxL ret :: ws') (hn : (lg_sl av).length ≤ maxL)
    (body : ∀ (p : Program) (e : Env) (s : State) (m : MethodId) (args : Array Value) (below : List Frame) (meth : Method) (c : Code), roE p s m meth c args y cc maxL ret ws → s.heap = H0 → va_P D vwCl W0 H0 → va_K D vwCl tys s → ∀ ls : Array Slot, lv_has ls maxL (lv_args 0 av) → W p l e rm s m args below meth c H0 [] 0 0 (roQ below H0 post args s) (F0 m 0 ls [])) : roM l y ws rm av D W0 tys H0 post := by
  refine Met.ofW (cc := cc) (maxL := maxL) (ret := ret) hy hw ?_
  intro p e s m args below meth c s₁ B hml hv
  obtain ⟨rfl, hH, hP, hK⟩ := hv
  rw [hH, lg_entry_eq]
  exact body p e s m _ below meth c ⟨B.exec, B.bytes, B.returns, hml, findClass_of_methodNamed B.named, atoms_spec (ws := ws) B.pre, B.notSynchronized⟩ hH hP hK _ (lv_entry av hn)
theorem wr_of {S : Type} {Wf : S → va_W} {post : Int32 → S → Prop} {A : Nat → Prop} (hy : plainName y.cls = true) (hw : ws = Cond.code y cc maxL ret :: ws') (hn : (lg_sl av).length ≤ maxL)
    (body : ∀ (p : Program) (e : Env) (s : State) (m : MethodId) (args : Array Value) (below : List Frame) (meth : Method) (c : Code), roE p s m meth c args y cc maxL ret ws → s.heap = H0 → va_P D vwCl W0 H0 → va_K D vwCl tys s → ∀ ls : Array Slot, lv_has ls maxL (lv_args 0 av) → W p l e rm s m args below meth c H0 [] 0 0 (wrQ below D Wf post A args s) (F0 m 0 ls [])) : wrM l y ws rm av D W0 tys H0 Wf post A := by
  refine Met.ofW (cc := cc) (maxL := maxL) (ret := ret) hy hw ?_
  intro p e s m args below meth c s₁ B hml hv
  obtain ⟨rfl, hH, hP, hK⟩ := hv
  rw [hH, lg_entry_eq]
  exact body p e s m _ below meth c ⟨B.exec, B.bytes, B.returns, hml, findClass_of_methodNamed B.named, atoms_spec (ws := ws) B.pre, B.notSynchronized⟩ hH hP hK _ (lv_entry av hn)
theorem ck_of {A : Nat → Prop} {cond : Prop} {E : String} (hy : plainName y.cls = true) (hw : ws = Cond.code y cc maxL ret :: ws') (hn : (lg_sl av).length ≤ maxL)
    (body : ∀ (p : Program) (e : Env) (s : State) (m : MethodId) (args : Array Value) (below : List Frame) (meth : Method) (c : Code), roE p s m meth c args y cc maxL ret ws → (∀ x ∈ c.exceptionTable.toList, False) → s.heap = H0 → va_P D vwCl W0 H0 → va_K D vwCl tys s → tpA A H0 s → ∀ ls : Array Slot, lv_has ls maxL (lv_args 0 av) → W p l e rm s m args below meth c H0 [] 0 0 (ckQ below H0 cond E args s) (F0 m 0 ls [])) : ckM l y ws rm av D W0 tys H0 A cond E := by
  refine vx_ofW (cc := cc) (maxL := maxL) (ret := ret) hy hw ?_
  intro p e s m args below meth c s₁ B hml hout hv
  obtain ⟨rfl, hH, hP, hK, hT⟩ := hv
  rw [hH, lg_entry_eq]
  exact body p e s m _ below meth c ⟨B.exec, B.bytes, B.returns, hml, findClass_of_methodNamed B.named, atoms_spec (ws := ws) B.pre, B.notSynchronized⟩ hout hH hP hK hT _ (lv_entry av hn)
theorem th_of {S : Type} {Wf : S → va_W} {post : Int32 → S → Prop} {XP : String → Prop} {A : Nat → Prop} (hy : plainName y.cls = true) (hw : ws = Cond.code y cc maxL ret :: ws') (hn : (lg_sl av).length ≤ maxL)
    (body : ∀ (p : Program) (e : Env) (s : State) (m : MethodId) (args : Array Value) (below : List Frame) (meth : Method) (c : Code), roE p s m meth c args y cc maxL ret ws → (∀ x ∈ c.exceptionTable.toList, False) → s.heap = H0 → va_P D vwCl W0 H0 → va_K D vwCl tys s → tpA A H0 s → ∀ ls : Array Slot, lv_has ls maxL (lv_args 0 av) → W p l e rm s m args below meth c H0 [] 0 0 (thQ below D H0 A Wf post XP args s) (F0 m 0 ls [])) : thM l y ws rm av D W0 tys H0 A Wf post XP := by
  refine vx_ofW (cc := cc) (maxL := maxL) (ret := ret) hy hw ?_
  intro p e s m args below meth c s₁ B hml hout hv
  obtain ⟨rfl, hH, hP, hK, hT⟩ := hv
  rw [hH, lg_entry_eq]
  exact body p e s m _ below meth c ⟨B.exec, B.bytes, B.returns, hml, findClass_of_methodNamed B.named, atoms_spec (ws := ws) B.pre, B.notSynchronized⟩ hout hH hP hK hT _ (lv_entry av hn)
end
section
variable {p : Program} {l : Launch} {e : Env} {R : Room} {s : State} {m : MethodId} {args : Array Value} {below : List Frame} {meth : Method} {c : Code} {H : Heap} {locs : List Loc} {cells slots : Nat} {Q : State → Prop}
variable {y : MethodName} {bytes cc : ByteArray} {maxL nL n index : Nat} {ret : Option FieldType} {ws ws' : List Cond} {rm : Room} {Ts : List Cond} {own C : String} {b : Addr} {As av rest st0 : List Value} {pc : Nat} {ls : Array Slot} {D : va_G} {W0 : va_W} {tys : List (ClassId × FieldType)} {H0 : Heap}
theorem va_F_rf {s t : State} {H : Heap} (hs : s.heap = H) (ht : t.heap = H) : va_F (fun _ => False) s t := ⟨by rw [hs, ht]; exact Nat.le_refl _, fun q _ _ => by rw [hs, ht]⟩
theorem bI_narrow (b : Bool) : narrow .boolean (.int (bI b)) = .int (bI b) := by cases b <;> rfl
theorem ro_ret {post : Int32 → Prop} {v : Int32} (hexec : p.tables.exec = Jvm.exec) (hb : c.code = cc) (hr : meth.sig.returnType = some .int) (hlocks : meth.locks = false) (hH : s.heap = H) (hp : post v) (hdg : decode cc pc = .ok (.ireturn, 1)) : W p l e R s m args below meth c H [] 0 0 (roQ below H post args s) (F0 m pc ls [.int v]) :=
  W.iret (v := v) hexec hb hr (fun t ht _ => ⟨⟨v, (), rfl, hp, ht⟩, va_F_rf hH ht⟩) (fun _ h => nomatch h) hdg hlocks
theorem ro_zret {post : Int32 → Prop} {v : Int32} (hexec : p.tables.exec = Jvm.exec) (hb : c.code = cc) (hr : meth.sig.returnType = some .boolean) (hlocks : meth.locks = false) (hH : s.heap = H) (hv : ∃ z : Bool, v = bI z) (hp : post v) (hdg : decode cc pc = .ok (.ireturn, 1)) : W p l e R s m args below meth c H [] 0 0 (roQ below H post args s) (F0 m pc ls [.int v]) :=
  W.zret (v := v) hexec hb hr (by obtain ⟨z, rfl⟩ := hv; exact bI_narrow z) (fun t ht _ => ⟨⟨v, (), rfl, hp, ht⟩, va_F_rf hH ht⟩) (fun _ h => nomatch h) hdg hlocks
theorem wr_ret {S : Type} {Wf : S → va_W} {post : Int32 → S → Prop} {A : Nat → Prop} {v : Int32} (u : S) (hexec : p.tables.exec = Jvm.exec) (hb : c.code = cc) (hr : meth.sig.returnType = some .int) (hlocks : meth.locks = false) (hH : s.heap = H0) (hS : va_S A H0 H locs) (hP : va_P D vwCl (Wf u) H) (hp : post v u) (hdg : decode cc pc = .ok (.ireturn, 1)) : W p l e R s m args below meth c H locs 0 0 (wrQ below D Wf post A args s) (F0 m pc ls [.int v]) :=
  W.iret (v := v) hexec hb hr (fun t ht _ => ⟨⟨v, u, rfl, hp, (by subst ht; exact hP)⟩, va_S.F (by rw [hH]; exact hS) ht⟩) hS.2.2 hdg hlocks
theorem wr_zret {S : Type} {Wf : S → va_W} {post : Int32 → S → Prop} {A : Nat → Prop} {v : Int32} (u : S) (hexec : p.tables.exec = Jvm.exec) (hb : c.code = cc) (hr : meth.sig.returnType = some .boolean) (hlocks : meth.locks = false) (hH : s.heap = H0) (hS : va_S A H0 H locs) (hP : va_P D vwCl (Wf u) H) (hv : ∃ z : Bool, v = bI z) (hp : post v u) (hdg : decode cc pc = .ok (.ireturn, 1)) : W p l e R s m args below meth c H locs 0 0 (wrQ below D Wf post A args s) (F0 m pc ls [.int v]) :=
  W.zret (v := v) hexec hb hr (by obtain ⟨z, rfl⟩ := hv; exact bI_narrow z) (fun t ht _ => ⟨⟨v, u, rfl, hp, (by subst ht; exact hP)⟩, va_S.F (by rw [hH]; exact hS) ht⟩) hS.2.2 hdg hlocks
theorem th_ret {S : Type} {Wf : S → va_W} {post : Int32 → S → Prop} {XP : String → Prop} {A : Nat → Prop} {v : Int32} (u : S) (hexec : p.tables.exec = Jvm.exec) (hb : c.code = cc) (hr : meth.sig.returnType = some .int) (hlocks : meth.locks = false) (hH : s.heap = H0) (hS : va_S A H0 H locs) (hP : va_P D vwCl (Wf u) H) (hp : post v u) (hdg : decode cc pc = .ok (.ireturn, 1)) : W p l e R s m args below meth c H locs 0 0 (thQ below D H0 A Wf post XP args s) (F0 m pc ls [.int v]) :=
  W.widen (k := 1) (n := 6) (Nat.zero_le _) (Nat.zero_le _) (vx_ret (W.iret (v := v) hexec hb hr (fun t ht _ => ⟨⟨v, u, rfl, hp, (by subst ht; exact hP)⟩, va_S.F (by rw [hH]; exact hS) ht⟩) hS.2.2 hdg hlocks))
theorem th_zret {S : Type} {Wf : S → va_W} {post : Int32 → S → Prop} {XP : String → Prop} {A : Nat → Prop} {v : Int32} (u : S) (hexec : p.tables.exec = Jvm.exec) (hb : c.code = cc) (hr : meth.sig.returnType = some .boolean) (hlocks : meth.locks = false) (hH : s.heap = H0) (hS : va_S A H0 H locs) (hP : va_P D vwCl (Wf u) H) (hv : ∃ z : Bool, v = bI z) (hp : post v u) (hdg : decode cc pc = .ok (.ireturn, 1)) : W p l e R s m args below meth c H locs 0 0 (thQ below D H0 A Wf post XP args s) (F0 m pc ls [.int v]) :=
  W.widen (k := 1) (n := 6) (Nat.zero_le _) (Nat.zero_le _) (vx_ret (W.zret (v := v) hexec hb hr (by obtain ⟨z, rfl⟩ := hv; exact bI_narrow z) (fun t ht _ => ⟨⟨v, u, rfl, hp, (by subst ht; exact hP)⟩, va_S.F (by rw [hH]; exact hS) ht⟩) hS.2.2 hdg hlocks))
theorem ck_ret {cond : Prop} {E : String} (hexec : p.tables.exec = Jvm.exec) (hb : c.code = cc) (hr : meth.sig.returnType = none) (hlocks : meth.locks = false) (hH : s.heap = H) (hp : cond) (hdg : decode cc pc = .ok (.return_, 1)) : W p l e R s m args below meth c H [] 0 0 (ckQ below H cond E args s) (F0 m pc ls []) :=
  W.widen (k := 1) (n := 6) (Nat.zero_le _) (Nat.zero_le _) (vx_ret (W.vret hexec hb hr (fun t ht _ => ⟨⟨(), rfl, hp, ht⟩, va_F_rf hH ht⟩) (fun _ h => nomatch h) hdg hlocks))
/-- a call of a method that writes nothing -/
theorem ro_go {post : Int32 → Prop} {a : Array Value} (hr : va_Run p l e R s m args below meth c H locs cells slots 0 0 (F0 m pc ls st0) rest (va_Qi (fun (r : Int32) (_ : Unit) => post r) (fun _ t => t.heap = H) (fun _ => False) a) (fun _ => False))
    (kk : ∀ r : Int32, post r → W p l e R s m args below meth c H locs cells slots Q (F0 m (pc + 3) ls (.int r :: rest))) : W p l e R s m args below meth c H locs cells slots Q (F0 m pc ls st0) := by
  intro T hT X
  obtain ⟨v, st₀, t, T', L, h0, X', hL, e1, e2, ⟨⟨r, u, hv, hp, hb⟩, hF⟩, st⟩ := hr T hT X
  cases hv
  have hL0 : L = [] := by
    cases L with
    | nil => rfl
    | cons q r => exact (hL q List.mem_cons_self).elim
  subst hL0
  rw [List.append_nil] at X'
  obtain ⟨t2, a1, b1⟩ := kk r hp T' (e1.trans hb) X'
  exact ⟨t2, st t2 a1, b1⟩
theorem ro_callV {post : Int32 → Prop} (n : Nat) (hx : p.tables.exec = Jvm.exec) (hb : c.code = cc) (hml : c.maxLocals = nL) (hown : s.vm.findClass own = some m.cls) (hts : ∀ w ∈ Ts, w.before args s = true) (hsize : ls.size = nL)
    (hP : va_P D vwCl W0 H) (hK : va_K D vwCl tys s) (q0 ci : Nat) {q : vw_C} {fs : List Value} (hc : vwCl[ci]? = some q) (he : W0[q0]? = some (b, .inr (ci, fs))) (hM : roM l y ws rm (.ref b :: As) D W0 tys H post) (hG : GoodIn Ts (wsV own index q.1 y ws)) (hw : ws = Cond.code y bytes maxL ret :: ws') (hrc : rm.cells = 0) (hrs : rm.slots = 0)
    (hd : y.cls = q.1 ∧ y.cls ≠ "java/lang/invoke/MethodHandle" ∧ y.cls ≠ "java/lang/invoke/VarHandle" ∧ (parseMethodDescriptor y.desc).map (fun d => d.parameters.length) = some n) (hR : rm.frames + 1 ≤ R.frames ∧ 8 + (maxL + 11) + rm.locals ≤ R.locals) (hn : As.length = n) (hst : st0 = As.reverse ++ .ref b :: rest) (hW : (rest.map fun v => v.category).sum ≤ 8)
    (hdg : decode cc pc = .ok (.invokevirtual index, 3)) (hf : cells ≤ R.cells ∧ slots ≤ R.slots) (kk : ∀ r : Int32, post r → W p l e R s m args below meth c H locs cells slots Q (F0 m (pc + 3) ls (.int r :: rest))) : W p l e R s m args below meth c H locs cells slots Q (F0 m pc ls st0) :=
  ro_go (va_runV ⟨hx, hb, hml, hown, hts⟩ hM (cwV n hts hG hw hrc hrs hd hR) ⟨roP_blind, va_recv hK hP hc he, fun U hU hWm => ⟨rfl, hU, hP, va_K.moved hWm.alike hK⟩⟩ rfl hn hsize hst (lv_room hW) hdg hf) kk
theorem ro_callS {post : Int32 → Prop} (n : Nat) (hx : p.tables.exec = Jvm.exec) (hb : c.code = cc) (hml : c.maxLocals = nL) (hown : s.vm.findClass own = some m.cls) (hts : ∀ w ∈ Ts, w.before args s = true) (hsize : ls.size = nL)
    (hP : va_P D vwCl W0 H) (hK : va_K D vwCl tys s) (hM : roM l y ws rm As D W0 tys H post) (hG : GoodIn Ts (va_wsS own index y ws)) (hw : ws = Cond.code y bytes maxL ret :: ws') (hrc : rm.cells = 0) (hrs : rm.slots = 0)
    (hd : y.cls ≠ "java/lang/invoke/MethodHandle" ∧ y.cls ≠ "java/lang/invoke/VarHandle" ∧ (parseMethodDescriptor y.desc).map (fun d => d.parameters.length) = some n) (hR : rm.frames + 1 ≤ R.frames ∧ 8 + (maxL + 11) + rm.locals ≤ R.locals) (hn : As.length = n) (hst : st0 = As.reverse ++ rest) (hW : (rest.map fun v => v.category).sum ≤ 8)
    (hdg : decode cc pc = .ok (.invokestatic index, 3)) (hf : cells ≤ R.cells ∧ slots ≤ R.slots) (kk : ∀ r : Int32, post r → W p l e R s m args below meth c H locs cells slots Q (F0 m (pc + 3) ls (.int r :: rest))) : W p l e R s m args below meth c H locs cells slots Q (F0 m pc ls st0) :=
  ro_go (va_runS ⟨hx, hb, hml, hown, hts⟩ hM (va_cwS n hts hG hw hrc hrs hd hR) ⟨roP_blind, fun U hU hWm => ⟨rfl, hU, hP, va_K.moved hWm.alike hK⟩⟩ rfl hn hsize hst (lv_room hW) hdg hf) kk
/-- a call of a method that writes, its cells A among the caller's A0 -/
theorem wr_callV {S : Type} {Wf : S → va_W} {post : Int32 → S → Prop} {A A0 : Nat → Prop} (n : Nat) (hx : p.tables.exec = Jvm.exec) (hb : c.code = cc) (hml : c.maxLocals = nL) (hown : s.vm.findClass own = some m.cls) (hts : ∀ w ∈ Ts, w.before args s = true) (hsize : ls.size = nL)
    (hP : va_P D vwCl W0 H) (hK : va_K D vwCl tys s) (hS : va_S A0 H0 H locs) (hAA : ∀ q, A q → A0 q) (q0 ci : Nat) {q : vw_C} {fs : List Value} (hc : vwCl[ci]? = some q) (he : W0[q0]? = some (b, .inr (ci, fs))) (hM : wrM l y ws rm (.ref b :: As) D W0 tys H Wf post A) (hG : GoodIn Ts (wsV own index q.1 y ws)) (hw : ws = Cond.code y bytes maxL ret :: ws') (hrc : rm.cells = 0) (hrs : rm.slots = 0)
    (hd : y.cls = q.1 ∧ y.cls ≠ "java/lang/invoke/MethodHandle" ∧ y.cls ≠ "java/lang/invoke/VarHandle" ∧ (parseMethodDescriptor y.desc).map (fun d => d.parameters.length) = some n) (hR : rm.frames + 1 ≤ R.frames ∧ 8 + (maxL + 11) + rm.locals ≤ R.locals) (hn : As.length = n) (hst : st0 = As.reverse ++ .ref b :: rest) (hW : (rest.map fun v => v.category).sum ≤ 8)
    (hdg : decode cc pc = .ok (.invokevirtual index, 3)) (hf : cells ≤ R.cells ∧ slots ≤ R.slots) (kk : ∀ (r : Int32) (u : S) (H1 : Heap) (locs1 : List Loc), post r u → va_P D vwCl (Wf u) H1 → va_S A0 H0 H1 locs1 → H.size ≤ H1.size → (∀ q : Nat, q < H.size → ¬ A q → H1[q]? = H[q]?) → W p l e R s m args below meth c H1 locs1 cells slots Q (F0 m (pc + 3) ls (.int r :: rest))) : W p l e R s m args below meth c H locs cells slots Q (F0 m pc ls st0) :=
  va_calli (va_runV ⟨hx, hb, hml, hown, hts⟩ hM (cwV n hts hG hw hrc hrs hd hR) ⟨roP_blind, va_recv hK hP hc he, fun U hU hWm => ⟨rfl, hU, hP, va_K.moved hWm.alike hK⟩⟩ rfl hn hsize hst (lv_room hW) hdg hf) hS (fun q _ h => hAA q h) hAA (fun r u t H1 locs1 ht _ hp hB hz hk hS1 => kk r u H1 locs1 hp (by rw [← ht]; exact hB) hS1 hz hk)
/-- what a check's call leaves: the heap as it was, or thrown on to the caller's caller -/
theorem ck_go {S : Type} {Wf : S → va_W} {post : Int32 → S → Prop} {XP : String → Prop} {A : Nat → Prop} {cond : Prop} {E : String} {a : Array Value} (hlocks : meth.locks = false) (hout : ∀ x ∈ c.exceptionTable.toList, False)
    (hr : vx_Run p l e R s m args below meth c H [] 0 0 1 6 (F0 m pc ls st0) rest (va_Qv (fun (_ : Unit) => cond) (fun _ t => t.heap = H) (fun _ => False) a) (ckX H (fun E' => E' = E ∧ ¬ cond)) (fun _ => False))
    (hfail : ¬ cond → XP E) (kk : cond → W p l e R s m args below meth c H [] 0 0 (thQ below D H A Wf post XP args s) (F0 m (pc + 3) ls rest)) : W p l e R s m args below meth c H [] 0 0 (thQ below D H A Wf post XP args s) (F0 m pc ls st0) := by
  intro T hT X
  rcases hr T hT X with ⟨v, st₀, t, T', L, h0, X', hL, e1, e2, ⟨⟨u, hv, hp, hb⟩, hF⟩, st⟩ | ⟨q, st₀, t, T', L, E', ce, h0, X', hL, e1, e2, ⟨⟨hE, hnc⟩, hg⟩, hce, hcv, hcl, st⟩
  · cases hv
    have hL0 : L = [] := by
      cases L with
      | nil => rfl
      | cons q r => exact (hL q List.mem_cons_self).elim
    subst hL0
    have hh : T'.heap = T.heap := (e1.trans hb).trans hT.symm
    have hsame : s.sameButNew (T'.setVm s.vm) [] 0 0 := by
      have h1 : (T'.setVm s.vm).heap = (T.setVm s.vm).heap := hh
      obtain ⟨a1, a2, a3, a4, a5, a6⟩ := X'.same
      obtain ⟨b1, b2, b3, b4, b5, b6⟩ := X.same
      exact ⟨a1, a2, by rw [h1]; exact b3, a4, by rw [h1]; exact b5, a6⟩
    have X2 : Stand p l e R s m args below meth c T' [] 0 0 := { X' with same := hsame }
    obtain ⟨t2, a1, b1⟩ := kk hp T' (hh.trans hT) X2
    exact ⟨t2, st t2 a1, b1⟩
  · have hL0 : L = [] := by
      cases L with
      | nil => rfl
      | cons q r => exact (hL q List.mem_cons_self).elim
    subst hL0
    subst hE
    have hg2 : grew H T'.heap := by rw [e1]; exact hg
    obtain ⟨t2, a1, b1⟩ := vx_out (rest := rest) (ls := ls) (pc := pc) (E := E') (Qc := va_Qi post (fun u t => va_P D vwCl (Wf u) t.heap) A) (XC := ckX H XP) (mc := 1) (ms := 6) (free := A) (fun x hx => (hout x hx).elim) hlocks (by rw [e1]; exact hce) hcv hcl (fun t9 ht9 _ => ⟨hfail hnc, by rw [ht9]; exact hg2⟩) (fun z h => by simp at h) (Nat.le_refl _) (Nat.le_refl _) T' rfl X'
    exact ⟨t2, st.trans a1, b1⟩
end
