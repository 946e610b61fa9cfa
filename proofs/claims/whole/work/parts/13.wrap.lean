/-! The law's own wrappers: they call MoorWatch's face and catch what it throws. -/
def notin (W : va_W) (q : Nat) : Prop := ∀ (k : Nat) (p : Nat × va_E), W[k]? = some p → p.1 ≠ q
theorem va_P_l {D : va_G} {W1 W2 : va_W} {H : Heap} (h : va_P D vwCl (W1 ++ W2) H) : va_P D vwCl W1 H := fun k q hk => h k q (by rw [List.getElem?_append_left (List.getElem?_eq_some_iff.mp hk).1]; exact hk)
theorem va_P_r {D : va_G} {W1 W2 : va_W} {H : Heap} (h : va_P D vwCl (W1 ++ W2) H) : va_P D vwCl W2 H := fun k q hk => h (W1.length + k) q (by rw [List.getElem?_append_right (Nat.le_add_right _ _), Nat.add_sub_cancel_left]; exact hk)
theorem va_D_l {A : Nat → Prop} {W1 W2 : va_W} (h : va_D A (W1 ++ W2)) : va_D (fun q => A q ∧ notin W2 q) W1 := by
  have e : ∀ (k : Nat) (q : Nat × va_E), W1[k]? = some q → (W1 ++ W2)[k]? = some q := fun k q hk => by rw [List.getElem?_append_left (List.getElem?_eq_some_iff.mp hk).1]; exact hk
  refine ⟨fun i j p q hp hq he => h.1 i j p q (e i p hp) (e j q hq) he, fun k q hk => ⟨h.2 k q (e k q hk), fun i p hp hpq => ?_⟩⟩
  have h1 := h.1 k (W1.length + i) q p (e k q hk) (by rw [List.getElem?_append_right (Nat.le_add_right _ _), Nat.add_sub_cancel_left]; exact hp) hpq.symm
  have h2 := (List.getElem?_eq_some_iff.mp hk).1
  omega
theorem va_D_r {A : Nat → Prop} {W1 W2 : va_W} (h : va_D A (W1 ++ W2)) : va_D (fun q => A q ∧ notin W1 q) W2 := by
  have e : ∀ (k : Nat) (q : Nat × va_E), W2[k]? = some q → (W1 ++ W2)[W1.length + k]? = some q := fun k q hk => by rw [List.getElem?_append_right (Nat.le_add_right _ _), Nat.add_sub_cancel_left]; exact hk
  refine ⟨fun i j p q hp hq he => by have := h.1 _ _ p q (e i p hp) (e j q hq) he; omega, fun k q hk => ⟨h.2 _ q (e k q hk), fun i p hp hpq => ?_⟩⟩
  have h3 := (List.getElem?_eq_some_iff.mp hp).1
  have h1 := h.1 i (W1.length + k) p q (by rw [List.getElem?_append_left h3]; exact hp) (e k q hk) hpq
  omega
/-- the cells beside a callee's stay -/
theorem keepW {A : Nat → Prop} {D : va_G} {W2 : va_W} {H H1 : Heap} (hP : va_P D vwCl W2 H) (hk : ∀ q : Nat, q < H.size → ¬ (A q ∧ notin W2 q) → H1[q]? = H[q]?) : va_P D vwCl W2 H1 :=
  hP.kept (fun k q hq => hk q.1 (hP k q hq).lt (fun w => w.2 k q hq rfl))
theorem keepG {D : va_G} {W2 : va_W} {H H1 : Heap} (hP : va_P D vwCl W2 H) (hg : grew H H1) : va_P D vwCl W2 H1 :=
  hP.kept (fun k q hq => hg.2 q.1 (hP k q hq).lt)
theorem tpA_nar {A B : Nat → Prop} {H : Heap} {s : State} (h : tpA A H s) (hAB : ∀ q, B q → A q) : tpA B H s := ⟨⟨vx_Zq.narrow h.1.1 hAB, vx_Zq.narrow h.1.2 hAB⟩, h.2⟩
abbrev tyL (cI cZ cJ : ClassId) : List (ClassId × FieldType) := [(cI, .int), (cZ, .boolean), (cJ, .long)]
abbrev ow (cJ : ClassId) (o : Nat) (w : Nat → Int64) : va_W := [(o, .inl (cJ, 1, .inr (.inl w)))]
abbrev xo (cI cZ cJ : ClassId) (h : Nat) (a : Nat → Nat) (σ : St) (o : Nat) (w : Nat → Int64) : va_W := xw cI cZ h a σ ++ ow cJ o w
def lwM (l : Launch) (y : MethodName) (ws : List Cond) (rm : Room) (av : List Value) (D : va_G) (W0 : va_W) (tys : List (ClassId × FieldType)) (H0 : Heap) (A : Nat → Prop) {S : Type} (Wf : S → va_W) (post : Int32 → S → Prop) : Prop :=
  Met l y ws rm (thP av D W0 tys H0 A) (va_Qi post (fun u t => va_P D vwCl (Wf u) t.heap) A) 1 6 A
def lwQ (below : List Frame) (D : va_G) {S : Type} (Wf : S → va_W) (post : Int32 → S → Prop) (A : Nat → Prop) (args : Array Value) (s : State) : State → Prop := MQ below (va_Qi post (fun u t => va_P D vwCl (Wf u) t.heap) A) args s 1 6 A
theorem lw_of {l : Launch} {y : MethodName} {cc : ByteArray} {maxL : Nat} {ret : Option FieldType} {hh : List (Nat × Nat × Nat × Nat)} {ws ws' : List Cond} {rm : Room} {av : List Value} {D : va_G} {W0 : va_W} {tys : List (ClassId × FieldType)} {H0 : Heap} {S : Type} {Wf : S → va_W} {post : Int32 → S → Prop} {A : Nat → Prop} (hy : plainName y.cls = true) (hw : ws = Cond.codeWith y cc maxL ret hh :: ws') (hn : (lg_sl av).length ≤ maxL)
    (body : ∀ (p : Program) (e : Env) (s : State) (m : MethodId) (args : Array Value) (below : List Frame) (meth : Method) (c : Code), roE p s m meth c args y cc maxL ret ws → c.exceptionTable.toList = tableOf hh → s.heap = H0 → va_P D vwCl W0 H0 → va_K D vwCl tys s → tpA A H0 s → ∀ ls : Array Slot, lv_has ls maxL (lv_args 0 av) → W p l e rm s m args below meth c H0 [] 0 0 (lwQ below D Wf post A args s) (F0 m 0 ls [])) : lwM l y ws rm av D W0 tys H0 A Wf post := by
  unfold lwM Met
  refine MetFree.of_bodyS (code := cc) (maxLocals := maxL) (ret := ret) hy ?_ ?_
  · intro args s m h hn
    obtain ⟨m9, meth, c, hn9, h1, h2, h3, h4, -, h5, h6, -⟩ := Cond.codeWith_spec (atoms_spec (ws := ws) h _ (by rw [hw]; exact List.mem_cons_self))
    cases hn.symm.trans hn9
    exact ⟨meth, c, h1, h2, h3, h4, h5, h6⟩
  · intro p e s m args below meth c s₁ B hml hv _
    have hh0 : s₁.heap = s.heap := by rw [B.state]; rfl
    obtain ⟨rfl, hH, hP, hK, hT⟩ := hv
    have hts := atoms_spec (ws := ws) B.pre
    have htab : c.exceptionTable.toList = tableOf hh := vx_table (x := y) B (hts (Cond.codeWith y cc maxL ret hh) (by rw [hw]; exact List.mem_cons_self))
    have K : W p l e rm s m av.toArray below meth c H0 [] 0 0 (lwQ below D Wf post A av.toArray s) (entryFrame m av.toArray maxL) := by
      rw [lg_entry_eq]
      exact body p e s m _ below meth c ⟨B.exec, B.bytes, B.returns, hml, findClass_of_methodNamed B.named, hts, B.notSynchronized⟩ htab hH hP hK hT _ (lv_entry av hn)
    obtain ⟨t, a1, o, b1, b2, b3⟩ := K s₁ (hh0.trans hH) (Stand.of_body B)
    exact ⟨t, o, a1, b1, b2, ⟨b3.1, b3.2⟩⟩
section
variable {p : Program} {l : Launch} {e : Env} {R : Room} {s : State} {m : MethodId} {args : Array Value} {below : List Frame} {meth : Method} {c : Code} {H : Heap} {locs : List Loc} {cells slots : Nat} {Q : State → Prop}
variable {y : MethodName} {bytes cc : ByteArray} {maxL nL index : Nat} {ret : Option FieldType} {ws ws' : List Cond} {rm : Room} {Ts : List Cond} {own : String} {b : Addr} {As rest st0 : List Value} {pc : Nat} {ls : Array Slot} {D : va_G} {W0 : va_W} {tys : List (ClassId × FieldType)} {A A0 : Nat → Prop} {H0 : Heap}
theorem lw_iret {S : Type} {Wf : S → va_W} {post : Int32 → S → Prop} {v : Int32} (u : S) (hexec : p.tables.exec = Jvm.exec) (hb : c.code = cc) (hr : meth.sig.returnType = some .int) (hlocks : meth.locks = false) (hH : s.heap = H0) (hS : va_S A H0 H locs) (hP : va_P D vwCl (Wf u) H) (hp : post v u) (hdg : decode cc pc = .ok (.ireturn, 1)) : W p l e R s m args below meth c H locs 1 6 (lwQ below D Wf post A args s) (F0 m pc ls [.int v]) :=
  W.iret (v := v) hexec hb hr (fun t ht _ => ⟨⟨v, u, rfl, hp, (by subst ht; exact hP)⟩, va_S.F (by rw [hH]; exact hS) ht⟩) hS.2.2 hdg hlocks
theorem th_callV {S : Type} {Wf : S → va_W} {post : Int32 → S → Prop} {XP : String → Prop} (n : Nat) (hx : p.tables.exec = Jvm.exec) (hb : c.code = cc) (hml : c.maxLocals = nL) (hown : s.vm.findClass own = some m.cls) (hts : ∀ w ∈ Ts, w.before args s = true) (hsize : ls.size = nL)
    (hP : va_P D vwCl W0 H) (hK : va_K D vwCl tys s) (hT : tpA A H s) (hS : va_S A0 H0 H locs) (hAA : ∀ q, A q → A0 q) (q0 ci : Nat) {q : vw_C} {fs : List Value} (hc : vwCl[ci]? = some q) (he : W0[q0]? = some (b, .inr (ci, fs))) (hM : thM l y ws rm (.ref b :: As) D W0 tys H A Wf post XP) (hG : GoodIn Ts (wsV own index q.1 y ws)) (hw : ws = Cond.code y bytes maxL ret :: ws') (hrc : rm.cells = 1) (hrs : rm.slots = 6)
    (hd : y.cls = q.1 ∧ y.cls ≠ "java/lang/invoke/MethodHandle" ∧ y.cls ≠ "java/lang/invoke/VarHandle" ∧ (parseMethodDescriptor y.desc).map (fun d => d.parameters.length) = some n) (hR : rm.frames + 1 ≤ R.frames ∧ 8 + (maxL + 11) + rm.locals ≤ R.locals) (hn : As.length = n) (hst : st0 = As.reverse ++ .ref b :: rest) (hW : (rest.map fun v => v.category).sum ≤ 8)
    (hdg : decode cc pc = .ok (.invokevirtual index, 3)) (hf : cells + 1 ≤ R.cells ∧ slots + 6 ≤ R.slots)
    (kx : ∀ (E : String) (ce : Cell) (q9 : Addr) (H1 : Heap) (locs1 : List Loc), XP E → grew H H1 → va_S A0 H0 H1 locs1 → H1[q9]? = some ce → ce.vm = .none → s.vm.findClass E = some ce.cls → vx_W p l e R s m args below meth c H1 locs1 (cells + 1) (slots + 6) Q (F0 m pc ls rest) q9)
    (kk : ∀ (r : Int32) (u : S) (H1 : Heap) (locs1 : List Loc), post r u → va_P D vwCl (Wf u) H1 → va_S A0 H0 H1 locs1 → (∀ q : Nat, q < H.size → ¬ A q → H1[q]? = H[q]?) → W p l e R s m args below meth c H1 locs1 (cells + 1) (slots + 6) Q (F0 m (pc + 3) ls (.int r :: rest))) : W p l e R s m args below meth c H locs cells slots Q (F0 m pc ls st0) := by
  intro T hT0 X
  rcases vx_runV ⟨hx, hb, hml, hown, hts⟩ hM (cwV n hts hG hw hrc hrs hd hR) ⟨thP_blind, va_recv hK hP hc he, fun U hU hWm => ⟨rfl, hU, hP, va_K.moved hWm.alike hK, tpA_warm hWm hT⟩⟩ rfl hn hsize hst (lv_room hW) hdg hf T hT0 X with ⟨v, st₀, t, T', L, h0, X', hL, e1, e2, ⟨⟨r, u, hv, hp, hb9⟩, hF⟩, st⟩ | ⟨q9, st₀, t, T', L, E, ce, h0, X', hL, e1, e2, ⟨hxp, hg⟩, hce, hcv, hcl, st⟩
  · cases hv
    obtain ⟨k1, k2, k3⟩ := vx_keep h0 e1 hS (fun q _ h => hAA q h) hAA hL hF
    obtain ⟨t2, a1, b1⟩ := kk r u T'.heap (locs ++ L) hp (by rw [e1]; exact hb9) k3 k2 T' rfl X'
    exact ⟨t2, st t2 a1, b1⟩
  · have hg2 : grew H T'.heap := by rw [e1]; exact hg
    have hS2 : va_S A0 H0 T'.heap (locs ++ L) := ⟨Nat.le_trans hS.1 hg2.1, fun q h1 h2 => (hg2.2 q (Nat.lt_of_lt_of_le h1 hS.1)).trans (hS.2.1 q h1 h2), fun q hq => by
      rcases List.mem_append.mp hq with h | h
      · exact hS.2.2 q h
      · exact hAA _ (hL q h)⟩
    obtain ⟨t2, a1, b1⟩ := kx E ce q9 T'.heap (locs ++ L) hxp hg2 hS2 (by rw [e1]; exact hce) hcv hcl T' rfl X'
    exact ⟨t2, st.trans a1, b1⟩
theorem lw_callS {S : Type} {Wf : S → va_W} {post : Int32 → S → Prop} {hh : List (Nat × Nat × Nat × Nat)} (n : Nat) (hx : p.tables.exec = Jvm.exec) (hb : c.code = cc) (hml : c.maxLocals = nL) (hown : s.vm.findClass own = some m.cls) (hts : ∀ w ∈ Ts, w.before args s = true) (hsize : ls.size = nL)
    (hP : va_P D vwCl W0 H) (hK : va_K D vwCl tys s) (hT : tpA A H s) (hS : va_S A0 H0 H locs) (hAA : ∀ q, A q → A0 q) (hM : lwM l y ws rm As D W0 tys H A Wf post) (hG : GoodIn Ts (va_wsS own index y ws)) (hw : ws = Cond.codeWith y bytes maxL ret hh :: ws') (hrc : rm.cells = 1) (hrs : rm.slots = 6)
    (hd : y.cls ≠ "java/lang/invoke/MethodHandle" ∧ y.cls ≠ "java/lang/invoke/VarHandle" ∧ (parseMethodDescriptor y.desc).map (fun d => d.parameters.length) = some n) (hR : rm.frames + 1 ≤ R.frames ∧ 8 + (maxL + 11) + rm.locals ≤ R.locals) (hn : As.length = n) (hst : st0 = As.reverse ++ rest) (hW : (rest.map fun v => v.category).sum ≤ 8)
    (hdg : decode cc pc = .ok (.invokestatic index, 3)) (hf : cells + 1 ≤ R.cells ∧ slots + 6 ≤ R.slots) (kk : ∀ (r : Int32) (u : S) (H1 : Heap) (locs1 : List Loc), post r u → va_P D vwCl (Wf u) H1 → va_S A0 H0 H1 locs1 → (∀ q : Nat, q < H.size → ¬ A q → H1[q]? = H[q]?) → W p l e R s m args below meth c H1 locs1 (cells + 1) (slots + 6) Q (F0 m (pc + 3) ls (.int r :: rest))) : W p l e R s m args below meth c H locs cells slots Q (F0 m pc ls st0) :=
  va_calli (vx_runSW ⟨hx, hb, hml, hown, hts⟩ hM (vx_cwSW n hts hG hw hrc hrs hd hR) ⟨thP_blind, fun U hU hWm => ⟨rfl, hU, hP, va_K.moved hWm.alike hK, tpA_warm hWm hT⟩⟩ rfl hn hsize hst (lv_room hW) hdg hf) hS (fun q _ h => hAA q h) hAA (fun r u t H1 locs1 ht _ hp hB _ hk hS1 => kk r u H1 locs1 hp (by rw [← ht]; exact hB) hS1 hk)
end
theorem ul0 {w : Nat → Int64} {x : Int64} : vp_updL w (0 : Int32).toNatClampNeg x 0 = x := by
  have e : (0 : Int32).toNatClampNeg = 0 := rfl
  rw [e]
  exact pk_uLs
theorem gkn2 {b1 b3 : Bool} (h : goK b1 true b3 = 2) : False := by cases b1 <;> cases b3 <;> exact absurd h (by decide)
theorem gkn3 {b1 b2 : Bool} (h : goK b1 b2 true = 3) : False := by cases b1 <;> cases b2 <;> exact absurd h (by decide)
theorem bI_01 (b : Bool) : bI b = 0 ∨ bI b = 1 := by cases b; exact Or.inl rfl; exact Or.inr rfl
theorem nx_01 (σ : St) (j : Nat) : nxF σ j = 0 ∨ nxF σ j = 1 := by unfold nxF; by_cases h : σ 13 j = 0; rw [if_pos h]; exact Or.inr rfl; rw [if_neg h]; exact Or.inl rfl
set_option maxHeartbeats 4000000 in
set_option maxRecDepth 100000 in
theorem c_L_addBollard (l : Launch) (hfl : l.stackTraces = false) (D : va_G) (cI cZ cJ : ClassId) (h : Nat) (a : Nat → Nat) (σ : St) (o : Nat) (w : Nat → Int64) (Hi : Heap) (A : Nat → Prop) (hD : va_D A (xo cI cZ cJ h a σ o w)) {nL nB : Nat} (hI : inv σ nL nB) (pl lim : Int32) : lwM l yL_addBollard wsL_addBollard ({ frames := 8, cells := 1, slots := 6, locals := 135 }) [.ref h, .int pl, .int lim, .ref o] D (xo cI cZ cJ h a σ o w) (tyL cI cZ cJ) Hi A (S := St × (Nat → Int64)) (fun u => xo cI cZ cJ h a u.1 o u.2) (fun r u => r = goK (inR pl (-5000) 5000 && inR lim 1 1000000) (decide (nB < 6)) true ∧ (goK (inR pl (-5000) 5000 && inR lim 1 1000000) (decide (nB < 6)) true = 0 → u.2 0 = (nI nB).toInt64 ∧ u.1 = abS σ nB pl lim) ∧ (¬ goK (inR pl (-5000) 5000 && inR lim 1 1000000) (decide (nB < 6)) true = 0 → u.1 = σ)) := by
  refine lw_of (cc := cL_addBollard) (maxL := 5) (ret := some .int) (by decide) rfl (Nat.le_of_ble_eq_true rfl) ?_
  intro p e s m args below meth c he htab hH hP hK hT ls hl
  obtain ⟨hx, hb, hr, hml, hown, hts, hlocks⟩ := he
  have hown : s.vm.findClass RL = some m.cls := hown
  have hS : va_S A Hi Hi [] := va_S.rf
  have hl : lv_has ls 5 [(0, .ref h), (1, .int pl), (2, .int lim), (3, .ref o)] := hl
  have hPx := va_P_l hP
  have hPo := va_P_r hP
  have hDx := va_D_l hD
  have hKx : va_K D vwCl (tyX cI cZ) s := hK.sub [0, 1] rfl
  have hTx := tpA_nar hT (B := fun q => A q ∧ notin (ow cJ o w) q) (fun q h => h.1)
  refine lv_aload_n hx hb dL_addBollard_0 rfl (lv_at hl 3 rfl) ?_
  refine lv_iconst (v := 0) hx hb dL_addBollard_1 (by decide) ?_
  refine lv_aload_n hx hb dL_addBollard_2 rfl (lv_at hl 0 rfl) ?_
  refine lv_iload_n hx hb dL_addBollard_3 rfl (lv_at hl 1 rfl) ?_
  refine lv_iload_n hx hb dL_addBollard_4 rfl (lv_at hl 2 rfl) ?_
  refine th_callV 2 hx hb hml hown hts hl.1 hPx hKx hTx hS (fun q h => h.1) 0 0 rfl rfl (As := [.int pl, .int lim]) (rest := [.int 0, .ref o]) (c_X0_addBollard l hfl D cI cZ h a σ Hi _ hDx hI pl lim) gL_addBollard_X0_addBollard rfl rfl rfl (by decide +kernel) ⟨Nat.le_of_ble_eq_true rfl, Nat.le_of_ble_eq_true rfl⟩ rfl rfl (Nat.le_of_ble_eq_true rfl) dL_addBollard_5 ⟨Nat.le_of_ble_eq_true rfl, Nat.le_of_ble_eq_true rfl⟩ (fun E ce q9 H locs hxp hg hS hce hcv hcl => ?_) (fun r1 u1 H locs hp1 hPx hS hk1 => ?_)
  · have hP9 : va_P D vwCl (xo cI cZ cJ h a σ o w) H := keepG hP hg
    rcases hxp with ⟨hk, rfl⟩ | ⟨hk, rfl⟩ | ⟨hk, rfl⟩
    · refine vx_catch (own := RL) (name := xE1) hown [] ⟨0, 10, 13, 13⟩ [⟨0, 10, 17, 15⟩] htab (fun _ h => absurd h List.not_mem_nil) (by decide) (by decide) (hts (.classLink RL 13 xE1) (by decide +kernel)) ((hT.2.2.2.1.1).use rfl) hce hcv hcl ?_
      refine lv_astore (lv' := [(4, .ref q9), (0, .ref h), (1, .int pl), (2, .int lim), (3, .ref o)]) hx hb dL_addBollard_13 hl (by decide) rfl (fun ls hl => ?_)
      refine lv_iconst (v := 1) hx hb dL_addBollard_15 (by decide) ?_
      exact lw_iret (v := 1) (σ, w) hx hb hr hlocks hH hS hP9 ⟨hk.symm, fun q => absurd (hk.symm.trans q) (by decide), fun _ => rfl⟩ dL_addBollard_16
    · refine vx_catch (own := RL) (name := xE2) hown [⟨0, 10, 13, 13⟩] ⟨0, 10, 17, 15⟩ [] htab (List.forall_mem_cons.mpr ⟨Or.inr ⟨by decide, xE1, hts (.classLink RL 13 xE1) (by decide +kernel), hT.2.2.2.2.2.1⟩, (fun _ h => absurd h List.not_mem_nil)⟩) (by decide) (by decide) (hts (.classLink RL 15 xE2) (by decide +kernel)) ((hT.2.2.2.1.2.1).use rfl) hce hcv hcl ?_
      refine lv_astore (lv' := [(4, .ref q9), (0, .ref h), (1, .int pl), (2, .int lim), (3, .ref o)]) hx hb dL_addBollard_17 hl (by decide) rfl (fun ls hl => ?_)
      refine lv_iconst (v := 2) hx hb dL_addBollard_19 (by decide) ?_
      exact lw_iret (v := 2) (σ, w) hx hb hr hlocks hH hS hP9 ⟨hk.symm, fun q => absurd (hk.symm.trans q) (by decide), fun _ => rfl⟩ dL_addBollard_20
    · exact (gkn3 hk).elim
  · obtain ⟨hk0, hr1, hn1⟩ := hp1
    have hP : va_P D vwCl (xo cI cZ cJ h a u1 o w) H := va_P.app hPx (keepW hPo hk1)
    have hD : va_D A (xo cI cZ cJ h a u1 o w) := va_D_ad (W := xo cI cZ cJ h a σ o w) (W' := xo cI cZ cJ h a u1 o w) rfl hD
    refine lv_i2l hx hb dL_addBollard_8 rfl ?_
    refine va_last hx hb hK hP hD hS 13 2 rfl rfl (by unfold vp_in; decide) dL_addBollard_9 (fun H locs hP hD hS => ?_)
    have hP : va_P D vwCl (xo cI cZ cJ h a u1 o (vp_updL w (0 : Int32).toNatClampNeg (r1.toInt64))) H := hP
    refine lv_goto (tgt := 21) hx hb dL_addBollard_10 (by decide) ?_
    refine lv_iconst (v := 0) hx hb dL_addBollard_21 (by decide) ?_
    exact lw_iret (v := 0) (u1, vp_updL w (0 : Int32).toNatClampNeg (r1.toInt64)) hx hb hr hlocks hH hS hP ⟨hk0.symm, fun _ => ⟨(ul0 (w := w) (x := r1.toInt64)).trans (by rw [hr1]), hn1⟩, fun q => absurd hk0 q⟩ dL_addBollard_22
set_option maxHeartbeats 4000000 in
set_option maxRecDepth 100000 in
theorem c_L_addLine (l : Launch) (hfl : l.stackTraces = false) (D : va_G) (cI cZ cJ : ClassId) (h : Nat) (a : Nat → Nat) (σ : St) (o : Nat) (w : Nat → Int64) (Hi : Heap) (A : Nat → Prop) (hD : va_D A (xo cI cZ cJ h a σ o w)) {nL nB : Nat} (hI : inv σ nL nB) (pt bo sf sr : Int32) : lwM l yL_addLine wsL_addLine ({ frames := 8, cells := 1, slots := 6, locals := 138 }) [.ref h, .int pt, .int bo, .int sf, .int sr, .ref o] D (xo cI cZ cJ h a σ o w) (tyL cI cZ cJ) Hi A (S := St × (Nat → Int64)) (fun u => xo cI cZ cJ h a u.1 o u.2) (fun r u => r = goK (inR bo 0 (nI nB - 1)) (inR pt (-5000) 5000 && (inR sf 1 100 && inR sr 1 1000000)) (decide (nL < 10)) ∧ (goK (inR bo 0 (nI nB - 1)) (inR pt (-5000) 5000 && (inR sf 1 100 && inR sr 1 1000000)) (decide (nL < 10)) = 0 → u.2 0 = (nI nL).toInt64 ∧ u.1 = alS σ nL pt bo sf sr) ∧ (¬ goK (inR bo 0 (nI nB - 1)) (inR pt (-5000) 5000 && (inR sf 1 100 && inR sr 1 1000000)) (decide (nL < 10)) = 0 → u.1 = σ)) := by
  refine lw_of (cc := cL_addLine) (maxL := 7) (ret := some .int) (by decide) rfl (Nat.le_of_ble_eq_true rfl) ?_
  intro p e s m args below meth c he htab hH hP hK hT ls hl
  obtain ⟨hx, hb, hr, hml, hown, hts, hlocks⟩ := he
  have hown : s.vm.findClass RL = some m.cls := hown
  have hS : va_S A Hi Hi [] := va_S.rf
  have hl : lv_has ls 7 [(0, .ref h), (1, .int pt), (2, .int bo), (3, .int sf), (4, .int sr), (5, .ref o)] := hl
  have hPx := va_P_l hP
  have hPo := va_P_r hP
  have hDx := va_D_l hD
  have hKx : va_K D vwCl (tyX cI cZ) s := hK.sub [0, 1] rfl
  have hTx := tpA_nar hT (B := fun q => A q ∧ notin (ow cJ o w) q) (fun q h => h.1)
  refine lv_aload hx hb dL_addLine_0 (lv_at hl 5 rfl) ?_
  refine lv_iconst (v := 0) hx hb dL_addLine_2 (by decide) ?_
  refine lv_aload_n hx hb dL_addLine_3 rfl (lv_at hl 0 rfl) ?_
  refine lv_iload_n hx hb dL_addLine_4 rfl (lv_at hl 1 rfl) ?_
  refine lv_iload_n hx hb dL_addLine_5 rfl (lv_at hl 2 rfl) ?_
  refine lv_iload_n hx hb dL_addLine_6 rfl (lv_at hl 3 rfl) ?_
  refine lv_iload hx hb dL_addLine_7 (lv_at hl 4 rfl) ?_
  refine th_callV 4 hx hb hml hown hts hl.1 hPx hKx hTx hS (fun q h => h.1) 0 0 rfl rfl (As := [.int pt, .int bo, .int sf, .int sr]) (rest := [.int 0, .ref o]) (c_X0_addLine l hfl D cI cZ h a σ Hi _ hDx hI pt bo sf sr) gL_addLine_X0_addLine rfl rfl rfl (by decide +kernel) ⟨Nat.le_of_ble_eq_true rfl, Nat.le_of_ble_eq_true rfl⟩ rfl rfl (Nat.le_of_ble_eq_true rfl) dL_addLine_9 ⟨Nat.le_of_ble_eq_true rfl, Nat.le_of_ble_eq_true rfl⟩ (fun E ce q9 H locs hxp hg hS hce hcv hcl => ?_) (fun r1 u1 H locs hp1 hPx hS hk1 => ?_)
  · have hP9 : va_P D vwCl (xo cI cZ cJ h a σ o w) H := keepG hP hg
    rcases hxp with ⟨hk, rfl⟩ | ⟨hk, rfl⟩ | ⟨hk, rfl⟩
    · refine vx_catch (own := RL) (name := xE3) hown [] ⟨0, 14, 17, 21⟩ [⟨0, 14, 21, 13⟩, ⟨0, 14, 25, 15⟩] htab (fun _ h => absurd h List.not_mem_nil) (by decide) (by decide) (hts (.classLink RL 21 xE3) (by decide +kernel)) ((hT.2.2.2.1.2.2).use rfl) hce hcv hcl ?_
      refine lv_astore (lv' := [(6, .ref q9), (0, .ref h), (1, .int pt), (2, .int bo), (3, .int sf), (4, .int sr), (5, .ref o)]) hx hb dL_addLine_17 hl (by decide) rfl (fun ls hl => ?_)
      refine lv_iconst (v := 1) hx hb dL_addLine_19 (by decide) ?_
      exact lw_iret (v := 1) (σ, w) hx hb hr hlocks hH hS hP9 ⟨hk.symm, fun q => absurd (hk.symm.trans q) (by decide), fun _ => rfl⟩ dL_addLine_20
    · refine vx_catch (own := RL) (name := xE1) hown [⟨0, 14, 17, 21⟩] ⟨0, 14, 21, 13⟩ [⟨0, 14, 25, 15⟩] htab (List.forall_mem_cons.mpr ⟨Or.inr ⟨by decide, xE3, hts (.classLink RL 21 xE3) (by decide +kernel), hT.2.2.2.2.2.2.2.2.2.1⟩, (fun _ h => absurd h List.not_mem_nil)⟩) (by decide) (by decide) (hts (.classLink RL 13 xE1) (by decide +kernel)) ((hT.2.2.2.1.1).use rfl) hce hcv hcl ?_
      refine lv_astore (lv' := [(6, .ref q9), (0, .ref h), (1, .int pt), (2, .int bo), (3, .int sf), (4, .int sr), (5, .ref o)]) hx hb dL_addLine_21 hl (by decide) rfl (fun ls hl => ?_)
      refine lv_iconst (v := 2) hx hb dL_addLine_23 (by decide) ?_
      exact lw_iret (v := 2) (σ, w) hx hb hr hlocks hH hS hP9 ⟨hk.symm, fun q => absurd (hk.symm.trans q) (by decide), fun _ => rfl⟩ dL_addLine_24
    · refine vx_catch (own := RL) (name := xE2) hown [⟨0, 14, 17, 21⟩, ⟨0, 14, 21, 13⟩] ⟨0, 14, 25, 15⟩ [] htab (List.forall_mem_cons.mpr ⟨Or.inr ⟨by decide, xE3, hts (.classLink RL 21 xE3) (by decide +kernel), hT.2.2.2.2.2.2.2.2.2.2⟩, (List.forall_mem_cons.mpr ⟨Or.inr ⟨by decide, xE1, hts (.classLink RL 13 xE1) (by decide +kernel), hT.2.2.2.2.2.1⟩, (fun _ h => absurd h List.not_mem_nil)⟩)⟩) (by decide) (by decide) (hts (.classLink RL 15 xE2) (by decide +kernel)) ((hT.2.2.2.1.2.1).use rfl) hce hcv hcl ?_
      refine lv_astore (lv' := [(6, .ref q9), (0, .ref h), (1, .int pt), (2, .int bo), (3, .int sf), (4, .int sr), (5, .ref o)]) hx hb dL_addLine_25 hl (by decide) rfl (fun ls hl => ?_)
      refine lv_iconst (v := 3) hx hb dL_addLine_27 (by decide) ?_
      exact lw_iret (v := 3) (σ, w) hx hb hr hlocks hH hS hP9 ⟨hk.symm, fun q => absurd (hk.symm.trans q) (by decide), fun _ => rfl⟩ dL_addLine_28
  · obtain ⟨hk0, hr1, hn1⟩ := hp1
    have hP : va_P D vwCl (xo cI cZ cJ h a u1 o w) H := va_P.app hPx (keepW hPo hk1)
    have hD : va_D A (xo cI cZ cJ h a u1 o w) := va_D_ad (W := xo cI cZ cJ h a σ o w) (W' := xo cI cZ cJ h a u1 o w) rfl hD
    refine lv_i2l hx hb dL_addLine_12 rfl ?_
    refine va_last hx hb hK hP hD hS 13 2 rfl rfl (by unfold vp_in; decide) dL_addLine_13 (fun H locs hP hD hS => ?_)
    have hP : va_P D vwCl (xo cI cZ cJ h a u1 o (vp_updL w (0 : Int32).toNatClampNeg (r1.toInt64))) H := hP
    refine lv_goto (tgt := 29) hx hb dL_addLine_14 (by decide) ?_
    refine lv_iconst (v := 0) hx hb dL_addLine_29 (by decide) ?_
    exact lw_iret (v := 0) (u1, vp_updL w (0 : Int32).toNatClampNeg (r1.toInt64)) hx hb hr hlocks hH hS hP ⟨hk0.symm, fun _ => ⟨(ul0 (w := w) (x := r1.toInt64)).trans (by rw [hr1]), hn1⟩, fun q => absurd hk0 q⟩ dL_addLine_30
set_option maxHeartbeats 4000000 in
set_option maxRecDepth 100000 in
theorem c_L_toggle (l : Launch) (hfl : l.stackTraces = false) (D : va_G) (cI cZ cJ : ClassId) (h : Nat) (a : Nat → Nat) (σ : St) (o : Nat) (w : Nat → Int64) (Hi : Heap) (A : Nat → Prop) (hD : va_D A (xo cI cZ cJ h a σ o w)) {nL nB : Nat} (hI : inv σ nL nB) (line : Int32) : lwM l yL_toggle wsL_toggle ({ frames := 8, cells := 1, slots := 6, locals := 132 }) [.ref h, .int line, .ref o] D (xo cI cZ cJ h a σ o w) (tyL cI cZ cJ) Hi A (S := St × (Nat → Int64)) (fun u => xo cI cZ cJ h a u.1 o u.2) (fun r u => r = goK (inR line 0 (nI nL - 1)) true true ∧ (goK (inR line 0 (nI nL - 1)) true true = 0 → u.2 0 = (nxF σ (tN line)).toInt64 ∧ u.1 = st σ 13 (upd (σ 13) (tN line) (nxF σ (tN line)))) ∧ (¬ goK (inR line 0 (nI nL - 1)) true true = 0 → u.1 = σ)) := by
  refine lw_of (cc := cL_toggle) (maxL := 4) (ret := some .int) (by decide) rfl (Nat.le_of_ble_eq_true rfl) ?_
  intro p e s m args below meth c he htab hH hP hK hT ls hl
  obtain ⟨hx, hb, hr, hml, hown, hts, hlocks⟩ := he
  have hown : s.vm.findClass RL = some m.cls := hown
  have hS : va_S A Hi Hi [] := va_S.rf
  have hl : lv_has ls 4 [(0, .ref h), (1, .int line), (2, .ref o)] := hl
  have hPx := va_P_l hP
  have hPo := va_P_r hP
  have hDx := va_D_l hD
  have hKx : va_K D vwCl (tyX cI cZ) s := hK.sub [0, 1] rfl
  have hTx := tpA_nar hT (B := fun q => A q ∧ notin (ow cJ o w) q) (fun q h => h.1)
  refine lv_aload_n hx hb dL_toggle_0 rfl (lv_at hl 2 rfl) ?_
  refine lv_iconst (v := 0) hx hb dL_toggle_1 (by decide) ?_
  refine lv_aload_n hx hb dL_toggle_2 rfl (lv_at hl 0 rfl) ?_
  refine lv_iload_n hx hb dL_toggle_3 rfl (lv_at hl 1 rfl) ?_
  refine th_callV 1 hx hb hml hown hts hl.1 hPx hKx hTx hS (fun q h => h.1) 0 0 rfl rfl (As := [.int line]) (rest := [.int 0, .ref o]) (c_X0_toggle l hfl D cI cZ h a σ Hi _ hDx hI line) gL_toggle_X0_toggle rfl rfl rfl (by decide +kernel) ⟨Nat.le_of_ble_eq_true rfl, Nat.le_of_ble_eq_true rfl⟩ rfl rfl (Nat.le_of_ble_eq_true rfl) dL_toggle_4 ⟨Nat.le_of_ble_eq_true rfl, Nat.le_of_ble_eq_true rfl⟩ (fun E ce q9 H locs hxp hg hS hce hcv hcl => ?_) (fun r1 u1 H locs hp1 hPx hS hk1 => ?_)
  · have hP9 : va_P D vwCl (xo cI cZ cJ h a σ o w) H := keepG hP hg
    rcases hxp with ⟨hk, rfl⟩ | ⟨hk, rfl⟩ | ⟨hk, rfl⟩
    · refine vx_catch (own := RL) (name := xE3) hown [] ⟨0, 16, 19, 21⟩ [] htab (fun _ h => absurd h List.not_mem_nil) (by decide) (by decide) (hts (.classLink RL 21 xE3) (by decide +kernel)) ((hT.2.2.2.1.2.2).use rfl) hce hcv hcl ?_
      refine lv_astore_n (lv' := [(3, .ref q9), (0, .ref h), (1, .int line), (2, .ref o)]) hx hb dL_toggle_19 rfl hl (by decide) rfl (fun ls hl => ?_)
      refine lv_iconst (v := 1) hx hb dL_toggle_20 (by decide) ?_
      exact lw_iret (v := 1) (σ, w) hx hb hr hlocks hH hS hP9 ⟨hk.symm, fun q => absurd (hk.symm.trans q) (by decide), fun _ => rfl⟩ dL_toggle_21
    · exact (gkn2 hk).elim
    · exact (gkn3 hk).elim
  · obtain ⟨hk0, hr1, hn1⟩ := hp1
    have hP : va_P D vwCl (xo cI cZ cJ h a u1 o w) H := va_P.app hPx (keepW hPo hk1)
    have hD : va_D A (xo cI cZ cJ h a u1 o w) := va_D_ad (W := xo cI cZ cJ h a σ o w) (W' := xo cI cZ cJ h a u1 o w) rfl hD
    refine lv_if_eq (tgt := 14) hx hb dL_toggle_7 (by decide) (fun c7 => ?_) (fun c7 => ?_)
    · refine lv_lconst (v := 0) hx hb dL_toggle_14 (by decide) ?_
      refine va_last hx hb hK hP hD hS 13 2 rfl rfl (by unfold vp_in; decide) dL_toggle_15 (fun H locs hP hD hS => ?_)
      have hP : va_P D vwCl (xo cI cZ cJ h a u1 o (vp_updL w (0 : Int32).toNatClampNeg 0)) H := hP
      refine lv_goto (tgt := 22) hx hb dL_toggle_16 (by decide) ?_
      refine lv_iconst (v := 0) hx hb dL_toggle_22 (by decide) ?_
      exact lw_iret (v := 0) (u1, vp_updL w (0 : Int32).toNatClampNeg 0) hx hb hr hlocks hH hS hP ⟨hk0.symm, fun _ => ⟨Eq.trans (ul0 (w := w)) (show (0 : Int64) = _ by rw [← hr1, c7]; rfl), hn1⟩, fun q => absurd hk0 q⟩ dL_toggle_23
    · refine lv_lconst (v := 1) hx hb dL_toggle_10 (by decide) ?_
      refine lv_goto (tgt := 15) hx hb dL_toggle_11 (by decide) ?_
      refine va_last hx hb hK hP hD hS 13 2 rfl rfl (by unfold vp_in; decide) dL_toggle_15 (fun H locs hP hD hS => ?_)
      have hP : va_P D vwCl (xo cI cZ cJ h a u1 o (vp_updL w (0 : Int32).toNatClampNeg 1)) H := hP
      refine lv_goto (tgt := 22) hx hb dL_toggle_16 (by decide) ?_
      refine lv_iconst (v := 0) hx hb dL_toggle_22 (by decide) ?_
      exact lw_iret (v := 0) (u1, vp_updL w (0 : Int32).toNatClampNeg 1) hx hb hr hlocks hH hS hP ⟨hk0.symm, fun _ => ⟨Eq.trans (ul0 (w := w)) (show (1 : Int64) = _ by rcases (nx_01 _ _ : nxF σ (tN line) = 0 ∨ nxF σ (tN line) = 1) with z | z; exact absurd (hr1.trans z) c7; rw [z]; rfl), hn1⟩, fun q => absurd hk0 q⟩ dL_toggle_23
set_option maxHeartbeats 4000000 in
set_option maxRecDepth 100000 in
theorem c_L_setTide (l : Launch) (hfl : l.stackTraces = false) (D : va_G) (cI cZ cJ : ClassId) (h : Nat) (a : Nat → Nat) (σ : St) (o : Nat) (w : Nat → Int64) (Hi : Heap) (A : Nat → Prop) (hD : va_D A (xo cI cZ cJ h a σ o w)) {nL nB : Nat} (hI : inv σ nL nB) (hour v : Int32) : lwM l yL_setTide wsL_setTide ({ frames := 8, cells := 1, slots := 6, locals := 135 }) [.ref h, .int hour, .int v, .ref o] D (xo cI cZ cJ h a σ o w) (tyL cI cZ cJ) Hi A (S := St × (Nat → Int64)) (fun u => xo cI cZ cJ h a u.1 o u.2) (fun r u => r = goK (inR hour 0 47) (inR v (-200) 200) true ∧ (goK (inR hour 0 47) (inR v (-200) 200) true = 0 → u.2 0 = (σ 0 (tN hour)).toInt64 ∧ u.1 = st σ 0 (upd (σ 0) (tN hour) v)) ∧ (¬ goK (inR hour 0 47) (inR v (-200) 200) true = 0 → u.1 = σ)) := by
  refine lw_of (cc := cL_setTide) (maxL := 5) (ret := some .int) (by decide) rfl (Nat.le_of_ble_eq_true rfl) ?_
  intro p e s m args below meth c he htab hH hP hK hT ls hl
  obtain ⟨hx, hb, hr, hml, hown, hts, hlocks⟩ := he
  have hown : s.vm.findClass RL = some m.cls := hown
  have hS : va_S A Hi Hi [] := va_S.rf
  have hl : lv_has ls 5 [(0, .ref h), (1, .int hour), (2, .int v), (3, .ref o)] := hl
  have hPx := va_P_l hP
  have hPo := va_P_r hP
  have hDx := va_D_l hD
  have hKx : va_K D vwCl (tyX cI cZ) s := hK.sub [0, 1] rfl
  have hTx := tpA_nar hT (B := fun q => A q ∧ notin (ow cJ o w) q) (fun q h => h.1)
  refine lv_aload_n hx hb dL_setTide_0 rfl (lv_at hl 3 rfl) ?_
  refine lv_iconst (v := 0) hx hb dL_setTide_1 (by decide) ?_
  refine lv_aload_n hx hb dL_setTide_2 rfl (lv_at hl 0 rfl) ?_
  refine lv_iload_n hx hb dL_setTide_3 rfl (lv_at hl 1 rfl) ?_
  refine lv_iload_n hx hb dL_setTide_4 rfl (lv_at hl 2 rfl) ?_
  refine th_callV 2 hx hb hml hown hts hl.1 hPx hKx hTx hS (fun q h => h.1) 0 0 rfl rfl (As := [.int hour, .int v]) (rest := [.int 0, .ref o]) (c_X0_setTide l hfl D cI cZ h a σ Hi _ hDx hI hour v) gL_setTide_X0_setTide rfl rfl rfl (by decide +kernel) ⟨Nat.le_of_ble_eq_true rfl, Nat.le_of_ble_eq_true rfl⟩ rfl rfl (Nat.le_of_ble_eq_true rfl) dL_setTide_5 ⟨Nat.le_of_ble_eq_true rfl, Nat.le_of_ble_eq_true rfl⟩ (fun E ce q9 H locs hxp hg hS hce hcv hcl => ?_) (fun r1 u1 H locs hp1 hPx hS hk1 => ?_)
  · have hP9 : va_P D vwCl (xo cI cZ cJ h a σ o w) H := keepG hP hg
    rcases hxp with ⟨hk, rfl⟩ | ⟨hk, rfl⟩ | ⟨hk, rfl⟩
    · refine vx_catch (own := RL) (name := xE3) hown [] ⟨0, 10, 13, 21⟩ [⟨0, 10, 17, 13⟩] htab (fun _ h => absurd h List.not_mem_nil) (by decide) (by decide) (hts (.classLink RL 21 xE3) (by decide +kernel)) ((hT.2.2.2.1.2.2).use rfl) hce hcv hcl ?_
      refine lv_astore (lv' := [(4, .ref q9), (0, .ref h), (1, .int hour), (2, .int v), (3, .ref o)]) hx hb dL_setTide_13 hl (by decide) rfl (fun ls hl => ?_)
      refine lv_iconst (v := 1) hx hb dL_setTide_15 (by decide) ?_
      exact lw_iret (v := 1) (σ, w) hx hb hr hlocks hH hS hP9 ⟨hk.symm, fun q => absurd (hk.symm.trans q) (by decide), fun _ => rfl⟩ dL_setTide_16
    · refine vx_catch (own := RL) (name := xE1) hown [⟨0, 10, 13, 21⟩] ⟨0, 10, 17, 13⟩ [] htab (List.forall_mem_cons.mpr ⟨Or.inr ⟨by decide, xE3, hts (.classLink RL 21 xE3) (by decide +kernel), hT.2.2.2.2.2.2.2.2.2.1⟩, (fun _ h => absurd h List.not_mem_nil)⟩) (by decide) (by decide) (hts (.classLink RL 13 xE1) (by decide +kernel)) ((hT.2.2.2.1.1).use rfl) hce hcv hcl ?_
      refine lv_astore (lv' := [(4, .ref q9), (0, .ref h), (1, .int hour), (2, .int v), (3, .ref o)]) hx hb dL_setTide_17 hl (by decide) rfl (fun ls hl => ?_)
      refine lv_iconst (v := 2) hx hb dL_setTide_19 (by decide) ?_
      exact lw_iret (v := 2) (σ, w) hx hb hr hlocks hH hS hP9 ⟨hk.symm, fun q => absurd (hk.symm.trans q) (by decide), fun _ => rfl⟩ dL_setTide_20
    · exact (gkn3 hk).elim
  · obtain ⟨hk0, hr1, hn1⟩ := hp1
    have hP : va_P D vwCl (xo cI cZ cJ h a u1 o w) H := va_P.app hPx (keepW hPo hk1)
    have hD : va_D A (xo cI cZ cJ h a u1 o w) := va_D_ad (W := xo cI cZ cJ h a σ o w) (W' := xo cI cZ cJ h a u1 o w) rfl hD
    refine lv_i2l hx hb dL_setTide_8 rfl ?_
    refine va_last hx hb hK hP hD hS 13 2 rfl rfl (by unfold vp_in; decide) dL_setTide_9 (fun H locs hP hD hS => ?_)
    have hP : va_P D vwCl (xo cI cZ cJ h a u1 o (vp_updL w (0 : Int32).toNatClampNeg (r1.toInt64))) H := hP
    refine lv_goto (tgt := 21) hx hb dL_setTide_10 (by decide) ?_
    refine lv_iconst (v := 0) hx hb dL_setTide_21 (by decide) ?_
    exact lw_iret (v := 0) (u1, vp_updL w (0 : Int32).toNatClampNeg (r1.toInt64)) hx hb hr hlocks hH hS hP ⟨hk0.symm, fun _ => ⟨(ul0 (w := w) (x := r1.toInt64)).trans (by rw [hr1]), hn1⟩, fun q => absurd hk0 q⟩ dL_setTide_22
set_option maxHeartbeats 4000000 in
set_option maxRecDepth 100000 in
theorem c_L_setLoad (l : Launch) (hfl : l.stackTraces = false) (D : va_G) (cI cZ cJ : ClassId) (h : Nat) (a : Nat → Nat) (σ : St) (o : Nat) (w : Nat → Int64) (Hi : Heap) (A : Nat → Prop) (hD : va_D A (xo cI cZ cJ h a σ o w)) {nL nB : Nat} (hI : inv σ nL nB) (hour v : Int32) : lwM l yL_setLoad wsL_setLoad ({ frames := 8, cells := 1, slots := 6, locals := 136 }) [.ref h, .int hour, .int v, .ref o] D (xo cI cZ cJ h a σ o w) (tyL cI cZ cJ) Hi A (S := St × (Nat → Int64)) (fun u => xo cI cZ cJ h a u.1 o u.2) (fun r u => r = goK (inR hour 0 47) (inR v (-200) 200) true ∧ (goK (inR hour 0 47) (inR v (-200) 200) true = 0 → u.2 0 = (σ 1 (tN hour)).toInt64 ∧ u.1 = st σ 1 (ldF (σ 1) (tN hour) v 48)) ∧ (¬ goK (inR hour 0 47) (inR v (-200) 200) true = 0 → u.1 = σ)) := by
  refine lw_of (cc := cL_setLoad) (maxL := 5) (ret := some .int) (by decide) rfl (Nat.le_of_ble_eq_true rfl) ?_
  intro p e s m args below meth c he htab hH hP hK hT ls hl
  obtain ⟨hx, hb, hr, hml, hown, hts, hlocks⟩ := he
  have hown : s.vm.findClass RL = some m.cls := hown
  have hS : va_S A Hi Hi [] := va_S.rf
  have hl : lv_has ls 5 [(0, .ref h), (1, .int hour), (2, .int v), (3, .ref o)] := hl
  have hPx := va_P_l hP
  have hPo := va_P_r hP
  have hDx := va_D_l hD
  have hKx : va_K D vwCl (tyX cI cZ) s := hK.sub [0, 1] rfl
  have hTx := tpA_nar hT (B := fun q => A q ∧ notin (ow cJ o w) q) (fun q h => h.1)
  refine lv_aload_n hx hb dL_setLoad_0 rfl (lv_at hl 3 rfl) ?_
  refine lv_iconst (v := 0) hx hb dL_setLoad_1 (by decide) ?_
  refine lv_aload_n hx hb dL_setLoad_2 rfl (lv_at hl 0 rfl) ?_
  refine lv_iload_n hx hb dL_setLoad_3 rfl (lv_at hl 1 rfl) ?_
  refine lv_iload_n hx hb dL_setLoad_4 rfl (lv_at hl 2 rfl) ?_
  refine th_callV 2 hx hb hml hown hts hl.1 hPx hKx hTx hS (fun q h => h.1) 0 0 rfl rfl (As := [.int hour, .int v]) (rest := [.int 0, .ref o]) (c_X0_setLoad l hfl D cI cZ h a σ Hi _ hDx hI hour v) gL_setLoad_X0_setLoad rfl rfl rfl (by decide +kernel) ⟨Nat.le_of_ble_eq_true rfl, Nat.le_of_ble_eq_true rfl⟩ rfl rfl (Nat.le_of_ble_eq_true rfl) dL_setLoad_5 ⟨Nat.le_of_ble_eq_true rfl, Nat.le_of_ble_eq_true rfl⟩ (fun E ce q9 H locs hxp hg hS hce hcv hcl => ?_) (fun r1 u1 H locs hp1 hPx hS hk1 => ?_)
  · have hP9 : va_P D vwCl (xo cI cZ cJ h a σ o w) H := keepG hP hg
    rcases hxp with ⟨hk, rfl⟩ | ⟨hk, rfl⟩ | ⟨hk, rfl⟩
    · refine vx_catch (own := RL) (name := xE3) hown [] ⟨0, 10, 13, 21⟩ [⟨0, 10, 17, 13⟩] htab (fun _ h => absurd h List.not_mem_nil) (by decide) (by decide) (hts (.classLink RL 21 xE3) (by decide +kernel)) ((hT.2.2.2.1.2.2).use rfl) hce hcv hcl ?_
      refine lv_astore (lv' := [(4, .ref q9), (0, .ref h), (1, .int hour), (2, .int v), (3, .ref o)]) hx hb dL_setLoad_13 hl (by decide) rfl (fun ls hl => ?_)
      refine lv_iconst (v := 1) hx hb dL_setLoad_15 (by decide) ?_
      exact lw_iret (v := 1) (σ, w) hx hb hr hlocks hH hS hP9 ⟨hk.symm, fun q => absurd (hk.symm.trans q) (by decide), fun _ => rfl⟩ dL_setLoad_16
    · refine vx_catch (own := RL) (name := xE1) hown [⟨0, 10, 13, 21⟩] ⟨0, 10, 17, 13⟩ [] htab (List.forall_mem_cons.mpr ⟨Or.inr ⟨by decide, xE3, hts (.classLink RL 21 xE3) (by decide +kernel), hT.2.2.2.2.2.2.2.2.2.1⟩, (fun _ h => absurd h List.not_mem_nil)⟩) (by decide) (by decide) (hts (.classLink RL 13 xE1) (by decide +kernel)) ((hT.2.2.2.1.1).use rfl) hce hcv hcl ?_
      refine lv_astore (lv' := [(4, .ref q9), (0, .ref h), (1, .int hour), (2, .int v), (3, .ref o)]) hx hb dL_setLoad_17 hl (by decide) rfl (fun ls hl => ?_)
      refine lv_iconst (v := 2) hx hb dL_setLoad_19 (by decide) ?_
      exact lw_iret (v := 2) (σ, w) hx hb hr hlocks hH hS hP9 ⟨hk.symm, fun q => absurd (hk.symm.trans q) (by decide), fun _ => rfl⟩ dL_setLoad_20
    · exact (gkn3 hk).elim
  · obtain ⟨hk0, hr1, hn1⟩ := hp1
    have hP : va_P D vwCl (xo cI cZ cJ h a u1 o w) H := va_P.app hPx (keepW hPo hk1)
    have hD : va_D A (xo cI cZ cJ h a u1 o w) := va_D_ad (W := xo cI cZ cJ h a σ o w) (W' := xo cI cZ cJ h a u1 o w) rfl hD
    refine lv_i2l hx hb dL_setLoad_8 rfl ?_
    refine va_last hx hb hK hP hD hS 13 2 rfl rfl (by unfold vp_in; decide) dL_setLoad_9 (fun H locs hP hD hS => ?_)
    have hP : va_P D vwCl (xo cI cZ cJ h a u1 o (vp_updL w (0 : Int32).toNatClampNeg (r1.toInt64))) H := hP
    refine lv_goto (tgt := 21) hx hb dL_setLoad_10 (by decide) ?_
    refine lv_iconst (v := 0) hx hb dL_setLoad_21 (by decide) ?_
    exact lw_iret (v := 0) (u1, vp_updL w (0 : Int32).toNatClampNeg (r1.toInt64)) hx hb hr hlocks hH hS hP ⟨hk0.symm, fun _ => ⟨(ul0 (w := w) (x := r1.toInt64)).trans (by rw [hr1]), hn1⟩, fun q => absurd hk0 q⟩ dL_setLoad_22
set_option maxHeartbeats 4000000 in
set_option maxRecDepth 100000 in
theorem c_L_setWind (l : Launch) (hfl : l.stackTraces = false) (D : va_G) (cI cZ cJ : ClassId) (h : Nat) (a : Nat → Nat) (σ : St) (o : Nat) (w : Nat → Int64) (Hi : Heap) (A : Nat → Prop) (hD : va_D A (xo cI cZ cJ h a σ o w)) {nL nB : Nat} (hI : inv σ nL nB) (v : Int32) : lwM l yL_setWind wsL_setWind ({ frames := 8, cells := 1, slots := 6, locals := 134 }) [.ref h, .int v, .ref o] D (xo cI cZ cJ h a σ o w) (tyL cI cZ cJ) Hi A (S := St × (Nat → Int64)) (fun u => xo cI cZ cJ h a u.1 o u.2) (fun r u => r = goK (inR v (-1000000) 1000000) true true ∧ (goK (inR v (-1000000) 1000000) true true = 0 → u.2 0 = (σ 3 0).toInt64 ∧ u.1 = st σ 3 (fun _ => v)) ∧ (¬ goK (inR v (-1000000) 1000000) true true = 0 → u.1 = σ)) := by
  refine lw_of (cc := cL_setWind) (maxL := 4) (ret := some .int) (by decide) rfl (Nat.le_of_ble_eq_true rfl) ?_
  intro p e s m args below meth c he htab hH hP hK hT ls hl
  obtain ⟨hx, hb, hr, hml, hown, hts, hlocks⟩ := he
  have hown : s.vm.findClass RL = some m.cls := hown
  have hS : va_S A Hi Hi [] := va_S.rf
  have hl : lv_has ls 4 [(0, .ref h), (1, .int v), (2, .ref o)] := hl
  have hPx := va_P_l hP
  have hPo := va_P_r hP
  have hDx := va_D_l hD
  have hKx : va_K D vwCl (tyX cI cZ) s := hK.sub [0, 1] rfl
  have hTx := tpA_nar hT (B := fun q => A q ∧ notin (ow cJ o w) q) (fun q h => h.1)
  refine lv_aload_n hx hb dL_setWind_0 rfl (lv_at hl 2 rfl) ?_
  refine lv_iconst (v := 0) hx hb dL_setWind_1 (by decide) ?_
  refine lv_aload_n hx hb dL_setWind_2 rfl (lv_at hl 0 rfl) ?_
  refine lv_iload_n hx hb dL_setWind_3 rfl (lv_at hl 1 rfl) ?_
  refine th_callV 1 hx hb hml hown hts hl.1 hPx hKx hTx hS (fun q h => h.1) 0 0 rfl rfl (As := [.int v]) (rest := [.int 0, .ref o]) (c_X0_setWind l hfl D cI cZ h a σ Hi _ hDx hI v) gL_setWind_X0_setWind rfl rfl rfl (by decide +kernel) ⟨Nat.le_of_ble_eq_true rfl, Nat.le_of_ble_eq_true rfl⟩ rfl rfl (Nat.le_of_ble_eq_true rfl) dL_setWind_4 ⟨Nat.le_of_ble_eq_true rfl, Nat.le_of_ble_eq_true rfl⟩ (fun E ce q9 H locs hxp hg hS hce hcv hcl => ?_) (fun r1 u1 H locs hp1 hPx hS hk1 => ?_)
  · have hP9 : va_P D vwCl (xo cI cZ cJ h a σ o w) H := keepG hP hg
    rcases hxp with ⟨hk, rfl⟩ | ⟨hk, rfl⟩ | ⟨hk, rfl⟩
    · refine vx_catch (own := RL) (name := xE1) hown [] ⟨0, 9, 12, 13⟩ [] htab (fun _ h => absurd h List.not_mem_nil) (by decide) (by decide) (hts (.classLink RL 13 xE1) (by decide +kernel)) ((hT.2.2.2.1.1).use rfl) hce hcv hcl ?_
      refine lv_astore_n (lv' := [(3, .ref q9), (0, .ref h), (1, .int v), (2, .ref o)]) hx hb dL_setWind_12 rfl hl (by decide) rfl (fun ls hl => ?_)
      refine lv_iconst (v := 1) hx hb dL_setWind_13 (by decide) ?_
      exact lw_iret (v := 1) (σ, w) hx hb hr hlocks hH hS hP9 ⟨hk.symm, fun q => absurd (hk.symm.trans q) (by decide), fun _ => rfl⟩ dL_setWind_14
    · exact (gkn2 hk).elim
    · exact (gkn3 hk).elim
  · obtain ⟨hk0, hr1, hn1⟩ := hp1
    have hP : va_P D vwCl (xo cI cZ cJ h a u1 o w) H := va_P.app hPx (keepW hPo hk1)
    have hD : va_D A (xo cI cZ cJ h a u1 o w) := va_D_ad (W := xo cI cZ cJ h a σ o w) (W' := xo cI cZ cJ h a u1 o w) rfl hD
    refine lv_i2l hx hb dL_setWind_7 rfl ?_
    refine va_last hx hb hK hP hD hS 13 2 rfl rfl (by unfold vp_in; decide) dL_setWind_8 (fun H locs hP hD hS => ?_)
    have hP : va_P D vwCl (xo cI cZ cJ h a u1 o (vp_updL w (0 : Int32).toNatClampNeg (r1.toInt64))) H := hP
    refine lv_goto (tgt := 15) hx hb dL_setWind_9 (by decide) ?_
    refine lv_iconst (v := 0) hx hb dL_setWind_15 (by decide) ?_
    exact lw_iret (v := 0) (u1, vp_updL w (0 : Int32).toNatClampNeg (r1.toInt64)) hx hb hr hlocks hH hS hP ⟨hk0.symm, fun _ => ⟨(ul0 (w := w) (x := r1.toInt64)).trans (by rw [hr1]), hn1⟩, fun q => absurd hk0 q⟩ dL_setWind_16
set_option maxHeartbeats 4000000 in
set_option maxRecDepth 100000 in
theorem c_L_setPassing (l : Launch) (hfl : l.stackTraces = false) (D : va_G) (cI cZ cJ : ClassId) (h : Nat) (a : Nat → Nat) (σ : St) (o : Nat) (w : Nat → Int64) (Hi : Heap) (A : Nat → Prop) (hD : va_D A (xo cI cZ cJ h a σ o w)) {nL nB : Nat} (hI : inv σ nL nB) (hour v : Int32) : lwM l yL_setPassing wsL_setPassing ({ frames := 8, cells := 1, slots := 6, locals := 135 }) [.ref h, .int hour, .int v, .ref o] D (xo cI cZ cJ h a σ o w) (tyL cI cZ cJ) Hi A (S := St × (Nat → Int64)) (fun u => xo cI cZ cJ h a u.1 o u.2) (fun r u => r = goK (inR hour 0 47) (inR v (-1000000) 1000000) true ∧ (goK (inR hour 0 47) (inR v (-1000000) 1000000) true = 0 → u.2 0 = (σ 2 (tN hour)).toInt64 ∧ u.1 = st σ 2 (upd (σ 2) (tN hour) v)) ∧ (¬ goK (inR hour 0 47) (inR v (-1000000) 1000000) true = 0 → u.1 = σ)) := by
  refine lw_of (cc := cL_setPassing) (maxL := 5) (ret := some .int) (by decide) rfl (Nat.le_of_ble_eq_true rfl) ?_
  intro p e s m args below meth c he htab hH hP hK hT ls hl
  obtain ⟨hx, hb, hr, hml, hown, hts, hlocks⟩ := he
  have hown : s.vm.findClass RL = some m.cls := hown
  have hS : va_S A Hi Hi [] := va_S.rf
  have hl : lv_has ls 5 [(0, .ref h), (1, .int hour), (2, .int v), (3, .ref o)] := hl
  have hPx := va_P_l hP
  have hPo := va_P_r hP
  have hDx := va_D_l hD
  have hKx : va_K D vwCl (tyX cI cZ) s := hK.sub [0, 1] rfl
  have hTx := tpA_nar hT (B := fun q => A q ∧ notin (ow cJ o w) q) (fun q h => h.1)
  refine lv_aload_n hx hb dL_setPassing_0 rfl (lv_at hl 3 rfl) ?_
  refine lv_iconst (v := 0) hx hb dL_setPassing_1 (by decide) ?_
  refine lv_aload_n hx hb dL_setPassing_2 rfl (lv_at hl 0 rfl) ?_
  refine lv_iload_n hx hb dL_setPassing_3 rfl (lv_at hl 1 rfl) ?_
  refine lv_iload_n hx hb dL_setPassing_4 rfl (lv_at hl 2 rfl) ?_
  refine th_callV 2 hx hb hml hown hts hl.1 hPx hKx hTx hS (fun q h => h.1) 0 0 rfl rfl (As := [.int hour, .int v]) (rest := [.int 0, .ref o]) (c_X0_setPassing l hfl D cI cZ h a σ Hi _ hDx hI hour v) gL_setPassing_X0_setPassing rfl rfl rfl (by decide +kernel) ⟨Nat.le_of_ble_eq_true rfl, Nat.le_of_ble_eq_true rfl⟩ rfl rfl (Nat.le_of_ble_eq_true rfl) dL_setPassing_5 ⟨Nat.le_of_ble_eq_true rfl, Nat.le_of_ble_eq_true rfl⟩ (fun E ce q9 H locs hxp hg hS hce hcv hcl => ?_) (fun r1 u1 H locs hp1 hPx hS hk1 => ?_)
  · have hP9 : va_P D vwCl (xo cI cZ cJ h a σ o w) H := keepG hP hg
    rcases hxp with ⟨hk, rfl⟩ | ⟨hk, rfl⟩ | ⟨hk, rfl⟩
    · refine vx_catch (own := RL) (name := xE3) hown [] ⟨0, 10, 13, 21⟩ [⟨0, 10, 17, 13⟩] htab (fun _ h => absurd h List.not_mem_nil) (by decide) (by decide) (hts (.classLink RL 21 xE3) (by decide +kernel)) ((hT.2.2.2.1.2.2).use rfl) hce hcv hcl ?_
      refine lv_astore (lv' := [(4, .ref q9), (0, .ref h), (1, .int hour), (2, .int v), (3, .ref o)]) hx hb dL_setPassing_13 hl (by decide) rfl (fun ls hl => ?_)
      refine lv_iconst (v := 1) hx hb dL_setPassing_15 (by decide) ?_
      exact lw_iret (v := 1) (σ, w) hx hb hr hlocks hH hS hP9 ⟨hk.symm, fun q => absurd (hk.symm.trans q) (by decide), fun _ => rfl⟩ dL_setPassing_16
    · refine vx_catch (own := RL) (name := xE1) hown [⟨0, 10, 13, 21⟩] ⟨0, 10, 17, 13⟩ [] htab (List.forall_mem_cons.mpr ⟨Or.inr ⟨by decide, xE3, hts (.classLink RL 21 xE3) (by decide +kernel), hT.2.2.2.2.2.2.2.2.2.1⟩, (fun _ h => absurd h List.not_mem_nil)⟩) (by decide) (by decide) (hts (.classLink RL 13 xE1) (by decide +kernel)) ((hT.2.2.2.1.1).use rfl) hce hcv hcl ?_
      refine lv_astore (lv' := [(4, .ref q9), (0, .ref h), (1, .int hour), (2, .int v), (3, .ref o)]) hx hb dL_setPassing_17 hl (by decide) rfl (fun ls hl => ?_)
      refine lv_iconst (v := 2) hx hb dL_setPassing_19 (by decide) ?_
      exact lw_iret (v := 2) (σ, w) hx hb hr hlocks hH hS hP9 ⟨hk.symm, fun q => absurd (hk.symm.trans q) (by decide), fun _ => rfl⟩ dL_setPassing_20
    · exact (gkn3 hk).elim
  · obtain ⟨hk0, hr1, hn1⟩ := hp1
    have hP : va_P D vwCl (xo cI cZ cJ h a u1 o w) H := va_P.app hPx (keepW hPo hk1)
    have hD : va_D A (xo cI cZ cJ h a u1 o w) := va_D_ad (W := xo cI cZ cJ h a σ o w) (W' := xo cI cZ cJ h a u1 o w) rfl hD
    refine lv_i2l hx hb dL_setPassing_8 rfl ?_
    refine va_last hx hb hK hP hD hS 13 2 rfl rfl (by unfold vp_in; decide) dL_setPassing_9 (fun H locs hP hD hS => ?_)
    have hP : va_P D vwCl (xo cI cZ cJ h a u1 o (vp_updL w (0 : Int32).toNatClampNeg (r1.toInt64))) H := hP
    refine lv_goto (tgt := 21) hx hb dL_setPassing_10 (by decide) ?_
    refine lv_iconst (v := 0) hx hb dL_setPassing_21 (by decide) ?_
    exact lw_iret (v := 0) (u1, vp_updL w (0 : Int32).toNatClampNeg (r1.toInt64)) hx hb hr hlocks hH hS hP ⟨hk0.symm, fun _ => ⟨(ul0 (w := w) (x := r1.toInt64)).trans (by rw [hr1]), hn1⟩, fun q => absurd hk0 q⟩ dL_setPassing_22
set_option maxHeartbeats 4000000 in
set_option maxRecDepth 100000 in
theorem c_L_force (l : Launch) (hfl : l.stackTraces = false) (D : va_G) (cI cZ cJ : ClassId) (h : Nat) (a : Nat → Nat) (σ : St) (o : Nat) (w : Nat → Int64) (Hi : Heap) (A : Nat → Prop) (hD : va_D A (xo cI cZ cJ h a σ o w)) {nL nB : Nat} (hI : inv σ nL nB) (hour sh : Int32) : lwM l yL_force wsL_force ({ frames := 8, cells := 1, slots := 6, locals := 134 }) [.ref h, .int hour, .int sh, .ref o] D (xo cI cZ cJ h a σ o w) (tyL cI cZ cJ) Hi A (S := St × (Nat → Int64)) (fun u => xo cI cZ cJ h a u.1 o u.2) (fun r u => r = goK (inR hour 0 47) (inR sh (-200) 200) true ∧ (goK (inR hour 0 47) (inR sh (-200) 200) true = 0 → u.2 0 = (frc σ (tN hour) sh).toInt64 ∧ u.1 = σ) ∧ (¬ goK (inR hour 0 47) (inR sh (-200) 200) true = 0 → u.1 = σ)) := by
  refine lw_of (cc := cL_force) (maxL := 5) (ret := some .int) (by decide) rfl (Nat.le_of_ble_eq_true rfl) ?_
  intro p e s m args below meth c he htab hH hP hK hT ls hl
  obtain ⟨hx, hb, hr, hml, hown, hts, hlocks⟩ := he
  have hown : s.vm.findClass RL = some m.cls := hown
  have hS : va_S A Hi Hi [] := va_S.rf
  have hl : lv_has ls 5 [(0, .ref h), (1, .int hour), (2, .int sh), (3, .ref o)] := hl
  have hPx := va_P_l hP
  have hPo := va_P_r hP
  have hDx := va_D_l hD
  have hKx : va_K D vwCl (tyX cI cZ) s := hK.sub [0, 1] rfl
  have hTx := tpA_nar hT (B := fun q => A q ∧ notin (ow cJ o w) q) (fun q h => h.1)
  refine lv_aload_n hx hb dL_force_0 rfl (lv_at hl 3 rfl) ?_
  refine lv_iconst (v := 0) hx hb dL_force_1 (by decide) ?_
  refine lv_aload_n hx hb dL_force_2 rfl (lv_at hl 0 rfl) ?_
  refine lv_iload_n hx hb dL_force_3 rfl (lv_at hl 1 rfl) ?_
  refine lv_iload_n hx hb dL_force_4 rfl (lv_at hl 2 rfl) ?_
  refine th_callV 2 hx hb hml hown hts hl.1 hPx hKx hTx hS (fun q h => h.1) 0 0 rfl rfl (As := [.int hour, .int sh]) (rest := [.int 0, .ref o]) (c_X0_force l hfl D cI cZ h a σ Hi _ hDx hI hour sh) gL_force_X0_force rfl rfl rfl (by decide +kernel) ⟨Nat.le_of_ble_eq_true rfl, Nat.le_of_ble_eq_true rfl⟩ rfl rfl (Nat.le_of_ble_eq_true rfl) dL_force_5 ⟨Nat.le_of_ble_eq_true rfl, Nat.le_of_ble_eq_true rfl⟩ (fun E ce q9 H locs hxp hg hS hce hcv hcl => ?_) (fun r1 u1 H locs hp1 hPx hS hk1 => ?_)
  · have hP9 : va_P D vwCl (xo cI cZ cJ h a σ o w) H := keepG hP hg
    rcases hxp with ⟨hk, rfl⟩ | ⟨hk, rfl⟩ | ⟨hk, rfl⟩
    · refine vx_catch (own := RL) (name := xE3) hown [] ⟨0, 10, 13, 21⟩ [⟨0, 10, 17, 13⟩] htab (fun _ h => absurd h List.not_mem_nil) (by decide) (by decide) (hts (.classLink RL 21 xE3) (by decide +kernel)) ((hT.2.2.2.1.2.2).use rfl) hce hcv hcl ?_
      refine lv_astore (lv' := [(4, .ref q9), (0, .ref h), (1, .int hour), (2, .int sh), (3, .ref o)]) hx hb dL_force_13 hl (by decide) rfl (fun ls hl => ?_)
      refine lv_iconst (v := 1) hx hb dL_force_15 (by decide) ?_
      exact lw_iret (v := 1) (σ, w) hx hb hr hlocks hH hS hP9 ⟨hk.symm, fun q => absurd (hk.symm.trans q) (by decide), fun _ => rfl⟩ dL_force_16
    · refine vx_catch (own := RL) (name := xE1) hown [⟨0, 10, 13, 21⟩] ⟨0, 10, 17, 13⟩ [] htab (List.forall_mem_cons.mpr ⟨Or.inr ⟨by decide, xE3, hts (.classLink RL 21 xE3) (by decide +kernel), hT.2.2.2.2.2.2.2.2.2.1⟩, (fun _ h => absurd h List.not_mem_nil)⟩) (by decide) (by decide) (hts (.classLink RL 13 xE1) (by decide +kernel)) ((hT.2.2.2.1.1).use rfl) hce hcv hcl ?_
      refine lv_astore (lv' := [(4, .ref q9), (0, .ref h), (1, .int hour), (2, .int sh), (3, .ref o)]) hx hb dL_force_17 hl (by decide) rfl (fun ls hl => ?_)
      refine lv_iconst (v := 2) hx hb dL_force_19 (by decide) ?_
      exact lw_iret (v := 2) (σ, w) hx hb hr hlocks hH hS hP9 ⟨hk.symm, fun q => absurd (hk.symm.trans q) (by decide), fun _ => rfl⟩ dL_force_20
    · exact (gkn3 hk).elim
  · obtain ⟨hk0, hr1, hn1⟩ := hp1
    have hP : va_P D vwCl (xo cI cZ cJ h a u1 o w) H := va_P.app hPx (keepW hPo hk1)
    have hD : va_D A (xo cI cZ cJ h a u1 o w) := va_D_ad (W := xo cI cZ cJ h a σ o w) (W' := xo cI cZ cJ h a u1 o w) rfl hD
    refine lv_i2l hx hb dL_force_8 rfl ?_
    refine va_last hx hb hK hP hD hS 13 2 rfl rfl (by unfold vp_in; decide) dL_force_9 (fun H locs hP hD hS => ?_)
    have hP : va_P D vwCl (xo cI cZ cJ h a u1 o (vp_updL w (0 : Int32).toNatClampNeg (r1.toInt64))) H := hP
    refine lv_goto (tgt := 21) hx hb dL_force_10 (by decide) ?_
    refine lv_iconst (v := 0) hx hb dL_force_21 (by decide) ?_
    exact lw_iret (v := 0) (u1, vp_updL w (0 : Int32).toNatClampNeg (r1.toInt64)) hx hb hr hlocks hH hS hP ⟨hk0.symm, fun _ => ⟨(ul0 (w := w) (x := r1.toInt64)).trans (by rw [hr1]), hn1⟩, fun q => absurd hk0 q⟩ dL_force_22
set_option maxHeartbeats 4000000 in
set_option maxRecDepth 100000 in
theorem c_L_shift (l : Launch) (hfl : l.stackTraces = false) (D : va_G) (cI cZ cJ : ClassId) (h : Nat) (a : Nat → Nat) (σ : St) (o : Nat) (w : Nat → Int64) (Hi : Heap) (A : Nat → Prop) (hD : va_D A (xo cI cZ cJ h a σ o w)) {nL nB : Nat} (hI : inv σ nL nB) (hour : Int32) : lwM l yL_shift wsL_shift ({ frames := 8, cells := 1, slots := 6, locals := 139 }) [.ref h, .int hour, .ref o] D (xo cI cZ cJ h a σ o w) (tyL cI cZ cJ) Hi A (S := St × (Nat → Int64)) (fun u => xo cI cZ cJ h a u.1 o u.2) (fun r u => r = goK (inR hour 0 47) true true ∧ (goK (inR hour 0 47) true true = 0 → u.2 0 = (bal σ (tN hour)).toInt64 ∧ u.1 = σ) ∧ (¬ goK (inR hour 0 47) true true = 0 → u.1 = σ)) := by
  refine lw_of (cc := cL_shift) (maxL := 4) (ret := some .int) (by decide) rfl (Nat.le_of_ble_eq_true rfl) ?_
  intro p e s m args below meth c he htab hH hP hK hT ls hl
  obtain ⟨hx, hb, hr, hml, hown, hts, hlocks⟩ := he
  have hown : s.vm.findClass RL = some m.cls := hown
  have hS : va_S A Hi Hi [] := va_S.rf
  have hl : lv_has ls 4 [(0, .ref h), (1, .int hour), (2, .ref o)] := hl
  have hPx := va_P_l hP
  have hPo := va_P_r hP
  have hDx := va_D_l hD
  have hKx : va_K D vwCl (tyX cI cZ) s := hK.sub [0, 1] rfl
  have hTx := tpA_nar hT (B := fun q => A q ∧ notin (ow cJ o w) q) (fun q h => h.1)
  refine lv_aload_n hx hb dL_shift_0 rfl (lv_at hl 2 rfl) ?_
  refine lv_iconst (v := 0) hx hb dL_shift_1 (by decide) ?_
  refine lv_aload_n hx hb dL_shift_2 rfl (lv_at hl 0 rfl) ?_
  refine lv_iload_n hx hb dL_shift_3 rfl (lv_at hl 1 rfl) ?_
  refine th_callV 1 hx hb hml hown hts hl.1 hPx hKx hTx hS (fun q h => h.1) 0 0 rfl rfl (As := [.int hour]) (rest := [.int 0, .ref o]) (c_X0_shift l hfl D cI cZ h a σ Hi _ hDx hI hour) gL_shift_X0_shift rfl rfl rfl (by decide +kernel) ⟨Nat.le_of_ble_eq_true rfl, Nat.le_of_ble_eq_true rfl⟩ rfl rfl (Nat.le_of_ble_eq_true rfl) dL_shift_4 ⟨Nat.le_of_ble_eq_true rfl, Nat.le_of_ble_eq_true rfl⟩ (fun E ce q9 H locs hxp hg hS hce hcv hcl => ?_) (fun r1 u1 H locs hp1 hPx hS hk1 => ?_)
  · have hP9 : va_P D vwCl (xo cI cZ cJ h a σ o w) H := keepG hP hg
    rcases hxp with ⟨hk, rfl⟩ | ⟨hk, rfl⟩ | ⟨hk, rfl⟩
    · refine vx_catch (own := RL) (name := xE3) hown [] ⟨0, 9, 12, 21⟩ [] htab (fun _ h => absurd h List.not_mem_nil) (by decide) (by decide) (hts (.classLink RL 21 xE3) (by decide +kernel)) ((hT.2.2.2.1.2.2).use rfl) hce hcv hcl ?_
      refine lv_astore_n (lv' := [(3, .ref q9), (0, .ref h), (1, .int hour), (2, .ref o)]) hx hb dL_shift_12 rfl hl (by decide) rfl (fun ls hl => ?_)
      refine lv_iconst (v := 1) hx hb dL_shift_13 (by decide) ?_
      exact lw_iret (v := 1) (σ, w) hx hb hr hlocks hH hS hP9 ⟨hk.symm, fun q => absurd (hk.symm.trans q) (by decide), fun _ => rfl⟩ dL_shift_14
    · exact (gkn2 hk).elim
    · exact (gkn3 hk).elim
  · obtain ⟨hk0, hr1, hn1⟩ := hp1
    have hP : va_P D vwCl (xo cI cZ cJ h a u1 o w) H := va_P.app hPx (keepW hPo hk1)
    have hD : va_D A (xo cI cZ cJ h a u1 o w) := va_D_ad (W := xo cI cZ cJ h a σ o w) (W' := xo cI cZ cJ h a u1 o w) rfl hD
    refine lv_i2l hx hb dL_shift_7 rfl ?_
    refine va_last hx hb hK hP hD hS 13 2 rfl rfl (by unfold vp_in; decide) dL_shift_8 (fun H locs hP hD hS => ?_)
    have hP : va_P D vwCl (xo cI cZ cJ h a u1 o (vp_updL w (0 : Int32).toNatClampNeg (r1.toInt64))) H := hP
    refine lv_goto (tgt := 15) hx hb dL_shift_9 (by decide) ?_
    refine lv_iconst (v := 0) hx hb dL_shift_15 (by decide) ?_
    exact lw_iret (v := 0) (u1, vp_updL w (0 : Int32).toNatClampNeg (r1.toInt64)) hx hb hr hlocks hH hS hP ⟨hk0.symm, fun _ => ⟨(ul0 (w := w) (x := r1.toInt64)).trans (by rw [hr1]), hn1⟩, fun q => absurd hk0 q⟩ dL_shift_16
set_option maxHeartbeats 4000000 in
set_option maxRecDepth 100000 in
theorem c_L_isAdrift (l : Launch) (hfl : l.stackTraces = false) (D : va_G) (cI cZ cJ : ClassId) (h : Nat) (a : Nat → Nat) (σ : St) (o : Nat) (w : Nat → Int64) (Hi : Heap) (A : Nat → Prop) (hD : va_D A (xo cI cZ cJ h a σ o w)) {nL nB : Nat} (hI : inv σ nL nB) (hour : Int32) : lwM l yL_isAdrift wsL_isAdrift ({ frames := 8, cells := 1, slots := 6, locals := 139 }) [.ref h, .int hour, .ref o] D (xo cI cZ cJ h a σ o w) (tyL cI cZ cJ) Hi A (S := St × (Nat → Int64)) (fun u => xo cI cZ cJ h a u.1 o u.2) (fun r u => r = goK (inR hour 0 47) true true ∧ (goK (inR hour 0 47) true true = 0 → u.2 0 = (bI (drfW σ (tN hour) (bal σ (tN hour)))).toInt64 ∧ u.1 = σ) ∧ (¬ goK (inR hour 0 47) true true = 0 → u.1 = σ)) := by
  refine lw_of (cc := cL_isAdrift) (maxL := 4) (ret := some .int) (by decide) rfl (Nat.le_of_ble_eq_true rfl) ?_
  intro p e s m args below meth c he htab hH hP hK hT ls hl
  obtain ⟨hx, hb, hr, hml, hown, hts, hlocks⟩ := he
  have hown : s.vm.findClass RL = some m.cls := hown
  have hS : va_S A Hi Hi [] := va_S.rf
  have hl : lv_has ls 4 [(0, .ref h), (1, .int hour), (2, .ref o)] := hl
  have hPx := va_P_l hP
  have hPo := va_P_r hP
  have hDx := va_D_l hD
  have hKx : va_K D vwCl (tyX cI cZ) s := hK.sub [0, 1] rfl
  have hTx := tpA_nar hT (B := fun q => A q ∧ notin (ow cJ o w) q) (fun q h => h.1)
  refine lv_aload_n hx hb dL_isAdrift_0 rfl (lv_at hl 2 rfl) ?_
  refine lv_iconst (v := 0) hx hb dL_isAdrift_1 (by decide) ?_
  refine lv_aload_n hx hb dL_isAdrift_2 rfl (lv_at hl 0 rfl) ?_
  refine lv_iload_n hx hb dL_isAdrift_3 rfl (lv_at hl 1 rfl) ?_
  refine th_callV 1 hx hb hml hown hts hl.1 hPx hKx hTx hS (fun q h => h.1) 0 0 rfl rfl (As := [.int hour]) (rest := [.int 0, .ref o]) (c_X0_isAdrift l hfl D cI cZ h a σ Hi _ hDx hI hour) gL_isAdrift_X0_isAdrift rfl rfl rfl (by decide +kernel) ⟨Nat.le_of_ble_eq_true rfl, Nat.le_of_ble_eq_true rfl⟩ rfl rfl (Nat.le_of_ble_eq_true rfl) dL_isAdrift_4 ⟨Nat.le_of_ble_eq_true rfl, Nat.le_of_ble_eq_true rfl⟩ (fun E ce q9 H locs hxp hg hS hce hcv hcl => ?_) (fun r1 u1 H locs hp1 hPx hS hk1 => ?_)
  · have hP9 : va_P D vwCl (xo cI cZ cJ h a σ o w) H := keepG hP hg
    rcases hxp with ⟨hk, rfl⟩ | ⟨hk, rfl⟩ | ⟨hk, rfl⟩
    · refine vx_catch (own := RL) (name := xE3) hown [] ⟨0, 16, 19, 21⟩ [] htab (fun _ h => absurd h List.not_mem_nil) (by decide) (by decide) (hts (.classLink RL 21 xE3) (by decide +kernel)) ((hT.2.2.2.1.2.2).use rfl) hce hcv hcl ?_
      refine lv_astore_n (lv' := [(3, .ref q9), (0, .ref h), (1, .int hour), (2, .ref o)]) hx hb dL_isAdrift_19 rfl hl (by decide) rfl (fun ls hl => ?_)
      refine lv_iconst (v := 1) hx hb dL_isAdrift_20 (by decide) ?_
      exact lw_iret (v := 1) (σ, w) hx hb hr hlocks hH hS hP9 ⟨hk.symm, fun q => absurd (hk.symm.trans q) (by decide), fun _ => rfl⟩ dL_isAdrift_21
    · exact (gkn2 hk).elim
    · exact (gkn3 hk).elim
  · obtain ⟨hk0, hr1, hn1⟩ := hp1
    have hP : va_P D vwCl (xo cI cZ cJ h a u1 o w) H := va_P.app hPx (keepW hPo hk1)
    have hD : va_D A (xo cI cZ cJ h a u1 o w) := va_D_ad (W := xo cI cZ cJ h a σ o w) (W' := xo cI cZ cJ h a u1 o w) rfl hD
    refine lv_if_eq (tgt := 14) hx hb dL_isAdrift_7 (by decide) (fun c7 => ?_) (fun c7 => ?_)
    · refine lv_lconst (v := 0) hx hb dL_isAdrift_14 (by decide) ?_
      refine va_last hx hb hK hP hD hS 13 2 rfl rfl (by unfold vp_in; decide) dL_isAdrift_15 (fun H locs hP hD hS => ?_)
      have hP : va_P D vwCl (xo cI cZ cJ h a u1 o (vp_updL w (0 : Int32).toNatClampNeg 0)) H := hP
      refine lv_goto (tgt := 22) hx hb dL_isAdrift_16 (by decide) ?_
      refine lv_iconst (v := 0) hx hb dL_isAdrift_22 (by decide) ?_
      exact lw_iret (v := 0) (u1, vp_updL w (0 : Int32).toNatClampNeg 0) hx hb hr hlocks hH hS hP ⟨hk0.symm, fun _ => ⟨Eq.trans (ul0 (w := w)) (show (0 : Int64) = _ by rw [← hr1, c7]; rfl), hn1⟩, fun q => absurd hk0 q⟩ dL_isAdrift_23
    · refine lv_lconst (v := 1) hx hb dL_isAdrift_10 (by decide) ?_
      refine lv_goto (tgt := 15) hx hb dL_isAdrift_11 (by decide) ?_
      refine va_last hx hb hK hP hD hS 13 2 rfl rfl (by unfold vp_in; decide) dL_isAdrift_15 (fun H locs hP hD hS => ?_)
      have hP : va_P D vwCl (xo cI cZ cJ h a u1 o (vp_updL w (0 : Int32).toNatClampNeg 1)) H := hP
      refine lv_goto (tgt := 22) hx hb dL_isAdrift_16 (by decide) ?_
      refine lv_iconst (v := 0) hx hb dL_isAdrift_22 (by decide) ?_
      exact lw_iret (v := 0) (u1, vp_updL w (0 : Int32).toNatClampNeg 1) hx hb hr hlocks hH hS hP ⟨hk0.symm, fun _ => ⟨Eq.trans (ul0 (w := w)) (show (1 : Int64) = _ by rcases (bI_01 _ : bI (drfW σ (tN hour) (bal σ (tN hour))) = 0 ∨ bI (drfW σ (tN hour) (bal σ (tN hour))) = 1) with z | z; exact absurd (hr1.trans z) c7; rw [z]; rfl), hn1⟩, fun q => absurd hk0 q⟩ dL_isAdrift_23
set_option maxHeartbeats 4000000 in
set_option maxRecDepth 100000 in
theorem c_L_length (l : Launch) (hfl : l.stackTraces = false) (D : va_G) (cI cZ cJ : ClassId) (h : Nat) (a : Nat → Nat) (σ : St) (o : Nat) (w : Nat → Int64) (Hi : Heap) (A : Nat → Prop) (hD : va_D A (xo cI cZ cJ h a σ o w)) {nL nB : Nat} (hI : inv σ nL nB) (line hour : Int32) : lwM l yL_length wsL_length ({ frames := 8, cells := 1, slots := 6, locals := 140 }) [.ref h, .int line, .int hour, .ref o] D (xo cI cZ cJ h a σ o w) (tyL cI cZ cJ) Hi A (S := St × (Nat → Int64)) (fun u => xo cI cZ cJ h a u.1 o u.2) (fun r u => r = goK (inR line 0 (nI nL - 1) && inR hour 0 47) true true ∧ (goK (inR line 0 (nI nL - 1) && inR hour 0 47) true true = 0 → u.2 0 = (len_ σ (tN line) (tN hour) (bal σ (tN hour))).toInt64 ∧ u.1 = σ) ∧ (¬ goK (inR line 0 (nI nL - 1) && inR hour 0 47) true true = 0 → u.1 = σ)) := by
  refine lw_of (cc := cL_length) (maxL := 5) (ret := some .int) (by decide) rfl (Nat.le_of_ble_eq_true rfl) ?_
  intro p e s m args below meth c he htab hH hP hK hT ls hl
  obtain ⟨hx, hb, hr, hml, hown, hts, hlocks⟩ := he
  have hown : s.vm.findClass RL = some m.cls := hown
  have hS : va_S A Hi Hi [] := va_S.rf
  have hl : lv_has ls 5 [(0, .ref h), (1, .int line), (2, .int hour), (3, .ref o)] := hl
  have hPx := va_P_l hP
  have hPo := va_P_r hP
  have hDx := va_D_l hD
  have hKx : va_K D vwCl (tyX cI cZ) s := hK.sub [0, 1] rfl
  have hTx := tpA_nar hT (B := fun q => A q ∧ notin (ow cJ o w) q) (fun q h => h.1)
  refine lv_aload_n hx hb dL_length_0 rfl (lv_at hl 3 rfl) ?_
  refine lv_iconst (v := 0) hx hb dL_length_1 (by decide) ?_
  refine lv_aload_n hx hb dL_length_2 rfl (lv_at hl 0 rfl) ?_
  refine lv_iload_n hx hb dL_length_3 rfl (lv_at hl 1 rfl) ?_
  refine lv_iload_n hx hb dL_length_4 rfl (lv_at hl 2 rfl) ?_
  refine th_callV 2 hx hb hml hown hts hl.1 hPx hKx hTx hS (fun q h => h.1) 0 0 rfl rfl (As := [.int line, .int hour]) (rest := [.int 0, .ref o]) (c_X0_length l hfl D cI cZ h a σ Hi _ hDx hI line hour) gL_length_X0_length rfl rfl rfl (by decide +kernel) ⟨Nat.le_of_ble_eq_true rfl, Nat.le_of_ble_eq_true rfl⟩ rfl rfl (Nat.le_of_ble_eq_true rfl) dL_length_5 ⟨Nat.le_of_ble_eq_true rfl, Nat.le_of_ble_eq_true rfl⟩ (fun E ce q9 H locs hxp hg hS hce hcv hcl => ?_) (fun r1 u1 H locs hp1 hPx hS hk1 => ?_)
  · have hP9 : va_P D vwCl (xo cI cZ cJ h a σ o w) H := keepG hP hg
    rcases hxp with ⟨hk, rfl⟩ | ⟨hk, rfl⟩ | ⟨hk, rfl⟩
    · refine vx_catch (own := RL) (name := xE3) hown [] ⟨0, 10, 13, 21⟩ [] htab (fun _ h => absurd h List.not_mem_nil) (by decide) (by decide) (hts (.classLink RL 21 xE3) (by decide +kernel)) ((hT.2.2.2.1.2.2).use rfl) hce hcv hcl ?_
      refine lv_astore (lv' := [(4, .ref q9), (0, .ref h), (1, .int line), (2, .int hour), (3, .ref o)]) hx hb dL_length_13 hl (by decide) rfl (fun ls hl => ?_)
      refine lv_iconst (v := 1) hx hb dL_length_15 (by decide) ?_
      exact lw_iret (v := 1) (σ, w) hx hb hr hlocks hH hS hP9 ⟨hk.symm, fun q => absurd (hk.symm.trans q) (by decide), fun _ => rfl⟩ dL_length_16
    · exact (gkn2 hk).elim
    · exact (gkn3 hk).elim
  · obtain ⟨hk0, hr1, hn1⟩ := hp1
    have hP : va_P D vwCl (xo cI cZ cJ h a u1 o w) H := va_P.app hPx (keepW hPo hk1)
    have hD : va_D A (xo cI cZ cJ h a u1 o w) := va_D_ad (W := xo cI cZ cJ h a σ o w) (W' := xo cI cZ cJ h a u1 o w) rfl hD
    refine lv_i2l hx hb dL_length_8 rfl ?_
    refine va_last hx hb hK hP hD hS 13 2 rfl rfl (by unfold vp_in; decide) dL_length_9 (fun H locs hP hD hS => ?_)
    have hP : va_P D vwCl (xo cI cZ cJ h a u1 o (vp_updL w (0 : Int32).toNatClampNeg (r1.toInt64))) H := hP
    refine lv_goto (tgt := 17) hx hb dL_length_10 (by decide) ?_
    refine lv_iconst (v := 0) hx hb dL_length_17 (by decide) ?_
    exact lw_iret (v := 0) (u1, vp_updL w (0 : Int32).toNatClampNeg (r1.toInt64)) hx hb hr hlocks hH hS hP ⟨hk0.symm, fun _ => ⟨(ul0 (w := w) (x := r1.toInt64)).trans (by rw [hr1]), hn1⟩, fun q => absurd hk0 q⟩ dL_length_18
set_option maxHeartbeats 4000000 in
set_option maxRecDepth 100000 in
theorem c_L_tension (l : Launch) (hfl : l.stackTraces = false) (D : va_G) (cI cZ cJ : ClassId) (h : Nat) (a : Nat → Nat) (σ : St) (o : Nat) (w : Nat → Int64) (Hi : Heap) (A : Nat → Prop) (hD : va_D A (xo cI cZ cJ h a σ o w)) {nL nB : Nat} (hI : inv σ nL nB) (line hour : Int32) : lwM l yL_tension wsL_tension ({ frames := 8, cells := 1, slots := 6, locals := 140 }) [.ref h, .int line, .int hour, .ref o] D (xo cI cZ cJ h a σ o w) (tyL cI cZ cJ) Hi A (S := St × (Nat → Int64)) (fun u => xo cI cZ cJ h a u.1 o u.2) (fun r u => r = goK (inR line 0 (nI nL - 1) && inR hour 0 47) true true ∧ (goK (inR line 0 (nI nL - 1) && inR hour 0 47) true true = 0 → u.2 0 = (tn_ σ (tN line) (tN hour) (bal σ (tN hour))).toInt64 ∧ u.1 = σ) ∧ (¬ goK (inR line 0 (nI nL - 1) && inR hour 0 47) true true = 0 → u.1 = σ)) := by
  refine lw_of (cc := cL_tension) (maxL := 5) (ret := some .int) (by decide) rfl (Nat.le_of_ble_eq_true rfl) ?_
  intro p e s m args below meth c he htab hH hP hK hT ls hl
  obtain ⟨hx, hb, hr, hml, hown, hts, hlocks⟩ := he
  have hown : s.vm.findClass RL = some m.cls := hown
  have hS : va_S A Hi Hi [] := va_S.rf
  have hl : lv_has ls 5 [(0, .ref h), (1, .int line), (2, .int hour), (3, .ref o)] := hl
  have hPx := va_P_l hP
  have hPo := va_P_r hP
  have hDx := va_D_l hD
  have hKx : va_K D vwCl (tyX cI cZ) s := hK.sub [0, 1] rfl
  have hTx := tpA_nar hT (B := fun q => A q ∧ notin (ow cJ o w) q) (fun q h => h.1)
  refine lv_aload_n hx hb dL_tension_0 rfl (lv_at hl 3 rfl) ?_
  refine lv_iconst (v := 0) hx hb dL_tension_1 (by decide) ?_
  refine lv_aload_n hx hb dL_tension_2 rfl (lv_at hl 0 rfl) ?_
  refine lv_iload_n hx hb dL_tension_3 rfl (lv_at hl 1 rfl) ?_
  refine lv_iload_n hx hb dL_tension_4 rfl (lv_at hl 2 rfl) ?_
  refine th_callV 2 hx hb hml hown hts hl.1 hPx hKx hTx hS (fun q h => h.1) 0 0 rfl rfl (As := [.int line, .int hour]) (rest := [.int 0, .ref o]) (c_X0_tension l hfl D cI cZ h a σ Hi _ hDx hI line hour) gL_tension_X0_tension rfl rfl rfl (by decide +kernel) ⟨Nat.le_of_ble_eq_true rfl, Nat.le_of_ble_eq_true rfl⟩ rfl rfl (Nat.le_of_ble_eq_true rfl) dL_tension_5 ⟨Nat.le_of_ble_eq_true rfl, Nat.le_of_ble_eq_true rfl⟩ (fun E ce q9 H locs hxp hg hS hce hcv hcl => ?_) (fun r1 u1 H locs hp1 hPx hS hk1 => ?_)
  · have hP9 : va_P D vwCl (xo cI cZ cJ h a σ o w) H := keepG hP hg
    rcases hxp with ⟨hk, rfl⟩ | ⟨hk, rfl⟩ | ⟨hk, rfl⟩
    · refine vx_catch (own := RL) (name := xE3) hown [] ⟨0, 10, 13, 21⟩ [] htab (fun _ h => absurd h List.not_mem_nil) (by decide) (by decide) (hts (.classLink RL 21 xE3) (by decide +kernel)) ((hT.2.2.2.1.2.2).use rfl) hce hcv hcl ?_
      refine lv_astore (lv' := [(4, .ref q9), (0, .ref h), (1, .int line), (2, .int hour), (3, .ref o)]) hx hb dL_tension_13 hl (by decide) rfl (fun ls hl => ?_)
      refine lv_iconst (v := 1) hx hb dL_tension_15 (by decide) ?_
      exact lw_iret (v := 1) (σ, w) hx hb hr hlocks hH hS hP9 ⟨hk.symm, fun q => absurd (hk.symm.trans q) (by decide), fun _ => rfl⟩ dL_tension_16
    · exact (gkn2 hk).elim
    · exact (gkn3 hk).elim
  · obtain ⟨hk0, hr1, hn1⟩ := hp1
    have hP : va_P D vwCl (xo cI cZ cJ h a u1 o w) H := va_P.app hPx (keepW hPo hk1)
    have hD : va_D A (xo cI cZ cJ h a u1 o w) := va_D_ad (W := xo cI cZ cJ h a σ o w) (W' := xo cI cZ cJ h a u1 o w) rfl hD
    refine lv_i2l hx hb dL_tension_8 rfl ?_
    refine va_last hx hb hK hP hD hS 13 2 rfl rfl (by unfold vp_in; decide) dL_tension_9 (fun H locs hP hD hS => ?_)
    have hP : va_P D vwCl (xo cI cZ cJ h a u1 o (vp_updL w (0 : Int32).toNatClampNeg (r1.toInt64))) H := hP
    refine lv_goto (tgt := 17) hx hb dL_tension_10 (by decide) ?_
    refine lv_iconst (v := 0) hx hb dL_tension_17 (by decide) ?_
    exact lw_iret (v := 0) (u1, vp_updL w (0 : Int32).toNatClampNeg (r1.toInt64)) hx hb hr hlocks hH hS hP ⟨hk0.symm, fun _ => ⟨(ul0 (w := w) (x := r1.toInt64)).trans (by rw [hr1]), hn1⟩, fun q => absurd hk0 q⟩ dL_tension_18
set_option maxHeartbeats 4000000 in
set_option maxRecDepth 100000 in
theorem c_L_onBollard (l : Launch) (hfl : l.stackTraces = false) (D : va_G) (cI cZ cJ : ClassId) (h : Nat) (a : Nat → Nat) (σ : St) (o : Nat) (w : Nat → Int64) (Hi : Heap) (A : Nat → Prop) (hD : va_D A (xo cI cZ cJ h a σ o w)) {nL nB : Nat} (hI : inv σ nL nB) (bo hour : Int32) : lwM l yL_onBollard wsL_onBollard ({ frames := 8, cells := 1, slots := 6, locals := 140 }) [.ref h, .int bo, .int hour, .ref o] D (xo cI cZ cJ h a σ o w) (tyL cI cZ cJ) Hi A (S := St × (Nat → Int64)) (fun u => xo cI cZ cJ h a u.1 o u.2) (fun r u => r = goK (inR bo 0 (nI nB - 1) && inR hour 0 47) true true ∧ (goK (inR bo 0 (nI nB - 1) && inR hour 0 47) true true = 0 → u.2 0 = (sumOn_ σ bo (tN hour) (bal σ (tN hour))).toInt64 ∧ u.1 = σ) ∧ (¬ goK (inR bo 0 (nI nB - 1) && inR hour 0 47) true true = 0 → u.1 = σ)) := by
  refine lw_of (cc := cL_onBollard) (maxL := 5) (ret := some .int) (by decide) rfl (Nat.le_of_ble_eq_true rfl) ?_
  intro p e s m args below meth c he htab hH hP hK hT ls hl
  obtain ⟨hx, hb, hr, hml, hown, hts, hlocks⟩ := he
  have hown : s.vm.findClass RL = some m.cls := hown
  have hS : va_S A Hi Hi [] := va_S.rf
  have hl : lv_has ls 5 [(0, .ref h), (1, .int bo), (2, .int hour), (3, .ref o)] := hl
  have hPx := va_P_l hP
  have hPo := va_P_r hP
  have hDx := va_D_l hD
  have hKx : va_K D vwCl (tyX cI cZ) s := hK.sub [0, 1] rfl
  have hTx := tpA_nar hT (B := fun q => A q ∧ notin (ow cJ o w) q) (fun q h => h.1)
  refine lv_aload_n hx hb dL_onBollard_0 rfl (lv_at hl 3 rfl) ?_
  refine lv_iconst (v := 0) hx hb dL_onBollard_1 (by decide) ?_
  refine lv_aload_n hx hb dL_onBollard_2 rfl (lv_at hl 0 rfl) ?_
  refine lv_iload_n hx hb dL_onBollard_3 rfl (lv_at hl 1 rfl) ?_
  refine lv_iload_n hx hb dL_onBollard_4 rfl (lv_at hl 2 rfl) ?_
  refine th_callV 2 hx hb hml hown hts hl.1 hPx hKx hTx hS (fun q h => h.1) 0 0 rfl rfl (As := [.int bo, .int hour]) (rest := [.int 0, .ref o]) (c_X0_onBollard l hfl D cI cZ h a σ Hi _ hDx hI bo hour) gL_onBollard_X0_onBollard rfl rfl rfl (by decide +kernel) ⟨Nat.le_of_ble_eq_true rfl, Nat.le_of_ble_eq_true rfl⟩ rfl rfl (Nat.le_of_ble_eq_true rfl) dL_onBollard_5 ⟨Nat.le_of_ble_eq_true rfl, Nat.le_of_ble_eq_true rfl⟩ (fun E ce q9 H locs hxp hg hS hce hcv hcl => ?_) (fun r1 u1 H locs hp1 hPx hS hk1 => ?_)
  · have hP9 : va_P D vwCl (xo cI cZ cJ h a σ o w) H := keepG hP hg
    rcases hxp with ⟨hk, rfl⟩ | ⟨hk, rfl⟩ | ⟨hk, rfl⟩
    · refine vx_catch (own := RL) (name := xE3) hown [] ⟨0, 10, 13, 21⟩ [] htab (fun _ h => absurd h List.not_mem_nil) (by decide) (by decide) (hts (.classLink RL 21 xE3) (by decide +kernel)) ((hT.2.2.2.1.2.2).use rfl) hce hcv hcl ?_
      refine lv_astore (lv' := [(4, .ref q9), (0, .ref h), (1, .int bo), (2, .int hour), (3, .ref o)]) hx hb dL_onBollard_13 hl (by decide) rfl (fun ls hl => ?_)
      refine lv_iconst (v := 1) hx hb dL_onBollard_15 (by decide) ?_
      exact lw_iret (v := 1) (σ, w) hx hb hr hlocks hH hS hP9 ⟨hk.symm, fun q => absurd (hk.symm.trans q) (by decide), fun _ => rfl⟩ dL_onBollard_16
    · exact (gkn2 hk).elim
    · exact (gkn3 hk).elim
  · obtain ⟨hk0, hr1, hn1⟩ := hp1
    have hP : va_P D vwCl (xo cI cZ cJ h a u1 o w) H := va_P.app hPx (keepW hPo hk1)
    have hD : va_D A (xo cI cZ cJ h a u1 o w) := va_D_ad (W := xo cI cZ cJ h a σ o w) (W' := xo cI cZ cJ h a u1 o w) rfl hD
    refine lv_i2l hx hb dL_onBollard_8 rfl ?_
    refine va_last hx hb hK hP hD hS 13 2 rfl rfl (by unfold vp_in; decide) dL_onBollard_9 (fun H locs hP hD hS => ?_)
    have hP : va_P D vwCl (xo cI cZ cJ h a u1 o (vp_updL w (0 : Int32).toNatClampNeg (r1.toInt64))) H := hP
    refine lv_goto (tgt := 17) hx hb dL_onBollard_10 (by decide) ?_
    refine lv_iconst (v := 0) hx hb dL_onBollard_17 (by decide) ?_
    exact lw_iret (v := 0) (u1, vp_updL w (0 : Int32).toNatClampNeg (r1.toInt64)) hx hb hr hlocks hH hS hP ⟨hk0.symm, fun _ => ⟨(ul0 (w := w) (x := r1.toInt64)).trans (by rw [hr1]), hn1⟩, fun q => absurd hk0 q⟩ dL_onBollard_18
set_option maxHeartbeats 4000000 in
set_option maxRecDepth 100000 in
theorem c_L_isSafe (l : Launch) (hfl : l.stackTraces = false) (D : va_G) (cI cZ cJ : ClassId) (h : Nat) (a : Nat → Nat) (σ : St) (o : Nat) (w : Nat → Int64) (Hi : Heap) (A : Nat → Prop) (hD : va_D A (xo cI cZ cJ h a σ o w)) {nL nB : Nat} (hI : inv σ nL nB) (hour : Int32) : lwM l yL_isSafe wsL_isSafe ({ frames := 8, cells := 1, slots := 6, locals := 161 }) [.ref h, .int hour, .ref o] D (xo cI cZ cJ h a σ o w) (tyL cI cZ cJ) Hi A (S := St × (Nat → Int64)) (fun u => xo cI cZ cJ h a u.1 o u.2) (fun r u => r = goK (inR hour 0 47) true true ∧ (goK (inR hour 0 47) true true = 0 → u.2 0 = (bI (safe_ σ (tN hour))).toInt64 ∧ u.1 = σ) ∧ (¬ goK (inR hour 0 47) true true = 0 → u.1 = σ)) := by
  refine lw_of (cc := cL_isSafe) (maxL := 4) (ret := some .int) (by decide) rfl (Nat.le_of_ble_eq_true rfl) ?_
  intro p e s m args below meth c he htab hH hP hK hT ls hl
  obtain ⟨hx, hb, hr, hml, hown, hts, hlocks⟩ := he
  have hown : s.vm.findClass RL = some m.cls := hown
  have hS : va_S A Hi Hi [] := va_S.rf
  have hl : lv_has ls 4 [(0, .ref h), (1, .int hour), (2, .ref o)] := hl
  have hPx := va_P_l hP
  have hPo := va_P_r hP
  have hDx := va_D_l hD
  have hKx : va_K D vwCl (tyX cI cZ) s := hK.sub [0, 1] rfl
  have hTx := tpA_nar hT (B := fun q => A q ∧ notin (ow cJ o w) q) (fun q h => h.1)
  refine lv_aload_n hx hb dL_isSafe_0 rfl (lv_at hl 2 rfl) ?_
  refine lv_iconst (v := 0) hx hb dL_isSafe_1 (by decide) ?_
  refine lv_aload_n hx hb dL_isSafe_2 rfl (lv_at hl 0 rfl) ?_
  refine lv_iload_n hx hb dL_isSafe_3 rfl (lv_at hl 1 rfl) ?_
  refine th_callV 1 hx hb hml hown hts hl.1 hPx hKx hTx hS (fun q h => h.1) 0 0 rfl rfl (As := [.int hour]) (rest := [.int 0, .ref o]) (c_X0_isSafe l hfl D cI cZ h a σ Hi _ hDx hI hour) gL_isSafe_X0_isSafe rfl rfl rfl (by decide +kernel) ⟨Nat.le_of_ble_eq_true rfl, Nat.le_of_ble_eq_true rfl⟩ rfl rfl (Nat.le_of_ble_eq_true rfl) dL_isSafe_4 ⟨Nat.le_of_ble_eq_true rfl, Nat.le_of_ble_eq_true rfl⟩ (fun E ce q9 H locs hxp hg hS hce hcv hcl => ?_) (fun r1 u1 H locs hp1 hPx hS hk1 => ?_)
  · have hP9 : va_P D vwCl (xo cI cZ cJ h a σ o w) H := keepG hP hg
    rcases hxp with ⟨hk, rfl⟩ | ⟨hk, rfl⟩ | ⟨hk, rfl⟩
    · refine vx_catch (own := RL) (name := xE3) hown [] ⟨0, 16, 19, 21⟩ [] htab (fun _ h => absurd h List.not_mem_nil) (by decide) (by decide) (hts (.classLink RL 21 xE3) (by decide +kernel)) ((hT.2.2.2.1.2.2).use rfl) hce hcv hcl ?_
      refine lv_astore_n (lv' := [(3, .ref q9), (0, .ref h), (1, .int hour), (2, .ref o)]) hx hb dL_isSafe_19 rfl hl (by decide) rfl (fun ls hl => ?_)
      refine lv_iconst (v := 1) hx hb dL_isSafe_20 (by decide) ?_
      exact lw_iret (v := 1) (σ, w) hx hb hr hlocks hH hS hP9 ⟨hk.symm, fun q => absurd (hk.symm.trans q) (by decide), fun _ => rfl⟩ dL_isSafe_21
    · exact (gkn2 hk).elim
    · exact (gkn3 hk).elim
  · obtain ⟨hk0, hr1, hn1⟩ := hp1
    have hP : va_P D vwCl (xo cI cZ cJ h a u1 o w) H := va_P.app hPx (keepW hPo hk1)
    have hD : va_D A (xo cI cZ cJ h a u1 o w) := va_D_ad (W := xo cI cZ cJ h a σ o w) (W' := xo cI cZ cJ h a u1 o w) rfl hD
    refine lv_if_eq (tgt := 14) hx hb dL_isSafe_7 (by decide) (fun c7 => ?_) (fun c7 => ?_)
    · refine lv_lconst (v := 0) hx hb dL_isSafe_14 (by decide) ?_
      refine va_last hx hb hK hP hD hS 13 2 rfl rfl (by unfold vp_in; decide) dL_isSafe_15 (fun H locs hP hD hS => ?_)
      have hP : va_P D vwCl (xo cI cZ cJ h a u1 o (vp_updL w (0 : Int32).toNatClampNeg 0)) H := hP
      refine lv_goto (tgt := 22) hx hb dL_isSafe_16 (by decide) ?_
      refine lv_iconst (v := 0) hx hb dL_isSafe_22 (by decide) ?_
      exact lw_iret (v := 0) (u1, vp_updL w (0 : Int32).toNatClampNeg 0) hx hb hr hlocks hH hS hP ⟨hk0.symm, fun _ => ⟨Eq.trans (ul0 (w := w)) (show (0 : Int64) = _ by rw [← hr1, c7]; rfl), hn1⟩, fun q => absurd hk0 q⟩ dL_isSafe_23
    · refine lv_lconst (v := 1) hx hb dL_isSafe_10 (by decide) ?_
      refine lv_goto (tgt := 15) hx hb dL_isSafe_11 (by decide) ?_
      refine va_last hx hb hK hP hD hS 13 2 rfl rfl (by unfold vp_in; decide) dL_isSafe_15 (fun H locs hP hD hS => ?_)
      have hP : va_P D vwCl (xo cI cZ cJ h a u1 o (vp_updL w (0 : Int32).toNatClampNeg 1)) H := hP
      refine lv_goto (tgt := 22) hx hb dL_isSafe_16 (by decide) ?_
      refine lv_iconst (v := 0) hx hb dL_isSafe_22 (by decide) ?_
      exact lw_iret (v := 0) (u1, vp_updL w (0 : Int32).toNatClampNeg 1) hx hb hr hlocks hH hS hP ⟨hk0.symm, fun _ => ⟨Eq.trans (ul0 (w := w)) (show (1 : Int64) = _ by rcases (bI_01 _ : bI (safe_ σ (tN hour)) = 0 ∨ bI (safe_ σ (tN hour)) = 1) with z | z; exact absurd (hr1.trans z) c7; rw [z]; rfl), hn1⟩, fun q => absurd hk0 q⟩ dL_isSafe_23
set_option maxHeartbeats 4000000 in
set_option maxRecDepth 100000 in
theorem c_L_firstUnsafe (l : Launch) (hfl : l.stackTraces = false) (D : va_G) (cI cZ cJ : ClassId) (h : Nat) (a : Nat → Nat) (σ : St) (o : Nat) (w : Nat → Int64) (Hi : Heap) (A : Nat → Prop) (hD : va_D A (xo cI cZ cJ h a σ o w)) {nL nB : Nat} (hI : inv σ nL nB) (hour : Int32) : lwM l yL_firstUnsafe wsL_firstUnsafe ({ frames := 8, cells := 1, slots := 6, locals := 162 }) [.ref h, .int hour, .ref o] D (xo cI cZ cJ h a σ o w) (tyL cI cZ cJ) Hi A (S := St × (Nat → Int64)) (fun u => xo cI cZ cJ h a u.1 o u.2) (fun r u => r = goK (inR hour 0 47) true true ∧ (goK (inR hour 0 47) true true = 0 → u.2 0 = (fuR (48 - tN hour) σ (tN hour)).toInt64 ∧ u.1 = σ) ∧ (¬ goK (inR hour 0 47) true true = 0 → u.1 = σ)) := by
  refine lw_of (cc := cL_firstUnsafe) (maxL := 4) (ret := some .int) (by decide) rfl (Nat.le_of_ble_eq_true rfl) ?_
  intro p e s m args below meth c he htab hH hP hK hT ls hl
  obtain ⟨hx, hb, hr, hml, hown, hts, hlocks⟩ := he
  have hown : s.vm.findClass RL = some m.cls := hown
  have hS : va_S A Hi Hi [] := va_S.rf
  have hl : lv_has ls 4 [(0, .ref h), (1, .int hour), (2, .ref o)] := hl
  have hPx := va_P_l hP
  have hPo := va_P_r hP
  have hDx := va_D_l hD
  have hKx : va_K D vwCl (tyX cI cZ) s := hK.sub [0, 1] rfl
  have hTx := tpA_nar hT (B := fun q => A q ∧ notin (ow cJ o w) q) (fun q h => h.1)
  refine lv_aload_n hx hb dL_firstUnsafe_0 rfl (lv_at hl 2 rfl) ?_
  refine lv_iconst (v := 0) hx hb dL_firstUnsafe_1 (by decide) ?_
  refine lv_aload_n hx hb dL_firstUnsafe_2 rfl (lv_at hl 0 rfl) ?_
  refine lv_iload_n hx hb dL_firstUnsafe_3 rfl (lv_at hl 1 rfl) ?_
  refine th_callV 1 hx hb hml hown hts hl.1 hPx hKx hTx hS (fun q h => h.1) 0 0 rfl rfl (As := [.int hour]) (rest := [.int 0, .ref o]) (c_X0_firstUnsafe l hfl D cI cZ h a σ Hi _ hDx hI hour) gL_firstUnsafe_X0_firstUnsafe rfl rfl rfl (by decide +kernel) ⟨Nat.le_of_ble_eq_true rfl, Nat.le_of_ble_eq_true rfl⟩ rfl rfl (Nat.le_of_ble_eq_true rfl) dL_firstUnsafe_4 ⟨Nat.le_of_ble_eq_true rfl, Nat.le_of_ble_eq_true rfl⟩ (fun E ce q9 H locs hxp hg hS hce hcv hcl => ?_) (fun r1 u1 H locs hp1 hPx hS hk1 => ?_)
  · have hP9 : va_P D vwCl (xo cI cZ cJ h a σ o w) H := keepG hP hg
    rcases hxp with ⟨hk, rfl⟩ | ⟨hk, rfl⟩ | ⟨hk, rfl⟩
    · refine vx_catch (own := RL) (name := xE3) hown [] ⟨0, 9, 12, 21⟩ [] htab (fun _ h => absurd h List.not_mem_nil) (by decide) (by decide) (hts (.classLink RL 21 xE3) (by decide +kernel)) ((hT.2.2.2.1.2.2).use rfl) hce hcv hcl ?_
      refine lv_astore_n (lv' := [(3, .ref q9), (0, .ref h), (1, .int hour), (2, .ref o)]) hx hb dL_firstUnsafe_12 rfl hl (by decide) rfl (fun ls hl => ?_)
      refine lv_iconst (v := 1) hx hb dL_firstUnsafe_13 (by decide) ?_
      exact lw_iret (v := 1) (σ, w) hx hb hr hlocks hH hS hP9 ⟨hk.symm, fun q => absurd (hk.symm.trans q) (by decide), fun _ => rfl⟩ dL_firstUnsafe_14
    · exact (gkn2 hk).elim
    · exact (gkn3 hk).elim
  · obtain ⟨hk0, hr1, hn1⟩ := hp1
    have hP : va_P D vwCl (xo cI cZ cJ h a u1 o w) H := va_P.app hPx (keepW hPo hk1)
    have hD : va_D A (xo cI cZ cJ h a u1 o w) := va_D_ad (W := xo cI cZ cJ h a σ o w) (W' := xo cI cZ cJ h a u1 o w) rfl hD
    refine lv_i2l hx hb dL_firstUnsafe_7 rfl ?_
    refine va_last hx hb hK hP hD hS 13 2 rfl rfl (by unfold vp_in; decide) dL_firstUnsafe_8 (fun H locs hP hD hS => ?_)
    have hP : va_P D vwCl (xo cI cZ cJ h a u1 o (vp_updL w (0 : Int32).toNatClampNeg (r1.toInt64))) H := hP
    refine lv_goto (tgt := 15) hx hb dL_firstUnsafe_9 (by decide) ?_
    refine lv_iconst (v := 0) hx hb dL_firstUnsafe_15 (by decide) ?_
    exact lw_iret (v := 0) (u1, vp_updL w (0 : Int32).toNatClampNeg (r1.toInt64)) hx hb hr hlocks hH hS hP ⟨hk0.symm, fun _ => ⟨(ul0 (w := w) (x := r1.toInt64)).trans (by rw [hr1]), hn1⟩, fun q => absurd hk0 q⟩ dL_firstUnsafe_16
set_option maxHeartbeats 4000000 in
set_option maxRecDepth 100000 in
theorem c_L_tend (l : Launch) (hfl : l.stackTraces = false) (D : va_G) (cI cZ cJ : ClassId) (h : Nat) (a : Nat → Nat) (σ : St) (o : Nat) (w : Nat → Int64) (Hi : Heap) (A : Nat → Prop) (hD : va_D A (xo cI cZ cJ h a σ o w)) {nL nB : Nat} (hI : inv σ nL nB) (line hour slack : Int32) : lwM l yL_tend wsL_tend ({ frames := 8, cells := 1, slots := 6, locals := 141 }) [.ref h, .int line, .int hour, .int slack, .ref o] D (xo cI cZ cJ h a σ o w) (tyL cI cZ cJ) Hi A (S := St × (Nat → Int64)) (fun u => xo cI cZ cJ h a u.1 o u.2) (fun r u => r = goK (inR line 0 (nI nL - 1) && inR hour 0 47) (inR slack (-100) 100) (decide (¬ σ 13 (tN line) = 0)) ∧ (goK (inR line 0 (nI nL - 1) && inR hour 0 47) (inR slack (-100) 100) (decide (¬ σ 13 (tN line) = 0)) = 0 → u.2 0 = (tdR σ line hour slack).toInt64 ∧ u.1 = st σ 12 (upd (σ 12) (tN line) (tdR σ line hour slack))) ∧ (¬ goK (inR line 0 (nI nL - 1) && inR hour 0 47) (inR slack (-100) 100) (decide (¬ σ 13 (tN line) = 0)) = 0 → u.1 = σ)) := by
  refine lw_of (cc := cL_tend) (maxL := 6) (ret := some .int) (by decide) rfl (Nat.le_of_ble_eq_true rfl) ?_
  intro p e s m args below meth c he htab hH hP hK hT ls hl
  obtain ⟨hx, hb, hr, hml, hown, hts, hlocks⟩ := he
  have hown : s.vm.findClass RL = some m.cls := hown
  have hS : va_S A Hi Hi [] := va_S.rf
  have hl : lv_has ls 6 [(0, .ref h), (1, .int line), (2, .int hour), (3, .int slack), (4, .ref o)] := hl
  have hPx := va_P_l hP
  have hPo := va_P_r hP
  have hDx := va_D_l hD
  have hKx : va_K D vwCl (tyX cI cZ) s := hK.sub [0, 1] rfl
  have hTx := tpA_nar hT (B := fun q => A q ∧ notin (ow cJ o w) q) (fun q h => h.1)
  refine lv_aload hx hb dL_tend_0 (lv_at hl 4 rfl) ?_
  refine lv_iconst (v := 0) hx hb dL_tend_2 (by decide) ?_
  refine lv_aload_n hx hb dL_tend_3 rfl (lv_at hl 0 rfl) ?_
  refine lv_iload_n hx hb dL_tend_4 rfl (lv_at hl 1 rfl) ?_
  refine lv_iload_n hx hb dL_tend_5 rfl (lv_at hl 2 rfl) ?_
  refine lv_iload_n hx hb dL_tend_6 rfl (lv_at hl 3 rfl) ?_
  refine th_callV 3 hx hb hml hown hts hl.1 hPx hKx hTx hS (fun q h => h.1) 0 0 rfl rfl (As := [.int line, .int hour, .int slack]) (rest := [.int 0, .ref o]) (c_X0_tend l hfl D cI cZ h a σ Hi _ hDx hI line hour slack) gL_tend_X0_tend rfl rfl rfl (by decide +kernel) ⟨Nat.le_of_ble_eq_true rfl, Nat.le_of_ble_eq_true rfl⟩ rfl rfl (Nat.le_of_ble_eq_true rfl) dL_tend_7 ⟨Nat.le_of_ble_eq_true rfl, Nat.le_of_ble_eq_true rfl⟩ (fun E ce q9 H locs hxp hg hS hce hcv hcl => ?_) (fun r1 u1 H locs hp1 hPx hS hk1 => ?_)
  · have hP9 : va_P D vwCl (xo cI cZ cJ h a σ o w) H := keepG hP hg
    rcases hxp with ⟨hk, rfl⟩ | ⟨hk, rfl⟩ | ⟨hk, rfl⟩
    · refine vx_catch (own := RL) (name := xE3) hown [] ⟨0, 12, 15, 21⟩ [⟨0, 12, 19, 13⟩, ⟨0, 12, 23, 15⟩] htab (fun _ h => absurd h List.not_mem_nil) (by decide) (by decide) (hts (.classLink RL 21 xE3) (by decide +kernel)) ((hT.2.2.2.1.2.2).use rfl) hce hcv hcl ?_
      refine lv_astore (lv' := [(5, .ref q9), (0, .ref h), (1, .int line), (2, .int hour), (3, .int slack), (4, .ref o)]) hx hb dL_tend_15 hl (by decide) rfl (fun ls hl => ?_)
      refine lv_iconst (v := 1) hx hb dL_tend_17 (by decide) ?_
      exact lw_iret (v := 1) (σ, w) hx hb hr hlocks hH hS hP9 ⟨hk.symm, fun q => absurd (hk.symm.trans q) (by decide), fun _ => rfl⟩ dL_tend_18
    · refine vx_catch (own := RL) (name := xE1) hown [⟨0, 12, 15, 21⟩] ⟨0, 12, 19, 13⟩ [⟨0, 12, 23, 15⟩] htab (List.forall_mem_cons.mpr ⟨Or.inr ⟨by decide, xE3, hts (.classLink RL 21 xE3) (by decide +kernel), hT.2.2.2.2.2.2.2.2.2.1⟩, (fun _ h => absurd h List.not_mem_nil)⟩) (by decide) (by decide) (hts (.classLink RL 13 xE1) (by decide +kernel)) ((hT.2.2.2.1.1).use rfl) hce hcv hcl ?_
      refine lv_astore (lv' := [(5, .ref q9), (0, .ref h), (1, .int line), (2, .int hour), (3, .int slack), (4, .ref o)]) hx hb dL_tend_19 hl (by decide) rfl (fun ls hl => ?_)
      refine lv_iconst (v := 2) hx hb dL_tend_21 (by decide) ?_
      exact lw_iret (v := 2) (σ, w) hx hb hr hlocks hH hS hP9 ⟨hk.symm, fun q => absurd (hk.symm.trans q) (by decide), fun _ => rfl⟩ dL_tend_22
    · refine vx_catch (own := RL) (name := xE2) hown [⟨0, 12, 15, 21⟩, ⟨0, 12, 19, 13⟩] ⟨0, 12, 23, 15⟩ [] htab (List.forall_mem_cons.mpr ⟨Or.inr ⟨by decide, xE3, hts (.classLink RL 21 xE3) (by decide +kernel), hT.2.2.2.2.2.2.2.2.2.2⟩, (List.forall_mem_cons.mpr ⟨Or.inr ⟨by decide, xE1, hts (.classLink RL 13 xE1) (by decide +kernel), hT.2.2.2.2.2.1⟩, (fun _ h => absurd h List.not_mem_nil)⟩)⟩) (by decide) (by decide) (hts (.classLink RL 15 xE2) (by decide +kernel)) ((hT.2.2.2.1.2.1).use rfl) hce hcv hcl ?_
      refine lv_astore (lv' := [(5, .ref q9), (0, .ref h), (1, .int line), (2, .int hour), (3, .int slack), (4, .ref o)]) hx hb dL_tend_23 hl (by decide) rfl (fun ls hl => ?_)
      refine lv_iconst (v := 3) hx hb dL_tend_25 (by decide) ?_
      exact lw_iret (v := 3) (σ, w) hx hb hr hlocks hH hS hP9 ⟨hk.symm, fun q => absurd (hk.symm.trans q) (by decide), fun _ => rfl⟩ dL_tend_26
  · obtain ⟨hk0, hr1, hn1⟩ := hp1
    have hP : va_P D vwCl (xo cI cZ cJ h a u1 o w) H := va_P.app hPx (keepW hPo hk1)
    have hD : va_D A (xo cI cZ cJ h a u1 o w) := va_D_ad (W := xo cI cZ cJ h a σ o w) (W' := xo cI cZ cJ h a u1 o w) rfl hD
    refine lv_i2l hx hb dL_tend_10 rfl ?_
    refine va_last hx hb hK hP hD hS 13 2 rfl rfl (by unfold vp_in; decide) dL_tend_11 (fun H locs hP hD hS => ?_)
    have hP : va_P D vwCl (xo cI cZ cJ h a u1 o (vp_updL w (0 : Int32).toNatClampNeg (r1.toInt64))) H := hP
    refine lv_goto (tgt := 27) hx hb dL_tend_12 (by decide) ?_
    refine lv_iconst (v := 0) hx hb dL_tend_27 (by decide) ?_
    exact lw_iret (v := 0) (u1, vp_updL w (0 : Int32).toNatClampNeg (r1.toInt64)) hx hb hr hlocks hH hS hP ⟨hk0.symm, fun _ => ⟨(ul0 (w := w) (x := r1.toInt64)).trans (by rw [hr1]), hn1⟩, fun q => absurd hk0 q⟩ dL_tend_28
set_option maxHeartbeats 4000000 in
set_option maxRecDepth 100000 in
theorem c_L_tendAll (l : Launch) (hfl : l.stackTraces = false) (D : va_G) (cI cZ cJ : ClassId) (h : Nat) (a : Nat → Nat) (σ : St) (o : Nat) (w : Nat → Int64) (Hi : Heap) (A : Nat → Prop) (hD : va_D A (xo cI cZ cJ h a σ o w)) {nL nB : Nat} (hI : inv σ nL nB) (hour : Int32) : lwM l yL_tendAll wsL_tendAll ({ frames := 8, cells := 1, slots := 6, locals := 164 }) [.ref h, .int hour, .ref o] D (xo cI cZ cJ h a σ o w) (tyL cI cZ cJ) Hi A (S := St × (Nat → Int64)) (fun u => xo cI cZ cJ h a u.1 o u.2) (fun r u => r = goK (inR hour 0 47) true true ∧ (goK (inR hour 0 47) true true = 0 → u.2 0 = (tdC σ (tN hour) (bal σ (tN hour)) nL).toInt64 ∧ u.1 = tnd σ (tN hour)) ∧ (¬ goK (inR hour 0 47) true true = 0 → u.1 = σ)) := by
  refine lw_of (cc := cL_tendAll) (maxL := 4) (ret := some .int) (by decide) rfl (Nat.le_of_ble_eq_true rfl) ?_
  intro p e s m args below meth c he htab hH hP hK hT ls hl
  obtain ⟨hx, hb, hr, hml, hown, hts, hlocks⟩ := he
  have hown : s.vm.findClass RL = some m.cls := hown
  have hS : va_S A Hi Hi [] := va_S.rf
  have hl : lv_has ls 4 [(0, .ref h), (1, .int hour), (2, .ref o)] := hl
  have hPx := va_P_l hP
  have hPo := va_P_r hP
  have hDx := va_D_l hD
  have hKx : va_K D vwCl (tyX cI cZ) s := hK.sub [0, 1] rfl
  have hTx := tpA_nar hT (B := fun q => A q ∧ notin (ow cJ o w) q) (fun q h => h.1)
  refine lv_aload_n hx hb dL_tendAll_0 rfl (lv_at hl 2 rfl) ?_
  refine lv_iconst (v := 0) hx hb dL_tendAll_1 (by decide) ?_
  refine lv_aload_n hx hb dL_tendAll_2 rfl (lv_at hl 0 rfl) ?_
  refine lv_iload_n hx hb dL_tendAll_3 rfl (lv_at hl 1 rfl) ?_
  refine th_callV 1 hx hb hml hown hts hl.1 hPx hKx hTx hS (fun q h => h.1) 0 0 rfl rfl (As := [.int hour]) (rest := [.int 0, .ref o]) (c_X0_tendAll l hfl D cI cZ h a σ Hi _ hDx hI hour) gL_tendAll_X0_tendAll rfl rfl rfl (by decide +kernel) ⟨Nat.le_of_ble_eq_true rfl, Nat.le_of_ble_eq_true rfl⟩ rfl rfl (Nat.le_of_ble_eq_true rfl) dL_tendAll_4 ⟨Nat.le_of_ble_eq_true rfl, Nat.le_of_ble_eq_true rfl⟩ (fun E ce q9 H locs hxp hg hS hce hcv hcl => ?_) (fun r1 u1 H locs hp1 hPx hS hk1 => ?_)
  · have hP9 : va_P D vwCl (xo cI cZ cJ h a σ o w) H := keepG hP hg
    rcases hxp with ⟨hk, rfl⟩ | ⟨hk, rfl⟩ | ⟨hk, rfl⟩
    · refine vx_catch (own := RL) (name := xE3) hown [] ⟨0, 9, 12, 21⟩ [] htab (fun _ h => absurd h List.not_mem_nil) (by decide) (by decide) (hts (.classLink RL 21 xE3) (by decide +kernel)) ((hT.2.2.2.1.2.2).use rfl) hce hcv hcl ?_
      refine lv_astore_n (lv' := [(3, .ref q9), (0, .ref h), (1, .int hour), (2, .ref o)]) hx hb dL_tendAll_12 rfl hl (by decide) rfl (fun ls hl => ?_)
      refine lv_iconst (v := 1) hx hb dL_tendAll_13 (by decide) ?_
      exact lw_iret (v := 1) (σ, w) hx hb hr hlocks hH hS hP9 ⟨hk.symm, fun q => absurd (hk.symm.trans q) (by decide), fun _ => rfl⟩ dL_tendAll_14
    · exact (gkn2 hk).elim
    · exact (gkn3 hk).elim
  · obtain ⟨hk0, hr1, hn1⟩ := hp1
    have hP : va_P D vwCl (xo cI cZ cJ h a u1 o w) H := va_P.app hPx (keepW hPo hk1)
    have hD : va_D A (xo cI cZ cJ h a u1 o w) := va_D_ad (W := xo cI cZ cJ h a σ o w) (W' := xo cI cZ cJ h a u1 o w) rfl hD
    refine lv_i2l hx hb dL_tendAll_7 rfl ?_
    refine va_last hx hb hK hP hD hS 13 2 rfl rfl (by unfold vp_in; decide) dL_tendAll_8 (fun H locs hP hD hS => ?_)
    have hP : va_P D vwCl (xo cI cZ cJ h a u1 o (vp_updL w (0 : Int32).toNatClampNeg (r1.toInt64))) H := hP
    refine lv_goto (tgt := 15) hx hb dL_tendAll_9 (by decide) ?_
    refine lv_iconst (v := 0) hx hb dL_tendAll_15 (by decide) ?_
    exact lw_iret (v := 0) (u1, vp_updL w (0 : Int32).toNatClampNeg (r1.toInt64)) hx hb hr hlocks hH hS hP ⟨hk0.symm, fun _ => ⟨(ul0 (w := w) (x := r1.toInt64)).trans (by rw [hr1]), hn1⟩, fun q => absurd hk0 q⟩ dL_tendAll_16
set_option maxHeartbeats 4000000 in
set_option maxRecDepth 100000 in
theorem c_L_plan (l : Launch) (hfl : l.stackTraces = false) (D : va_G) (cI cZ cJ : ClassId) (h : Nat) (a : Nat → Nat) (σ : St) (o : Nat) (w : Nat → Int64) (Hi : Heap) (A : Nat → Prop) (hD : va_D A (xo cI cZ cJ h a σ o w)) {nL nB : Nat} (hI : inv σ nL nB) (fr to : Int32) : lwM l yL_plan wsL_plan ({ frames := 8, cells := 1, slots := 6, locals := 190 }) [.ref h, .int fr, .int to, .ref o] D (xo cI cZ cJ h a σ o w) (tyL cI cZ cJ) Hi A (S := St × (Nat → Int64)) (fun u => xo cI cZ cJ h a u.1 o u.2) (fun r u => r = goK (inR fr 0 47 && inR to 0 47) (decide (fr ≤ to)) true ∧ (goK (inR fr 0 47 && inR to 0 47) (decide (fr ≤ to)) true = 0 → u.2 0 = (plR (tN to + 1 - tN fr) σ (tN fr) 0).toInt64 ∧ ∃ g, u.1 = st σ 14 g) ∧ (¬ goK (inR fr 0 47 && inR to 0 47) (decide (fr ≤ to)) true = 0 → u.1 = σ)) := by
  refine lw_of (cc := cL_plan) (maxL := 5) (ret := some .int) (by decide) rfl (Nat.le_of_ble_eq_true rfl) ?_
  intro p e s m args below meth c he htab hH hP hK hT ls hl
  obtain ⟨hx, hb, hr, hml, hown, hts, hlocks⟩ := he
  have hown : s.vm.findClass RL = some m.cls := hown
  have hS : va_S A Hi Hi [] := va_S.rf
  have hl : lv_has ls 5 [(0, .ref h), (1, .int fr), (2, .int to), (3, .ref o)] := hl
  have hPx := va_P_l hP
  have hPo := va_P_r hP
  have hDx := va_D_l hD
  have hKx : va_K D vwCl (tyX cI cZ) s := hK.sub [0, 1] rfl
  have hTx := tpA_nar hT (B := fun q => A q ∧ notin (ow cJ o w) q) (fun q h => h.1)
  refine lv_aload_n hx hb dL_plan_0 rfl (lv_at hl 3 rfl) ?_
  refine lv_iconst (v := 0) hx hb dL_plan_1 (by decide) ?_
  refine lv_aload_n hx hb dL_plan_2 rfl (lv_at hl 0 rfl) ?_
  refine lv_iload_n hx hb dL_plan_3 rfl (lv_at hl 1 rfl) ?_
  refine lv_iload_n hx hb dL_plan_4 rfl (lv_at hl 2 rfl) ?_
  refine th_callV 2 hx hb hml hown hts hl.1 hPx hKx hTx hS (fun q h => h.1) 0 0 rfl rfl (As := [.int fr, .int to]) (rest := [.int 0, .ref o]) (c_X0_plan l hfl D cI cZ h a σ Hi _ hDx hI fr to) gL_plan_X0_plan rfl rfl rfl (by decide +kernel) ⟨Nat.le_of_ble_eq_true rfl, Nat.le_of_ble_eq_true rfl⟩ rfl rfl (Nat.le_of_ble_eq_true rfl) dL_plan_5 ⟨Nat.le_of_ble_eq_true rfl, Nat.le_of_ble_eq_true rfl⟩ (fun E ce q9 H locs hxp hg hS hce hcv hcl => ?_) (fun r1 u1 H locs hp1 hPx hS hk1 => ?_)
  · have hP9 : va_P D vwCl (xo cI cZ cJ h a σ o w) H := keepG hP hg
    rcases hxp with ⟨hk, rfl⟩ | ⟨hk, rfl⟩ | ⟨hk, rfl⟩
    · refine vx_catch (own := RL) (name := xE3) hown [] ⟨0, 10, 13, 21⟩ [⟨0, 10, 17, 13⟩] htab (fun _ h => absurd h List.not_mem_nil) (by decide) (by decide) (hts (.classLink RL 21 xE3) (by decide +kernel)) ((hT.2.2.2.1.2.2).use rfl) hce hcv hcl ?_
      refine lv_astore (lv' := [(4, .ref q9), (0, .ref h), (1, .int fr), (2, .int to), (3, .ref o)]) hx hb dL_plan_13 hl (by decide) rfl (fun ls hl => ?_)
      refine lv_iconst (v := 1) hx hb dL_plan_15 (by decide) ?_
      exact lw_iret (v := 1) (σ, w) hx hb hr hlocks hH hS hP9 ⟨hk.symm, fun q => absurd (hk.symm.trans q) (by decide), fun _ => rfl⟩ dL_plan_16
    · refine vx_catch (own := RL) (name := xE1) hown [⟨0, 10, 13, 21⟩] ⟨0, 10, 17, 13⟩ [] htab (List.forall_mem_cons.mpr ⟨Or.inr ⟨by decide, xE3, hts (.classLink RL 21 xE3) (by decide +kernel), hT.2.2.2.2.2.2.2.2.2.1⟩, (fun _ h => absurd h List.not_mem_nil)⟩) (by decide) (by decide) (hts (.classLink RL 13 xE1) (by decide +kernel)) ((hT.2.2.2.1.1).use rfl) hce hcv hcl ?_
      refine lv_astore (lv' := [(4, .ref q9), (0, .ref h), (1, .int fr), (2, .int to), (3, .ref o)]) hx hb dL_plan_17 hl (by decide) rfl (fun ls hl => ?_)
      refine lv_iconst (v := 2) hx hb dL_plan_19 (by decide) ?_
      exact lw_iret (v := 2) (σ, w) hx hb hr hlocks hH hS hP9 ⟨hk.symm, fun q => absurd (hk.symm.trans q) (by decide), fun _ => rfl⟩ dL_plan_20
    · exact (gkn3 hk).elim
  · obtain ⟨hk0, hr1, hn1⟩ := hp1
    have hP : va_P D vwCl (xo cI cZ cJ h a u1 o w) H := va_P.app hPx (keepW hPo hk1)
    have hD : va_D A (xo cI cZ cJ h a u1 o w) := va_D_ad (W := xo cI cZ cJ h a σ o w) (W' := xo cI cZ cJ h a u1 o w) rfl hD
    refine lv_i2l hx hb dL_plan_8 rfl ?_
    refine va_last hx hb hK hP hD hS 13 2 rfl rfl (by unfold vp_in; decide) dL_plan_9 (fun H locs hP hD hS => ?_)
    have hP : va_P D vwCl (xo cI cZ cJ h a u1 o (vp_updL w (0 : Int32).toNatClampNeg (r1.toInt64))) H := hP
    refine lv_goto (tgt := 21) hx hb dL_plan_10 (by decide) ?_
    refine lv_iconst (v := 0) hx hb dL_plan_21 (by decide) ?_
    exact lw_iret (v := 0) (u1, vp_updL w (0 : Int32).toNatClampNeg (r1.toInt64)) hx hb hr hlocks hH hS hP ⟨hk0.symm, fun _ => ⟨(ul0 (w := w) (x := r1.toInt64)).trans (by rw [hr1]), hn1⟩, fun q => absurd hk0 q⟩ dL_plan_22
