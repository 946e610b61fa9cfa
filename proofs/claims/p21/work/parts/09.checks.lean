/-! What throws: the four checks; calls of them; and a plan's way through its hours. -/
def xB1 : List Cond := [.declares (Bundle.initS "java/lang/Throwable"), .declares (Bundle.initS "java/lang/Exception"), .declares (Bundle.initS "java/lang/RuntimeException"), .castable xE1 xE1]
def xB2 : List Cond := [.declares (Bundle.initS "java/lang/Throwable"), .declares (Bundle.initS "java/lang/Exception"), .declares (Bundle.initS "java/lang/RuntimeException"), .castable xE2 xE2]
def xB3 : List Cond := [.declares (Bundle.initS "java/lang/Throwable"), .declares (Bundle.initS "java/lang/Exception"), .declares (Bundle.initS "java/lang/RuntimeException"), .castable xE3 xE3]
theorem xh1 : ∀ w ∈ (vx_atS RX0 125 xE1 xNs).filter (fun w => !goodWord w), w ∈ xB1 := by decide +kernel
theorem xh2 : ∀ w ∈ (vx_atS RX0 66 xE2 xNs).filter (fun w => !goodWord w), w ∈ xB2 := by decide +kernel
theorem xh3 : ∀ w ∈ (vx_atS RX0 139 xE3 xNs).filter (fun w => !goodWord w), w ∈ xB3 := by decide +kernel
theorem xg1 : ∀ w ∈ Cond.classLink RX0 121 xE1 :: Cond.initialized xE1 :: vx_atS RX0 125 xE1 xNs, vx_ot w = true := by decide +kernel
theorem xg2 : ∀ w ∈ Cond.classLink RX0 62 xE2 :: Cond.initialized xE2 :: vx_atS RX0 66 xE2 xNs, vx_ot w = true := by decide +kernel
theorem xg3 : ∀ w ∈ Cond.classLink RX0 135 xE3 :: Cond.initialized xE3 :: vx_atS RX0 139 xE3 xNs, vx_ot w = true := by decide +kernel
theorem xfN : ∀ n ∈ xNs, Bundle.fit n = true := by decide +kernel
theorem xb1 {s : State} {args : Array Value} (h : tpW s) : ∀ w ∈ xB1, w.before args s = true := by
  obtain ⟨-, -, ⟨c1, c2, c3⟩, ⟨d1, d2, d3⟩, -⟩ := h
  exact vx_c (d1.use rfl) (vx_c (d2.use rfl) (vx_c (d3.use rfl) (vx_c (c1.use rfl) vx_n)))
theorem xb2 {s : State} {args : Array Value} (h : tpW s) : ∀ w ∈ xB2, w.before args s = true := by
  obtain ⟨-, -, ⟨c1, c2, c3⟩, ⟨d1, d2, d3⟩, -⟩ := h
  exact vx_c (d1.use rfl) (vx_c (d2.use rfl) (vx_c (d3.use rfl) (vx_c (c2.use rfl) vx_n)))
theorem xb3 {s : State} {args : Array Value} (h : tpW s) : ∀ w ∈ xB3, w.before args s = true := by
  obtain ⟨-, -, ⟨c1, c2, c3⟩, ⟨d1, d2, d3⟩, -⟩ := h
  exact vx_c (d1.use rfl) (vx_c (d2.use rfl) (vx_c (d3.use rfl) (vx_c (c3.use rfl) vx_n)))
section
variable {p : Program} {l : Launch} {e : Env} {R : Room} {s : State} {m : MethodId} {args : Array Value} {below : List Frame} {meth : Method} {c : Code} {H : Heap}
variable {y : MethodName} {bytes cc : ByteArray} {maxL nL index : Nat} {ret : Option FieldType} {ws ws' : List Cond} {rm : Room} {Ts : List Cond} {own : String} {b : Addr} {As rest st0 : List Value} {pc : Nat} {ls : Array Slot} {D : va_G} {W0 : va_W} {tys : List (ClassId × FieldType)} {A : Nat → Prop}
theorem thr_go {cls text : String} {ik is ic sa : Nat} {B : List Cond} {Qc : Array Value → State → Outcome → State → Prop} {XC : String → State → State → Prop} {free : Addr → Prop} (hfl : l.stackTraces = false) (hx : p.tables.exec = Jvm.exec) (hb : c.code = cc) (hown : s.vm.findClass RX0 = some m.cls) (hlocks : meth.locks = false) (hout : ∀ x ∈ c.exceptionTable.toList, False) (hsize : ls.size = c.maxLocals) (hH : s.heap = H)
    (hfit : Bundle.fit cls = true) (hk : (Cond.classLink RX0 ik cls).before args s = true) (hini : (Cond.initialized cls).before args s = true) (hstr : vk_R RX0 is text sa s) (h1 : ∀ w ∈ (vx_atS RX0 ic cls xNs).filter goodWord, w.before args s = true) (h2 : ∀ w ∈ (vx_atS RX0 ic cls xNs).filter (fun w => !goodWord w), w ∈ B) (h3 : ∀ w ∈ B, w.before args s = true)
    (hg : ∀ w ∈ Cond.classLink RX0 ik cls :: Cond.initialized cls :: vx_atS RX0 ic cls xNs, vx_ot w = true) (hT : tpS A H s) (d0 : decode cc pc = .ok (.new ik, 3)) (d3 : decode cc (pc + 3) = .ok (.dup, 1)) (d4 : decode cc (pc + 4) = .ok (.ldc is, 2)) (d6 : decode cc (pc + 6) = .ok (.invokespecial ic, 3)) (d9 : decode cc (pc + 9) = .ok (.athrow, 1))
    (hRf : 5 < R.frames) (hRl : (rest.map fun v => v.category).sum + 82 ≤ R.locals) (hRc : 0 + 1 ≤ R.cells) (hRs : 0 + 6 ≤ R.slots) (hxc : ∀ t : State, grew H t.heap → XC cls s t) : W p l e R s m args below meth c H [] 0 0 (vx_MQ below Qc XC args s 1 6 free) (F0 m pc ls rest) := by
  subst hH
  exact vx_throwS (A := A) (names := xNs) hx hb hfl hown hfit xfN hk hini hstr (vx_hat h1 h2 h3) hg hT.1 hT.2 va_S.rf hsize d0 d3 d4 d6 d9 (fun x hx => (hout x hx).elim) hRf hRl hRc hRs hlocks (fun t _ h5 h6 => hxc t ⟨h5, h6⟩) (fun _ h => nomatch h) (Nat.le_refl _) (Nat.le_refl _)
theorem ck_callS {S : Type} {Wf : S → va_W} {post : Int32 → S → Prop} {XP : String → Prop} {A2 : Nat → Prop} {cond : Prop} {E : String} (n : Nat) (hx : p.tables.exec = Jvm.exec) (hb : c.code = cc) (hml : c.maxLocals = nL) (hown : s.vm.findClass own = some m.cls) (hts : ∀ w ∈ Ts, w.before args s = true) (hlocks : meth.locks = false) (hout : ∀ x ∈ c.exceptionTable.toList, False) (hsize : ls.size = nL)
    (hP : va_P D vwCl W0 H) (hK : va_K D vwCl tys s) (hT : tpA A H s) (hM : ckM l y ws rm As D W0 tys H A cond E) (hG : GoodIn Ts (va_wsS own index y ws)) (hw : ws = Cond.code y bytes maxL ret :: ws') (hrc : rm.cells = 1) (hrs : rm.slots = 6)
    (hd : y.cls ≠ "java/lang/invoke/MethodHandle" ∧ y.cls ≠ "java/lang/invoke/VarHandle" ∧ (parseMethodDescriptor y.desc).map (fun d => d.parameters.length) = some n) (hR : rm.frames + 1 ≤ R.frames ∧ 8 + (maxL + 11) + rm.locals ≤ R.locals) (hn : As.length = n) (hst : st0 = As.reverse ++ rest) (hW : (rest.map fun v => v.category).sum ≤ 8)
    (hdg : decode cc pc = .ok (.invokestatic index, 3)) (hf : 0 + 1 ≤ R.cells ∧ 0 + 6 ≤ R.slots) (hfail : ¬ cond → XP E) (kk : cond → W p l e R s m args below meth c H [] 0 0 (thQ below D H A2 Wf post XP args s) (F0 m (pc + 3) ls rest)) : W p l e R s m args below meth c H [] 0 0 (thQ below D H A2 Wf post XP args s) (F0 m pc ls st0) :=
  ck_go hlocks hout (vx_runS ⟨hx, hb, hml, hown, hts⟩ hM (va_cwS n hts hG hw hrc hrs hd hR) ⟨thP_blind, fun U hU hWm => ⟨rfl, hU, hP, va_K.moved hWm.alike hK, tpA_warm hWm hT⟩⟩ rfl hn hsize hst (lv_room hW) hdg hf) hfail kk
theorem ck_callV {S : Type} {Wf : S → va_W} {post : Int32 → S → Prop} {XP : String → Prop} {A2 : Nat → Prop} {cond : Prop} {E : String} (n : Nat) (hx : p.tables.exec = Jvm.exec) (hb : c.code = cc) (hml : c.maxLocals = nL) (hown : s.vm.findClass own = some m.cls) (hts : ∀ w ∈ Ts, w.before args s = true) (hlocks : meth.locks = false) (hout : ∀ x ∈ c.exceptionTable.toList, False) (hsize : ls.size = nL)
    (hP : va_P D vwCl W0 H) (hK : va_K D vwCl tys s) (hT : tpA A H s) (q0 ci : Nat) {q : vw_C} {fs : List Value} (hc : vwCl[ci]? = some q) (he : W0[q0]? = some (b, .inr (ci, fs))) (hM : ckM l y ws rm (.ref b :: As) D W0 tys H A cond E) (hG : GoodIn Ts (wsV own index q.1 y ws)) (hw : ws = Cond.code y bytes maxL ret :: ws') (hrc : rm.cells = 1) (hrs : rm.slots = 6)
    (hd : y.cls = q.1 ∧ y.cls ≠ "java/lang/invoke/MethodHandle" ∧ y.cls ≠ "java/lang/invoke/VarHandle" ∧ (parseMethodDescriptor y.desc).map (fun d => d.parameters.length) = some n) (hR : rm.frames + 1 ≤ R.frames ∧ 8 + (maxL + 11) + rm.locals ≤ R.locals) (hn : As.length = n) (hst : st0 = As.reverse ++ .ref b :: rest) (hW : (rest.map fun v => v.category).sum ≤ 8)
    (hdg : decode cc pc = .ok (.invokevirtual index, 3)) (hf : 0 + 1 ≤ R.cells ∧ 0 + 6 ≤ R.slots) (hfail : ¬ cond → XP E) (kk : cond → W p l e R s m args below meth c H [] 0 0 (thQ below D H A2 Wf post XP args s) (F0 m (pc + 3) ls rest)) : W p l e R s m args below meth c H [] 0 0 (thQ below D H A2 Wf post XP args s) (F0 m pc ls st0) :=
  ck_go hlocks hout (vx_runV ⟨hx, hb, hml, hown, hts⟩ hM (cwV n hts hG hw hrc hrs hd hR) ⟨thP_blind, va_recv hK hP hc he, fun U hU hWm => ⟨rfl, hU, hP, va_K.moved hWm.alike hK, tpA_warm hWm hT⟩⟩ rfl hn hsize hst (lv_room hW) hdg hf) hfail kk
end
theorem inR_nf1 {v lo hi : Int32} (h : v < lo) : ¬ inR v lo hi = true := by rw [inR_f1 h]; decide
theorem inR_nf2 {v lo hi : Int32} (h : hi < v) : ¬ inR v lo hi = true := by rw [inR_f2 h]; decide
theorem inR_sp {v lo hi : Int32} (h : inR v lo hi = true) : lo.toInt ≤ v.toInt ∧ v.toInt ≤ hi.toInt := by
  unfold inR at h
  rw [Bool.and_eq_true] at h
  exact ⟨i_le.mp (of_decide_eq_true h.1), i_le.mp (of_decide_eq_true h.2)⟩
theorem inR_nat {v hi : Int32} {k : Int} (h : inR v 0 hi = true) (hk : hi.toInt = k) : ∃ t : Nat, (t : Int) ≤ k ∧ v = nI t := by
  obtain ⟨h1, h2⟩ := inR_sp h
  have e0 : (0 : Int32).toInt = 0 := rfl
  have h3 := Int32.toInt_lt v
  exact ⟨v.toInt.toNat, by omega, ti_nI (by omega)⟩
theorem inR_hour {v : Int32} (h : inR v 0 47 = true) : ∃ t : Nat, t < 48 ∧ v = nI t := by
  obtain ⟨t, h1, h2⟩ := inR_nat h (k := 47) rfl
  exact ⟨t, by omega, h2⟩
theorem nI_pm {n : Nat} (hn : n < 1000) : (nI n - 1).toInt = (n : Int) - 1 := by
  have e1 : (1 : Int32).toInt = 1 := rfl
  have e2 : (nI n).toInt = n := nI_ti (by omega)
  rw [Jvm.Kit.i32_sub (by omega) (by omega), e1, e2]
theorem inR_line {v : Int32} {n : Nat} (hn : n < 1000) (h : inR v 0 (nI n - 1) = true) : ∃ j : Nat, j < n ∧ v = nI j := by
  obtain ⟨t, h1, h2⟩ := inR_nat h (nI_pm hn)
  exact ⟨t, by omega, h2⟩
theorem hour_in {v : Int32} (h1 : ¬ v < 0) (h2 : v < 48) : inR v 0 47 = true := by
  refine inR_t h1 ?_
  have e1 : (48 : Int32).toInt = 48 := rfl
  have e2 : (47 : Int32).toInt = 47 := rfl
  rw [i_lt] at h2 ⊢
  omega
theorem hour_out {v : Int32} (h2 : ¬ v < 48) : ¬ inR v 0 47 = true := by
  refine inR_nf2 ?_
  have e1 : (48 : Int32).toInt = 48 := rfl
  have e2 : (47 : Int32).toInt = 47 := rfl
  rw [i_lt] at h2 ⊢
  omega
theorem line_in {v : Int32} {n : Nat} (hn : n < 1000) (h1 : ¬ v < 0) (h2 : v < nI n) : inR v 0 (nI n - 1) = true := by
  refine inR_t h1 ?_
  have e1 := nI_pm hn
  have e2 : (nI n).toInt = n := nI_ti (by omega)
  rw [i_lt] at h2 ⊢
  omega
theorem line_out {v : Int32} {n : Nat} (hn : n < 1000) (h2 : ¬ v < nI n) : ¬ inR v 0 (nI n - 1) = true := by
  refine inR_nf2 ?_
  have e1 := nI_pm hn
  have e2 : (nI n).toInt = n := nI_ti (by omega)
  rw [i_lt] at h2 ⊢
  omega
set_option maxHeartbeats 4000000 in
set_option maxRecDepth 100000 in
/-- checkHour -/
theorem c_X0_checkHour (l : Launch) (hfl : l.stackTraces = false) (D : va_G) (W0 : va_W) (tys : List (ClassId × FieldType)) (H : Heap) (A : Nat → Prop) (v : Int32) : ckM l yX0_checkHour wsX0_checkHour ({ frames := 6, cells := 1, slots := 6, locals := 90 }) [.int v] D W0 tys H A (inR v 0 47 = true) xE3 := by
  refine ck_of (cc := cX0_checkHour) (maxL := 1) (ret := none) (by decide) rfl (Nat.le_of_ble_eq_true rfl) ?_
  intro p e s m args below meth c he hout hH hP hK hT ls hl
  obtain ⟨hx, hb, hr, hml, hown, hts, hlocks⟩ := he
  have hown : s.vm.findClass RX0 = some m.cls := hown
  have hl : lv_has ls 1 [(0, .int v)] := hl
  refine lv_iload_n hx hb dX0_checkHour_0 rfl (lv_at hl 0 rfl) ?_
  refine lv_if_lt (tgt := 10) hx hb dX0_checkHour_1 (by decide) (fun c1 => ?_) (fun c1 => ?_)
  · obtain ⟨sa, hsa⟩ := hT.2.2.1.1
    exact thr_go (A := A) (cls := xE3) (ik := 135) (ic := 139) hfl hx hb hown hlocks hout (by rw [hml]; exact hl.1) hH (by decide +kernel) (hts (.classLink RX0 135 xE3) (by decide +kernel)) (hts (.initialized xE3) (by decide +kernel)) hsa (fun w hw => hts w ((show ∀ w ∈ (vx_atS RX0 139 xE3 xNs).filter goodWord, w ∈ wsX0_checkHour by decide +kernel) w hw)) xh3 (xb3 hT.2) xg3 hT.1 dX0_checkHour_10 dX0_checkHour_13 dX0_checkHour_14 dX0_checkHour_16 dX0_checkHour_19 (Nat.le_of_ble_eq_true rfl) (Nat.le_of_ble_eq_true rfl) (Nat.le_of_ble_eq_true rfl) (Nat.le_of_ble_eq_true rfl) (fun t hgr => ⟨⟨rfl, inR_nf1 c1⟩, hgr⟩)
  · refine lv_iload_n hx hb dX0_checkHour_4 rfl (lv_at hl 0 rfl) ?_
    refine lv_bipush (v := 48) hx hb dX0_checkHour_5 (by decide) ?_
    refine lv_icmp_lt (tgt := 20) hx hb dX0_checkHour_7 (by decide) (fun c7 => ?_) (fun c7 => ?_)
    · exact ck_ret hx hb hr hlocks hH (hour_in c1 c7) dX0_checkHour_20
    · obtain ⟨sa, hsa⟩ := hT.2.2.1.1
      exact thr_go (A := A) (cls := xE3) (ik := 135) (ic := 139) hfl hx hb hown hlocks hout (by rw [hml]; exact hl.1) hH (by decide +kernel) (hts (.classLink RX0 135 xE3) (by decide +kernel)) (hts (.initialized xE3) (by decide +kernel)) hsa (fun w hw => hts w ((show ∀ w ∈ (vx_atS RX0 139 xE3 xNs).filter goodWord, w ∈ wsX0_checkHour by decide +kernel) w hw)) xh3 (xb3 hT.2) xg3 hT.1 dX0_checkHour_10 dX0_checkHour_13 dX0_checkHour_14 dX0_checkHour_16 dX0_checkHour_19 (Nat.le_of_ble_eq_true rfl) (Nat.le_of_ble_eq_true rfl) (Nat.le_of_ble_eq_true rfl) (Nat.le_of_ble_eq_true rfl) (fun t hgr => ⟨⟨rfl, hour_out c7⟩, hgr⟩)
set_option maxHeartbeats 4000000 in
set_option maxRecDepth 100000 in
/-- checkRange -/
theorem c_X0_checkRange (l : Launch) (hfl : l.stackTraces = false) (D : va_G) (W0 : va_W) (tys : List (ClassId × FieldType)) (H : Heap) (A : Nat → Prop) (v lo hi : Int32) : ckM l yX0_checkRange wsX0_checkRange ({ frames := 6, cells := 1, slots := 6, locals := 90 }) [.int v, .int lo, .int hi] D W0 tys H A (inR v lo hi = true) xE1 := by
  refine ck_of (cc := cX0_checkRange) (maxL := 3) (ret := none) (by decide) rfl (Nat.le_of_ble_eq_true rfl) ?_
  intro p e s m args below meth c he hout hH hP hK hT ls hl
  obtain ⟨hx, hb, hr, hml, hown, hts, hlocks⟩ := he
  have hown : s.vm.findClass RX0 = some m.cls := hown
  have hl : lv_has ls 3 [(0, .int v), (1, .int lo), (2, .int hi)] := hl
  refine lv_iload_n hx hb dX0_checkRange_0 rfl (lv_at hl 0 rfl) ?_
  refine lv_iload_n hx hb dX0_checkRange_1 rfl (lv_at hl 1 rfl) ?_
  refine lv_icmp_lt (tgt := 10) hx hb dX0_checkRange_2 (by decide) (fun c2 => ?_) (fun c2 => ?_)
  · obtain ⟨sa, hsa⟩ := hT.2.2.1.2.2.2
    exact thr_go (A := A) (cls := xE1) (ik := 121) (ic := 125) hfl hx hb hown hlocks hout (by rw [hml]; exact hl.1) hH (by decide +kernel) (hts (.classLink RX0 121 xE1) (by decide +kernel)) (hts (.initialized xE1) (by decide +kernel)) hsa (fun w hw => hts w ((show ∀ w ∈ (vx_atS RX0 125 xE1 xNs).filter goodWord, w ∈ wsX0_checkRange by decide +kernel) w hw)) xh1 (xb1 hT.2) xg1 hT.1 dX0_checkRange_10 dX0_checkRange_13 dX0_checkRange_14 dX0_checkRange_16 dX0_checkRange_19 (Nat.le_of_ble_eq_true rfl) (Nat.le_of_ble_eq_true rfl) (Nat.le_of_ble_eq_true rfl) (Nat.le_of_ble_eq_true rfl) (fun t hgr => ⟨⟨rfl, inR_nf1 c2⟩, hgr⟩)
  · refine lv_iload_n hx hb dX0_checkRange_5 rfl (lv_at hl 0 rfl) ?_
    refine lv_iload_n hx hb dX0_checkRange_6 rfl (lv_at hl 2 rfl) ?_
    refine lv_icmp_le (tgt := 20) hx hb dX0_checkRange_7 (by decide) (fun c7 => ?_) (fun c7 => ?_)
    · exact ck_ret hx hb hr hlocks hH (inR_t c2 (Int32.not_lt.mpr c7)) dX0_checkRange_20
    · obtain ⟨sa, hsa⟩ := hT.2.2.1.2.2.2
      exact thr_go (A := A) (cls := xE1) (ik := 121) (ic := 125) hfl hx hb hown hlocks hout (by rw [hml]; exact hl.1) hH (by decide +kernel) (hts (.classLink RX0 121 xE1) (by decide +kernel)) (hts (.initialized xE1) (by decide +kernel)) hsa (fun w hw => hts w ((show ∀ w ∈ (vx_atS RX0 125 xE1 xNs).filter goodWord, w ∈ wsX0_checkRange by decide +kernel) w hw)) xh1 (xb1 hT.2) xg1 hT.1 dX0_checkRange_10 dX0_checkRange_13 dX0_checkRange_14 dX0_checkRange_16 dX0_checkRange_19 (Nat.le_of_ble_eq_true rfl) (Nat.le_of_ble_eq_true rfl) (Nat.le_of_ble_eq_true rfl) (Nat.le_of_ble_eq_true rfl) (fun t hgr => ⟨⟨rfl, inR_nf2 (Int32.not_le.mp c7)⟩, hgr⟩)
set_option maxHeartbeats 4000000 in
set_option maxRecDepth 100000 in
/-- checkBollard -/
theorem c_X0_checkBollard (l : Launch) (hfl : l.stackTraces = false) (D : va_G) (cI cZ : ClassId) (h : Nat) (a : Nat → Nat) (σ : St) (H : Heap) (A : Nat → Prop) {nL nB : Nat} (hI : inv σ nL nB) (v : Int32) : ckM l yX0_checkBollard wsX0_checkBollard ({ frames := 6, cells := 1, slots := 6, locals := 90 }) [.ref h, .int v] D (xw cI cZ h a σ) (tyX cI cZ) H A (inR v 0 (nI nB - 1) = true) xE3 := by
  refine ck_of (cc := cX0_checkBollard) (maxL := 2) (ret := none) (by decide) rfl (Nat.le_of_ble_eq_true rfl) ?_
  intro p e s m args below meth c he hout hH hP hK hT ls hl
  obtain ⟨hx, hb, hr, hml, hown, hts, hlocks⟩ := he
  have hown : s.vm.findClass RX0 = some m.cls := hown
  have hl : lv_has ls 2 [(0, .ref h), (1, .int v)] := hl
  have hin : ∀ w ∈ u_ws RX0 TX0 15, w ∈ wsX0_checkBollard := by decide +kernel
  refine lv_iload_n hx hb dX0_checkBollard_0 rfl (lv_at hl 1 rfl) ?_
  refine lv_if_lt (tgt := 12) hx hb dX0_checkBollard_1 (by decide) (fun c1 => ?_) (fun c1 => ?_)
  · obtain ⟨sa, hsa⟩ := hT.2.2.1.2.1
    exact thr_go (A := A) (cls := xE3) (ik := 135) (ic := 139) hfl hx hb hown hlocks hout (by rw [hml]; exact hl.1) hH (by decide +kernel) (hts (.classLink RX0 135 xE3) (by decide +kernel)) (hts (.initialized xE3) (by decide +kernel)) hsa (fun w hw => hts w ((show ∀ w ∈ (vx_atS RX0 139 xE3 xNs).filter goodWord, w ∈ wsX0_checkBollard by decide +kernel) w hw)) xh3 (xb3 hT.2) xg3 hT.1 dX0_checkBollard_12 dX0_checkBollard_15 dX0_checkBollard_16 dX0_checkBollard_18 dX0_checkBollard_21 (Nat.le_of_ble_eq_true rfl) (Nat.le_of_ble_eq_true rfl) (Nat.le_of_ble_eq_true rfl) (Nat.le_of_ble_eq_true rfl) (fun t hgr => ⟨⟨rfl, inR_nf1 c1⟩, hgr⟩)
  · refine lv_iload_n hx hb dX0_checkBollard_4 rfl (lv_at hl 1 rfl) ?_
    refine lv_aload_n hx hb dX0_checkBollard_5 rfl (lv_at hl 0 rfl) ?_
    refine x_get hin hx hb hts hown hK hP rfl 4 (by decide) (v := .int (nI nB)) (congrArg (fun z => some (Value.int z)) hI.2.2.1) (by decide +kernel) dX0_checkBollard_6 ?_
    refine lv_icmp_lt (tgt := 22) hx hb dX0_checkBollard_9 (by decide) (fun c9 => ?_) (fun c9 => ?_)
    · exact ck_ret hx hb hr hlocks hH (line_in (by have := hI.2.2.2.1; omega) c1 c9) dX0_checkBollard_22
    · obtain ⟨sa, hsa⟩ := hT.2.2.1.2.1
      exact thr_go (A := A) (cls := xE3) (ik := 135) (ic := 139) hfl hx hb hown hlocks hout (by rw [hml]; exact hl.1) hH (by decide +kernel) (hts (.classLink RX0 135 xE3) (by decide +kernel)) (hts (.initialized xE3) (by decide +kernel)) hsa (fun w hw => hts w ((show ∀ w ∈ (vx_atS RX0 139 xE3 xNs).filter goodWord, w ∈ wsX0_checkBollard by decide +kernel) w hw)) xh3 (xb3 hT.2) xg3 hT.1 dX0_checkBollard_12 dX0_checkBollard_15 dX0_checkBollard_16 dX0_checkBollard_18 dX0_checkBollard_21 (Nat.le_of_ble_eq_true rfl) (Nat.le_of_ble_eq_true rfl) (Nat.le_of_ble_eq_true rfl) (Nat.le_of_ble_eq_true rfl) (fun t hgr => ⟨⟨rfl, line_out (by have := hI.2.2.2.1; omega) c9⟩, hgr⟩)
set_option maxHeartbeats 4000000 in
set_option maxRecDepth 100000 in
/-- checkLine -/
theorem c_X0_checkLine (l : Launch) (hfl : l.stackTraces = false) (D : va_G) (cI cZ : ClassId) (h : Nat) (a : Nat → Nat) (σ : St) (H : Heap) (A : Nat → Prop) {nL nB : Nat} (hI : inv σ nL nB) (v : Int32) : ckM l yX0_checkLine wsX0_checkLine ({ frames := 6, cells := 1, slots := 6, locals := 90 }) [.ref h, .int v] D (xw cI cZ h a σ) (tyX cI cZ) H A (inR v 0 (nI nL - 1) = true) xE3 := by
  refine ck_of (cc := cX0_checkLine) (maxL := 2) (ret := none) (by decide) rfl (Nat.le_of_ble_eq_true rfl) ?_
  intro p e s m args below meth c he hout hH hP hK hT ls hl
  obtain ⟨hx, hb, hr, hml, hown, hts, hlocks⟩ := he
  have hown : s.vm.findClass RX0 = some m.cls := hown
  have hl : lv_has ls 2 [(0, .ref h), (1, .int v)] := hl
  have hin : ∀ w ∈ u_ws RX0 TX0 15, w ∈ wsX0_checkLine := by decide +kernel
  refine lv_iload_n hx hb dX0_checkLine_0 rfl (lv_at hl 1 rfl) ?_
  refine lv_if_lt (tgt := 12) hx hb dX0_checkLine_1 (by decide) (fun c1 => ?_) (fun c1 => ?_)
  · obtain ⟨sa, hsa⟩ := hT.2.2.1.2.2.1
    exact thr_go (A := A) (cls := xE3) (ik := 135) (ic := 139) hfl hx hb hown hlocks hout (by rw [hml]; exact hl.1) hH (by decide +kernel) (hts (.classLink RX0 135 xE3) (by decide +kernel)) (hts (.initialized xE3) (by decide +kernel)) hsa (fun w hw => hts w ((show ∀ w ∈ (vx_atS RX0 139 xE3 xNs).filter goodWord, w ∈ wsX0_checkLine by decide +kernel) w hw)) xh3 (xb3 hT.2) xg3 hT.1 dX0_checkLine_12 dX0_checkLine_15 dX0_checkLine_16 dX0_checkLine_18 dX0_checkLine_21 (Nat.le_of_ble_eq_true rfl) (Nat.le_of_ble_eq_true rfl) (Nat.le_of_ble_eq_true rfl) (Nat.le_of_ble_eq_true rfl) (fun t hgr => ⟨⟨rfl, inR_nf1 c1⟩, hgr⟩)
  · refine lv_iload_n hx hb dX0_checkLine_4 rfl (lv_at hl 1 rfl) ?_
    refine lv_aload_n hx hb dX0_checkLine_5 rfl (lv_at hl 0 rfl) ?_
    refine x_get hin hx hb hts hown hK hP rfl 7 (by decide) (v := .int (nI nL)) (congrArg (fun z => some (Value.int z)) hI.1) (by decide +kernel) dX0_checkLine_6 ?_
    refine lv_icmp_lt (tgt := 22) hx hb dX0_checkLine_9 (by decide) (fun c9 => ?_) (fun c9 => ?_)
    · exact ck_ret hx hb hr hlocks hH (line_in (by have := hI.2.1; omega) c1 c9) dX0_checkLine_22
    · obtain ⟨sa, hsa⟩ := hT.2.2.1.2.2.1
      exact thr_go (A := A) (cls := xE3) (ik := 135) (ic := 139) hfl hx hb hown hlocks hout (by rw [hml]; exact hl.1) hH (by decide +kernel) (hts (.classLink RX0 135 xE3) (by decide +kernel)) (hts (.initialized xE3) (by decide +kernel)) hsa (fun w hw => hts w ((show ∀ w ∈ (vx_atS RX0 139 xE3 xNs).filter goodWord, w ∈ wsX0_checkLine by decide +kernel) w hw)) xh3 (xb3 hT.2) xg3 hT.1 dX0_checkLine_12 dX0_checkLine_15 dX0_checkLine_16 dX0_checkLine_18 dX0_checkLine_21 (Nat.le_of_ble_eq_true rfl) (Nat.le_of_ble_eq_true rfl) (Nat.le_of_ble_eq_true rfl) (Nat.le_of_ble_eq_true rfl) (fun t hgr => ⟨⟨rfl, line_out (by have := hI.2.1; omega) c9⟩, hgr⟩)
set_option maxHeartbeats 4000000 in
set_option maxRecDepth 100000 in
/-- tendThrough -/
theorem c_X0_tendThrough (l : Launch) (D : va_G) (cI cZ : ClassId) (h : Nat) (a : Nat → Nat) (σ : St) (Hi : Heap) (A : Nat → Prop) (hD : va_D A (xw cI cZ h a σ)) {nL nB : Nat} (hI : inv σ nL nB) (f u : Nat) (hf : f ≤ u) (hu : u < 48) : wrM l yX0_tendThrough wsX0_tendThrough ({ frames := 6, cells := 0, slots := 0, locals := 143 }) [.ref h, .int (nI f), .int (nI u)] D (xw cI cZ h a σ) (tyX cI cZ) Hi (S := St) (fun ρ => xw cI cZ h a ρ) (fun r ρ => r = plR (u + 1 - f) σ f 0 ∧ ∀ k, k ≠ 12 → ρ k = σ k) A := by
  refine wr_of (cc := cX0_tendThrough) (maxL := 5) (ret := some .int) (by decide) rfl (Nat.le_of_ble_eq_true rfl) ?_
  intro p e s m args below meth c9 he hH hP hK ls hl
  obtain ⟨hx, hb, hr, hml, hown, hts, hlocks⟩ := he
  have hown : s.vm.findClass RX0 = some m.cls := hown
  have hS : va_S A Hi Hi [] := va_S.rf
  have hL : σ 7 0 = nI nL := hI.1
  have hL10 : nL ≤ 10 := hI.2.1
  have hl : lv_has ls 5 [(0, .ref h), (1, .int (nI f)), (2, .int (nI u))] := hl
  refine lv_iconst (v := 0) hx hb dX0_tendThrough_0 (by decide) ?_
  refine lv_istore_n (lv' := [(3, .int 0), (0, .ref h), (1, .int (nI f)), (2, .int (nI u))]) hx hb dX0_tendThrough_1 rfl hl (by decide) rfl (fun ls hl => ?_)
  refine lv_iload_n hx hb dX0_tendThrough_2 rfl (lv_at hl 2 rfl) ?_
  refine lv_istore (lv' := [(4, .int (nI f)), (3, .int 0), (0, .ref h), (1, .int (nI f)), (2, .int (nI u))]) hx hb dX0_tendThrough_3 hl (by decide) rfl (fun ls hl => ?_)
  suffices K : ∀ (n t c : Nat) (ρ : St) (H : Heap) (locs : List Loc) (ls : Array Slot), t + n = u + 1 → inv ρ nL nB → (∀ k, k ≠ 12 → ρ k = σ k) → plR n ρ t c = plR (u + 1 - f) σ f 0 → va_P D vwCl (xw cI cZ h a ρ) H → va_S A Hi H locs → lv_has ls 5 [(4, .int (nI t)), (3, .int (nI c)), (0, .ref h), (1, .int (nI f)), (2, .int (nI u))] → W p l e _ s m args below meth c9 H locs 0 0 (wrQ below D (fun ρ : St => xw cI cZ h a ρ) (fun r ρ => r = plR (u + 1 - f) σ f 0 ∧ ∀ k, k ≠ 12 → ρ k = σ k) A args s) (F0 m 5 ls []) by
    exact K (u + 1 - f) f 0 σ Hi [] ls (by omega) hI (fun _ _ => rfl) rfl hP hS (lv_sub hl [0, 1, 2, 3, 4] rfl)
  intro n
  induction n with
  | zero =>
      intro t c ρ H locs ls ht hIr hag hpl hP hS hl
      refine lv_iload hx hb dX0_tendThrough_5 (lv_at hl 0 rfl) ?_
      refine lv_iload_n hx hb dX0_tendThrough_7 rfl (lv_at hl 4 rfl) ?_
      refine lv_icmp_gt (tgt := 47) hx hb dX0_tendThrough_8 (by decide) (fun c8 => ?_) (fun c8 => ?_)
      · refine lv_iload_n hx hb dX0_tendThrough_47 rfl (lv_at hl 1 rfl) ?_
        exact wr_ret (v := (nI c)) ρ hx hb hr hlocks hH hS hP ⟨hpl, hag⟩ dX0_tendThrough_48
      · exact absurd (nI_lt (a := u) (b := t) (by omega) (by omega)) c8
  | succ n ih =>
      intro t c ρ H locs ls ht hIr hag hpl hP hS hl
      have ht48 : t < 48 := by omega
      refine lv_iload hx hb dX0_tendThrough_5 (lv_at hl 0 rfl) ?_
      refine lv_iload_n hx hb dX0_tendThrough_7 rfl (lv_at hl 4 rfl) ?_
      refine lv_icmp_gt (tgt := 47) hx hb dX0_tendThrough_8 (by decide) (fun c8 => ?_) (fun c8 => ?_)
      · exact absurd c8 (nI_nlt (by omega) (by omega))
      · refine lv_aload_n hx hb dX0_tendThrough_11 rfl (lv_at hl 2 rfl) ?_
        refine lv_iload hx hb dX0_tendThrough_12 (lv_at hl 0 rfl) ?_
        refine ro_callV 1 hx hb hml hown hts hl.1 hP hK 0 0 rfl rfl (As := [.int (nI t)]) (rest := []) (c_X0_holdsIn l D cI cZ h a ρ H hIr t ht48) gX0_tendThrough_X0_holdsIn rfl rfl rfl (by decide +kernel) ⟨Nat.le_of_ble_eq_true rfl, Nat.le_of_ble_eq_true rfl⟩ rfl rfl (Nat.le_of_ble_eq_true rfl) dX0_tendThrough_14 ⟨Nat.zero_le _, Nat.zero_le _⟩ (fun r1 hr1 => ?_)
        subst hr1
        refine lv_if_ne (tgt := 41) hx hb dX0_tendThrough_17 (by decide) (fun c17 => ?_) (fun c17 => ?_)
        · refine lv_iinc (v := (nI (t + 1))) (lv' := [(4, .int (nI (t + 1))), (3, .int (nI c)), (0, .ref h), (1, .int (nI f)), (2, .int (nI u))]) hx hb dX0_tendThrough_41 hl (k := 0) rfl (by exact nI_add _ 1) (by decide) rfl (fun ls hl => ?_)
          refine lv_goto (tgt := 5) hx hb dX0_tendThrough_44 (by decide) ?_
          exact ih (t + 1) c ρ H locs ls (by omega) hIr hag (by rw [← hpl]; show _ = (if safe_ ρ t = true then plR n ρ (t + 1) c else _); rw [if_pos (bI_t c17)]) hP hS (lv_sub hl [0, 1, 2, 3, 4] rfl)
        · have hns : ¬ safe_ ρ t = true := by rw [bI_f c17]; decide
          have hD1 : va_D A (xw cI cZ h a ρ) := xD hD
          refine lv_aload_n hx hb dX0_tendThrough_20 rfl (lv_at hl 2 rfl) ?_
          refine lv_iload hx hb dX0_tendThrough_21 (lv_at hl 0 rfl) ?_
          refine wr_callV 1 hx hb hml hown hts hl.1 hP hK hS (fun _ h9 => h9) 0 0 rfl rfl (As := [.int (nI t)]) (rest := []) (c_X0_tendFastLines l D cI cZ h a ρ H A hD1 hIr t ht48) gX0_tendThrough_X0_tendFastLines rfl rfl rfl (by decide +kernel) ⟨Nat.le_of_ble_eq_true rfl, Nat.le_of_ble_eq_true rfl⟩ rfl rfl (Nat.le_of_ble_eq_true rfl) dX0_tendThrough_23 ⟨Nat.zero_le _, Nat.zero_le _⟩ (fun r2 u2 H locs hr2 hP hS _ _ => ?_)
          refine lv_pop hx hb dX0_tendThrough_26 rfl ?_
          refine lv_iinc (v := (nI (c + 1))) (lv' := [(3, .int (nI (c + 1))), (4, .int (nI t)), (0, .ref h), (1, .int (nI f)), (2, .int (nI u))]) hx hb dX0_tendThrough_27 hl (k := 1) rfl (by exact nI_add _ 1) (by decide) rfl (fun ls hl => ?_)
          refine lv_aload_n hx hb dX0_tendThrough_30 rfl (lv_at hl 2 rfl) ?_
          refine lv_iload hx hb dX0_tendThrough_31 (lv_at hl 1 rfl) ?_
          refine ro_callV 1 hx hb hml hown hts hl.1 hP hK 0 0 rfl rfl (As := [.int (nI t)]) (rest := []) (c_X0_holdsIn l D cI cZ h a (tnd ρ t) H (inv_tnd hIr ht48) t ht48) gX0_tendThrough_X0_holdsIn rfl rfl rfl (by decide +kernel) ⟨Nat.le_of_ble_eq_true rfl, Nat.le_of_ble_eq_true rfl⟩ rfl rfl (Nat.le_of_ble_eq_true rfl) dX0_tendThrough_33 ⟨Nat.zero_le _, Nat.zero_le _⟩ (fun r3 hr3 => ?_)
          subst hr3
          have hag2 : ∀ k, k ≠ 12 → tnd ρ t k = σ k := fun k hk => by
            show cond (Nat.beq k 12) _ (ρ k) = σ k
            rw [show Nat.beq k 12 = false from Bool.eq_false_iff.mpr (fun q => hk (Nat.eq_of_beq_eq_true q))]; exact hag k hk
          refine lv_if_ne (tgt := 41) hx hb dX0_tendThrough_36 (by decide) (fun c36 => ?_) (fun c36 => ?_)
          · refine lv_iinc (v := (nI (t + 1))) (lv' := [(4, .int (nI (t + 1))), (3, .int (nI (c + 1))), (0, .ref h), (1, .int (nI f)), (2, .int (nI u))]) hx hb dX0_tendThrough_41 hl (k := 1) rfl (by exact nI_add _ 1) (by decide) rfl (fun ls hl => ?_)
            refine lv_goto (tgt := 5) hx hb dX0_tendThrough_44 (by decide) ?_
            exact ih (t + 1) (c + 1) (tnd ρ t) H locs ls (by omega) (inv_tnd hIr ht48) hag2 (by rw [← hpl]; show _ = (if safe_ ρ t = true then plR n ρ (t + 1) c else if safe_ (tnd ρ t) t = true then plR n (tnd ρ t) (t + 1) (c + 1) else -1); rw [if_neg hns, if_pos (bI_t c36)]) hP hS (lv_sub hl [0, 1, 2, 3, 4] rfl)
          · refine lv_iconst (v := (-1)) hx hb dX0_tendThrough_39 (by decide) ?_
            exact wr_ret (v := (-1)) (tnd ρ t) hx hb hr hlocks hH hS hP ⟨by rw [← hpl]; show _ = (if safe_ ρ t = true then plR n ρ (t + 1) c else if safe_ (tnd ρ t) t = true then plR n (tnd ρ t) (t + 1) (c + 1) else -1); rw [if_neg hns, if_neg (by rw [bI_f c36]; decide)], hag2⟩ dX0_tendThrough_40
