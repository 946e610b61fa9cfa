/-! MoorWatch: the balance, drifting, safety. -/
theorem xor2_nn (x : Int32) : (0 ≤ x ^^^ 2) ↔ 0 ≤ x := by
  have h : ∀ y : Int32, (0 : Int32) ≤ y ↔ y.toBitVec.msb = false := fun y => by
    rw [i_le]
    show (0 : Int) ≤ y.toBitVec.toInt ↔ _
    rw [BitVec.msb_eq_toInt]
    simp
  rw [h, h, Int32.toBitVec_xor, BitVec.msb_xor]
  have e : (2 : Int32).toBitVec.msb = false := rfl
  rw [e, Bool.xor_false]
theorem ro_ofF {l : Launch} {y : MethodName} {cc : ByteArray} {maxL : Nat} {ret : Option FieldType} {ws ws' : List Cond} {rm : Room} {av : List Value} {D : va_G} {W0 : va_W} {tys : List (ClassId × FieldType)} {H0 : Heap} {post : Int32 → Prop} (hy : plainFor y = true) (hw : ws = Cond.code y cc maxL ret :: ws') (hn : (lg_sl av).length ≤ maxL)
    (body : ∀ (p : Program) (e : Env) (s : State) (m : MethodId) (args : Array Value) (below : List Frame) (meth : Method) (c : Code), roE p s m meth c args y cc maxL ret ws → s.heap = H0 → va_P D vwCl W0 H0 → va_K D vwCl tys s → ∀ ls : Array Slot, lv_has ls maxL (lv_args 0 av) → W p l e rm s m args below meth c H0 [] 0 0 (roQ below H0 post args s) (F0 m 0 ls [])) : roM l y ws rm av D W0 tys H0 post := by
  unfold roM Met
  refine MetFree.of_bodySF (code := cc) (maxLocals := maxL) (ret := ret) hy ?_ ?_
  · intro args s m h hn
    obtain ⟨meth, c, h1, h2, h3, h4, h5, h6, -, -⟩ := Cond.code_spec hn (atoms_spec (ws := ws) h _ (by rw [hw]; exact List.mem_cons_self))
    exact ⟨meth, c, h1, h2, h3, h4, h5, h6⟩
  · intro p e s m args below meth c s₁ B hml hv _
    have hh0 : s₁.heap = s.heap := by rw [B.state]; rfl
    obtain ⟨rfl, hH, hP, hK⟩ := hv
    have K : W p l e rm s m av.toArray below meth c H0 [] 0 0 (roQ below H0 post av.toArray s) (entryFrame m av.toArray maxL) := by
      rw [lg_entry_eq]
      exact body p e s m _ below meth c ⟨B.exec, B.bytes, B.returns, hml, findClass_of_methodNamed B.named, atoms_spec (ws := ws) B.pre, B.notSynchronized⟩ hH hP hK _ (lv_entry av hn)
    obtain ⟨t, a1, o, b1, b2, b3⟩ := K s₁ (hh0.trans hH) (Stand.of_body B)
    exact ⟨t, o, a1, b1, b2, ⟨b3.1, b3.2⟩⟩
theorem td2 {z : Int} : z.tdiv 2 = if 0 ≤ z then z / 2 else -((-z) / 2) := by
  by_cases h : 0 ≤ z
  · rw [if_pos h, Int.tdiv_eq_ediv_of_nonneg h]
  · rw [if_neg h]
    have e : z = -(-z) := by omega
    rw [e, Int.neg_tdiv, Int.tdiv_eq_ediv_of_nonneg (by omega)]
    simp
theorem bI_f {b : Bool} (h : bI b = 0) : b = false := by
  cases b
  · rfl
  · exact absurd h (by decide)
theorem bI_t {b : Bool} (h : ¬ bI b = 0) : b = true := by
  cases b
  · exact absurd rfl h
  · rfl
set_option maxHeartbeats 4000000 in
set_option maxRecDepth 100000 in
/-- Math.floorDiv by 2 -/
theorem c_J9_floorDiv_7cf53 (l : Launch) (D : va_G) (W0 : va_W) (tys : List (ClassId × FieldType)) (H : Heap) (z : Int) (hz : -1000 ≤ z ∧ z ≤ 1000) : roM l yJ9_floorDiv_7cf53 wsJ9_floorDiv_7cf53 ({ frames := 0, cells := 0, slots := 0, locals := 0 }) [.int (zI z), .int 2] D W0 tys H (fun r => r = zI (z / 2)) := by
  refine ro_ofF (cc := cJ9_floorDiv_7cf53) (maxL := 3) (ret := some .int) (by decide +kernel) rfl (Nat.le_of_ble_eq_true rfl) ?_
  intro p e s m args below meth c he hH hP hK ls hl
  obtain ⟨hx, hb, hr, hml, hown, hts, hlocks⟩ := he
  have hown : s.vm.findClass RJ9 = some m.cls := hown
  have hl : lv_has ls 3 [(0, .int (zI z)), (1, .int 2)] := hl
  have ez : (zI z).toInt = z := zI_ti (by omega) (by omega)
  have eq : (zI z / 2 : Int32).toInt = z.tdiv 2 := by rw [Jvm.Kit.i32_div (by rw [ez]; omega), ez]; rfl
  rw [td2] at eq
  have e0 : (0 : Int32).toInt = 0 := rfl
  have e1 : (1 : Int32).toInt = 1 := rfl
  have e2 : (2 : Int32).toInt = 2 := rfl
  refine lv_iload_n hx hb dJ9_floorDiv_7cf53_0 rfl (lv_at hl 0 rfl) ?_
  refine lv_iload_n hx hb dJ9_floorDiv_7cf53_1 rfl (lv_at hl 1 rfl) ?_
  refine lv_idiv hx hb dJ9_floorDiv_7cf53_2 (by decide) ?_
  refine lv_istore_n (lv' := [(2, .int ((zI z) / 2)), (0, .int (zI z)), (1, .int 2)]) hx hb dJ9_floorDiv_7cf53_3 rfl hl (by decide) rfl (fun ls hl => ?_)
  refine lv_iload_n hx hb dJ9_floorDiv_7cf53_4 rfl (lv_at hl 1 rfl) ?_
  refine lv_iload_n hx hb dJ9_floorDiv_7cf53_5 rfl (lv_at hl 2 rfl) ?_
  refine lv_ixor hx hb dJ9_floorDiv_7cf53_6 ?_
  refine lv_if_ge (tgt := 21) hx hb dJ9_floorDiv_7cf53_7 (by decide) (fun c7 => ?_) (fun c7 => ?_)
  · refine lv_iload_n hx hb dJ9_floorDiv_7cf53_21 rfl (lv_at hl 0 rfl) ?_
    have hp : 0 ≤ z := by have q := i_le.mp ((xor2_nn _).mp c7); rw [ez, e0] at q; exact q
    rw [if_pos hp] at eq
    exact ro_ret (v := ((zI z) / 2)) hx hb hr hlocks hH (zI_of eq) dJ9_floorDiv_7cf53_22
  · have hp : ¬ 0 ≤ z := fun q => c7 ((xor2_nn _).mpr (i_le.mpr (by rw [ez, e0]; exact q)))
    rw [if_neg hp] at eq
    have em : (zI z / 2 * 2 : Int32).toInt = -((-z) / 2) * 2 := by rw [Jvm.Kit.i32_mul (by rw [eq, e2]; omega) (by rw [eq, e2]; omega), eq, e2]
    refine lv_iload_n hx hb dJ9_floorDiv_7cf53_10 rfl (lv_at hl 0 rfl) ?_
    refine lv_iload_n hx hb dJ9_floorDiv_7cf53_11 rfl (lv_at hl 2 rfl) ?_
    refine lv_imul hx hb dJ9_floorDiv_7cf53_12 ?_
    refine lv_iload_n hx hb dJ9_floorDiv_7cf53_13 rfl (lv_at hl 1 rfl) ?_
    refine lv_icmp_eq (tgt := 21) hx hb dJ9_floorDiv_7cf53_14 (by decide) (fun c14 => ?_) (fun c14 => ?_)
    · refine lv_iload_n hx hb dJ9_floorDiv_7cf53_21 rfl (lv_at hl 0 rfl) ?_
      have h2 := i_eq.mp c14
      rw [em, ez] at h2
      exact ro_ret (v := ((zI z) / 2)) hx hb hr hlocks hH (zI_of (by rw [eq]; omega)) dJ9_floorDiv_7cf53_22
    · refine lv_iload_n hx hb dJ9_floorDiv_7cf53_17 rfl (lv_at hl 0 rfl) ?_
      refine lv_iconst (v := 1) hx hb dJ9_floorDiv_7cf53_18 (by decide) ?_
      refine lv_isub hx hb dJ9_floorDiv_7cf53_19 ?_
      have h2 : ¬ -((-z) / 2) * 2 = z := fun w => c14 (i_eq.mpr (by rw [em, ez]; exact w))
      exact ro_ret (v := (((zI z) / 2) - 1)) hx hb hr hlocks hH (zI_of (by rw [Jvm.Kit.i32_sub (by rw [eq, e1]; omega) (by rw [eq, e1]; omega), eq, e1]; omega)) dJ9_floorDiv_7cf53_20
set_option maxHeartbeats 4000000 in
set_option maxRecDepth 100000 in
/-- forceWith -/
theorem c_X0_forceWith (l : Launch) (D : va_G) (cI cZ : ClassId) (h : Nat) (a : Nat → Nat) (σ : St) (H : Heap) {nL nB : Nat} (hI : inv σ nL nB) (t : Nat) (ht48 : t < 48) (s9 : Int32) (hs9 : inS s9) : roM l yX0_forceWith wsX0_forceWith ({ frames := 3, cells := 0, slots := 0, locals := 69 }) [.ref h, .int (nI t), .int s9] D (xw cI cZ h a σ) (tyX cI cZ) H (fun r => r = frc σ t s9) := by
  refine ro_of (cc := cX0_forceWith) (maxL := 5) (ret := some .int) (by decide) rfl (Nat.le_of_ble_eq_true rfl) ?_
  intro p e s m args below meth c he hH hP hK ls hl
  obtain ⟨hx, hb, hr, hml, hown, hts, hlocks⟩ := he
  have hown : s.vm.findClass RX0 = some m.cls := hown
  have hl : lv_has ls 5 [(0, .ref h), (1, .int (nI t)), (2, .int s9)] := hl
  have hin : ∀ w ∈ u_ws RX0 TX0 15, w ∈ wsX0_forceWith := by decide +kernel
  have hL : σ 7 0 = nI nL := hI.1
  have hL10 : nL ≤ 10 := hI.2.1
  refine lv_aload_n hx hb dX0_forceWith_0 rfl (lv_at hl 0 rfl) ?_
  refine x_get hin hx hb hts hown hK hP rfl 3 (by decide) (v := .int (σ 3 0)) rfl (by decide +kernel) dX0_forceWith_1 ?_
  refine lv_aload_n hx hb dX0_forceWith_4 rfl (lv_at hl 0 rfl) ?_
  refine x_get hin hx hb hts hown hK hP rfl 2 (by decide) (v := .ref (a 2)) rfl (by decide +kernel) dX0_forceWith_5 ?_
  refine lv_iload_n hx hb dX0_forceWith_8 rfl (lv_at hl 1 rfl) ?_
  refine xa_ld hx hb hK hP 3 0 rfl rfl (j := t) ht48 (by decide) dX0_forceWith_9 ?_
  refine lv_iadd hx hb dX0_forceWith_10 ?_
  refine lv_istore_n (lv' := [(3, .int ((σ 3 0) + (σ 2 t))), (0, .ref h), (1, .int (nI t)), (2, .int s9)]) hx hb dX0_forceWith_11 rfl hl (by decide) rfl (fun ls hl => ?_)
  refine lv_iconst (v := 0) hx hb dX0_forceWith_12 (by decide) ?_
  refine lv_istore (lv' := [(4, .int 0), (3, .int ((σ 3 0) + (σ 2 t))), (0, .ref h), (1, .int (nI t)), (2, .int s9)]) hx hb dX0_forceWith_13 hl (by decide) rfl (fun ls hl => ?_)
  suffices K : ∀ (n k : Nat) (ls : Array Slot), k + n = nL → lv_has ls 5 [(4, .int (nI k)), (3, .int (acc (fun j => pull_ σ j t s9) (σ 3 0 + σ 2 t) k)), (0, .ref h), (1, .int (nI t)), (2, .int s9)] → W p l e _ s m args below meth c H [] 0 0 (roQ below H (fun r => r = frc σ t s9) args s) (F0 m 15 ls []) by
    exact K nL 0 ls (by omega) (lv_sub hl [0, 1, 2, 3, 4] rfl)
  intro n
  induction n with
  | zero =>
      intro k ls hk hl
      refine lv_iload hx hb dX0_forceWith_15 (lv_at hl 0 rfl) ?_
      refine lv_aload_n hx hb dX0_forceWith_17 rfl (lv_at hl 2 rfl) ?_
      refine x_get hin hx hb hts hown hK hP rfl 7 (by decide) (v := .int (nI nL)) (congrArg (fun z => some (Value.int z)) hL) (by decide +kernel) dX0_forceWith_18 ?_
      refine lv_icmp_ge (tgt := 41) hx hb dX0_forceWith_21 (by decide) (fun c21 => ?_) (fun c21 => ?_)
      · refine lv_iload_n hx hb dX0_forceWith_41 rfl (lv_at hl 1 rfl) ?_
        exact ro_ret (v := (acc (fun j => pull_ σ j t s9) (σ 3 0 + σ 2 t) k)) hx hb hr hlocks hH (by show acc _ _ k = frc σ t s9; unfold frc; rw [inv_nL hI, show k = nL by omega]) dX0_forceWith_42
      · exact absurd (nI_le (by omega) (by omega)) c21
  | succ n ih =>
      intro k ls hk hl
      refine lv_iload hx hb dX0_forceWith_15 (lv_at hl 0 rfl) ?_
      refine lv_aload_n hx hb dX0_forceWith_17 rfl (lv_at hl 2 rfl) ?_
      refine x_get hin hx hb hts hown hK hP rfl 7 (by decide) (v := .int (nI nL)) (congrArg (fun z => some (Value.int z)) hL) (by decide +kernel) dX0_forceWith_18 ?_
      refine lv_icmp_ge (tgt := 41) hx hb dX0_forceWith_21 (by decide) (fun c21 => ?_) (fun c21 => ?_)
      · exact absurd c21 (nI_ge (by omega) (by omega))
      · refine lv_iload_n hx hb dX0_forceWith_24 rfl (lv_at hl 1 rfl) ?_
        refine lv_aload_n hx hb dX0_forceWith_25 rfl (lv_at hl 2 rfl) ?_
        refine lv_iload hx hb dX0_forceWith_26 (lv_at hl 0 rfl) ?_
        refine lv_iload_n hx hb dX0_forceWith_28 rfl (lv_at hl 3 rfl) ?_
        refine lv_iload_n hx hb dX0_forceWith_29 rfl (lv_at hl 4 rfl) ?_
        refine ro_callV 3 hx hb hml hown hts hl.1 hP hK 0 0 rfl rfl (As := [.int (nI k), .int (nI t), .int s9]) (rest := [.int (acc (fun j => pull_ σ j t s9) (σ 3 0 + σ 2 t) k)]) (c_X0_pullWith l D cI cZ h a σ H hI k t (by omega) ht48 s9 hs9) gX0_forceWith_X0_pullWith rfl rfl rfl (by decide +kernel) ⟨Nat.le_of_ble_eq_true rfl, Nat.le_of_ble_eq_true rfl⟩ rfl rfl (Nat.le_of_ble_eq_true rfl) dX0_forceWith_30 ⟨Nat.zero_le _, Nat.zero_le _⟩ (fun r1 hr1 => ?_)
        subst hr1
        refine lv_iadd hx hb dX0_forceWith_33 ?_
        refine lv_istore_n (lv' := [(3, .int ((acc (fun j => pull_ σ j t s9) (σ 3 0 + σ 2 t) k) + (pull_ σ k t s9))), (4, .int (nI k)), (0, .ref h), (1, .int (nI t)), (2, .int s9)]) hx hb dX0_forceWith_34 rfl hl (by decide) rfl (fun ls hl => ?_)
        refine lv_iinc (v := (nI (k + 1))) (lv' := [(4, .int (nI (k + 1))), (3, .int ((acc (fun j => pull_ σ j t s9) (σ 3 0 + σ 2 t) k) + (pull_ σ k t s9))), (0, .ref h), (1, .int (nI t)), (2, .int s9)]) hx hb dX0_forceWith_35 hl (k := 1) rfl (by exact nI_add _ 1) (by decide) rfl (fun ls hl => ?_)
        refine lv_goto (tgt := 15) hx hb dX0_forceWith_38 (by decide) ?_
        exact ih (k + 1) ls (by omega) (lv_sub hl [0, 1, 2, 3, 4] rfl)
set_option maxHeartbeats 4000000 in
set_option maxRecDepth 100000 in
/-- balanceOf: halving -/
theorem c_X0_balanceOf (l : Launch) (D : va_G) (cI cZ : ClassId) (h : Nat) (a : Nat → Nat) (σ : St) (H : Heap) {nL nB : Nat} (hI : inv σ nL nB) (t : Nat) (ht48 : t < 48) : roM l yX0_balanceOf wsX0_balanceOf ({ frames := 4, cells := 0, slots := 0, locals := 93 }) [.ref h, .int (nI t)] D (xw cI cZ h a σ) (tyX cI cZ) H (fun r => r = bal σ t) := by
  refine ro_of (cc := cX0_balanceOf) (maxL := 6) (ret := some .int) (by decide) rfl (Nat.le_of_ble_eq_true rfl) ?_
  intro p e s m args below meth c he hH hP hK ls hl
  obtain ⟨hx, hb, hr, hml, hown, hts, hlocks⟩ := he
  have hown : s.vm.findClass RX0 = some m.cls := hown
  have hl : lv_has ls 6 [(0, .ref h), (1, .int (nI t))] := hl
  refine lv_sipush (v := (-200)) hx hb dX0_balanceOf_0 (by decide) ?_
  refine lv_istore_n (lv' := [(2, .int (-200)), (0, .ref h), (1, .int (nI t))]) hx hb dX0_balanceOf_3 rfl hl (by decide) rfl (fun ls hl => ?_)
  refine lv_sipush (v := 200) hx hb dX0_balanceOf_4 (by decide) ?_
  refine lv_istore_n (lv' := [(3, .int 200), (2, .int (-200)), (0, .ref h), (1, .int (nI t))]) hx hb dX0_balanceOf_7 rfl hl (by decide) rfl (fun ls hl => ?_)
  refine lv_iconst (v := 0) hx hb dX0_balanceOf_8 (by decide) ?_
  refine lv_istore (lv' := [(4, .int 0), (3, .int 200), (2, .int (-200)), (0, .ref h), (1, .int (nI t))]) hx hb dX0_balanceOf_9 hl (by decide) rfl (fun ls hl => ?_)
  suffices K : ∀ (n k : Nat) (lo hi : Int) (ls : Array Slot), k + n = 401 → -200 ≤ lo → lo ≤ hi → hi ≤ 200 → hi - lo < n → bis (fun z => decide (0 < frc σ t (zI z))) n lo hi = balZ σ t → lv_has ls 6 [(4, .int (nI k)), (3, .int (zI hi)), (2, .int (zI lo)), (0, .ref h), (1, .int (nI t))] → W p l e _ s m args below meth c H [] 0 0 (roQ below H (fun r => r = bal σ t) args s) (F0 m 11 ls []) by
    exact K 401 0 (-200) 200 ls (by omega) (by omega) (by omega) (by omega) (by omega) rfl (lv_sub hl [0, 1, 2, 3, 4] rfl)
  intro n
  induction n with
  | zero =>
      intro k lo hi ls hk h1 h2 h3 h4; exact absurd h4 (by omega)
  | succ n ih =>
      intro k lo hi ls hk h1 h2 h3 h4 h5 hl
      refine lv_iload_n hx hb dX0_balanceOf_11 rfl (lv_at hl 2 rfl) ?_
      refine lv_iload_n hx hb dX0_balanceOf_12 rfl (lv_at hl 1 rfl) ?_
      refine lv_icmp_ge (tgt := 60) hx hb dX0_balanceOf_13 (by decide) (fun c13 => ?_) (fun c13 => ?_)
      · have hge : ¬ lo < hi := fun w => absurd ((zI_le (by omega) (by omega) (by omega) (by omega)).mp c13) (by omega)
        refine lv_iload_n hx hb dX0_balanceOf_60 rfl (lv_at hl 2 rfl) ?_
        exact ro_ret (v := (zI lo)) hx hb hr hlocks hH (by show zI lo = bal σ t; unfold bal; rw [← h5, bis_end hge]) dX0_balanceOf_61
      · have hlt : lo < hi := Int.not_le.mp (fun w => c13 ((zI_le (by omega) (by omega) (by omega) (by omega)).mpr w))
        refine lv_iload hx hb dX0_balanceOf_16 (lv_at hl 0 rfl) ?_
        refine lv_sipush (v := 401) hx hb dX0_balanceOf_18 (by decide) ?_
        refine lv_icmp_ge (tgt := 60) hx hb dX0_balanceOf_21 (by decide) (fun c21 => ?_) (fun c21 => ?_)
        · exact absurd c21 (nI_ge (a := k) (b := 401) (by omega) (by omega))
        · refine lv_iload_n hx hb dX0_balanceOf_24 rfl (lv_at hl 2 rfl) ?_
          refine lv_iload_n hx hb dX0_balanceOf_25 rfl (lv_at hl 1 rfl) ?_
          refine lv_iadd hx hb dX0_balanceOf_26 ?_
          rw [zI_add]
          refine lv_iconst (v := 2) hx hb dX0_balanceOf_27 (by decide) ?_
          refine ro_callS 2 hx hb hml hown hts hl.1 hP hK (As := [.int (zI (lo + hi)), .int 2]) (rest := []) (c_J9_floorDiv_7cf53 l D (xw cI cZ h a σ) (tyX cI cZ) H (lo + hi) ⟨by omega, by omega⟩) gX0_balanceOf_J9_floorDiv_7cf53 rfl rfl rfl (by decide +kernel) ⟨Nat.le_of_ble_eq_true rfl, Nat.le_of_ble_eq_true rfl⟩ rfl rfl (Nat.le_of_ble_eq_true rfl) dX0_balanceOf_28 ⟨Nat.zero_le _, Nat.zero_le _⟩ (fun r1 hr1 => ?_)
          subst hr1
          have hm1 : lo ≤ (lo + hi) / 2 := by omega
          have hm2 : (lo + hi) / 2 < hi := by omega
          have hsm : inS (zI ((lo + hi) / 2)) := by unfold inS; rw [zI_ti (by omega) (by omega)]; omega
          refine lv_istore (lv' := [(5, .int (zI ((lo + hi) / 2))), (4, .int (nI k)), (3, .int (zI hi)), (2, .int (zI lo)), (0, .ref h), (1, .int (nI t))]) hx hb dX0_balanceOf_31 hl (by decide) rfl (fun ls hl => ?_)
          refine lv_aload_n hx hb dX0_balanceOf_33 rfl (lv_at hl 4 rfl) ?_
          refine lv_iload_n hx hb dX0_balanceOf_34 rfl (lv_at hl 5 rfl) ?_
          refine lv_iload hx hb dX0_balanceOf_35 (lv_at hl 0 rfl) ?_
          refine ro_callV 2 hx hb hml hown hts hl.1 hP hK 0 0 rfl rfl (As := [.int (nI t), .int (zI ((lo + hi) / 2))]) (rest := []) (c_X0_forceWith l D cI cZ h a σ H hI t ht48 (zI ((lo + hi) / 2)) hsm) gX0_balanceOf_X0_forceWith rfl rfl rfl (by decide +kernel) ⟨Nat.le_of_ble_eq_true rfl, Nat.le_of_ble_eq_true rfl⟩ rfl rfl (Nat.le_of_ble_eq_true rfl) dX0_balanceOf_37 ⟨Nat.zero_le _, Nat.zero_le _⟩ (fun r2 hr2 => ?_)
          subst hr2
          refine lv_if_le (tgt := 51) hx hb dX0_balanceOf_40 (by decide) (fun c40 => ?_) (fun c40 => ?_)
          · refine lv_iload hx hb dX0_balanceOf_51 (lv_at hl 0 rfl) ?_
            refine lv_istore_n (lv' := [(3, .int (zI ((lo + hi) / 2))), (5, .int (zI ((lo + hi) / 2))), (4, .int (nI k)), (2, .int (zI lo)), (0, .ref h), (1, .int (nI t))]) hx hb dX0_balanceOf_53 rfl hl (by decide) rfl (fun ls hl => ?_)
            refine lv_iinc (v := (nI (k + 1))) (lv' := [(4, .int (nI (k + 1))), (3, .int (zI ((lo + hi) / 2))), (5, .int (zI ((lo + hi) / 2))), (2, .int (zI lo)), (0, .ref h), (1, .int (nI t))]) hx hb dX0_balanceOf_54 hl (k := 2) rfl (by exact nI_add _ 1) (by decide) rfl (fun ls hl => ?_)
            refine lv_goto (tgt := 11) hx hb dX0_balanceOf_57 (by decide) ?_
            have hn : ¬ (fun z => decide (0 < frc σ t (zI z))) ((lo + hi) / 2) = true := fun v => absurd c40 (Int32.not_le.mpr (of_decide_eq_true v))
            exact ih (k + 1) lo ((lo + hi) / 2) ls (by omega) h1 hm1 (by omega) (by omega) (by rw [← h5]; exact (bis_dn hlt hn).symm) (lv_sub hl [0, 1, 3, 4, 5] rfl)
          · refine lv_iload hx hb dX0_balanceOf_43 (lv_at hl 0 rfl) ?_
            refine lv_iconst (v := 1) hx hb dX0_balanceOf_45 (by decide) ?_
            refine lv_iadd hx hb dX0_balanceOf_46 ?_
            rw [show zI ((lo + hi) / 2) + 1 = zI ((lo + hi) / 2 + 1) from zI_add _ 1]
            refine lv_istore_n (lv' := [(2, .int (zI ((lo + hi) / 2 + 1))), (5, .int (zI ((lo + hi) / 2))), (4, .int (nI k)), (3, .int (zI hi)), (0, .ref h), (1, .int (nI t))]) hx hb dX0_balanceOf_47 rfl hl (by decide) rfl (fun ls hl => ?_)
            refine lv_goto (tgt := 54) hx hb dX0_balanceOf_48 (by decide) ?_
            refine lv_iinc (v := (nI (k + 1))) (lv' := [(4, .int (nI (k + 1))), (2, .int (zI ((lo + hi) / 2 + 1))), (5, .int (zI ((lo + hi) / 2))), (3, .int (zI hi)), (0, .ref h), (1, .int (nI t))]) hx hb dX0_balanceOf_54 hl (k := 2) rfl (by exact nI_add _ 1) (by decide) rfl (fun ls hl => ?_)
            refine lv_goto (tgt := 11) hx hb dX0_balanceOf_57 (by decide) ?_
            have hn : (fun z => decide (0 < frc σ t (zI z))) ((lo + hi) / 2) = true := decide_eq_true (Int32.not_le.mp c40)
            exact ih (k + 1) ((lo + hi) / 2 + 1) hi ls (by omega) (by omega) (by omega) h3 (by omega) (by rw [← h5]; exact (bis_up hlt hn).symm) (lv_sub hl [0, 3, 1, 4, 5] rfl)
set_option maxHeartbeats 4000000 in
set_option maxRecDepth 100000 in
/-- driftsWith -/
theorem c_X0_driftsWith (l : Launch) (D : va_G) (cI cZ : ClassId) (h : Nat) (a : Nat → Nat) (σ : St) (H : Heap) {nL nB : Nat} (hI : inv σ nL nB) (t : Nat) (ht48 : t < 48) (s9 : Int32) (hs9 : inS s9) : roM l yX0_driftsWith wsX0_driftsWith ({ frames := 4, cells := 0, slots := 0, locals := 93 }) [.ref h, .int (nI t), .int s9] D (xw cI cZ h a σ) (tyX cI cZ) H (fun r => r = bI (drfW σ t s9)) := by
  refine ro_of (cc := cX0_driftsWith) (maxL := 3) (ret := some .boolean) (by decide) rfl (Nat.le_of_ble_eq_true rfl) ?_
  intro p e s m args below meth c he hH hP hK ls hl
  obtain ⟨hx, hb, hr, hml, hown, hts, hlocks⟩ := he
  have hown : s.vm.findClass RX0 = some m.cls := hown
  have hl : lv_has ls 3 [(0, .ref h), (1, .int (nI t)), (2, .int s9)] := hl
  refine lv_iload_n hx hb dX0_driftsWith_0 rfl (lv_at hl 2 rfl) ?_
  refine lv_sipush (v := 200) hx hb dX0_driftsWith_1 (by decide) ?_
  refine lv_icmp_ne (tgt := 22) hx hb dX0_driftsWith_4 (by decide) (fun c4 => ?_) (fun c4 => ?_)
  · refine lv_iload_n hx hb dX0_driftsWith_22 rfl (lv_at hl 2 rfl) ?_
    refine lv_sipush (v := (-200)) hx hb dX0_driftsWith_23 (by decide) ?_
    refine lv_icmp_ne (tgt := 44) hx hb dX0_driftsWith_26 (by decide) (fun c26 => ?_) (fun c26 => ?_)
    · refine lv_iconst (v := 0) hx hb dX0_driftsWith_44 (by decide) ?_
      exact ro_zret (v := 0) hx hb hr hlocks hH ⟨false, rfl⟩ (by show _ = bI (drfW σ t s9); unfold drfW; rw [decide_eq_false c4, decide_eq_false c26]; rfl) dX0_driftsWith_45
    · refine lv_aload_n hx hb dX0_driftsWith_29 rfl (lv_at hl 0 rfl) ?_
      refine lv_iload_n hx hb dX0_driftsWith_30 rfl (lv_at hl 1 rfl) ?_
      refine lv_iload_n hx hb dX0_driftsWith_31 rfl (lv_at hl 2 rfl) ?_
      refine ro_callV 2 hx hb hml hown hts hl.1 hP hK 0 0 rfl rfl (As := [.int (nI t), .int s9]) (rest := []) (c_X0_forceWith l D cI cZ h a σ H hI t ht48 s9 hs9) gX0_driftsWith_X0_forceWith rfl rfl rfl (by decide +kernel) ⟨Nat.le_of_ble_eq_true rfl, Nat.le_of_ble_eq_true rfl⟩ rfl rfl (Nat.le_of_ble_eq_true rfl) dX0_driftsWith_32 ⟨Nat.zero_le _, Nat.zero_le _⟩ (fun r1 hr1 => ?_)
      subst hr1
      refine lv_if_ge (tgt := 42) hx hb dX0_driftsWith_35 (by decide) (fun c35 => ?_) (fun c35 => ?_)
      · refine lv_iconst (v := 0) hx hb dX0_driftsWith_42 (by decide) ?_
        exact ro_zret (v := 0) hx hb hr hlocks hH ⟨false, rfl⟩ (by show _ = bI (drfW σ t s9); unfold drfW; rw [decide_eq_false c4, decide_eq_true c26, decide_eq_false (Int32.not_lt.mpr c35)]; rfl) dX0_driftsWith_43
      · refine lv_iconst (v := 1) hx hb dX0_driftsWith_38 (by decide) ?_
        refine lv_goto (tgt := 43) hx hb dX0_driftsWith_39 (by decide) ?_
        exact ro_zret (v := 1) hx hb hr hlocks hH ⟨true, rfl⟩ (by show _ = bI (drfW σ t s9); unfold drfW; rw [decide_eq_false c4, decide_eq_true c26, decide_eq_true (Int32.not_le.mp c35)]; rfl) dX0_driftsWith_43
  · have hne : ¬ s9 = -200 := fun q => absurd (c4.symm.trans q) (by decide)
    refine lv_aload_n hx hb dX0_driftsWith_7 rfl (lv_at hl 0 rfl) ?_
    refine lv_iload_n hx hb dX0_driftsWith_8 rfl (lv_at hl 1 rfl) ?_
    refine lv_iload_n hx hb dX0_driftsWith_9 rfl (lv_at hl 2 rfl) ?_
    refine ro_callV 2 hx hb hml hown hts hl.1 hP hK 0 0 rfl rfl (As := [.int (nI t), .int s9]) (rest := []) (c_X0_forceWith l D cI cZ h a σ H hI t ht48 s9 hs9) gX0_driftsWith_X0_forceWith rfl rfl rfl (by decide +kernel) ⟨Nat.le_of_ble_eq_true rfl, Nat.le_of_ble_eq_true rfl⟩ rfl rfl (Nat.le_of_ble_eq_true rfl) dX0_driftsWith_10 ⟨Nat.zero_le _, Nat.zero_le _⟩ (fun r1 hr1 => ?_)
    subst hr1
    refine lv_if_le (tgt := 20) hx hb dX0_driftsWith_13 (by decide) (fun c13 => ?_) (fun c13 => ?_)
    · refine lv_iconst (v := 0) hx hb dX0_driftsWith_20 (by decide) ?_
      exact ro_zret (v := 0) hx hb hr hlocks hH ⟨false, rfl⟩ (by show _ = bI (drfW σ t s9); unfold drfW; rw [decide_eq_true c4, decide_eq_false hne, decide_eq_false (Int32.not_lt.mpr c13)]; rfl) dX0_driftsWith_21
    · refine lv_iconst (v := 1) hx hb dX0_driftsWith_16 (by decide) ?_
      refine lv_goto (tgt := 21) hx hb dX0_driftsWith_17 (by decide) ?_
      exact ro_zret (v := 1) hx hb hr hlocks hH ⟨true, rfl⟩ (by show _ = bI (drfW σ t s9); unfold drfW; rw [decide_eq_true c4, decide_eq_false hne, decide_eq_true (Int32.not_le.mp c13)]; rfl) dX0_driftsWith_21
set_option maxHeartbeats 4000000 in
set_option maxRecDepth 100000 in
/-- bollardTension -/
theorem c_X0_bollardTension (l : Launch) (D : va_G) (cI cZ : ClassId) (h : Nat) (a : Nat → Nat) (σ : St) (H : Heap) {nL nB : Nat} (hI : inv σ nL nB) (b9 : Int32) (t : Nat) (ht48 : t < 48) (s9 : Int32) (hs9 : inS s9) : roM l yX0_bollardTension wsX0_bollardTension ({ frames := 2, cells := 0, slots := 0, locals := 48 }) [.ref h, .int b9, .int (nI t), .int s9] D (xw cI cZ h a σ) (tyX cI cZ) H (fun r => r = sumOn_ σ b9 t s9) := by
  refine ro_of (cc := cX0_bollardTension) (maxL := 6) (ret := some .int) (by decide) rfl (Nat.le_of_ble_eq_true rfl) ?_
  intro p e s m args below meth c he hH hP hK ls hl
  obtain ⟨hx, hb, hr, hml, hown, hts, hlocks⟩ := he
  have hown : s.vm.findClass RX0 = some m.cls := hown
  have hl : lv_has ls 6 [(0, .ref h), (1, .int b9), (2, .int (nI t)), (3, .int s9)] := hl
  have hin : ∀ w ∈ u_ws RX0 TX0 15, w ∈ wsX0_bollardTension := by decide +kernel
  have hL : σ 7 0 = nI nL := hI.1
  have hL10 : nL ≤ 10 := hI.2.1
  refine lv_iconst (v := 0) hx hb dX0_bollardTension_0 (by decide) ?_
  refine lv_istore (lv' := [(4, .int 0), (0, .ref h), (1, .int b9), (2, .int (nI t)), (3, .int s9)]) hx hb dX0_bollardTension_1 hl (by decide) rfl (fun ls hl => ?_)
  refine lv_iconst (v := 0) hx hb dX0_bollardTension_3 (by decide) ?_
  refine lv_istore (lv' := [(5, .int 0), (4, .int 0), (0, .ref h), (1, .int b9), (2, .int (nI t)), (3, .int s9)]) hx hb dX0_bollardTension_4 hl (by decide) rfl (fun ls hl => ?_)
  suffices K : ∀ (n k : Nat) (ls : Array Slot), k + n = nL → lv_has ls 6 [(5, .int (nI k)), (4, .int (acc (fun j => if σ 8 j = b9 then tn_ σ j t s9 else 0) 0 k)), (0, .ref h), (1, .int b9), (2, .int (nI t)), (3, .int s9)] → W p l e _ s m args below meth c H [] 0 0 (roQ below H (fun r => r = sumOn_ σ b9 t s9) args s) (F0 m 6 ls []) by
    exact K nL 0 ls (by omega) (lv_sub hl [0, 1, 2, 3, 4, 5] rfl)
  intro n
  induction n with
  | zero =>
      intro k ls hk hl
      refine lv_iload hx hb dX0_bollardTension_6 (lv_at hl 0 rfl) ?_
      refine lv_aload_n hx hb dX0_bollardTension_8 rfl (lv_at hl 2 rfl) ?_
      refine x_get hin hx hb hts hown hK hP rfl 7 (by decide) (v := .int (nI nL)) (congrArg (fun z => some (Value.int z)) hL) (by decide +kernel) dX0_bollardTension_9 ?_
      refine lv_icmp_ge (tgt := 51) hx hb dX0_bollardTension_12 (by decide) (fun c12 => ?_) (fun c12 => ?_)
      · refine lv_iload hx hb dX0_bollardTension_51 (lv_at hl 1 rfl) ?_
        exact ro_ret (v := (acc (fun j => if σ 8 j = b9 then tn_ σ j t s9 else 0) 0 k)) hx hb hr hlocks hH (by show acc _ _ k = sumOn_ σ b9 t s9; unfold sumOn_; rw [inv_nL hI, show k = nL by omega]) dX0_bollardTension_53
      · exact absurd (nI_le (by omega) (by omega)) c12
  | succ n ih =>
      intro k ls hk hl
      refine lv_iload hx hb dX0_bollardTension_6 (lv_at hl 0 rfl) ?_
      refine lv_aload_n hx hb dX0_bollardTension_8 rfl (lv_at hl 2 rfl) ?_
      refine x_get hin hx hb hts hown hK hP rfl 7 (by decide) (v := .int (nI nL)) (congrArg (fun z => some (Value.int z)) hL) (by decide +kernel) dX0_bollardTension_9 ?_
      refine lv_icmp_ge (tgt := 51) hx hb dX0_bollardTension_12 (by decide) (fun c12 => ?_) (fun c12 => ?_)
      · exact absurd c12 (nI_ge (by omega) (by omega))
      · refine lv_aload_n hx hb dX0_bollardTension_15 rfl (lv_at hl 2 rfl) ?_
        refine x_get hin hx hb hts hown hK hP rfl 8 (by decide) (v := .ref (a 8)) rfl (by decide +kernel) dX0_bollardTension_16 ?_
        refine lv_iload hx hb dX0_bollardTension_19 (lv_at hl 0 rfl) ?_
        refine xa_ld hx hb hK hP 6 0 rfl rfl (j := k) (by omega) (by decide) dX0_bollardTension_21 ?_
        refine lv_iload_n hx hb dX0_bollardTension_22 rfl (lv_at hl 3 rfl) ?_
        refine lv_icmp_ne (tgt := 45) hx hb dX0_bollardTension_23 (by decide) (fun c23 => ?_) (fun c23 => ?_)
        · refine lv_iinc (v := (nI (k + 1))) (lv' := [(5, .int (nI (k + 1))), (4, .int (acc (fun j => if σ 8 j = b9 then tn_ σ j t s9 else 0) 0 k)), (0, .ref h), (1, .int b9), (2, .int (nI t)), (3, .int s9)]) hx hb dX0_bollardTension_45 hl (k := 0) rfl (by exact nI_add _ 1) (by decide) rfl (fun ls hl => ?_)
          refine lv_goto (tgt := 6) hx hb dX0_bollardTension_48 (by decide) ?_
          refine ih (k + 1) ls (by omega) (lv_sub hl [0, 1, 2, 3, 4, 5] ?_)
          have e9 : acc (fun j => if σ 8 j = b9 then tn_ σ j t s9 else 0) 0 (k + 1) = acc (fun j => if σ 8 j = b9 then tn_ σ j t s9 else 0) 0 k := by show acc (fun j => if σ 8 j = b9 then tn_ σ j t s9 else 0) 0 k + (if σ 8 k = b9 then tn_ σ k t s9 else 0) = _; rw [if_neg c23, Int32.add_zero]
          rw [e9]; rfl
        · refine lv_iload hx hb dX0_bollardTension_26 (lv_at hl 1 rfl) ?_
          refine lv_aload_n hx hb dX0_bollardTension_28 rfl (lv_at hl 2 rfl) ?_
          refine lv_iload hx hb dX0_bollardTension_29 (lv_at hl 0 rfl) ?_
          refine lv_aload_n hx hb dX0_bollardTension_31 rfl (lv_at hl 2 rfl) ?_
          refine lv_iload hx hb dX0_bollardTension_32 (lv_at hl 0 rfl) ?_
          refine lv_iload_n hx hb dX0_bollardTension_34 rfl (lv_at hl 4 rfl) ?_
          refine lv_iload_n hx hb dX0_bollardTension_35 rfl (lv_at hl 5 rfl) ?_
          refine ro_callV 3 hx hb hml hown hts hl.1 hP hK 0 0 rfl rfl (As := [.int (nI k), .int (nI t), .int s9]) (rest := [.int (nI k), .ref h, .int (acc (fun j => if σ 8 j = b9 then tn_ σ j t s9 else 0) 0 k)]) (c_X0_lengthWith l D cI cZ h a σ H hI k t (by omega) ht48 s9 hs9) gX0_bollardTension_X0_lengthWith rfl rfl rfl (by decide +kernel) ⟨Nat.le_of_ble_eq_true rfl, Nat.le_of_ble_eq_true rfl⟩ rfl rfl (Nat.le_of_ble_eq_true rfl) dX0_bollardTension_36 ⟨Nat.zero_le _, Nat.zero_le _⟩ (fun r1 hr1 => ?_)
          subst hr1
          refine ro_callV 2 hx hb hml hown hts hl.1 hP hK 0 0 rfl rfl (As := [.int (nI k), .int (len_ σ k t s9)]) (rest := [.int (acc (fun j => if σ 8 j = b9 then tn_ σ j t s9 else 0) 0 k)]) (c_X0_tensionAtLength l D cI cZ h a σ H k (by omega) (len_ σ k t s9)) gX0_bollardTension_X0_tensionAtLength rfl rfl rfl (by decide +kernel) ⟨Nat.le_of_ble_eq_true rfl, Nat.le_of_ble_eq_true rfl⟩ rfl rfl (Nat.le_of_ble_eq_true rfl) dX0_bollardTension_39 ⟨Nat.zero_le _, Nat.zero_le _⟩ (fun r2 hr2 => ?_)
          subst hr2
          refine lv_iadd hx hb dX0_bollardTension_42 ?_
          refine lv_istore (lv' := [(4, .int ((acc (fun j => if σ 8 j = b9 then tn_ σ j t s9 else 0) 0 k) + (tens_ σ k (len_ σ k t s9)))), (5, .int (nI k)), (0, .ref h), (1, .int b9), (2, .int (nI t)), (3, .int s9)]) hx hb dX0_bollardTension_43 hl (by decide) rfl (fun ls hl => ?_)
          refine lv_iinc (v := (nI (k + 1))) (lv' := [(5, .int (nI (k + 1))), (4, .int ((acc (fun j => if σ 8 j = b9 then tn_ σ j t s9 else 0) 0 k) + (tens_ σ k (len_ σ k t s9)))), (0, .ref h), (1, .int b9), (2, .int (nI t)), (3, .int s9)]) hx hb dX0_bollardTension_45 hl (k := 1) rfl (by exact nI_add _ 1) (by decide) rfl (fun ls hl => ?_)
          refine lv_goto (tgt := 6) hx hb dX0_bollardTension_48 (by decide) ?_
          refine ih (k + 1) ls (by omega) (lv_sub hl [0, 1, 2, 3, 4, 5] ?_)
          have e9 : acc (fun j => if σ 8 j = b9 then tn_ σ j t s9 else 0) 0 (k + 1) = acc (fun j => if σ 8 j = b9 then tn_ σ j t s9 else 0) 0 k + tens_ σ k (len_ σ k t s9) := by show acc (fun j => if σ 8 j = b9 then tn_ σ j t s9 else 0) 0 k + (if σ 8 k = b9 then tn_ σ k t s9 else 0) = _; rw [if_pos c23]; rfl
          rw [e9]; rfl
set_option maxHeartbeats 4000000 in
set_option maxRecDepth 100000 in
/-- linesHold -/
theorem c_X0_linesHold (l : Launch) (D : va_G) (cI cZ : ClassId) (h : Nat) (a : Nat → Nat) (σ : St) (H : Heap) {nL nB : Nat} (hI : inv σ nL nB) (t : Nat) (ht48 : t < 48) (s9 : Int32) (hs9 : inS s9) : roM l yX0_linesHold wsX0_linesHold ({ frames := 2, cells := 0, slots := 0, locals := 48 }) [.ref h, .int (nI t), .int s9] D (xw cI cZ h a σ) (tyX cI cZ) H (fun r => r = bI (lnH σ t s9)) := by
  refine ro_of (cc := cX0_linesHold) (maxL := 5) (ret := some .boolean) (by decide) rfl (Nat.le_of_ble_eq_true rfl) ?_
  intro p e s m args below meth c he hH hP hK ls hl
  obtain ⟨hx, hb, hr, hml, hown, hts, hlocks⟩ := he
  have hown : s.vm.findClass RX0 = some m.cls := hown
  have hl : lv_has ls 5 [(0, .ref h), (1, .int (nI t)), (2, .int s9)] := hl
  have hin : ∀ w ∈ u_ws RX0 TX0 15, w ∈ wsX0_linesHold := by decide +kernel
  have hL : σ 7 0 = nI nL := hI.1
  have hL10 : nL ≤ 10 := hI.2.1
  refine lv_iconst (v := 0) hx hb dX0_linesHold_0 (by decide) ?_
  refine lv_istore_n (lv' := [(3, .int 0), (0, .ref h), (1, .int (nI t)), (2, .int s9)]) hx hb dX0_linesHold_1 rfl hl (by decide) rfl (fun ls hl => ?_)
  suffices K : ∀ (n k : Nat) (ls : Array Slot), k + n = nL → allB (fun j => decide (tn_ σ j t s9 * 100 ≤ σ 11 j * 55)) k = true → lv_has ls 5 [(3, .int (nI k)), (0, .ref h), (1, .int (nI t)), (2, .int s9)] → W p l e _ s m args below meth c H [] 0 0 (roQ below H (fun r => r = bI (lnH σ t s9)) args s) (F0 m 2 ls []) by
    exact K nL 0 ls (by omega) rfl (lv_sub hl [0, 1, 2, 3] rfl)
  intro n
  induction n with
  | zero =>
      intro k ls hk hp hl
      refine lv_iload_n hx hb dX0_linesHold_2 rfl (lv_at hl 0 rfl) ?_
      refine lv_aload_n hx hb dX0_linesHold_3 rfl (lv_at hl 1 rfl) ?_
      refine x_get hin hx hb hts hown hK hP rfl 7 (by decide) (v := .int (nI nL)) (congrArg (fun z => some (Value.int z)) hL) (by decide +kernel) dX0_linesHold_4 ?_
      refine lv_icmp_ge (tgt := 49) hx hb dX0_linesHold_7 (by decide) (fun c7 => ?_) (fun c7 => ?_)
      · refine lv_iconst (v := 1) hx hb dX0_linesHold_49 (by decide) ?_
        exact ro_zret (v := 1) hx hb hr hlocks hH ⟨true, rfl⟩ (by show _ = bI (lnH σ t s9); unfold lnH; rw [inv_nL hI, ← show k = nL by omega, hp]; rfl) dX0_linesHold_50
      · exact absurd (nI_le (by omega) (by omega)) c7
  | succ n ih =>
      intro k ls hk hp hl
      refine lv_iload_n hx hb dX0_linesHold_2 rfl (lv_at hl 0 rfl) ?_
      refine lv_aload_n hx hb dX0_linesHold_3 rfl (lv_at hl 1 rfl) ?_
      refine x_get hin hx hb hts hown hK hP rfl 7 (by decide) (v := .int (nI nL)) (congrArg (fun z => some (Value.int z)) hL) (by decide +kernel) dX0_linesHold_4 ?_
      refine lv_icmp_ge (tgt := 49) hx hb dX0_linesHold_7 (by decide) (fun c7 => ?_) (fun c7 => ?_)
      · exact absurd c7 (nI_ge (by omega) (by omega))
      · refine lv_aload_n hx hb dX0_linesHold_10 rfl (lv_at hl 1 rfl) ?_
        refine lv_iload_n hx hb dX0_linesHold_11 rfl (lv_at hl 0 rfl) ?_
        refine lv_aload_n hx hb dX0_linesHold_12 rfl (lv_at hl 1 rfl) ?_
        refine lv_iload_n hx hb dX0_linesHold_13 rfl (lv_at hl 0 rfl) ?_
        refine lv_iload_n hx hb dX0_linesHold_14 rfl (lv_at hl 2 rfl) ?_
        refine lv_iload_n hx hb dX0_linesHold_15 rfl (lv_at hl 3 rfl) ?_
        refine ro_callV 3 hx hb hml hown hts hl.1 hP hK 0 0 rfl rfl (As := [.int (nI k), .int (nI t), .int s9]) (rest := [.int (nI k), .ref h]) (c_X0_lengthWith l D cI cZ h a σ H hI k t (by omega) ht48 s9 hs9) gX0_linesHold_X0_lengthWith rfl rfl rfl (by decide +kernel) ⟨Nat.le_of_ble_eq_true rfl, Nat.le_of_ble_eq_true rfl⟩ rfl rfl (Nat.le_of_ble_eq_true rfl) dX0_linesHold_16 ⟨Nat.zero_le _, Nat.zero_le _⟩ (fun r1 hr1 => ?_)
        subst hr1
        refine ro_callV 2 hx hb hml hown hts hl.1 hP hK 0 0 rfl rfl (As := [.int (nI k), .int (len_ σ k t s9)]) (rest := []) (c_X0_tensionAtLength l D cI cZ h a σ H k (by omega) (len_ σ k t s9)) gX0_linesHold_X0_tensionAtLength rfl rfl rfl (by decide +kernel) ⟨Nat.le_of_ble_eq_true rfl, Nat.le_of_ble_eq_true rfl⟩ rfl rfl (Nat.le_of_ble_eq_true rfl) dX0_linesHold_19 ⟨Nat.zero_le _, Nat.zero_le _⟩ (fun r2 hr2 => ?_)
        subst hr2
        refine lv_istore (lv' := [(4, .int (tens_ σ k (len_ σ k t s9))), (3, .int (nI k)), (0, .ref h), (1, .int (nI t)), (2, .int s9)]) hx hb dX0_linesHold_22 hl (by decide) rfl (fun ls hl => ?_)
        refine lv_iload hx hb dX0_linesHold_24 (lv_at hl 0 rfl) ?_
        refine lv_bipush (v := 100) hx hb dX0_linesHold_26 (by decide) ?_
        refine lv_imul hx hb dX0_linesHold_28 ?_
        refine lv_aload_n hx hb dX0_linesHold_29 rfl (lv_at hl 2 rfl) ?_
        refine x_get hin hx hb hts hown hK hP rfl 11 (by decide) (v := .ref (a 11)) rfl (by decide +kernel) dX0_linesHold_30 ?_
        refine lv_iload_n hx hb dX0_linesHold_33 rfl (lv_at hl 1 rfl) ?_
        refine xa_ld hx hb hK hP 9 0 rfl rfl (j := k) (by omega) (by decide) dX0_linesHold_34 ?_
        refine lv_bipush (v := 55) hx hb dX0_linesHold_35 (by decide) ?_
        refine lv_imul hx hb dX0_linesHold_37 ?_
        refine lv_icmp_le (tgt := 43) hx hb dX0_linesHold_38 (by decide) (fun c38 => ?_) (fun c38 => ?_)
        · refine lv_iinc (v := (nI (k + 1))) (lv' := [(3, .int (nI (k + 1))), (4, .int (tens_ σ k (len_ σ k t s9))), (0, .ref h), (1, .int (nI t)), (2, .int s9)]) hx hb dX0_linesHold_43 hl (k := 1) rfl (by exact nI_add _ 1) (by decide) rfl (fun ls hl => ?_)
          refine lv_goto (tgt := 2) hx hb dX0_linesHold_46 (by decide) ?_
          exact ih (k + 1) ls (by omega) (by show (allB (fun j => decide (tn_ σ j t s9 * 100 ≤ σ 11 j * 55)) k && decide (tn_ σ k t s9 * 100 ≤ σ 11 k * 55)) = true; rw [hp, decide_eq_true (show tn_ σ k t s9 * 100 ≤ σ 11 k * 55 from c38)]; rfl) (lv_sub hl [0, 2, 3, 4] rfl)
        · refine lv_iconst (v := 0) hx hb dX0_linesHold_41 (by decide) ?_
          exact ro_zret (v := 0) hx hb hr hlocks hH ⟨false, rfl⟩ (by show _ = bI (lnH σ t s9); unfold lnH; rw [inv_nL hI, allB_false (j := k) (decide_eq_false (show ¬ tn_ σ k t s9 * 100 ≤ σ 11 k * 55 from c38)) nL (by omega)]; rfl) dX0_linesHold_42
set_option maxHeartbeats 4000000 in
set_option maxRecDepth 100000 in
/-- bollardsHold -/
theorem c_X0_bollardsHold (l : Launch) (D : va_G) (cI cZ : ClassId) (h : Nat) (a : Nat → Nat) (σ : St) (H : Heap) {nL nB : Nat} (hI : inv σ nL nB) (t : Nat) (ht48 : t < 48) (s9 : Int32) (hs9 : inS s9) : roM l yX0_bollardsHold wsX0_bollardsHold ({ frames := 3, cells := 0, slots := 0, locals := 73 }) [.ref h, .int (nI t), .int s9] D (xw cI cZ h a σ) (tyX cI cZ) H (fun r => r = bI (blH σ t s9)) := by
  refine ro_of (cc := cX0_bollardsHold) (maxL := 4) (ret := some .boolean) (by decide) rfl (Nat.le_of_ble_eq_true rfl) ?_
  intro p e s m args below meth c he hH hP hK ls hl
  obtain ⟨hx, hb, hr, hml, hown, hts, hlocks⟩ := he
  have hown : s.vm.findClass RX0 = some m.cls := hown
  have hl : lv_has ls 4 [(0, .ref h), (1, .int (nI t)), (2, .int s9)] := hl
  have hin : ∀ w ∈ u_ws RX0 TX0 15, w ∈ wsX0_bollardsHold := by decide +kernel
  have hB : σ 4 0 = nI nB := hI.2.2.1
  have hB6 : nB ≤ 6 := hI.2.2.2.1
  refine lv_iconst (v := 0) hx hb dX0_bollardsHold_0 (by decide) ?_
  refine lv_istore_n (lv' := [(3, .int 0), (0, .ref h), (1, .int (nI t)), (2, .int s9)]) hx hb dX0_bollardsHold_1 rfl hl (by decide) rfl (fun ls hl => ?_)
  suffices K : ∀ (n k : Nat) (ls : Array Slot), k + n = nB → allB (fun k => decide (sumOn_ σ (nI k) t s9 ≤ σ 6 k)) k = true → lv_has ls 4 [(3, .int (nI k)), (0, .ref h), (1, .int (nI t)), (2, .int s9)] → W p l e _ s m args below meth c H [] 0 0 (roQ below H (fun r => r = bI (blH σ t s9)) args s) (F0 m 2 ls []) by
    exact K nB 0 ls (by omega) rfl (lv_sub hl [0, 1, 2, 3] rfl)
  intro n
  induction n with
  | zero =>
      intro k ls hk hp hl
      refine lv_iload_n hx hb dX0_bollardsHold_2 rfl (lv_at hl 0 rfl) ?_
      refine lv_aload_n hx hb dX0_bollardsHold_3 rfl (lv_at hl 1 rfl) ?_
      refine x_get hin hx hb hts hown hK hP rfl 4 (by decide) (v := .int (nI nB)) (congrArg (fun z => some (Value.int z)) hB) (by decide +kernel) dX0_bollardsHold_4 ?_
      refine lv_icmp_ge (tgt := 34) hx hb dX0_bollardsHold_7 (by decide) (fun c7 => ?_) (fun c7 => ?_)
      · refine lv_iconst (v := 1) hx hb dX0_bollardsHold_34 (by decide) ?_
        exact ro_zret (v := 1) hx hb hr hlocks hH ⟨true, rfl⟩ (by show _ = bI (blH σ t s9); unfold blH; rw [inv_nB hI, ← show k = nB by omega, hp]; rfl) dX0_bollardsHold_35
      · exact absurd (nI_le (by omega) (by omega)) c7
  | succ n ih =>
      intro k ls hk hp hl
      refine lv_iload_n hx hb dX0_bollardsHold_2 rfl (lv_at hl 0 rfl) ?_
      refine lv_aload_n hx hb dX0_bollardsHold_3 rfl (lv_at hl 1 rfl) ?_
      refine x_get hin hx hb hts hown hK hP rfl 4 (by decide) (v := .int (nI nB)) (congrArg (fun z => some (Value.int z)) hB) (by decide +kernel) dX0_bollardsHold_4 ?_
      refine lv_icmp_ge (tgt := 34) hx hb dX0_bollardsHold_7 (by decide) (fun c7 => ?_) (fun c7 => ?_)
      · exact absurd c7 (nI_ge (by omega) (by omega))
      · refine lv_aload_n hx hb dX0_bollardsHold_10 rfl (lv_at hl 1 rfl) ?_
        refine lv_iload_n hx hb dX0_bollardsHold_11 rfl (lv_at hl 0 rfl) ?_
        refine lv_iload_n hx hb dX0_bollardsHold_12 rfl (lv_at hl 2 rfl) ?_
        refine lv_iload_n hx hb dX0_bollardsHold_13 rfl (lv_at hl 3 rfl) ?_
        refine ro_callV 3 hx hb hml hown hts hl.1 hP hK 0 0 rfl rfl (As := [.int (nI k), .int (nI t), .int s9]) (rest := []) (c_X0_bollardTension l D cI cZ h a σ H hI (nI k) t ht48 s9 hs9) gX0_bollardsHold_X0_bollardTension rfl rfl rfl (by decide +kernel) ⟨Nat.le_of_ble_eq_true rfl, Nat.le_of_ble_eq_true rfl⟩ rfl rfl (Nat.le_of_ble_eq_true rfl) dX0_bollardsHold_14 ⟨Nat.zero_le _, Nat.zero_le _⟩ (fun r1 hr1 => ?_)
        subst hr1
        refine lv_aload_n hx hb dX0_bollardsHold_17 rfl (lv_at hl 1 rfl) ?_
        refine x_get hin hx hb hts hown hK hP rfl 6 (by decide) (v := .ref (a 6)) rfl (by decide +kernel) dX0_bollardsHold_18 ?_
        refine lv_iload_n hx hb dX0_bollardsHold_21 rfl (lv_at hl 0 rfl) ?_
        refine xa_ld hx hb hK hP 5 0 rfl rfl (j := k) (by omega) (by decide) dX0_bollardsHold_22 ?_
        refine lv_icmp_le (tgt := 28) hx hb dX0_bollardsHold_23 (by decide) (fun c23 => ?_) (fun c23 => ?_)
        · refine lv_iinc (v := (nI (k + 1))) (lv' := [(3, .int (nI (k + 1))), (0, .ref h), (1, .int (nI t)), (2, .int s9)]) hx hb dX0_bollardsHold_28 hl (k := 0) rfl (by exact nI_add _ 1) (by decide) rfl (fun ls hl => ?_)
          refine lv_goto (tgt := 2) hx hb dX0_bollardsHold_31 (by decide) ?_
          exact ih (k + 1) ls (by omega) (by show (allB (fun k => decide (sumOn_ σ (nI k) t s9 ≤ σ 6 k)) k && decide (sumOn_ σ (nI k) t s9 ≤ σ 6 k)) = true; rw [hp, decide_eq_true c23]; rfl) (lv_sub hl [0, 1, 2, 3] rfl)
        · refine lv_iconst (v := 0) hx hb dX0_bollardsHold_26 (by decide) ?_
          exact ro_zret (v := 0) hx hb hr hlocks hH ⟨false, rfl⟩ (by show _ = bI (blH σ t s9); unfold blH; rw [inv_nB hI, allB_false (j := k) (decide_eq_false c23) nB (by omega)]; rfl) dX0_bollardsHold_27
set_option maxHeartbeats 4000000 in
set_option maxRecDepth 100000 in
/-- holdsIn -/
theorem c_X0_holdsIn (l : Launch) (D : va_G) (cI cZ : ClassId) (h : Nat) (a : Nat → Nat) (σ : St) (H : Heap) {nL nB : Nat} (hI : inv σ nL nB) (t : Nat) (ht48 : t < 48) : roM l yX0_holdsIn wsX0_holdsIn ({ frames := 5, cells := 0, slots := 0, locals := 118 }) [.ref h, .int (nI t)] D (xw cI cZ h a σ) (tyX cI cZ) H (fun r => r = bI (safe_ σ t)) := by
  refine ro_of (cc := cX0_holdsIn) (maxL := 3) (ret := some .boolean) (by decide) rfl (Nat.le_of_ble_eq_true rfl) ?_
  intro p e s m args below meth c he hH hP hK ls hl
  obtain ⟨hx, hb, hr, hml, hown, hts, hlocks⟩ := he
  have hown : s.vm.findClass RX0 = some m.cls := hown
  have hl : lv_has ls 3 [(0, .ref h), (1, .int (nI t))] := hl
  refine lv_aload_n hx hb dX0_holdsIn_0 rfl (lv_at hl 0 rfl) ?_
  refine lv_iload_n hx hb dX0_holdsIn_1 rfl (lv_at hl 1 rfl) ?_
  refine ro_callV 1 hx hb hml hown hts hl.1 hP hK 0 0 rfl rfl (As := [.int (nI t)]) (rest := []) (c_X0_balanceOf l D cI cZ h a σ H hI t ht48) gX0_holdsIn_X0_balanceOf rfl rfl rfl (by decide +kernel) ⟨Nat.le_of_ble_eq_true rfl, Nat.le_of_ble_eq_true rfl⟩ rfl rfl (Nat.le_of_ble_eq_true rfl) dX0_holdsIn_2 ⟨Nat.zero_le _, Nat.zero_le _⟩ (fun r1 hr1 => ?_)
  subst hr1
  refine lv_istore_n (lv' := [(2, .int (bal σ t)), (0, .ref h), (1, .int (nI t))]) hx hb dX0_holdsIn_5 rfl hl (by decide) rfl (fun ls hl => ?_)
  refine lv_aload_n hx hb dX0_holdsIn_6 rfl (lv_at hl 1 rfl) ?_
  refine lv_iload_n hx hb dX0_holdsIn_7 rfl (lv_at hl 2 rfl) ?_
  refine lv_iload_n hx hb dX0_holdsIn_8 rfl (lv_at hl 0 rfl) ?_
  refine ro_callV 2 hx hb hml hown hts hl.1 hP hK 0 0 rfl rfl (As := [.int (nI t), .int (bal σ t)]) (rest := []) (c_X0_driftsWith l D cI cZ h a σ H hI t ht48 (bal σ t) (bal_inS σ t)) gX0_holdsIn_X0_driftsWith rfl rfl rfl (by decide +kernel) ⟨Nat.le_of_ble_eq_true rfl, Nat.le_of_ble_eq_true rfl⟩ rfl rfl (Nat.le_of_ble_eq_true rfl) dX0_holdsIn_9 ⟨Nat.zero_le _, Nat.zero_le _⟩ (fun r2 hr2 => ?_)
  subst hr2
  refine lv_if_ne (tgt := 37) hx hb dX0_holdsIn_12 (by decide) (fun c12 => ?_) (fun c12 => ?_)
  · refine lv_iconst (v := 0) hx hb dX0_holdsIn_37 (by decide) ?_
    exact ro_zret (v := 0) hx hb hr hlocks hH ⟨false, rfl⟩ (by show _ = bI (safe_ σ t); unfold safe_ safeW; rw [bI_t c12]; rfl) dX0_holdsIn_38
  · refine lv_aload_n hx hb dX0_holdsIn_15 rfl (lv_at hl 1 rfl) ?_
    refine lv_iload_n hx hb dX0_holdsIn_16 rfl (lv_at hl 2 rfl) ?_
    refine lv_iload_n hx hb dX0_holdsIn_17 rfl (lv_at hl 0 rfl) ?_
    refine ro_callV 2 hx hb hml hown hts hl.1 hP hK 0 0 rfl rfl (As := [.int (nI t), .int (bal σ t)]) (rest := []) (c_X0_linesHold l D cI cZ h a σ H hI t ht48 (bal σ t) (bal_inS σ t)) gX0_holdsIn_X0_linesHold rfl rfl rfl (by decide +kernel) ⟨Nat.le_of_ble_eq_true rfl, Nat.le_of_ble_eq_true rfl⟩ rfl rfl (Nat.le_of_ble_eq_true rfl) dX0_holdsIn_18 ⟨Nat.zero_le _, Nat.zero_le _⟩ (fun r3 hr3 => ?_)
    subst hr3
    refine lv_if_eq (tgt := 37) hx hb dX0_holdsIn_21 (by decide) (fun c21 => ?_) (fun c21 => ?_)
    · refine lv_iconst (v := 0) hx hb dX0_holdsIn_37 (by decide) ?_
      exact ro_zret (v := 0) hx hb hr hlocks hH ⟨false, rfl⟩ (by show _ = bI (safe_ σ t); unfold safe_ safeW; rw [bI_f c12, bI_f c21]; rfl) dX0_holdsIn_38
    · refine lv_aload_n hx hb dX0_holdsIn_24 rfl (lv_at hl 1 rfl) ?_
      refine lv_iload_n hx hb dX0_holdsIn_25 rfl (lv_at hl 2 rfl) ?_
      refine lv_iload_n hx hb dX0_holdsIn_26 rfl (lv_at hl 0 rfl) ?_
      refine ro_callV 2 hx hb hml hown hts hl.1 hP hK 0 0 rfl rfl (As := [.int (nI t), .int (bal σ t)]) (rest := []) (c_X0_bollardsHold l D cI cZ h a σ H hI t ht48 (bal σ t) (bal_inS σ t)) gX0_holdsIn_X0_bollardsHold rfl rfl rfl (by decide +kernel) ⟨Nat.le_of_ble_eq_true rfl, Nat.le_of_ble_eq_true rfl⟩ rfl rfl (Nat.le_of_ble_eq_true rfl) dX0_holdsIn_27 ⟨Nat.zero_le _, Nat.zero_le _⟩ (fun r4 hr4 => ?_)
      subst hr4
      refine lv_if_eq (tgt := 37) hx hb dX0_holdsIn_30 (by decide) (fun c30 => ?_) (fun c30 => ?_)
      · refine lv_iconst (v := 0) hx hb dX0_holdsIn_37 (by decide) ?_
        exact ro_zret (v := 0) hx hb hr hlocks hH ⟨false, rfl⟩ (by show _ = bI (safe_ σ t); unfold safe_ safeW; rw [bI_f c12, bI_t c21, bI_f c30]; rfl) dX0_holdsIn_38
      · refine lv_iconst (v := 1) hx hb dX0_holdsIn_33 (by decide) ?_
        refine lv_goto (tgt := 38) hx hb dX0_holdsIn_34 (by decide) ?_
        exact ro_zret (v := 1) hx hb hr hlocks hH ⟨true, rfl⟩ (by show _ = bI (safe_ σ t); unfold safe_ safeW; rw [bI_f c12, bI_t c21, bI_t c30]; rfl) dX0_holdsIn_38
