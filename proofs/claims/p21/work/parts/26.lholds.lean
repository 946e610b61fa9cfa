/-! The law: from, holds, isHeld. -/
theorem fr_blind {av : List Value} {sb L : Nat} {xs : Nat → Int32} {H0 : Heap} : FrameBlind (va_Pc av (fun U => U.heap = H0 ∧ va_X sb L xs U H0 ∧ sb < H0.size)) := by
  intro a U g mk h
  obtain ⟨h1, h2, h3, h4⟩ := h
  exact ⟨h1, h2, va_X.moved (u := U) (U := U.calling g mk a) (Vm.Alike.refl U.vm) h3, h4⟩
/-- what holds() asks of its start -/
def hoP (D : va_G) (sb L : Nat) (xs : Nat → Int32) (H0 : Heap) : State → Prop := fun U => U.heap = H0 ∧ va_K D vwCl [] U ∧ tpA (fun q => H0.size ≤ q) H0 U ∧ va_X sb L xs U H0 ∧ sb < H0.size
theorem ho_blind {av : List Value} {D : va_G} {sb L : Nat} {xs : Nat → Int32} {H0 : Heap} : FrameBlind (va_Pc av (hoP D sb L xs H0)) := by
  intro a U g mk h
  obtain ⟨h1, h2, h3, h4, h5, h6⟩ := h
  exact ⟨h1, h2, va_K.moved (u := U) (U := U.calling g mk a) (Vm.Alike.refl U.vm) h3, tpA_same (s := U) (U := U.calling g mk a) rfl h4, va_X.moved (u := U) (U := U.calling g mk a) (Vm.Alike.refl U.vm) h5, h6⟩
def hoM (l : Launch) (y : MethodName) (ws : List Cond) (rm : Room) (D : va_G) (sb L : Nat) (xs : Nat → Int32) (H0 : Heap) : Prop :=
  Met l y ws rm (va_Pc [.ref sb] (hoP D sb L xs H0)) (va_Qi (fun (r : Int32) (_ : Unit) => r = 1) (fun _ t => va_P D vwCl [] t.heap) (fun q => H0.size ≤ q)) 3700 25000 (fun q => H0.size ≤ q)
theorem inX0h : ∀ w ∈ u_ws RX0 TX0 15, w ∈ wsL_holds := fun _ h => List.mem_cons_of_mem _ (List.mem_append_left _ (List.mem_append_left _ (List.mem_append_left _ (List.mem_append_right _ h))))
set_option maxHeartbeats 4000000 in
set_option maxRecDepth 100000 in
theorem c_L_from (l : Launch) (sb L : Nat) (xs : Nat → Int32) (H0 : Heap) (hL : L ≤ 260) (K B : Nat) (hK9 : K < 1000) (hB1 : 0 < B) (hB2 : B ≤ 100000000) : Met l yL_from wsL_from ({ frames := 0, cells := 0, slots := 0, locals := 0 }) (va_Pc [.ref sb, .int (nI K), .int (nI B)] (fun U => U.heap = H0 ∧ va_X sb L xs U H0 ∧ sb < H0.size)) (va_Qi (fun (r : Int32) (_ : Unit) => ∃ n : Nat, n < B ∧ r = nI n) (fun _ t => t.heap = H0) (fun _ => False)) 0 0 (fun _ => False) := by
  refine Met.ofW (cc := cL_from) (maxL := 4) (ret := some .int) (by decide) rfl ?_
  intro p e s m args below meth c s₁ B9 hml hv
  obtain ⟨rfl, hH, hX, hbl⟩ := hv
  rw [hH, lg_entry_eq]
  have hx := B9.exec
  have hb := B9.bytes
  have hr := B9.returns
  have hown : s.vm.findClass RL = some m.cls := findClass_of_methodNamed B9.named
  have hts := atoms_spec (ws := wsL_from) B9.pre
  have hlocks := B9.notSynchronized
  have hl := lv_entry ([.ref sb, .int (nI K), .int (nI B)]) (n := 4) (Nat.le_of_ble_eq_true rfl)
  generalize (lg_sl ([.ref sb, .int (nI K), .int (nI B)]) ++ List.replicate (4 - (lg_sl ([.ref sb, .int (nI K), .int (nI B)])).length) Slot.unset).toArray = ls at hl ⊢
  generalize hargs : ([.ref sb, .int (nI K), .int (nI B)] : List Value).toArray = args at *
  have hl : lv_has ls 4 [(0, .ref sb), (1, .int (nI K)), (2, .int (nI B))] := hl
  have hS : va_S (fun _ => False) H0 H0 [] := va_S.rf
  have hs : ∀ (x : Int32) (ls : Array Slot), lv_has ls 4 [(0, .ref sb), (1, .int (nI K)), (2, .int (nI B))] → W p l e ({ frames := 0, cells := 0, slots := 0, locals := 0 }) s m args below meth c H0 [] 0 0 (roQ below H0 (fun r => ∃ n : Nat, n < B ∧ r = nI n) args s) (F0 m 28 ls [.int x]) := by
    intro x ls hl
    refine lv_istore_n (lv' := [(3, .int x), (0, .ref sb), (1, .int (nI K)), (2, .int (nI B))]) hx hb dL_from_28 rfl hl (by decide) rfl (fun ls hl => ?_)
    refine lv_iload_n hx hb dL_from_29 rfl (lv_at hl 0 rfl) ?_
    refine lv_ldc (v := (2147483647)) hx hb hown (hts (.constant RL 8 (2147483647)) (by decide +kernel)) dL_from_30 ?_
    refine lv_iand hx hb dL_from_32 ?_
    obtain ⟨j, hj, ej⟩ := pk_andE x (m := 2147483647) 31 rfl
    rw [ej]
    have hj2 : j < 2147483648 := hj
    refine lv_iload_n hx hb dL_from_33 rfl (lv_at hl 3 rfl) ?_
    refine lv_irem hx hb dL_from_34 (nI_ne0 (by omega) (by omega)) ?_
    refine lv_topi (fun y9 e9 => ?_)
    rw [show y9 = (nI (j % B)) from e9.trans (pk_rem (a := j) (d := B) (by omega) (by omega) (by omega))]
    exact ro_ret (v := (nI (j % B))) hx hb hr hlocks hH ⟨j % B, Nat.mod_lt _ hB1, rfl⟩ dL_from_35
  refine lv_aload_n hx hb dL_from_0 rfl (lv_at hl 0 rfl) ?_
  refine va_slen hx hb hX hbl (fun q => q) hS dL_from_1 ?_
  refine lv_if_ne (tgt := 17) hx hb dL_from_2 (by decide) (fun c2 => ?_) (fun c2 => ?_)
  · have hL0 : 0 < L := Nat.pos_of_ne_zero (fun u => c2 (by rw [u]; rfl))
    refine lv_aload_n hx hb dL_from_17 rfl (lv_at hl 0 rfl) ?_
    refine lv_iload_n hx hb dL_from_18 rfl (lv_at hl 1 rfl) ?_
    refine lv_aload_n hx hb dL_from_19 rfl (lv_at hl 0 rfl) ?_
    refine va_slen hx hb hX hbl (fun q => q) hS dL_from_20 ?_
    rw [show (Int32.ofNat L) = nI L from rfl]
    refine lv_irem hx hb dL_from_21 (nI_ne0 (by omega) (by omega)) ?_
    refine lv_topi (fun y9 e9 => ?_)
    rw [show y9 = (nI (K % L)) from e9.trans (pk_rem (a := K) (d := L) (by omega) (by omega) (by omega))]
    have hm : K % L < L := Nat.mod_lt _ hL0
    refine sc_ld hx hb hX hbl (fun q => q) hS (i := K % L) hm (by omega) dL_from_22 ?_
    refine lv_ldc (v := (203233)) hx hb hown (hts (.constant RL 7 (203233)) (by decide +kernel)) dL_from_23 ?_
    refine lv_iload_n hx hb dL_from_25 rfl (lv_at hl 1 rfl) ?_
    refine lv_imul hx hb dL_from_26 ?_
    refine lv_topi (fun y9 e9 => ?_)
    rw [show y9 = (nI (203233 * K)) from e9.trans (pk_mul 203233 K)]
    refine lv_ixor hx hb dL_from_27 ?_
    exact hs _ ls hl
  · refine lv_sipush (v := 263) hx hb dL_from_5 (by decide) ?_
    refine lv_iload_n hx hb dL_from_8 rfl (lv_at hl 1 rfl) ?_
    refine lv_imul hx hb dL_from_9 ?_
    refine lv_topi (fun y9 e9 => ?_)
    rw [show y9 = (nI (263 * K)) from e9.trans (pk_mul 263 K)]
    refine lv_sipush (v := 233) hx hb dL_from_10 (by decide) ?_
    refine lv_iadd hx hb dL_from_13 ?_
    refine lv_topi (fun y9 e9 => ?_)
    rw [show y9 = (nI (263 * K + 233)) from e9.trans (nI_add (263 * K) 233)]
    refine lv_goto (tgt := 28) hx hb dL_from_14 (by decide) ?_
    exact hs _ ls hl
set_option maxHeartbeats 4000000 in
set_option maxRecDepth 100000 in
theorem c_L_holds (l : Launch) (hfl : l.stackTraces = false) (D : va_G) (sb L : Nat) (xs : Nat → Int32) (H0 : Heap) (hL : L ≤ 260) : hoM l yL_holds wsL_holds ({ frames := 10, cells := 3700, slots := 25000, locals := 253 }) D sb L xs H0 := by
  unfold hoM
  refine Met.ofW (cc := cL_holds) (maxL := 11) (ret := some .boolean) (by decide) rfl ?_
  intro p e s m args below meth c s₁ B9 hml hv
  obtain ⟨rfl, hH, hK0, hT, hX, hbl⟩ := hv
  rw [hH, lg_entry_eq]
  have hx := B9.exec
  have hb := B9.bytes
  have hr := B9.returns
  have hown : s.vm.findClass RL = some m.cls := findClass_of_methodNamed B9.named
  have hts := atoms_spec (ws := wsL_holds) B9.pre
  have hlocks := B9.notSynchronized
  have hl := lv_entry ([.ref sb]) (n := 11) (Nat.le_of_ble_eq_true rfl)
  generalize (lg_sl ([.ref sb]) ++ List.replicate (11 - (lg_sl ([.ref sb])).length) Slot.unset).toArray = ls at hl ⊢
  generalize hargs : ([.ref sb] : List Value).toArray = args at *
  have hl : lv_has ls 11 [(0, .ref sb)] := hl
  show W p l e _ s m args below meth c H0 [] 0 0 (gQ below D (S := Unit) (fun _ => []) (fun r _ => r = 1) (fun q : Nat => H0.size ≤ q) 3700 25000 args s) (F0 m 0 ls [])
  have hA : ∀ q : Nat, H0.size ≤ q → H0.size ≤ q := fun q h => h
  have hS : va_S (fun q : Nat => H0.size ≤ q) H0 H0 [] := va_S.rf
  have hP : va_P D vwCl [] H0 := fun k q h => by simp at h
  have hD : va_D (fun q : Nat => H0.size ≤ q) [] := ⟨fun i j p q h => by simp at h, fun k q h => by simp at h⟩
  refine va_new (ci := 0) (fs := [.null, .null, .null, .int 0, .int 0, .null, .null, .int 0, .null, .null, .null, .null, .null, .null, .null]) (C := RX0) (T := TX0) (N := 15) hx hb hts inX0h tyX0 tyX0_ok hown (hts (.classLink RL 56 RX0) (by decide +kernel)) (hts (.instantiable RX0 15) (by decide +kernel)) (hts (.initialized RX0) (by decide +kernel)) hK0 hP hD hS hA rfl (fun j hj => by rcases (show j = 0 ∨ j = 1 ∨ j = 2 ∨ j = 3 ∨ j = 4 ∨ j = 5 ∨ j = 6 ∨ j = 7 ∨ j = 8 ∨ j = 9 ∨ j = 10 ∨ j = 11 ∨ j = 12 ∨ j = 13 ∨ j = 14 by omega) with rfl | rfl | rfl | rfl | rfl | rfl | rfl | rfl | rfl | rfl | rfl | rfl | rfl | rfl | rfl <;> rfl) (Nat.le_of_ble_eq_true rfl) (Nat.le_of_ble_eq_true rfl) dL_holds_0 (fun h H hP hD hS => ?_)
  have hP : va_P D vwCl [(h, .inr (0, [.null, .null, .null, .int 0, .int 0, .null, .null, .int 0, .null, .null, .null, .null, .null, .null, .null]))] H := hP
  have hD : va_D (fun q : Nat => H0.size ≤ q) [(h, .inr (0, [.null, .null, .null, .int 0, .int 0, .null, .null, .int 0, .null, .null, .null, .null, .null, .null, .null]))] := hD
  refine lv_dup hx hb dL_holds_3 rfl ?_
  have hFc := va_free (wc := [(h, .inr (0, [.null, .null, .null, .int 0, .int 0, .null, .null, .int 0, .null, .null, .null, .null, .null, .null, .null]))]) hD hS hA [0] rfl
  refine va_callv (va_runI (As := []) (rest := [.ref h]) ⟨hx, hb, hml, hown, hts⟩ (c_X0_init l D h H.size) (cwI 0 hts gL_holds_X0_init rfl rfl rfl (hts (.initialized RX0) (by decide +kernel)) (hts (.methodLink RL 121 yX0_init) (by decide +kernel)) (hts (.instanceMethod yX0_init) (by decide +kernel)) rfl (by decide +kernel) ⟨Nat.le_of_ble_eq_true rfl, Nat.le_of_ble_eq_true rfl⟩) ⟨fun a U g mk q => by obtain ⟨q0, q1, qP, qK, qD⟩ := q; exact ⟨q0, q1, qP, va_K.moved (u := U) (U := U.calling g mk a) (Vm.Alike.refl U.vm) qK, qD⟩, fun U hU hW => ⟨rfl, by rw [hU], by rw [hU]; exact hP, va_K.moved hW.alike hK0, hD.weaken (fun _ _ _ _ => trivial)⟩⟩ rfl rfl hl.1 rfl (lv_room (Nat.le_of_ble_eq_true rfl)) dL_holds_4 ⟨Nat.le_of_ble_eq_true rfl, Nat.le_of_ble_eq_true rfl⟩) hS (fun q _ h => hFc q h) hFc (fun u t H1 locs ht hvm hw hB hz1 hk1 hS => ?_)
  obtain ⟨cI, cZ, a⟩ := u
  obtain ⟨hP1, hK1, hD1⟩ := hB
  rw [ht] at hP1
  have hK : va_K D vwCl (tyX cI cZ) s := va_K.moved hvm.symm hK1
  have hP : va_P D vwCl (xw cI cZ h a (fun _ _ => 0)) H1 := hP1
  have hD : va_D (fun q : Nat => H0.size ≤ q) (xw cI cZ h a (fun _ _ => 0)) := hD1.weaken (fun _ _ _ h => hFc _ h)
  refine lv_astore_n (lv' := [(1, .ref h), (0, .ref sb)]) hx hb dL_holds_7 rfl hl (by decide) rfl (fun ls hl => ?_)
  refine lv_bipush (v := 8) hx hb dL_holds_8 (by decide) ?_
  refine va_newa (atype := .int) (ty := .int) (N' := 8) (a0 := (8, .inl (fun _ => 0))) hx hb (hts (.arrayClass .int) (by decide +kernel)) rfl hK hP hD hS hA (fun _ => rfl) (by decide) (by decide) (by decide) (Nat.le_of_ble_eq_true rfl) (Nat.le_of_ble_eq_true rfl) dL_holds_10 (fun ab cJ H hK2 hP hD hS => ?_)
  obtain rfl : cI = cJ := va_sameI hK2 0 2 rfl rfl
  refine lv_astore_n (lv' := [(2, .ref ab), (1, .ref h), (0, .ref sb)]) hx hb dL_holds_12 rfl hl (by decide) rfl (fun ls hl => ?_)
  refine lv_bipush (v := 36) hx hb dL_holds_13 (by decide) ?_
  refine va_newa (atype := .int) (ty := .int) (N' := 36) (a0 := (36, .inl (fun _ => 0))) hx hb (hts (.arrayClass .int) (by decide +kernel)) rfl hK hP hD hS hA (fun _ => rfl) (by decide) (by decide) (by decide) (Nat.le_of_ble_eq_true rfl) (Nat.le_of_ble_eq_true rfl) dL_holds_15 (fun al cJ H hK2 hP hD hS => ?_)
  obtain rfl : cI = cJ := va_sameI hK2 0 2 rfl rfl
  refine lv_astore_n (lv' := [(3, .ref al), (2, .ref ab), (1, .ref h), (0, .ref sb)]) hx hb dL_holds_17 rfl hl (by decide) rfl (fun ls hl => ?_)
  refine lv_bipush (v := 48) hx hb dL_holds_18 (by decide) ?_
  refine va_newa (atype := .int) (ty := .int) (N' := 48) (a0 := (48, .inl (fun _ => 0))) hx hb (hts (.arrayClass .int) (by decide +kernel)) rfl hK hP hD hS hA (fun _ => rfl) (by decide) (by decide) (by decide) (Nat.le_of_ble_eq_true rfl) (Nat.le_of_ble_eq_true rfl) dL_holds_20 (fun at9 cJ H hK2 hP hD hS => ?_)
  obtain rfl : cI = cJ := va_sameI hK2 0 2 rfl rfl
  refine lv_astore (lv' := [(4, .ref at9), (3, .ref al), (2, .ref ab), (1, .ref h), (0, .ref sb)]) hx hb dL_holds_22 hl (by decide) rfl (fun ls hl => ?_)
  refine lv_bipush (v := 48) hx hb dL_holds_24 (by decide) ?_
  refine va_newa (atype := .int) (ty := .int) (N' := 48) (a0 := (48, .inl (fun _ => 0))) hx hb (hts (.arrayClass .int) (by decide +kernel)) rfl hK hP hD hS hA (fun _ => rfl) (by decide) (by decide) (by decide) (Nat.le_of_ble_eq_true rfl) (Nat.le_of_ble_eq_true rfl) dL_holds_26 (fun aw cJ H hK2 hP hD hS => ?_)
  obtain rfl : cI = cJ := va_sameI hK2 0 2 rfl rfl
  refine lv_astore (lv' := [(5, .ref aw), (4, .ref at9), (3, .ref al), (2, .ref ab), (1, .ref h), (0, .ref sb)]) hx hb dL_holds_28 hl (by decide) rfl (fun ls hl => ?_)
  refine lv_bipush (v := 48) hx hb dL_holds_30 (by decide) ?_
  refine va_newa (atype := .int) (ty := .int) (N' := 48) (a0 := (48, .inl (fun _ => 0))) hx hb (hts (.arrayClass .int) (by decide +kernel)) rfl hK hP hD hS hA (fun _ => rfl) (by decide) (by decide) (by decide) (Nat.le_of_ble_eq_true rfl) (Nat.le_of_ble_eq_true rfl) dL_holds_32 (fun ap cJ H hK2 hP hD hS => ?_)
  obtain rfl : cI = cJ := va_sameI hK2 0 2 rfl rfl
  refine lv_astore (lv' := [(6, .ref ap), (5, .ref aw), (4, .ref at9), (3, .ref al), (2, .ref ab), (1, .ref h), (0, .ref sb)]) hx hb dL_holds_34 hl (by decide) rfl (fun ls hl => ?_)
  refine lv_iconst (v := 3) hx hb dL_holds_36 (by decide) ?_
  refine va_newa (atype := .int) (ty := .int) (N' := 3) (a0 := (3, .inl (fun _ => 0))) hx hb (hts (.arrayClass .int) (by decide +kernel)) rfl hK hP hD hS hA (fun _ => rfl) (by decide) (by decide) (by decide) (Nat.le_of_ble_eq_true rfl) (Nat.le_of_ble_eq_true rfl) dL_holds_37 (fun am cJ H hK2 hP hD hS => ?_)
  obtain rfl : cI = cJ := va_sameI hK2 0 2 rfl rfl
  refine lv_astore (lv' := [(7, .ref am), (6, .ref ap), (5, .ref aw), (4, .ref at9), (3, .ref al), (2, .ref ab), (1, .ref h), (0, .ref sb)]) hx hb dL_holds_39 hl (by decide) rfl (fun ls hl => ?_)
  refine lv_iconst (v := 1) hx hb dL_holds_41 (by decide) ?_
  refine lv_istore (lv' := [(8, .int 1), (7, .ref am), (6, .ref ap), (5, .ref aw), (4, .ref at9), (3, .ref al), (2, .ref ab), (1, .ref h), (0, .ref sb)]) hx hb dL_holds_42 hl (by decide) rfl (fun ls hl => ?_)
  refine lv_iconst (v := 0) hx hb dL_holds_44 (by decide) ?_
  refine lv_istore (lv' := [(9, .int 0), (8, .int 1), (7, .ref am), (6, .ref ap), (5, .ref aw), (4, .ref at9), (3, .ref al), (2, .ref ab), (1, .ref h), (0, .ref sb)]) hx hb dL_holds_45 hl (by decide) rfl (fun ls hl => ?_)
  have hP : va_P D vwCl (fw cI cZ h a (fun _ _ => 0) ab al at9 aw ap am (fun _ => 0) (fun _ => 0) (fun _ => 0)) H := hP
  have hD : va_D (fun q : Nat => H0.size ≤ q) (fw cI cZ h a (fun _ _ => 0) ab al at9 aw ap am (fun _ => 0) (fun _ => 0) (fun _ => 0)) := hD
  suffices K : ∀ (n i9 : Nat) (σ : St) (bf lf mf : Nat → Int32) (nL nB : Nat) (H : Heap) (locs : List Loc) (ls : Array Slot), i9 + n = 70 → inv σ nL nB → lrel σ nL nB bf lf mf → ((i9 = 0 ∧ nB = 0) ∨ 1 ≤ nB) → va_P D vwCl (fw cI cZ h a σ ab al at9 aw ap am bf lf mf) H → va_D (fun q : Nat => H0.size ≤ q) (fw cI cZ h a σ ab al at9 aw ap am bf lf mf) → va_S (fun q : Nat => H0.size ≤ q) H0 H locs → lv_has ls 11 [(9, .int (nI i9)), (8, .int 1), (0, .ref sb), (1, .ref h), (2, .ref ab), (3, .ref al), (4, .ref at9), (5, .ref aw), (6, .ref ap), (7, .ref am)] → W p l e ({ frames := 10, cells := 3700, slots := 25000, locals := 253 }) s m args below meth c H locs (19 + 52 * i9) (432 + 342 * i9) (gQ below D (S := Unit) (fun _ => []) (fun r _ => r = 1) (fun q : Nat => H0.size ≤ q) 3700 25000 args s) (F0 m 47 ls []) by
    have hI : inv (fun _ _ => 0) 0 0 := ⟨rfl, by omega, rfl, by omega, fun t _ => by show -200 ≤ (0 : Int32).toInt ∧ _; rw [show (0 : Int32).toInt = 0 from rfl]; omega, fun b hb => absurd hb (Nat.not_lt_zero b), fun j hj => absurd hj (Nat.not_lt_zero j)⟩
    have hR : lrel (fun _ _ => 0) 0 0 (fun _ => 0) (fun _ => 0) (fun _ => 0) := ⟨⟨by omega, by omega⟩, ⟨rfl, rfl, rfl⟩, fun b hb => absurd hb (Nat.not_lt_zero b), fun j hj => absurd hj (Nat.not_lt_zero j)⟩
    exact K 70 0 (fun _ _ => 0) (fun _ => 0) (fun _ => 0) (fun _ => 0) 0 0 H _ ls rfl hI hR (Or.inl ⟨rfl, rfl⟩) hP hD hS (lv_sub hl [0, 1, 9, 8, 7, 6, 5, 4, 3, 2] rfl)
  intro n
  induction n with
  | zero =>
    intro i9 σ bf lf mf nL nB H locs ls hi9 hI hR hB hP hD hS hl
    refine lv_iload hx hb dL_holds_47 (lv_at hl 0 rfl) ?_
    refine lv_bipush (v := 70) hx hb dL_holds_49 (by decide) ?_
    refine lv_icmp_ge (tgt := 216) hx hb dL_holds_51 (by decide) (fun c51 => ?_) (fun c51 => ?_)
    · refine lv_iload hx hb dL_holds_216 (lv_at hl 1 rfl) ?_
      exact g_zret (v := 1) () hx hb hr hlocks hH hS (fun k q h => by simp at h) ⟨true, rfl⟩ rfl dL_holds_218 (by omega) (by omega)
    · exact absurd (nI_le (a := 70) (b := i9) (by omega) (by omega)) c51
  | succ n ih =>
    intro i9 σ bf lf mf nL nB H locs ls hi9 hI hR hB hP hD hS hl
    refine lv_iload hx hb dL_holds_47 (lv_at hl 0 rfl) ?_
    refine lv_bipush (v := 70) hx hb dL_holds_49 (by decide) ?_
    refine lv_icmp_ge (tgt := 216) hx hb dL_holds_51 (by decide) (fun c51 => ?_) (fun c51 => ?_)
    · exact absurd c51 (nI_ge (a := i9) (b := 70) (by omega) (by omega))
    · refine lv_iload hx hb dL_holds_54 (lv_at hl 1 rfl) ?_
      refine lv_if_eq (tgt := 216) hx hb dL_holds_56 (by decide) (fun c56 => ?_) (fun c56 => ?_)
      · exact absurd c56 (by decide)
      · refine lv_aload_n hx hb dL_holds_59 rfl (lv_at hl 2 rfl) ?_
        refine lv_iconst (v := 2) hx hb dL_holds_60 (by decide) ?_
        refine lv_iload hx hb dL_holds_61 (lv_at hl 0 rfl) ?_
        refine lv_imul hx hb dL_holds_63 ?_
        refine lv_topi (fun y9 e9 => ?_)
        rw [show y9 = (nI (2 * i9)) from e9.trans (pk_mul 2 i9)]
        refine lv_iconst (v := 1) hx hb dL_holds_64 (by decide) ?_
        refine lv_iadd hx hb dL_holds_65 ?_
        refine lv_topi (fun y9 e9 => ?_)
        rw [show y9 = (nI (2 * i9 + 1)) from e9.trans (nI_add (2 * i9) 1)]
        refine lv_ldc (v := (100000000)) hx hb hown (hts (.constant RL 122 (100000000)) (by decide +kernel)) dL_holds_66 ?_
        refine ro_go (va_runS (As := [.ref sb, .int (nI (2 * i9 + 1)), .int 100000000]) (rest := []) ⟨hx, hb, hml, hown, hts⟩ (c_L_from l sb L xs _ hL (2 * i9 + 1) 100000000 (by omega) (by omega) (by omega)) (va_cwS 3 hts gL_holds_L_from rfl rfl rfl (by decide +kernel) ⟨Nat.le_of_ble_eq_true rfl, Nat.le_of_ble_eq_true rfl⟩) ⟨fr_blind, fun U hU hWm => ⟨rfl, hU, (hX.kept (hS.2.1 sb hbl (Nat.not_le.mpr hbl))).moved hWm.alike, Nat.lt_of_lt_of_le hbl hS.1⟩⟩ rfl rfl hl.1 rfl (lv_room (Nat.le_of_ble_eq_true rfl)) dL_holds_68 ⟨by show 19 + 52 * i9 ≤ 3700; omega, by show 432 + 342 * i9 ≤ 25000; omega⟩) (fun zf hzf => ?_)
        obtain ⟨zfz, hzfz, rfl⟩ := hzf
        refine lv_istore (lv' := [(10, .int (nI zfz)), (9, .int (nI i9)), (8, .int 1), (0, .ref sb), (1, .ref h), (2, .ref ab), (3, .ref al), (4, .ref at9), (5, .ref aw), (6, .ref ap), (7, .ref am)]) hx hb dL_holds_71 hl (by decide) rfl (fun ls hl => ?_)
        have h203 : ∀ (σ2 : St) (bf2 lf2 mf2 : Nat → Int32) (nL2 nB2 : Nat) (H2 : Heap) (locs2 : List Loc) (ls : Array Slot), inv σ2 nL2 nB2 → lrel σ2 nL2 nB2 bf2 lf2 mf2 → 1 ≤ nB2 → va_P D vwCl (fw cI cZ h a σ2 ab al at9 aw ap am bf2 lf2 mf2) H2 → va_S (fun q : Nat => H0.size ≤ q) H0 H2 locs2 → lv_has ls 11 [(10, .int (nI zfz)), (9, .int (nI i9)), (8, .int 1), (0, .ref sb), (1, .ref h), (2, .ref ab), (3, .ref al), (4, .ref at9), (5, .ref aw), (6, .ref ap), (7, .ref am)] → W p l e ({ frames := 10, cells := 3700, slots := 25000, locals := 253 }) s m args below meth c H2 locs2 (19 + 52 * (i9 + 1)) (432 + 342 * (i9 + 1)) (gQ below D (S := Unit) (fun _ => []) (fun r _ => r = 1) (fun q : Nat => H0.size ≤ q) 3700 25000 args s) (F0 m 203 ls []) := by
          intro σ2 bf2 lf2 mf2 nL2 nB2 H2 locs2 ls hI2 hR2 hB2 hP2 hS2 hl
          refine lv_iconst (v := 1) hx hb dL_holds_203 (by decide) ?_
          refine lv_goto (tgt := 208) hx hb dL_holds_204 (by decide) ?_
          refine lv_istore (lv' := [(8, .int 1), (10, .int (nI zfz)), (9, .int (nI i9)), (0, .ref sb), (1, .ref h), (2, .ref ab), (3, .ref al), (4, .ref at9), (5, .ref aw), (6, .ref ap), (7, .ref am)]) hx hb dL_holds_208 hl (by decide) rfl (fun ls hl => ?_)
          refine lv_iinc (v := (nI (i9 + 1))) (lv' := [(9, .int (nI (i9 + 1))), (8, .int 1), (10, .int (nI zfz)), (0, .ref sb), (1, .ref h), (2, .ref ab), (3, .ref al), (4, .ref at9), (5, .ref aw), (6, .ref ap), (7, .ref am)]) hx hb dL_holds_210 hl (k := 2) rfl (by exact nI_add _ 1) (by decide) rfl (fun ls hl => ?_)
          refine lv_goto (tgt := 47) hx hb dL_holds_213 (by decide) ?_
          exact ih (i9 + 1) σ2 bf2 lf2 mf2 nL2 nB2 H2 locs2 ls (by omega) hI2 hR2 (Or.inr hB2) hP2 (va_D_ad (W := (fw cI cZ h a σ ab al at9 aw ap am bf lf mf)) (W' := (fw cI cZ h a σ2 ab al at9 aw ap am bf2 lf2 mf2)) rfl hD) hS2 (lv_sub hl [0, 1, 3, 4, 5, 6, 7, 8, 9, 10] rfl)
        have h174 : ∀ (σ2 : St) (bf2 lf2 mf2 : Nat → Int32) (nL2 nB2 : Nat) (H2 : Heap) (locs2 : List Loc) (ls : Array Slot), inv σ2 nL2 nB2 → lrel σ2 nL2 nB2 bf2 lf2 mf2 → 1 ≤ nB2 → va_P D vwCl (fw cI cZ h a σ2 ab al at9 aw ap am bf2 lf2 mf2) H2 → va_S (fun q : Nat => H0.size ≤ q) H0 H2 locs2 → lv_has ls 11 [(10, .int (nI zfz)), (9, .int (nI i9)), (8, .int 1), (0, .ref sb), (1, .ref h), (2, .ref ab), (3, .ref al), (4, .ref at9), (5, .ref aw), (6, .ref ap), (7, .ref am)] → W p l e ({ frames := 10, cells := 3700, slots := 25000, locals := 253 }) s m args below meth c H2 locs2 (19 + 52 * i9 + 2) (432 + 342 * i9 + 12) (gQ below D (S := Unit) (fun _ => []) (fun r _ => r = 1) (fun q : Nat => H0.size ≤ q) 3700 25000 args s) (F0 m 174 ls []) := by
          intro σ2 bf2 lf2 mf2 nL2 nB2 H2 locs2 ls hI2 hR2 hB2 hP2 hS2 hl
          refine lv_iload hx hb dL_holds_174 (lv_at hl 1 rfl) ?_
          refine lv_bipush (v := 14) hx hb dL_holds_176 (by decide) ?_
          refine lv_irem hx hb dL_holds_178 (by decide) ?_
          refine lv_topi (fun y9 e9 => ?_)
          rw [show y9 = (nI (i9 % 14)) from e9.trans (pk_rem (a := i9) (d := 14) (by omega) (by omega) (by omega))]
          refine lv_bipush (v := 13) hx hb dL_holds_179 (by decide) ?_
          refine lv_icmp_lt (tgt := 203) hx hb dL_holds_181 (by decide) (fun c181 => ?_) (fun c181 => ?_)
          · refine W.widen (k := 19 + 52 * (i9 + 1)) (n := 432 + 342 * (i9 + 1)) (by omega) (by omega) ?_
            exact h203 σ2 bf2 lf2 mf2 nL2 nB2 H2 locs2 ls hI2 hR2 hB2 hP2 hS2 hl
          · refine lv_aload_n hx hb dL_holds_184 rfl (lv_at hl 4 rfl) ?_
            refine lv_aload_n hx hb dL_holds_185 rfl (lv_at hl 5 rfl) ?_
            refine lv_aload_n hx hb dL_holds_186 rfl (lv_at hl 6 rfl) ?_
            refine lv_aload hx hb dL_holds_187 (lv_at hl 7 rfl) ?_
            refine lv_aload hx hb dL_holds_189 (lv_at hl 8 rfl) ?_
            refine lv_aload hx hb dL_holds_191 (lv_at hl 9 rfl) ?_
            refine lv_aload hx hb dL_holds_193 (lv_at hl 10 rfl) ?_
            refine lv_iload hx hb dL_holds_195 (lv_at hl 0 rfl) ?_
            have hD2 : va_D (fun q : Nat => H0.size ≤ q) (fw cI cZ h a σ2 ab al at9 aw ap am bf2 lf2 mf2) := va_D_ad (W := (fw cI cZ h a σ ab al at9 aw ap am bf lf mf)) (W' := (fw cI cZ h a σ2 ab al at9 aw ap am bf2 lf2 mf2)) rfl hD
            refine hg_callS 8 hx hb hml hown hts hl.1 hP2 hK (tpA_kept hT hS2) hS2 (fun q h => h) (As := [.ref h, .ref ab, .ref al, .ref at9, .ref aw, .ref ap, .ref am, .int (nI zfz)]) (rest := []) (c_L_arePlans l hfl D cI cZ h a ab al at9 aw ap am bf2 lf2 mf2 H2 (fun q : Nat => H0.size ≤ q) σ2 hI2 hR2 hD2 (fun q hq => Nat.le_trans hS2.1 hq) zfz (by omega)) gL_holds_L_arePlans rfl rfl rfl (by decide +kernel) ⟨Nat.le_of_ble_eq_true rfl, Nat.le_of_ble_eq_true rfl⟩ rfl rfl (Nat.le_of_ble_eq_true rfl) dL_holds_197 ⟨by show 19 + 52 * i9 + 2 + 50 ≤ 3700; omega, by show 432 + 342 * i9 + 12 + 330 ≤ 25000; omega⟩ (fun r3 g3 H3 locs3 hp3 hP3 hS3 hz3 hk3 => ?_)
            subst hp3
            refine lv_if_eq (tgt := 207) hx hb dL_holds_200 (by decide) (fun c200 => ?_) (fun c200 => ?_)
            · exact absurd c200 (by decide)
            · refine W.widen (k := 19 + 52 * (i9 + 1)) (n := 432 + 342 * (i9 + 1)) (by omega) (by omega) ?_
              exact h203 (st σ2 14 g3) bf2 lf2 mf2 nL2 nB2 H3 locs3 ls hI2 hR2 hB2 hP3 hS3 hl
        have hs : ∀ (way : Nat) (ls : Array Slot), way < 14 → ((way = 0 ∧ nB < 4) ∨ 1 ≤ nB) → lv_has ls 11 [(10, .int (nI zfz)), (9, .int (nI i9)), (8, .int 1), (0, .ref sb), (1, .ref h), (2, .ref ab), (3, .ref al), (4, .ref at9), (5, .ref aw), (6, .ref ap), (7, .ref am)] → W p l e ({ frames := 10, cells := 3700, slots := 25000, locals := 253 }) s m args below meth c H locs (19 + 52 * i9) (432 + 342 * i9) (gQ below D (S := Unit) (fun _ => []) (fun r _ => r = 1) (fun q : Nat => H0.size ≤ q) 3700 25000 args s) (F0 m 114 ls [.int (nI way), .ref am, .ref ap, .ref aw, .ref at9, .ref al, .ref ab, .ref h]) := by
          intro way ls hway hBw hl
          refine lv_iload hx hb dL_holds_114 (lv_at hl 0 rfl) ?_
          refine hg_callS 9 hx hb hml hown hts hl.1 hP hK (tpA_kept hT hS) hS (fun q h => h) (As := [.ref h, .ref ab, .ref al, .ref at9, .ref aw, .ref ap, .ref am, .int (nI way), .int (nI zfz)]) (rest := []) (c_L_acts l hfl D cI cZ h a ab al at9 aw ap am bf lf mf H (fun q : Nat => H0.size ≤ q) σ hI hR hD (fun q hq => Nat.le_trans hS.1 hq) way zfz hway (by omega) hBw) gL_holds_L_acts rfl rfl rfl (by decide +kernel) ⟨Nat.le_of_ble_eq_true rfl, Nat.le_of_ble_eq_true rfl⟩ rfl rfl (Nat.le_of_ble_eq_true rfl) dL_holds_116 ⟨by show 19 + 52 * i9 + 2 ≤ 3700; omega, by show 432 + 342 * i9 + 12 ≤ 25000; omega⟩ (fun r1 u2 H2 locs2 hp1 hP2 hS2 hz2 hk2 => ?_)
          obtain ⟨σ2, bf2, lf2, mf2⟩ := u2
          obtain ⟨hr1, nL2, nB2, hI2, hR2, hB2⟩ := hp1
          subst hr1
          have hI2 : inv σ2 nL2 nB2 := hI2
          have hR2 : lrel σ2 nL2 nB2 bf2 lf2 mf2 := hR2
          have hP2 : va_P D vwCl (fw cI cZ h a σ2 ab al at9 aw ap am bf2 lf2 mf2) H2 := hP2
          refine lv_if_eq (tgt := 207) hx hb dL_holds_119 (by decide) (fun c119 => ?_) (fun c119 => ?_)
          · exact absurd c119 (by decide)
          · refine lv_iload hx hb dL_holds_122 (lv_at hl 1 rfl) ?_
            refine lv_iconst (v := 3) hx hb dL_holds_124 (by decide) ?_
            refine lv_irem hx hb dL_holds_125 (by decide) ?_
            refine lv_topi (fun y9 e9 => ?_)
            rw [show y9 = (nI (i9 % 3)) from e9.trans (pk_rem (a := i9) (d := 3) (by omega) (by omega) (by omega))]
            refine lv_iconst (v := 2) hx hb dL_holds_126 (by decide) ?_
            refine lv_icmp_lt (tgt := 174) hx hb dL_holds_127 (by decide) (fun c127 => ?_) (fun c127 => ?_)
            · exact h174 σ2 bf2 lf2 mf2 nL2 nB2 H2 locs2 ls hI2 hR2 hB2 hP2 hS2 hl
            · refine lv_aload_n hx hb dL_holds_130 rfl (lv_at hl 4 rfl) ?_
              refine lv_aload_n hx hb dL_holds_131 rfl (lv_at hl 5 rfl) ?_
              refine lv_aload_n hx hb dL_holds_132 rfl (lv_at hl 6 rfl) ?_
              refine lv_aload hx hb dL_holds_133 (lv_at hl 7 rfl) ?_
              refine lv_aload hx hb dL_holds_135 (lv_at hl 8 rfl) ?_
              refine lv_aload hx hb dL_holds_137 (lv_at hl 9 rfl) ?_
              refine lv_aload hx hb dL_holds_139 (lv_at hl 10 rfl) ?_
              have h164 : ∀ (hr9 : Nat) (ls : Array Slot), hr9 < 48 → lv_has ls 11 [(10, .int (nI zfz)), (9, .int (nI i9)), (8, .int 1), (0, .ref sb), (1, .ref h), (2, .ref ab), (3, .ref al), (4, .ref at9), (5, .ref aw), (6, .ref ap), (7, .ref am)] → W p l e ({ frames := 10, cells := 3700, slots := 25000, locals := 253 }) s m args below meth c H2 locs2 (19 + 52 * i9 + 2) (432 + 342 * i9 + 12) (gQ below D (S := Unit) (fun _ => []) (fun r _ => r = 1) (fun q : Nat => H0.size ≤ q) 3700 25000 args s) (F0 m 164 ls [.int (nI hr9), .ref am, .ref ap, .ref aw, .ref at9, .ref al, .ref ab, .ref h]) := by
                intro hr9 ls hhr hl
                refine lv_iload hx hb dL_holds_164 (lv_at hl 0 rfl) ?_
                refine lv_iconst (v := 5) hx hb dL_holds_166 (by decide) ?_
                refine lv_idiv hx hb dL_holds_167 (by decide) ?_
                refine lv_topi (fun y9 e9 => ?_)
                rw [show y9 = (nI (zfz / 5)) from e9.trans (pk_div (a := zfz) (d := 5) (by omega) (by omega) (by omega))]
                refine ro_callS 9 hx hb hml hown hts hl.1 hP2 hK (As := [.ref h, .ref ab, .ref al, .ref at9, .ref aw, .ref ap, .ref am, .int (nI hr9), .int (nI (zfz / 5))]) (rest := []) (c_L_isTold l D cI cZ h a ab al at9 aw ap am bf2 lf2 mf2 H2 σ2 hI2 hR2 hr9 (zfz / 5) hhr (by omega)) gL_holds_L_isTold rfl rfl rfl (by decide +kernel) ⟨Nat.le_of_ble_eq_true rfl, Nat.le_of_ble_eq_true rfl⟩ rfl rfl (Nat.le_of_ble_eq_true rfl) dL_holds_168 ⟨by show 19 + 52 * i9 + 2 ≤ 3700; omega, by show 432 + 342 * i9 + 12 ≤ 25000; omega⟩ (fun r2 hr2 => ?_)
                subst hr2
                refine lv_if_eq (tgt := 207) hx hb dL_holds_171 (by decide) (fun c171 => ?_) (fun c171 => ?_)
                · exact absurd c171 (by decide)
                · exact h174 σ2 bf2 lf2 mf2 nL2 nB2 H2 locs2 ls hI2 hR2 hB2 hP2 hS2 hl
              refine lv_iload hx hb dL_holds_141 (lv_at hl 0 rfl) ?_
              refine lv_iconst (v := 3) hx hb dL_holds_143 (by decide) ?_
              refine lv_irem hx hb dL_holds_144 (by decide) ?_
              refine lv_topi (fun y9 e9 => ?_)
              rw [show y9 = (nI (zfz % 3)) from e9.trans (pk_rem (a := zfz) (d := 3) (by omega) (by omega) (by omega))]
              refine lv_if_ne (tgt := 158) hx hb dL_holds_145 (by decide) (fun c145 => ?_) (fun c145 => ?_)
              · refine lv_iload hx hb dL_holds_158 (lv_at hl 0 rfl) ?_
                refine lv_iconst (v := 3) hx hb dL_holds_160 (by decide) ?_
                refine lv_idiv hx hb dL_holds_161 (by decide) ?_
                refine lv_topi (fun y9 e9 => ?_)
                rw [show y9 = (nI (zfz / 3)) from e9.trans (pk_div (a := zfz) (d := 3) (by omega) (by omega) (by omega))]
                refine lv_iconst (v := 4) hx hb dL_holds_162 (by decide) ?_
                refine lv_irem hx hb dL_holds_163 (by decide) ?_
                refine lv_topi (fun y9 e9 => ?_)
                rw [show y9 = (nI ((zfz / 3) % 4)) from e9.trans (pk_rem (a := (zfz / 3)) (d := 4) (by omega) (by omega) (by omega))]
                exact h164 _ ls (by omega) hl
              · refine lv_iload hx hb dL_holds_148 (lv_at hl 0 rfl) ?_
                refine lv_iconst (v := 3) hx hb dL_holds_150 (by decide) ?_
                refine lv_idiv hx hb dL_holds_151 (by decide) ?_
                refine lv_topi (fun y9 e9 => ?_)
                rw [show y9 = (nI (zfz / 3)) from e9.trans (pk_div (a := zfz) (d := 3) (by omega) (by omega) (by omega))]
                refine lv_bipush (v := 48) hx hb dL_holds_152 (by decide) ?_
                refine lv_irem hx hb dL_holds_154 (by decide) ?_
                refine lv_topi (fun y9 e9 => ?_)
                rw [show y9 = (nI ((zfz / 3) % 48)) from e9.trans (pk_rem (a := (zfz / 3)) (d := 48) (by omega) (by omega) (by omega))]
                refine lv_goto (tgt := 164) hx hb dL_holds_155 (by decide) ?_
                exact h164 _ ls (by omega) hl
        refine lv_aload_n hx hb dL_holds_73 rfl (lv_at hl 4 rfl) ?_
        refine lv_aload_n hx hb dL_holds_74 rfl (lv_at hl 5 rfl) ?_
        refine lv_aload_n hx hb dL_holds_75 rfl (lv_at hl 6 rfl) ?_
        refine lv_aload hx hb dL_holds_76 (lv_at hl 7 rfl) ?_
        refine lv_aload hx hb dL_holds_78 (lv_at hl 8 rfl) ?_
        refine lv_aload hx hb dL_holds_80 (lv_at hl 9 rfl) ?_
        refine lv_aload hx hb dL_holds_82 (lv_at hl 10 rfl) ?_
        refine lv_iload hx hb dL_holds_84 (lv_at hl 1 rfl) ?_
        refine lv_iconst (v := 2) hx hb dL_holds_86 (by decide) ?_
        refine lv_icmp_ge (tgt := 94) hx hb dL_holds_87 (by decide) (fun c87 => ?_) (fun c87 => ?_)
        · refine lv_iload hx hb dL_holds_94 (lv_at hl 1 rfl) ?_
          refine lv_iconst (v := 5) hx hb dL_holds_96 (by decide) ?_
          refine lv_icmp_ge (tgt := 104) hx hb dL_holds_97 (by decide) (fun c97 => ?_) (fun c97 => ?_)
          · refine lv_aload_n hx hb dL_holds_104 rfl (lv_at hl 3 rfl) ?_
            refine lv_iconst (v := 2) hx hb dL_holds_105 (by decide) ?_
            refine lv_iload hx hb dL_holds_106 (lv_at hl 1 rfl) ?_
            refine lv_imul hx hb dL_holds_108 ?_
            refine lv_topi (fun y9 e9 => ?_)
            rw [show y9 = (nI (2 * i9)) from e9.trans (pk_mul 2 i9)]
            refine lv_bipush (v := 14) hx hb dL_holds_109 (by decide) ?_
            refine ro_go (va_runS (As := [.ref sb, .int (nI (2 * i9)), .int 14]) (rest := [.ref am, .ref ap, .ref aw, .ref at9, .ref al, .ref ab, .ref h]) ⟨hx, hb, hml, hown, hts⟩ (c_L_from l sb L xs _ hL (2 * i9) 14 (by omega) (by omega) (by omega)) (va_cwS 3 hts gL_holds_L_from rfl rfl rfl (by decide +kernel) ⟨Nat.le_of_ble_eq_true rfl, Nat.le_of_ble_eq_true rfl⟩) ⟨fr_blind, fun U hU hWm => ⟨rfl, hU, (hX.kept (hS.2.1 sb hbl (Nat.not_le.mpr hbl))).moved hWm.alike, Nat.lt_of_lt_of_le hbl hS.1⟩⟩ rfl rfl hl.1 rfl (lv_room (Nat.le_of_ble_eq_true rfl)) dL_holds_111 ⟨by show 19 + 52 * i9 ≤ 3700; omega, by show 432 + 342 * i9 ≤ 25000; omega⟩) (fun wy hwy => ?_)
            obtain ⟨wyz, hwyz, rfl⟩ := hwy
            have h2 : 2 ≤ i9 := (nI_leI (a := 2) (b := i9) (by omega) (by omega)).mp c87
            exact hs wyz ls hwyz (hB.elim (fun q => absurd q.1 (by omega)) Or.inr) hl
          · have h2 : 2 ≤ i9 := (nI_leI (a := 2) (b := i9) (by omega) (by omega)).mp c87
            refine lv_iconst (v := 1) hx hb dL_holds_100 (by decide) ?_
            refine lv_goto (tgt := 114) hx hb dL_holds_101 (by decide) ?_
            exact hs 1 ls (by omega) (hB.elim (fun q => absurd q.1 (by omega)) Or.inr) hl
        · refine lv_iconst (v := 0) hx hb dL_holds_90 (by decide) ?_
          refine lv_goto (tgt := 114) hx hb dL_holds_91 (by decide) ?_
          exact hs 0 ls (by omega) (hB.elim (fun q => Or.inl ⟨rfl, by omega⟩) Or.inr) hl
set_option maxHeartbeats 4000000 in
set_option maxRecDepth 100000 in
theorem c_L_isHeld (l : Launch) (hfl : l.stackTraces = false) (D : va_G) (sb L : Nat) (xs : Nat → Int32) (H0 : Heap) (hL : L ≤ 260) : hoM l yL_isHeld wsL_isHeld ({ frames := 11, cells := 3700, slots := 25000, locals := 283 }) D sb L xs H0 := by
  unfold hoM
  refine cw_of (cc := cL_isHeld) (maxL := 2) (ret := some .boolean) (by decide) rfl (Nat.le_of_ble_eq_true rfl) (fun U q => q.1) ?_
  intro p e s m args below meth c he htab hB0 ls hl
  obtain ⟨hH, hK0, hT, hX, hbl⟩ := hB0
  obtain ⟨hx, hb, hr, hml, hown, hts, hlocks⟩ := he
  have hown : s.vm.findClass RL = some m.cls := hown
  have hS : va_S (fun q : Nat => H0.size ≤ q) H0 H0 [] := va_S.rf
  have hl : lv_has ls 2 [(0, .ref sb)] := hl
  refine lv_aload_n hx hb dL_isHeld_0 rfl (lv_at hl 0 rfl) ?_
  refine va_calli (va_runS (As := [.ref sb]) (rest := []) ⟨hx, hb, hml, hown, hts⟩ (c_L_holds l hfl D sb L xs H0 hL) (va_cwS 1 hts gL_isHeld_L_holds rfl rfl rfl (by decide +kernel) ⟨Nat.le_of_ble_eq_true rfl, Nat.le_of_ble_eq_true rfl⟩) ⟨ho_blind, fun U hU hWm => ⟨rfl, hU, va_K.moved hWm.alike hK0, tpA_warm hWm hT, hX.moved hWm.alike, hbl⟩⟩ rfl rfl hl.1 rfl (lv_room (Nat.le_of_ble_eq_true rfl)) dL_isHeld_1 ⟨Nat.le_of_ble_eq_true rfl, Nat.le_of_ble_eq_true rfl⟩) hS (fun q _ h => h) (fun q h => h) (fun r u t H1 locs1 ht _ hp hB hz hk hS1 => ?_)
  subst hp
  exact g_zret (v := 1) () hx hb hr hlocks hH hS1 (fun k q h => by simp at h) ⟨true, rfl⟩ rfl dL_isHeld_4 (Nat.le_of_ble_eq_true rfl) (Nat.le_of_ble_eq_true rfl)
