/-! The law: acts: the other calls. -/
theorem upd_self (f : Nat → Int32) (i : Nat) : upd f i (f i) = f := by
  funext j
  unfold upd
  by_cases e : j = i
  · rw [if_pos e, e]
  · rw [if_neg e]
theorem nI_z {n : Nat} (h : n < 2147483648) (q : nI n = 0) : n = 0 := (nI_eq (a := n) (b := 0) (by omega) (by omega)).mp q
theorem inv_tend2 {σ : St} {nL nB j t : Nat} {v : Int32} (hI : inv σ nL nB) (hj : j < nL) (ht48 : t < 48) (iv : inR v (-100) 100 = true) : inv (st σ 12 (upd (σ 12) j (tdR σ (nI j) (nI t) v))) nL nB := by
  have hL := hI.2.1
  have q := inv_tend hI (line_nI hj (by omega)) (hour_nI ht48) iv
  rw [tN_nI (by omega)] at q
  exact q
set_option maxHeartbeats 4000000 in
set_option maxRecDepth 100000 in
theorem ac_setTide {p : Program} {l : Launch} {e : Env} {s : State} {m : MethodId} {args : Array Value} {below : List Frame} {meth : Method} {c : Code} (hfl : l.stackTraces = false) {D : va_G} {cI cZ : ClassId} {h : Nat} {a : Nat → Nat} {ab al at9 aw ap am : Nat} {bf lf mf : Nat → Int32} {H : Heap} {A : Nat → Prop} {σ : St} {nL nB : Nat} (he : roE p s m meth c args yL_acts cL_acts 15 (some .boolean) wsL_acts) (hH : s.heap = H) (hP : va_P D vwCl (fw cI cZ h a σ ab al at9 aw ap am bf lf mf) H) (hK : va_K D vwCl (tyX cI cZ) s) (hT : tpA A H s) (hD : va_D A (fw cI cZ h a σ ab al at9 aw ap am bf lf mf)) (hA : ∀ q, H.size ≤ q → A q) (hI : inv σ nL nB) (hR : lrel σ nL nB bf lf mf) {way z t : Nat} (hz : z < 100000000) (ht48 : t < 48) {ls : Array Slot} (hB1 : 1 ≤ nB) (hl : lv_has ls 15 [(9, .int (nI t)), (0, .ref h), (1, .ref ab), (2, .ref al), (3, .ref at9), (4, .ref aw), (5, .ref ap), (6, .ref am), (7, .int (nI way)), (8, .int (nI z))]) : W p l e ({ frames := 9, cells := 2, slots := 12, locals := 167 }) s m args below meth c H [] 0 0 (gQ below D (S := St × (Nat → Int32) × (Nat → Int32) × (Nat → Int32)) (fun u => fw cI cZ h a u.1 ab al at9 aw ap am u.2.1 u.2.2.1 u.2.2.2) (fun r u => r = 1 ∧ ∃ nL9 nB9 : Nat, inv u.1 nL9 nB9 ∧ lrel u.1 nL9 nB9 u.2.1 u.2.2.1 u.2.2.2 ∧ 1 ≤ nB9) A 2 12 args s) (F0 m 316 ls []) := by
  obtain ⟨hx, hb, hr, hml, hown, hts, hlocks⟩ := he
  have hown : s.vm.findClass RL = some m.cls := hown
  have hS : va_S A H H [] := va_S.rf
  have hS0 : va_S A H H [] := va_S.rf
  have hL10 : nL ≤ 10 := hI.2.1
  obtain ⟨⟨hL6, hB4⟩, ⟨hm0, hm1, hm2⟩, hRb, hRl⟩ := id hR
  have et : tN (nI t) = t := tN_nI (by omega)
  have hP : va_P D vwCl (xw cI cZ h a σ ++ lw6 cI ab al at9 aw ap am bf lf (σ 0) (σ 1) (σ 2) mf) H := hP
  refine lv_aload_n hx hb dL_acts_316 rfl (lv_at hl 4 rfl) ?_
  refine lv_iload hx hb dL_acts_317 (lv_at hl 0 rfl) ?_
  refine xa_ld hx hb hK hP 15 0 rfl rfl (j := t) (by omega) (by decide) dL_acts_319 ?_
  refine lv_istore (lv' := [(10, .int ((σ 0) t)), (9, .int (nI t)), (0, .ref h), (1, .ref ab), (2, .ref al), (3, .ref at9), (4, .ref aw), (5, .ref ap), (6, .ref am), (7, .int (nI way)), (8, .int (nI z))]) hx hb dL_acts_320 hl (by decide) rfl (fun ls hl => ?_)
  refine lv_aload_n hx hb dL_acts_322 rfl (lv_at hl 5 rfl) ?_
  refine lv_iload hx hb dL_acts_323 (lv_at hl 1 rfl) ?_
  refine lv_iload hx hb dL_acts_325 (lv_at hl 10 rfl) ?_
  refine lv_sipush (v := 150) hx hb dL_acts_327 (by decide) ?_
  refine lv_idiv hx hb dL_acts_330 (by decide) ?_
  refine lv_topi (fun y9 e9 => ?_)
  rw [show y9 = (nI (z / 150)) from e9.trans (pk_div (a := z) (d := 150) (by omega) (by omega) (by omega))]
  refine lv_sipush (v := 401) hx hb dL_acts_331 (by decide) ?_
  refine lv_irem hx hb dL_acts_334 (by decide) ?_
  refine lv_topi (fun y9 e9 => ?_)
  rw [show y9 = (nI ((z / 150) % 401)) from e9.trans (pk_rem (a := (z / 150)) (d := 401) (by omega) (by omega) (by omega))]
  refine lv_sipush (v := 200) hx hb dL_acts_335 (by decide) ?_
  refine lv_isub hx hb dL_acts_338 ?_
  obtain ⟨v, hv⟩ : ∃ y : Int32, y = nI (z / 150 % 401) - 200 := ⟨_, rfl⟩
  rw [← hv]
  have iv : inR v (-200) 200 = true := by rw [hv]; exact inR_sub (k := 200) (x := -200) (y := 200) rfl rfl rfl (by omega) (by omega) (by omega) (by omega) (by omega)
  refine xa_st hx hb hK hP hD hS 15 0 rfl rfl (j := t) (by omega) (by decide) dL_acts_339 (fun H locs hP hD hS => ?_)
  have hP : va_P D vwCl (xw cI cZ h a σ ++ lw6 cI ab al at9 aw ap am bf lf (upd (σ 0) t v) (σ 1) (σ 2) mf) H := hP
  have hD : va_D A (xw cI cZ h a σ ++ lw6 cI ab al at9 aw ap am bf lf (upd (σ 0) t v) (σ 1) (σ 2) mf) := hD
  refine lv_aload_n hx hb dL_acts_340 rfl (lv_at hl 2 rfl) ?_
  refine lv_iload hx hb dL_acts_341 (lv_at hl 1 rfl) ?_
  refine lv_aload_n hx hb dL_acts_343 rfl (lv_at hl 5 rfl) ?_
  refine lv_iload hx hb dL_acts_344 (lv_at hl 1 rfl) ?_
  refine xa_ld hx hb hK hP 15 0 rfl rfl (j := t) (by omega) (by decide) dL_acts_346 ?_
  rw [show ((upd (σ 0) t v) t) = v from pk_us]
  have hg0 : goK (inR (nI t) 0 47) (inR v (-200) 200) true = 0 := gk0 (hour_nI ht48) iv rfl
  have hPx := va_P_l hP
  have hPl := va_P_r hP
  have hDx := va_D_l hD
  have hTx := tpA_nar (tpA_kept hT hS) (B := fun q => A q ∧ notin (lw6 cI ab al at9 aw ap am bf lf (upd (σ 0) t v) (σ 1) (σ 2) mf) q) (fun q h => h.1)
  refine ok_callV 2 hx hb hml hown hts hl.1 hPx hK hTx hS (fun q h => h.1) 0 0 rfl rfl (As := [.int (nI t), .int v]) (rest := []) (c_X0_setTide l hfl D cI cZ h a σ _ _ hDx hI (nI t) v) (xcp_no hg0) gL_acts_X0_setTide rfl rfl rfl (by decide +kernel) ⟨Nat.le_of_ble_eq_true rfl, Nat.le_of_ble_eq_true rfl⟩ rfl rfl (Nat.le_of_ble_eq_true rfl) dL_acts_347 ⟨Nat.le_of_ble_eq_true rfl, Nat.le_of_ble_eq_true rfl⟩ (fun r1 ρ H locs hp1 hPx hS hk1 => ?_)
  obtain ⟨-, hr1, hρ⟩ := hp1
  rw [et] at hr1 hρ
  subst hr1
  subst hρ
  have hP : va_P D vwCl (xw cI cZ h a (st σ 0 (upd (σ 0) t v)) ++ lw6 cI ab al at9 aw ap am bf lf (upd (σ 0) t v) (σ 1) (σ 2) mf) H := va_P.app hPx (keepW hPl hk1)
  have hD : va_D A (xw cI cZ h a (st σ 0 (upd (σ 0) t v)) ++ lw6 cI ab al at9 aw ap am bf lf (upd (σ 0) t v) (σ 1) (σ 2) mf) := va_D_ad (W := (xw cI cZ h a σ ++ lw6 cI ab al at9 aw ap am bf lf (upd (σ 0) t v) (σ 1) (σ 2) mf)) (W' := (xw cI cZ h a (st σ 0 (upd (σ 0) t v)) ++ lw6 cI ab al at9 aw ap am bf lf (upd (σ 0) t v) (σ 1) (σ 2) mf)) rfl hD
  refine lv_iload hx hb dL_acts_350 (lv_at hl 0 rfl) ?_
  refine lv_icmp_ne (tgt := 359) hx hb dL_acts_352 (by decide) (fun c352 => ?_) (fun c352 => ?_)
  · exact absurd rfl c352
  · refine lv_iconst (v := 1) hx hb dL_acts_355 (by decide) ?_
    refine lv_goto (tgt := 360) hx hb dL_acts_356 (by decide) ?_
    exact g_zret (v := 1) ((st σ 0 (upd (σ 0) t v)), bf, lf, mf) hx hb hr hlocks hH hS hP ⟨true, rfl⟩ ⟨rfl, nL, nB, inv_tide hI iv, hR, hB1⟩ dL_acts_360 (Nat.le_of_ble_eq_true rfl) (Nat.le_of_ble_eq_true rfl)
set_option maxHeartbeats 4000000 in
set_option maxRecDepth 100000 in
theorem ac_setLoad {p : Program} {l : Launch} {e : Env} {s : State} {m : MethodId} {args : Array Value} {below : List Frame} {meth : Method} {c : Code} (hfl : l.stackTraces = false) {D : va_G} {cI cZ : ClassId} {h : Nat} {a : Nat → Nat} {ab al at9 aw ap am : Nat} {bf lf mf : Nat → Int32} {H : Heap} {A : Nat → Prop} {σ : St} {nL nB : Nat} (he : roE p s m meth c args yL_acts cL_acts 15 (some .boolean) wsL_acts) (hH : s.heap = H) (hP : va_P D vwCl (fw cI cZ h a σ ab al at9 aw ap am bf lf mf) H) (hK : va_K D vwCl (tyX cI cZ) s) (hT : tpA A H s) (hD : va_D A (fw cI cZ h a σ ab al at9 aw ap am bf lf mf)) (hA : ∀ q, H.size ≤ q → A q) (hI : inv σ nL nB) (hR : lrel σ nL nB bf lf mf) {way z t : Nat} (hz : z < 100000000) (ht48 : t < 48) {ls : Array Slot} (hB1 : 1 ≤ nB) (hl : lv_has ls 15 [(9, .int (nI t)), (0, .ref h), (1, .ref ab), (2, .ref al), (3, .ref at9), (4, .ref aw), (5, .ref ap), (6, .ref am), (7, .int (nI way)), (8, .int (nI z))]) : W p l e ({ frames := 9, cells := 2, slots := 12, locals := 167 }) s m args below meth c H [] 0 0 (gQ below D (S := St × (Nat → Int32) × (Nat → Int32) × (Nat → Int32)) (fun u => fw cI cZ h a u.1 ab al at9 aw ap am u.2.1 u.2.2.1 u.2.2.2) (fun r u => r = 1 ∧ ∃ nL9 nB9 : Nat, inv u.1 nL9 nB9 ∧ lrel u.1 nL9 nB9 u.2.1 u.2.2.1 u.2.2.2 ∧ 1 ≤ nB9) A 2 12 args s) (F0 m 368 ls []) := by
  obtain ⟨hx, hb, hr, hml, hown, hts, hlocks⟩ := he
  have hown : s.vm.findClass RL = some m.cls := hown
  have hS : va_S A H H [] := va_S.rf
  have hS0 : va_S A H H [] := va_S.rf
  have hL10 : nL ≤ 10 := hI.2.1
  obtain ⟨⟨hL6, hB4⟩, ⟨hm0, hm1, hm2⟩, hRb, hRl⟩ := id hR
  have et : tN (nI t) = t := tN_nI (by omega)
  have hP : va_P D vwCl (xw cI cZ h a σ ++ lw6 cI ab al at9 aw ap am bf lf (σ 0) (σ 1) (σ 2) mf) H := hP
  refine lv_aload hx hb dL_acts_368 (lv_at hl 5 rfl) ?_
  refine lv_iload hx hb dL_acts_370 (lv_at hl 0 rfl) ?_
  refine xa_ld hx hb hK hP 16 0 rfl rfl (j := t) (by omega) (by decide) dL_acts_372 ?_
  refine lv_istore (lv' := [(10, .int ((σ 1) t)), (9, .int (nI t)), (0, .ref h), (1, .ref ab), (2, .ref al), (3, .ref at9), (4, .ref aw), (5, .ref ap), (6, .ref am), (7, .int (nI way)), (8, .int (nI z))]) hx hb dL_acts_373 hl (by decide) rfl (fun ls hl => ?_)
  refine lv_iload hx hb dL_acts_375 (lv_at hl 10 rfl) ?_
  refine lv_sipush (v := 150) hx hb dL_acts_377 (by decide) ?_
  refine lv_idiv hx hb dL_acts_380 (by decide) ?_
  refine lv_topi (fun y9 e9 => ?_)
  rw [show y9 = (nI (z / 150)) from e9.trans (pk_div (a := z) (d := 150) (by omega) (by omega) (by omega))]
  refine lv_sipush (v := 401) hx hb dL_acts_381 (by decide) ?_
  refine lv_irem hx hb dL_acts_384 (by decide) ?_
  refine lv_topi (fun y9 e9 => ?_)
  rw [show y9 = (nI ((z / 150) % 401)) from e9.trans (pk_rem (a := (z / 150)) (d := 401) (by omega) (by omega) (by omega))]
  refine lv_sipush (v := 200) hx hb dL_acts_385 (by decide) ?_
  refine lv_isub hx hb dL_acts_388 ?_
  obtain ⟨v, hv⟩ : ∃ y : Int32, y = nI (z / 150 % 401) - 200 := ⟨_, rfl⟩
  rw [← hv]
  have iv : inR v (-200) 200 = true := by rw [hv]; exact inR_sub (k := 200) (x := -200) (y := 200) rfl rfl rfl (by omega) (by omega) (by omega) (by omega) (by omega)
  refine lv_istore (lv' := [(11, .int v), (10, .int ((σ 1) t)), (9, .int (nI t)), (0, .ref h), (1, .ref ab), (2, .ref al), (3, .ref at9), (4, .ref aw), (5, .ref ap), (6, .ref am), (7, .int (nI way)), (8, .int (nI z))]) hx hb dL_acts_389 hl (by decide) rfl (fun ls hl => ?_)
  refine lv_iload hx hb dL_acts_391 (lv_at hl 2 rfl) ?_
  refine lv_istore (lv' := [(12, .int (nI t)), (11, .int v), (10, .int ((σ 1) t)), (9, .int (nI t)), (0, .ref h), (1, .ref ab), (2, .ref al), (3, .ref at9), (4, .ref aw), (5, .ref ap), (6, .ref am), (7, .int (nI way)), (8, .int (nI z))]) hx hb dL_acts_393 hl (by decide) rfl (fun ls hl => ?_)
  suffices K : ∀ (n k : Nat) (H1 : Heap) (locs : List Loc) (ls : Array Slot), k + n = 48 → t ≤ k → va_P D vwCl (xw cI cZ h a σ ++ lw6 cI ab al at9 aw ap am bf lf (σ 0) (ldF (σ 1) t v k) (σ 2) mf) H1 → va_D A (xw cI cZ h a σ ++ lw6 cI ab al at9 aw ap am bf lf (σ 0) (ldF (σ 1) t v k) (σ 2) mf) → va_S A H H1 locs → lv_has ls 15 [(12, .int (nI k)), (11, .int v), (10, .int (σ 1 t)), (9, .int (nI t)), (0, .ref h), (1, .ref ab), (2, .ref al), (3, .ref at9), (4, .ref aw), (5, .ref ap), (6, .ref am), (7, .int (nI way)), (8, .int (nI z))] → W p l e ({ frames := 9, cells := 2, slots := 12, locals := 167 }) s m args below meth c H1 locs 0 0 (gQ below D (S := St × (Nat → Int32) × (Nat → Int32) × (Nat → Int32)) (fun u => fw cI cZ h a u.1 ab al at9 aw ap am u.2.1 u.2.2.1 u.2.2.2) (fun r u => r = 1 ∧ ∃ nL9 nB9 : Nat, inv u.1 nL9 nB9 ∧ lrel u.1 nL9 nB9 u.2.1 u.2.2.1 u.2.2.2 ∧ 1 ≤ nB9) A 2 12 args s) (F0 m 395 ls []) by
    exact K (48 - t) t H [] ls (by omega) (Nat.le_refl t) (by rw [ldF_0]; exact hP) (by rw [ldF_0]; exact hD) hS (lv_sub hl [0, 1, 2, 3, 4, 5, 6, 7, 8, 9, 10, 11, 12] rfl)
  intro n
  induction n with
  | zero =>
    intro k H1 locs ls hk htk hP hD hS hl
    refine lv_iload hx hb dL_acts_395 (lv_at hl 0 rfl) ?_
    refine lv_bipush (v := 48) hx hb dL_acts_397 (by decide) ?_
    refine lv_icmp_ge (tgt := 415) hx hb dL_acts_399 (by decide) (fun c399 => ?_) (fun c399 => ?_)
    · obtain rfl : k = 48 := by omega
      refine lv_aload_n hx hb dL_acts_415 rfl (lv_at hl 4 rfl) ?_
      refine lv_iload hx hb dL_acts_416 (lv_at hl 3 rfl) ?_
      refine lv_iload hx hb dL_acts_418 (lv_at hl 1 rfl) ?_
      have hg0 : goK (inR (nI t) 0 47) (inR v (-200) 200) true = 0 := gk0 (hour_nI ht48) iv rfl
      have hPx := va_P_l hP
      have hPl := va_P_r hP
      have hDx := va_D_l hD
      have hTx := tpA_nar (tpA_kept hT hS) (B := fun q => A q ∧ notin (lw6 cI ab al at9 aw ap am bf lf (σ 0) (ldF (σ 1) t v 48) (σ 2) mf) q) (fun q h => h.1)
      refine ok_callV 2 hx hb hml hown hts hl.1 hPx hK hTx hS (fun q h => h.1) 0 0 rfl rfl (As := [.int (nI t), .int v]) (rest := []) (c_X0_setLoad l hfl D cI cZ h a σ _ _ hDx hI (nI t) v) (xcp_no hg0) gL_acts_X0_setLoad rfl rfl rfl (by decide +kernel) ⟨Nat.le_of_ble_eq_true rfl, Nat.le_of_ble_eq_true rfl⟩ rfl rfl (Nat.le_of_ble_eq_true rfl) dL_acts_420 ⟨Nat.le_of_ble_eq_true rfl, Nat.le_of_ble_eq_true rfl⟩ (fun r1 ρ H locs hp1 hPx hS hk1 => ?_)
      obtain ⟨-, hr1, hρ⟩ := hp1
      rw [et] at hr1 hρ
      subst hr1
      subst hρ
      have hP : va_P D vwCl (xw cI cZ h a (st σ 1 (ldF (σ 1) t v 48)) ++ lw6 cI ab al at9 aw ap am bf lf (σ 0) (ldF (σ 1) t v 48) (σ 2) mf) H := va_P.app hPx (keepW hPl hk1)
      have hD : va_D A (xw cI cZ h a (st σ 1 (ldF (σ 1) t v 48)) ++ lw6 cI ab al at9 aw ap am bf lf (σ 0) (ldF (σ 1) t v 48) (σ 2) mf) := va_D_ad (W := (xw cI cZ h a σ ++ lw6 cI ab al at9 aw ap am bf lf (σ 0) (ldF (σ 1) t v 48) (σ 2) mf)) (W' := (xw cI cZ h a (st σ 1 (ldF (σ 1) t v 48)) ++ lw6 cI ab al at9 aw ap am bf lf (σ 0) (ldF (σ 1) t v 48) (σ 2) mf)) rfl hD
      refine lv_iload hx hb dL_acts_423 (lv_at hl 2 rfl) ?_
      refine lv_icmp_ne (tgt := 432) hx hb dL_acts_425 (by decide) (fun c425 => ?_) (fun c425 => ?_)
      · exact absurd rfl c425
      · refine lv_iconst (v := 1) hx hb dL_acts_428 (by decide) ?_
        refine lv_goto (tgt := 433) hx hb dL_acts_429 (by decide) ?_
        exact g_zret (v := 1) ((st σ 1 (ldF (σ 1) t v 48)), bf, lf, mf) hx hb hr hlocks hH hS hP ⟨true, rfl⟩ ⟨rfl, nL, nB, inv_load hI iv, hR, hB1⟩ dL_acts_433 (Nat.le_of_ble_eq_true rfl) (Nat.le_of_ble_eq_true rfl)
    · exact absurd (nI_le (a := 48) (b := k) (by omega) (by omega)) c399
  | succ n ih =>
    intro k H1 locs ls hk htk hP hD hS hl
    refine lv_iload hx hb dL_acts_395 (lv_at hl 0 rfl) ?_
    refine lv_bipush (v := 48) hx hb dL_acts_397 (by decide) ?_
    refine lv_icmp_ge (tgt := 415) hx hb dL_acts_399 (by decide) (fun c399 => ?_) (fun c399 => ?_)
    · exact absurd c399 (nI_ge (a := k) (b := 48) (by omega) (by omega))
    · refine lv_aload hx hb dL_acts_402 (lv_at hl 8 rfl) ?_
      refine lv_iload hx hb dL_acts_404 (lv_at hl 0 rfl) ?_
      refine lv_iload hx hb dL_acts_406 (lv_at hl 1 rfl) ?_
      refine xa_st hx hb hK hP hD hS 16 0 rfl rfl (j := k) (by omega) (by decide) dL_acts_408 (fun H locs hP hD hS => ?_)
      have hP : va_P D vwCl (xw cI cZ h a σ ++ lw6 cI ab al at9 aw ap am bf lf (σ 0) (upd (ldF (σ 1) t v k) k v) (σ 2) mf) H := hP
      have hD : va_D A (xw cI cZ h a σ ++ lw6 cI ab al at9 aw ap am bf lf (σ 0) (upd (ldF (σ 1) t v k) k v) (σ 2) mf) := hD
      refine lv_iinc (v := (nI (k + 1))) (lv' := [(12, .int (nI (k + 1))), (11, .int v), (10, .int (σ 1 t)), (9, .int (nI t)), (0, .ref h), (1, .ref ab), (2, .ref al), (3, .ref at9), (4, .ref aw), (5, .ref ap), (6, .ref am), (7, .int (nI way)), (8, .int (nI z))]) hx hb dL_acts_409 hl (k := 0) rfl (by exact nI_add _ 1) (by decide) rfl (fun ls hl => ?_)
      refine lv_goto (tgt := 395) hx hb dL_acts_412 (by decide) ?_
      exact ih (k + 1) H locs ls (by omega) (by omega) (by rw [← ldF_up htk]; exact hP) (by rw [← ldF_up htk]; exact hD) hS (lv_sub hl [0, 1, 2, 3, 4, 5, 6, 7, 8, 9, 10, 11, 12] rfl)
set_option maxHeartbeats 4000000 in
set_option maxRecDepth 100000 in
theorem ac_setWind {p : Program} {l : Launch} {e : Env} {s : State} {m : MethodId} {args : Array Value} {below : List Frame} {meth : Method} {c : Code} (hfl : l.stackTraces = false) {D : va_G} {cI cZ : ClassId} {h : Nat} {a : Nat → Nat} {ab al at9 aw ap am : Nat} {bf lf mf : Nat → Int32} {H : Heap} {A : Nat → Prop} {σ : St} {nL nB : Nat} (he : roE p s m meth c args yL_acts cL_acts 15 (some .boolean) wsL_acts) (hH : s.heap = H) (hP : va_P D vwCl (fw cI cZ h a σ ab al at9 aw ap am bf lf mf) H) (hK : va_K D vwCl (tyX cI cZ) s) (hT : tpA A H s) (hD : va_D A (fw cI cZ h a σ ab al at9 aw ap am bf lf mf)) (hA : ∀ q, H.size ≤ q → A q) (hI : inv σ nL nB) (hR : lrel σ nL nB bf lf mf) {way z t : Nat} (hz : z < 100000000) (ht48 : t < 48) {ls : Array Slot} (hB1 : 1 ≤ nB) (hl : lv_has ls 15 [(9, .int (nI t)), (0, .ref h), (1, .ref ab), (2, .ref al), (3, .ref at9), (4, .ref aw), (5, .ref ap), (6, .ref am), (7, .int (nI way)), (8, .int (nI z))]) : W p l e ({ frames := 9, cells := 2, slots := 12, locals := 167 }) s m args below meth c H [] 0 0 (gQ below D (S := St × (Nat → Int32) × (Nat → Int32) × (Nat → Int32)) (fun u => fw cI cZ h a u.1 ab al at9 aw ap am u.2.1 u.2.2.1 u.2.2.2) (fun r u => r = 1 ∧ ∃ nL9 nB9 : Nat, inv u.1 nL9 nB9 ∧ lrel u.1 nL9 nB9 u.2.1 u.2.2.1 u.2.2.2 ∧ 1 ≤ nB9) A 2 12 args s) (F0 m 441 ls []) := by
  obtain ⟨hx, hb, hr, hml, hown, hts, hlocks⟩ := he
  have hown : s.vm.findClass RL = some m.cls := hown
  have hS : va_S A H H [] := va_S.rf
  have hS0 : va_S A H H [] := va_S.rf
  have hL10 : nL ≤ 10 := hI.2.1
  obtain ⟨⟨hL6, hB4⟩, ⟨hm0, hm1, hm2⟩, hRb, hRl⟩ := id hR
  have et : tN (nI t) = t := tN_nI (by omega)
  have hP : va_P D vwCl (xw cI cZ h a σ ++ lw6 cI ab al at9 aw ap am bf lf (σ 0) (σ 1) (σ 2) mf) H := hP
  refine lv_aload hx hb dL_acts_441 (lv_at hl 7 rfl) ?_
  refine lv_iconst (v := 2) hx hb dL_acts_443 (by decide) ?_
  refine xa_ld hx hb hK hP 18 0 rfl rfl (j := 2) (by omega) (by decide) dL_acts_444 ?_
  rw [show (mf 2) = (σ 3 0) from hm2]
  refine lv_istore (lv' := [(10, .int (σ 3 0)), (9, .int (nI t)), (0, .ref h), (1, .ref ab), (2, .ref al), (3, .ref at9), (4, .ref aw), (5, .ref ap), (6, .ref am), (7, .int (nI way)), (8, .int (nI z))]) hx hb dL_acts_445 hl (by decide) rfl (fun ls hl => ?_)
  refine lv_aload hx hb dL_acts_447 (lv_at hl 8 rfl) ?_
  refine lv_iconst (v := 2) hx hb dL_acts_449 (by decide) ?_
  refine lv_iload hx hb dL_acts_450 (lv_at hl 10 rfl) ?_
  refine lv_iconst (v := 3) hx hb dL_acts_452 (by decide) ?_
  refine lv_irem hx hb dL_acts_453 (by decide) ?_
  refine lv_topi (fun y9 e9 => ?_)
  rw [show y9 = (nI (z % 3)) from e9.trans (pk_rem (a := z) (d := 3) (by omega) (by omega) (by omega))]
  have hs : ∀ (v : Int32) (ls : Array Slot), inR v (-1000000) 1000000 = true → lv_has ls 15 [(10, .int (σ 3 0)), (9, .int (nI t)), (0, .ref h), (1, .ref ab), (2, .ref al), (3, .ref at9), (4, .ref aw), (5, .ref ap), (6, .ref am), (7, .int (nI way)), (8, .int (nI z))] → W p l e ({ frames := 9, cells := 2, slots := 12, locals := 167 }) s m args below meth c H [] 0 0 (gQ below D (S := St × (Nat → Int32) × (Nat → Int32) × (Nat → Int32)) (fun u => fw cI cZ h a u.1 ab al at9 aw ap am u.2.1 u.2.2.1 u.2.2.2) (fun r u => r = 1 ∧ ∃ nL9 nB9 : Nat, inv u.1 nL9 nB9 ∧ lrel u.1 nL9 nB9 u.2.1 u.2.2.1 u.2.2.2 ∧ 1 ≤ nB9) A 2 12 args s) (F0 m 482 ls [.int v, .int 2, .ref am]) := by
    intro v ls iv hl
    refine xa_st hx hb hK hP hD hS 18 0 rfl rfl (j := 2) (by omega) (by decide) dL_acts_482 (fun H locs hP hD hS => ?_)
    have hP : va_P D vwCl (xw cI cZ h a σ ++ lw6 cI ab al at9 aw ap am bf lf (σ 0) (σ 1) (σ 2) (upd mf 2 v)) H := hP
    have hD : va_D A (xw cI cZ h a σ ++ lw6 cI ab al at9 aw ap am bf lf (σ 0) (σ 1) (σ 2) (upd mf 2 v)) := hD
    refine lv_aload_n hx hb dL_acts_483 rfl (lv_at hl 2 rfl) ?_
    refine lv_aload hx hb dL_acts_484 (lv_at hl 8 rfl) ?_
    refine lv_iconst (v := 2) hx hb dL_acts_486 (by decide) ?_
    refine xa_ld hx hb hK hP 18 0 rfl rfl (j := 2) (by omega) (by decide) dL_acts_487 ?_
    rw [show ((upd mf 2 v) 2) = v from pk_us]
    have hg0 : goK (inR v (-1000000) 1000000) true true = 0 := gk0 iv rfl rfl
    have hPx := va_P_l hP
    have hPl := va_P_r hP
    have hDx := va_D_l hD
    have hTx := tpA_nar (tpA_kept hT hS) (B := fun q => A q ∧ notin (lw6 cI ab al at9 aw ap am bf lf (σ 0) (σ 1) (σ 2) (upd mf 2 v)) q) (fun q h => h.1)
    refine ok_callV 1 hx hb hml hown hts hl.1 hPx hK hTx hS (fun q h => h.1) 0 0 rfl rfl (As := [.int v]) (rest := []) (c_X0_setWind l hfl D cI cZ h a σ _ _ hDx hI v) (xcp_no hg0) gL_acts_X0_setWind rfl rfl rfl (by decide +kernel) ⟨Nat.le_of_ble_eq_true rfl, Nat.le_of_ble_eq_true rfl⟩ rfl rfl (Nat.le_of_ble_eq_true rfl) dL_acts_488 ⟨Nat.le_of_ble_eq_true rfl, Nat.le_of_ble_eq_true rfl⟩ (fun r1 ρ H locs hp1 hPx hS hk1 => ?_)
    obtain ⟨-, hr1, hρ⟩ := hp1
    subst hr1
    subst hρ
    have hP : va_P D vwCl (xw cI cZ h a (st σ 3 (fun _ => v)) ++ lw6 cI ab al at9 aw ap am bf lf (σ 0) (σ 1) (σ 2) (upd mf 2 v)) H := va_P.app hPx (keepW hPl hk1)
    have hD : va_D A (xw cI cZ h a (st σ 3 (fun _ => v)) ++ lw6 cI ab al at9 aw ap am bf lf (σ 0) (σ 1) (σ 2) (upd mf 2 v)) := va_D_ad (W := (xw cI cZ h a σ ++ lw6 cI ab al at9 aw ap am bf lf (σ 0) (σ 1) (σ 2) (upd mf 2 v))) (W' := (xw cI cZ h a (st σ 3 (fun _ => v)) ++ lw6 cI ab al at9 aw ap am bf lf (σ 0) (σ 1) (σ 2) (upd mf 2 v))) rfl hD
    refine lv_iload hx hb dL_acts_491 (lv_at hl 0 rfl) ?_
    refine lv_icmp_ne (tgt := 500) hx hb dL_acts_493 (by decide) (fun c493 => ?_) (fun c493 => ?_)
    · exact absurd rfl c493
    · refine lv_iconst (v := 1) hx hb dL_acts_496 (by decide) ?_
      refine lv_goto (tgt := 501) hx hb dL_acts_497 (by decide) ?_
      exact g_zret (v := 1) ((st σ 3 (fun _ => v)), bf, lf, (upd mf 2 v)) hx hb hr hlocks hH hS hP ⟨true, rfl⟩ ⟨rfl, nL, nB, hI, lrel_wi hR v, hB1⟩ dL_acts_501 (Nat.le_of_ble_eq_true rfl) (Nat.le_of_ble_eq_true rfl)
  refine lv_if_ne (tgt := 470) hx hb dL_acts_454 (by decide) (fun c454 => ?_) (fun c454 => ?_)
  · refine lv_iload hx hb dL_acts_470 (lv_at hl 10 rfl) ?_
    refine lv_iconst (v := 3) hx hb dL_acts_472 (by decide) ?_
    refine lv_idiv hx hb dL_acts_473 (by decide) ?_
    refine lv_topi (fun y9 e9 => ?_)
    rw [show y9 = (nI (z / 3)) from e9.trans (pk_div (a := z) (d := 3) (by omega) (by omega) (by omega))]
    refine lv_sipush (v := 4001) hx hb dL_acts_474 (by decide) ?_
    refine lv_irem hx hb dL_acts_477 (by decide) ?_
    refine lv_topi (fun y9 e9 => ?_)
    rw [show y9 = (nI ((z / 3) % 4001)) from e9.trans (pk_rem (a := (z / 3)) (d := 4001) (by omega) (by omega) (by omega))]
    refine lv_sipush (v := 2000) hx hb dL_acts_478 (by decide) ?_
    refine lv_isub hx hb dL_acts_481 ?_
    exact hs _ ls (inR_sub (k := 2000) (x := -1000000) (y := 1000000) rfl rfl rfl (by omega) (by omega) (by omega) (by omega) (by omega)) (lv_sub hl [0, 1, 2, 3, 4, 5, 6, 7, 8, 9, 10] rfl)
  · refine lv_iload hx hb dL_acts_457 (lv_at hl 10 rfl) ?_
    refine lv_iconst (v := 3) hx hb dL_acts_459 (by decide) ?_
    refine lv_idiv hx hb dL_acts_460 (by decide) ?_
    refine lv_topi (fun y9 e9 => ?_)
    rw [show y9 = (nI (z / 3)) from e9.trans (pk_div (a := z) (d := 3) (by omega) (by omega) (by omega))]
    refine lv_ldc (v := (2000001)) hx hb hown (hts (.constant RL 104 (2000001)) (by decide +kernel)) dL_acts_461 ?_
    refine lv_irem hx hb dL_acts_463 (by decide) ?_
    refine lv_topi (fun y9 e9 => ?_)
    rw [show y9 = (nI ((z / 3) % 2000001)) from e9.trans (pk_rem (a := (z / 3)) (d := 2000001) (by omega) (by omega) (by omega))]
    refine lv_ldc (v := (1000000)) hx hb hown (hts (.constant RL 105 (1000000)) (by decide +kernel)) dL_acts_464 ?_
    refine lv_isub hx hb dL_acts_466 ?_
    refine lv_goto (tgt := 482) hx hb dL_acts_467 (by decide) ?_
    exact hs _ ls (inR_sub (k := 1000000) (x := -1000000) (y := 1000000) rfl rfl rfl (by omega) (by omega) (by omega) (by omega) (by omega)) (lv_sub hl [0, 1, 2, 3, 4, 5, 6, 7, 8, 9, 10] rfl)
set_option maxHeartbeats 4000000 in
set_option maxRecDepth 100000 in
theorem ac_setPassing {p : Program} {l : Launch} {e : Env} {s : State} {m : MethodId} {args : Array Value} {below : List Frame} {meth : Method} {c : Code} (hfl : l.stackTraces = false) {D : va_G} {cI cZ : ClassId} {h : Nat} {a : Nat → Nat} {ab al at9 aw ap am : Nat} {bf lf mf : Nat → Int32} {H : Heap} {A : Nat → Prop} {σ : St} {nL nB : Nat} (he : roE p s m meth c args yL_acts cL_acts 15 (some .boolean) wsL_acts) (hH : s.heap = H) (hP : va_P D vwCl (fw cI cZ h a σ ab al at9 aw ap am bf lf mf) H) (hK : va_K D vwCl (tyX cI cZ) s) (hT : tpA A H s) (hD : va_D A (fw cI cZ h a σ ab al at9 aw ap am bf lf mf)) (hA : ∀ q, H.size ≤ q → A q) (hI : inv σ nL nB) (hR : lrel σ nL nB bf lf mf) {way z t : Nat} (hz : z < 100000000) (ht48 : t < 48) {ls : Array Slot} (hB1 : 1 ≤ nB) (hl : lv_has ls 15 [(9, .int (nI t)), (0, .ref h), (1, .ref ab), (2, .ref al), (3, .ref at9), (4, .ref aw), (5, .ref ap), (6, .ref am), (7, .int (nI way)), (8, .int (nI z))]) : W p l e ({ frames := 9, cells := 2, slots := 12, locals := 167 }) s m args below meth c H [] 0 0 (gQ below D (S := St × (Nat → Int32) × (Nat → Int32) × (Nat → Int32)) (fun u => fw cI cZ h a u.1 ab al at9 aw ap am u.2.1 u.2.2.1 u.2.2.2) (fun r u => r = 1 ∧ ∃ nL9 nB9 : Nat, inv u.1 nL9 nB9 ∧ lrel u.1 nL9 nB9 u.2.1 u.2.2.1 u.2.2.2 ∧ 1 ≤ nB9) A 2 12 args s) (F0 m 509 ls []) := by
  obtain ⟨hx, hb, hr, hml, hown, hts, hlocks⟩ := he
  have hown : s.vm.findClass RL = some m.cls := hown
  have hS : va_S A H H [] := va_S.rf
  have hS0 : va_S A H H [] := va_S.rf
  have hL10 : nL ≤ 10 := hI.2.1
  obtain ⟨⟨hL6, hB4⟩, ⟨hm0, hm1, hm2⟩, hRb, hRl⟩ := id hR
  have et : tN (nI t) = t := tN_nI (by omega)
  have hP : va_P D vwCl (xw cI cZ h a σ ++ lw6 cI ab al at9 aw ap am bf lf (σ 0) (σ 1) (σ 2) mf) H := hP
  refine lv_aload hx hb dL_acts_509 (lv_at hl 6 rfl) ?_
  refine lv_iload hx hb dL_acts_511 (lv_at hl 0 rfl) ?_
  refine xa_ld hx hb hK hP 17 0 rfl rfl (j := t) (by omega) (by decide) dL_acts_513 ?_
  refine lv_istore (lv' := [(10, .int ((σ 2) t)), (9, .int (nI t)), (0, .ref h), (1, .ref ab), (2, .ref al), (3, .ref at9), (4, .ref aw), (5, .ref ap), (6, .ref am), (7, .int (nI way)), (8, .int (nI z))]) hx hb dL_acts_514 hl (by decide) rfl (fun ls hl => ?_)
  refine lv_aload hx hb dL_acts_516 (lv_at hl 7 rfl) ?_
  refine lv_iload hx hb dL_acts_518 (lv_at hl 1 rfl) ?_
  refine lv_iload hx hb dL_acts_520 (lv_at hl 10 rfl) ?_
  refine lv_sipush (v := 150) hx hb dL_acts_522 (by decide) ?_
  refine lv_idiv hx hb dL_acts_525 (by decide) ?_
  refine lv_topi (fun y9 e9 => ?_)
  rw [show y9 = (nI (z / 150)) from e9.trans (pk_div (a := z) (d := 150) (by omega) (by omega) (by omega))]
  refine lv_iconst (v := 3) hx hb dL_acts_526 (by decide) ?_
  refine lv_irem hx hb dL_acts_527 (by decide) ?_
  refine lv_topi (fun y9 e9 => ?_)
  rw [show y9 = (nI ((z / 150) % 3)) from e9.trans (pk_rem (a := (z / 150)) (d := 3) (by omega) (by omega) (by omega))]
  have hs : ∀ (v : Int32) (ls : Array Slot), inR v (-1000000) 1000000 = true → lv_has ls 15 [(10, .int (σ 2 t)), (9, .int (nI t)), (0, .ref h), (1, .ref ab), (2, .ref al), (3, .ref at9), (4, .ref aw), (5, .ref ap), (6, .ref am), (7, .int (nI way)), (8, .int (nI z))] → W p l e ({ frames := 9, cells := 2, slots := 12, locals := 167 }) s m args below meth c H [] 0 0 (gQ below D (S := St × (Nat → Int32) × (Nat → Int32) × (Nat → Int32)) (fun u => fw cI cZ h a u.1 ab al at9 aw ap am u.2.1 u.2.2.1 u.2.2.2) (fun r u => r = 1 ∧ ∃ nL9 nB9 : Nat, inv u.1 nL9 nB9 ∧ lrel u.1 nL9 nB9 u.2.1 u.2.2.1 u.2.2.2 ∧ 1 ≤ nB9) A 2 12 args s) (F0 m 560 ls [.int v, .int (nI t), .ref ap]) := by
    intro v ls iv hl
    refine xa_st hx hb hK hP hD hS 17 0 rfl rfl (j := t) (by omega) (by decide) dL_acts_560 (fun H locs hP hD hS => ?_)
    have hP : va_P D vwCl (xw cI cZ h a σ ++ lw6 cI ab al at9 aw ap am bf lf (σ 0) (σ 1) (upd (σ 2) t v) mf) H := hP
    have hD : va_D A (xw cI cZ h a σ ++ lw6 cI ab al at9 aw ap am bf lf (σ 0) (σ 1) (upd (σ 2) t v) mf) := hD
    refine lv_aload_n hx hb dL_acts_561 rfl (lv_at hl 2 rfl) ?_
    refine lv_iload hx hb dL_acts_562 (lv_at hl 1 rfl) ?_
    refine lv_aload hx hb dL_acts_564 (lv_at hl 7 rfl) ?_
    refine lv_iload hx hb dL_acts_566 (lv_at hl 1 rfl) ?_
    refine xa_ld hx hb hK hP 17 0 rfl rfl (j := t) (by omega) (by decide) dL_acts_568 ?_
    rw [show ((upd (σ 2) t v) t) = v from pk_us]
    have hg0 : goK (inR (nI t) 0 47) (inR v (-1000000) 1000000) true = 0 := gk0 (hour_nI ht48) iv rfl
    have hPx := va_P_l hP
    have hPl := va_P_r hP
    have hDx := va_D_l hD
    have hTx := tpA_nar (tpA_kept hT hS) (B := fun q => A q ∧ notin (lw6 cI ab al at9 aw ap am bf lf (σ 0) (σ 1) (upd (σ 2) t v) mf) q) (fun q h => h.1)
    refine ok_callV 2 hx hb hml hown hts hl.1 hPx hK hTx hS (fun q h => h.1) 0 0 rfl rfl (As := [.int (nI t), .int v]) (rest := []) (c_X0_setPassing l hfl D cI cZ h a σ _ _ hDx hI (nI t) v) (xcp_no hg0) gL_acts_X0_setPassing rfl rfl rfl (by decide +kernel) ⟨Nat.le_of_ble_eq_true rfl, Nat.le_of_ble_eq_true rfl⟩ rfl rfl (Nat.le_of_ble_eq_true rfl) dL_acts_569 ⟨Nat.le_of_ble_eq_true rfl, Nat.le_of_ble_eq_true rfl⟩ (fun r1 ρ H locs hp1 hPx hS hk1 => ?_)
    obtain ⟨-, hr1, hρ⟩ := hp1
    rw [et] at hr1 hρ
    subst hr1
    subst hρ
    have hP : va_P D vwCl (xw cI cZ h a (st σ 2 (upd (σ 2) t v)) ++ lw6 cI ab al at9 aw ap am bf lf (σ 0) (σ 1) (upd (σ 2) t v) mf) H := va_P.app hPx (keepW hPl hk1)
    have hD : va_D A (xw cI cZ h a (st σ 2 (upd (σ 2) t v)) ++ lw6 cI ab al at9 aw ap am bf lf (σ 0) (σ 1) (upd (σ 2) t v) mf) := va_D_ad (W := (xw cI cZ h a σ ++ lw6 cI ab al at9 aw ap am bf lf (σ 0) (σ 1) (upd (σ 2) t v) mf)) (W' := (xw cI cZ h a (st σ 2 (upd (σ 2) t v)) ++ lw6 cI ab al at9 aw ap am bf lf (σ 0) (σ 1) (upd (σ 2) t v) mf)) rfl hD
    refine lv_iload hx hb dL_acts_572 (lv_at hl 0 rfl) ?_
    refine lv_icmp_ne (tgt := 581) hx hb dL_acts_574 (by decide) (fun c574 => ?_) (fun c574 => ?_)
    · exact absurd rfl c574
    · refine lv_iconst (v := 1) hx hb dL_acts_577 (by decide) ?_
      refine lv_goto (tgt := 582) hx hb dL_acts_578 (by decide) ?_
      exact g_zret (v := 1) ((st σ 2 (upd (σ 2) t v)), bf, lf, mf) hx hb hr hlocks hH hS hP ⟨true, rfl⟩ ⟨rfl, nL, nB, hI, hR, hB1⟩ dL_acts_582 (Nat.le_of_ble_eq_true rfl) (Nat.le_of_ble_eq_true rfl)
  refine lv_if_ne (tgt := 546) hx hb dL_acts_528 (by decide) (fun c528 => ?_) (fun c528 => ?_)
  · refine lv_iload hx hb dL_acts_546 (lv_at hl 10 rfl) ?_
    refine lv_sipush (v := 450) hx hb dL_acts_548 (by decide) ?_
    refine lv_idiv hx hb dL_acts_551 (by decide) ?_
    refine lv_topi (fun y9 e9 => ?_)
    rw [show y9 = (nI (z / 450)) from e9.trans (pk_div (a := z) (d := 450) (by omega) (by omega) (by omega))]
    refine lv_sipush (v := 8001) hx hb dL_acts_552 (by decide) ?_
    refine lv_irem hx hb dL_acts_555 (by decide) ?_
    refine lv_topi (fun y9 e9 => ?_)
    rw [show y9 = (nI ((z / 450) % 8001)) from e9.trans (pk_rem (a := (z / 450)) (d := 8001) (by omega) (by omega) (by omega))]
    refine lv_sipush (v := 4000) hx hb dL_acts_556 (by decide) ?_
    refine lv_isub hx hb dL_acts_559 ?_
    exact hs _ ls (inR_sub (k := 4000) (x := -1000000) (y := 1000000) rfl rfl rfl (by omega) (by omega) (by omega) (by omega) (by omega)) (lv_sub hl [0, 1, 2, 3, 4, 5, 6, 7, 8, 9, 10] rfl)
  · refine lv_iload hx hb dL_acts_531 (lv_at hl 10 rfl) ?_
    refine lv_sipush (v := 450) hx hb dL_acts_533 (by decide) ?_
    refine lv_idiv hx hb dL_acts_536 (by decide) ?_
    refine lv_topi (fun y9 e9 => ?_)
    rw [show y9 = (nI (z / 450)) from e9.trans (pk_div (a := z) (d := 450) (by omega) (by omega) (by omega))]
    refine lv_ldc (v := (2000001)) hx hb hown (hts (.constant RL 104 (2000001)) (by decide +kernel)) dL_acts_537 ?_
    refine lv_irem hx hb dL_acts_539 (by decide) ?_
    refine lv_topi (fun y9 e9 => ?_)
    rw [show y9 = (nI ((z / 450) % 2000001)) from e9.trans (pk_rem (a := (z / 450)) (d := 2000001) (by omega) (by omega) (by omega))]
    refine lv_ldc (v := (1000000)) hx hb hown (hts (.constant RL 105 (1000000)) (by decide +kernel)) dL_acts_540 ?_
    refine lv_isub hx hb dL_acts_542 ?_
    refine lv_goto (tgt := 560) hx hb dL_acts_543 (by decide) ?_
    exact hs _ ls (inR_sub (k := 1000000) (x := -1000000) (y := 1000000) rfl rfl rfl (by omega) (by omega) (by omega) (by omega) (by omega)) (lv_sub hl [0, 1, 2, 3, 4, 5, 6, 7, 8, 9, 10] rfl)
set_option maxHeartbeats 4000000 in
set_option maxRecDepth 100000 in
theorem ac_tendAll {p : Program} {l : Launch} {e : Env} {s : State} {m : MethodId} {args : Array Value} {below : List Frame} {meth : Method} {c : Code} (hfl : l.stackTraces = false) {D : va_G} {cI cZ : ClassId} {h : Nat} {a : Nat → Nat} {ab al at9 aw ap am : Nat} {bf lf mf : Nat → Int32} {H : Heap} {A : Nat → Prop} {σ : St} {nL nB : Nat} (he : roE p s m meth c args yL_acts cL_acts 15 (some .boolean) wsL_acts) (hH : s.heap = H) (hP : va_P D vwCl (fw cI cZ h a σ ab al at9 aw ap am bf lf mf) H) (hK : va_K D vwCl (tyX cI cZ) s) (hT : tpA A H s) (hD : va_D A (fw cI cZ h a σ ab al at9 aw ap am bf lf mf)) (hA : ∀ q, H.size ≤ q → A q) (hI : inv σ nL nB) (hR : lrel σ nL nB bf lf mf) {way z t : Nat} (hz : z < 100000000) (ht48 : t < 48) {ls : Array Slot} (hB1 : 1 ≤ nB) (hl : lv_has ls 15 [(10, .int (ht σ t)), (9, .int (nI t)), (0, .ref h), (1, .ref ab), (2, .ref al), (3, .ref at9), (4, .ref aw), (5, .ref ap), (6, .ref am), (7, .int (nI way)), (8, .int (nI z))]) : W p l e ({ frames := 9, cells := 2, slots := 12, locals := 167 }) s m args below meth c H [] 0 0 (gQ below D (S := St × (Nat → Int32) × (Nat → Int32) × (Nat → Int32)) (fun u => fw cI cZ h a u.1 ab al at9 aw ap am u.2.1 u.2.2.1 u.2.2.2) (fun r u => r = 1 ∧ ∃ nL9 nB9 : Nat, inv u.1 nL9 nB9 ∧ lrel u.1 nL9 nB9 u.2.1 u.2.2.1 u.2.2.2 ∧ 1 ≤ nB9) A 2 12 args s) (F0 m 606 ls []) := by
  obtain ⟨hx, hb, hr, hml, hown, hts, hlocks⟩ := he
  have hown : s.vm.findClass RL = some m.cls := hown
  have hS : va_S A H H [] := va_S.rf
  have hS0 : va_S A H H [] := va_S.rf
  have hL10 : nL ≤ 10 := hI.2.1
  obtain ⟨⟨hL6, hB4⟩, ⟨hm0, hm1, hm2⟩, hRb, hRl⟩ := id hR
  have et : tN (nI t) = t := tN_nI (by omega)
  have hP : va_P D vwCl (xw cI cZ h a σ ++ lw6 cI ab al at9 aw ap am bf lf (σ 0) (σ 1) (σ 2) mf) H := hP
  refine lv_aload_n hx hb dL_acts_606 rfl (lv_at hl 2 rfl) ?_
  refine lv_iload hx hb dL_acts_607 (lv_at hl 1 rfl) ?_
  have hg0 : goK (inR (nI t) 0 47) true true = 0 := gk0 (hour_nI ht48) rfl rfl
  have hPx := va_P_l hP
  have hPl := va_P_r hP
  have hDx := va_D_l hD
  have hTx := tpA_nar (tpA_kept hT hS) (B := fun q => A q ∧ notin (lw6 cI ab al at9 aw ap am bf lf (σ 0) (σ 1) (σ 2) mf) q) (fun q h => h.1)
  refine ok_callV 1 hx hb hml hown hts hl.1 hPx hK hTx hS (fun q h => h.1) 0 0 rfl rfl (As := [.int (nI t)]) (rest := []) (c_X0_tendAll l hfl D cI cZ h a σ _ _ hDx hI (nI t)) (xcp_no hg0) gL_acts_X0_tendAll rfl rfl rfl (by decide +kernel) ⟨Nat.le_of_ble_eq_true rfl, Nat.le_of_ble_eq_true rfl⟩ rfl rfl (Nat.le_of_ble_eq_true rfl) dL_acts_609 ⟨Nat.le_of_ble_eq_true rfl, Nat.le_of_ble_eq_true rfl⟩ (fun r1 ρ H locs hp1 hPx hS hk1 => ?_)
  obtain ⟨-, hr1, hρ⟩ := hp1
  rw [et] at hr1 hρ
  subst hr1
  subst hρ
  have hP : va_P D vwCl (xw cI cZ h a (tnd σ t) ++ lw6 cI ab al at9 aw ap am bf lf (σ 0) (σ 1) (σ 2) mf) H := va_P.app hPx (keepW hPl hk1)
  have hD : va_D A (xw cI cZ h a (tnd σ t) ++ lw6 cI ab al at9 aw ap am bf lf (σ 0) (σ 1) (σ 2) mf) := va_D_ad (W := (xw cI cZ h a σ ++ lw6 cI ab al at9 aw ap am bf lf (σ 0) (σ 1) (σ 2) mf)) (W' := (xw cI cZ h a (tnd σ t) ++ lw6 cI ab al at9 aw ap am bf lf (σ 0) (σ 1) (σ 2) mf)) rfl hD
  refine lv_aload_n hx hb dL_acts_612 rfl (lv_at hl 3 rfl) ?_
  refine lv_aload_n hx hb dL_acts_613 rfl (lv_at hl 4 rfl) ?_
  refine lv_aload hx hb dL_acts_614 (lv_at hl 8 rfl) ?_
  refine lv_iload hx hb dL_acts_616 (lv_at hl 0 rfl) ?_
  refine lv_aload hx hb dL_acts_618 (lv_at hl 7 rfl) ?_
  refine lv_iload hx hb dL_acts_620 (lv_at hl 1 rfl) ?_
  refine xa_ld hx hb hK hP 17 0 rfl rfl (j := t) (by omega) (by decide) dL_acts_622 ?_
  have hP3 : va_P D vwCl (lw3 cI ab al am bf lf mf) H := hP.sub [13, 14, 18] rfl
  have hK1 : va_K D vwCl (tyI cI) s := hK.sub [0] rfl
  have hD3 : va_D A (lw3 cI ab al am bf lf mf) := hD.sub [13, 14, 18] (by decide) rfl
  have hF3 : ∀ q, va_A (lw3 cI ab al am bf lf mf) H.size q → A q := va_free hD hS hA [13, 14, 18] rfl
  refine g_callS 5 hx hb hml hown hts hl.1 hP3 hK1 hS hF3 (As := [.ref ab, .ref al, .ref am, .int (ht σ t), .int ((σ 2) t)]) (rest := [.int (tdC σ t (bal σ t) nL)]) (c_L_tended l D cI ab al am bf lf mf H (va_A (lw3 cI ab al am bf lf mf) H.size) hD3.self (fun q hq => Or.inr hq) σ hI hR t ht48) gL_acts_L_tended rfl rfl rfl (by decide +kernel) ⟨Nat.le_of_ble_eq_true rfl, Nat.le_of_ble_eq_true rfl⟩ rfl rfl (Nat.le_of_ble_eq_true rfl) dL_acts_623 ⟨Nat.le_of_ble_eq_true rfl, Nat.le_of_ble_eq_true rfl⟩ (fun r2 lg H1 locs1 hp2 hP4 hS hz2 hk2 => ?_)
  obtain ⟨hr2, hR2⟩ := hp2
  subst hr2
  have hD4 : va_D (va_A (lw3 cI ab al am bf lf mf) H.size) (lw3 cI ab al am bf lg mf) := va_D_ad (W := lw3 cI ab al am bf lf mf) rfl hD3.self
  have hj := va_join hP hD [13, 14, 18] [0, 1, 2, 3, 4, 5, 6, 7, 8, 9, 10, 11, 12, 15, 16, 17] (wc := lw3 cI ab al am bf lf mf) (wr := xw cI cZ h a (tnd σ t) ++ [(at9, .inl (cI, 48, .inl (σ 0))), (aw, .inl (cI, 48, .inl (σ 1))), (ap, .inl (cI, 48, .inl (σ 2)))]) rfl rfl (by decide) (by decide) hk2 hF3 hP4 hD4
  have hP : va_P D vwCl (xw cI cZ h a (tnd σ t) ++ lw6 cI ab al at9 aw ap am bf lg (σ 0) (σ 1) (σ 2) mf) H1 := hj.1.sub [0, 1, 2, 3, 4, 5, 6, 7, 8, 9, 10, 11, 12, 16, 17, 13, 14, 15, 18] rfl
  refine lv_icmp_ne (tgt := 633) hx hb dL_acts_626 (by decide) (fun c626 => ?_) (fun c626 => ?_)
  · exact absurd rfl c626
  · refine lv_iconst (v := 1) hx hb dL_acts_629 (by decide) ?_
    refine lv_goto (tgt := 634) hx hb dL_acts_630 (by decide) ?_
    exact g_zret (v := 1) ((tnd σ t), bf, lg, mf) hx hb hr hlocks hH hS hP ⟨true, rfl⟩ ⟨rfl, nL, nB, inv_tnd hI ht48, hR2, hB1⟩ dL_acts_634 (Nat.le_of_ble_eq_true rfl) (Nat.le_of_ble_eq_true rfl)
set_option maxHeartbeats 4000000 in
set_option maxRecDepth 100000 in
theorem ac_toggle {p : Program} {l : Launch} {e : Env} {s : State} {m : MethodId} {args : Array Value} {below : List Frame} {meth : Method} {c : Code} (hfl : l.stackTraces = false) {D : va_G} {cI cZ : ClassId} {h : Nat} {a : Nat → Nat} {ab al at9 aw ap am : Nat} {bf lf mf : Nat → Int32} {H : Heap} {A : Nat → Prop} {σ : St} {nL nB : Nat} (he : roE p s m meth c args yL_acts cL_acts 15 (some .boolean) wsL_acts) (hH : s.heap = H) (hP : va_P D vwCl (fw cI cZ h a σ ab al at9 aw ap am bf lf mf) H) (hK : va_K D vwCl (tyX cI cZ) s) (hT : tpA A H s) (hD : va_D A (fw cI cZ h a σ ab al at9 aw ap am bf lf mf)) (hA : ∀ q, H.size ≤ q → A q) (hI : inv σ nL nB) (hR : lrel σ nL nB bf lf mf) {way z t : Nat} (hz : z < 100000000) (ht48 : t < 48) {ls : Array Slot} {j : Nat} (hj : j < nL) (hB1 : 1 ≤ nB) (hl : lv_has ls 15 [(11, .int (nI j)), (10, .int (ht σ t)), (9, .int (nI t)), (0, .ref h), (1, .ref ab), (2, .ref al), (3, .ref at9), (4, .ref aw), (5, .ref ap), (6, .ref am), (7, .int (nI way)), (8, .int (nI z))]) : W p l e ({ frames := 9, cells := 2, slots := 12, locals := 167 }) s m args below meth c H [] 0 0 (gQ below D (S := St × (Nat → Int32) × (Nat → Int32) × (Nat → Int32)) (fun u => fw cI cZ h a u.1 ab al at9 aw ap am u.2.1 u.2.2.1 u.2.2.2) (fun r u => r = 1 ∧ ∃ nL9 nB9 : Nat, inv u.1 nL9 nB9 ∧ lrel u.1 nL9 nB9 u.2.1 u.2.2.1 u.2.2.2 ∧ 1 ≤ nB9) A 2 12 args s) (F0 m 664 ls []) := by
  obtain ⟨hx, hb, hr, hml, hown, hts, hlocks⟩ := he
  have hown : s.vm.findClass RL = some m.cls := hown
  have hS : va_S A H H [] := va_S.rf
  have hS0 : va_S A H H [] := va_S.rf
  have hL10 : nL ≤ 10 := hI.2.1
  obtain ⟨⟨hL6, hB4⟩, ⟨hm0, hm1, hm2⟩, hRb, hRl⟩ := id hR
  have et : tN (nI t) = t := tN_nI (by omega)
  have hP : va_P D vwCl (xw cI cZ h a σ ++ lw6 cI ab al at9 aw ap am bf lf (σ 0) (σ 1) (σ 2) mf) H := hP
  have ej : tN (nI j) = j := tN_nI (by omega)
  obtain ⟨-, -, -, -, e7⟩ := hRl j hj
  refine lv_aload_n hx hb dL_acts_664 rfl (lv_at hl 5 rfl) ?_
  refine lv_bipush (v := 6) hx hb dL_acts_665 (by decide) ?_
  refine lv_iload hx hb dL_acts_667 (lv_at hl 0 rfl) ?_
  refine lv_imul hx hb dL_acts_669 ?_
  refine lv_topi (fun y9 e9 => ?_)
  rw [show y9 = (nI (6 * j)) from e9.trans (pk_mul 6 j)]
  refine lv_iconst (v := 5) hx hb dL_acts_670 (by decide) ?_
  refine lv_iadd hx hb dL_acts_671 ?_
  refine lv_topi (fun y9 e9 => ?_)
  rw [show y9 = (nI (6 * j + 5)) from e9.trans (nI_add (6 * j) 5)]
  refine lv_iconst (v := 1) hx hb dL_acts_672 (by decide) ?_
  refine lv_aload_n hx hb dL_acts_673 rfl (lv_at hl 5 rfl) ?_
  refine lv_bipush (v := 6) hx hb dL_acts_674 (by decide) ?_
  refine lv_iload hx hb dL_acts_676 (lv_at hl 0 rfl) ?_
  refine lv_imul hx hb dL_acts_678 ?_
  refine lv_topi (fun y9 e9 => ?_)
  rw [show y9 = (nI (6 * j)) from e9.trans (pk_mul 6 j)]
  refine lv_iconst (v := 5) hx hb dL_acts_679 (by decide) ?_
  refine lv_iadd hx hb dL_acts_680 ?_
  refine lv_topi (fun y9 e9 => ?_)
  rw [show y9 = (nI (6 * j + 5)) from e9.trans (nI_add (6 * j) 5)]
  refine xa_ld hx hb hK hP 14 0 rfl rfl (j := (6 * j + 5)) (by omega) (by decide) dL_acts_681 ?_
  refine lv_isub hx hb dL_acts_682 ?_
  refine xa_st hx hb hK hP hD hS 14 0 rfl rfl (j := (6 * j + 5)) (by omega) (by decide) dL_acts_683 (fun H locs hP hD hS => ?_)
  have hP : va_P D vwCl (xw cI cZ h a σ ++ lw6 cI ab al at9 aw ap am bf (upd lf (6 * j + 5) (1 - (lf (6 * j + 5)))) (σ 0) (σ 1) (σ 2) mf) H := hP
  have hD : va_D A (xw cI cZ h a σ ++ lw6 cI ab al at9 aw ap am bf (upd lf (6 * j + 5) (1 - (lf (6 * j + 5)))) (σ 0) (σ 1) (σ 2) mf) := hD
  refine lv_aload_n hx hb dL_acts_684 rfl (lv_at hl 3 rfl) ?_
  refine lv_iload hx hb dL_acts_685 (lv_at hl 0 rfl) ?_
  have hg0 : goK (inR (nI j) 0 (nI nL - 1)) true true = 0 := gk0 (line_nI hj (by omega)) rfl rfl
  have hPx := va_P_l hP
  have hPl := va_P_r hP
  have hDx := va_D_l hD
  have hTx := tpA_nar (tpA_kept hT hS) (B := fun q => A q ∧ notin (lw6 cI ab al at9 aw ap am bf (upd lf (6 * j + 5) (1 - (lf (6 * j + 5)))) (σ 0) (σ 1) (σ 2) mf) q) (fun q h => h.1)
  refine ok_callV 1 hx hb hml hown hts hl.1 hPx hK hTx hS (fun q h => h.1) 0 0 rfl rfl (As := [.int (nI j)]) (rest := []) (c_X0_toggle l hfl D cI cZ h a σ _ _ hDx hI (nI j)) (xcp_no hg0) gL_acts_X0_toggle rfl rfl rfl (by decide +kernel) ⟨Nat.le_of_ble_eq_true rfl, Nat.le_of_ble_eq_true rfl⟩ rfl rfl (Nat.le_of_ble_eq_true rfl) dL_acts_687 ⟨Nat.le_of_ble_eq_true rfl, Nat.le_of_ble_eq_true rfl⟩ (fun r1 ρ H locs hp1 hPx hS hk1 => ?_)
  obtain ⟨-, hr1, hρ⟩ := hp1
  rw [ej] at hr1 hρ
  subst hr1
  subst hρ
  have hP : va_P D vwCl (xw cI cZ h a (st σ 13 (upd (σ 13) j (nxF σ j))) ++ lw6 cI ab al at9 aw ap am bf (upd lf (6 * j + 5) (1 - (lf (6 * j + 5)))) (σ 0) (σ 1) (σ 2) mf) H := va_P.app hPx (keepW hPl hk1)
  have hD : va_D A (xw cI cZ h a (st σ 13 (upd (σ 13) j (nxF σ j))) ++ lw6 cI ab al at9 aw ap am bf (upd lf (6 * j + 5) (1 - (lf (6 * j + 5)))) (σ 0) (σ 1) (σ 2) mf) := va_D_ad (W := (xw cI cZ h a σ ++ lw6 cI ab al at9 aw ap am bf (upd lf (6 * j + 5) (1 - (lf (6 * j + 5)))) (σ 0) (σ 1) (σ 2) mf)) (W' := (xw cI cZ h a (st σ 13 (upd (σ 13) j (nxF σ j))) ++ lw6 cI ab al at9 aw ap am bf (upd lf (6 * j + 5) (1 - (lf (6 * j + 5)))) (σ 0) (σ 1) (σ 2) mf)) rfl hD
  refine lv_aload_n hx hb dL_acts_690 rfl (lv_at hl 5 rfl) ?_
  refine lv_bipush (v := 6) hx hb dL_acts_691 (by decide) ?_
  refine lv_iload hx hb dL_acts_693 (lv_at hl 0 rfl) ?_
  refine lv_imul hx hb dL_acts_695 ?_
  refine lv_topi (fun y9 e9 => ?_)
  rw [show y9 = (nI (6 * j)) from e9.trans (pk_mul 6 j)]
  refine lv_iconst (v := 5) hx hb dL_acts_696 (by decide) ?_
  refine lv_iadd hx hb dL_acts_697 ?_
  refine lv_topi (fun y9 e9 => ?_)
  rw [show y9 = (nI (6 * j + 5)) from e9.trans (nI_add (6 * j) 5)]
  refine xa_ld hx hb hK hP 14 0 rfl rfl (j := (6 * j + 5)) (by omega) (by decide) dL_acts_698 ?_
  rw [show ((upd lf (6 * j + 5) (1 - (lf (6 * j + 5)))) (6 * j + 5)) = (1 - (lf (6 * j + 5))) from pk_us]
  refine lv_if_ne (tgt := 706) hx hb dL_acts_699 (by decide) (fun c699 => ?_) (fun c699 => ?_)
  · have qn : nxF σ j = 0 := e7.elim (fun q => by unfold nxF; rw [q.2]; decide) (fun q => absurd (by rw [q.1]; decide) c699)
    refine lv_iconst (v := 0) hx hb dL_acts_706 (by decide) ?_
    refine lv_icmp_ne (tgt := 714) hx hb dL_acts_707 (by decide) (fun c707 => ?_) (fun c707 => ?_)
    · exact absurd qn c707
    · refine lv_iconst (v := 1) hx hb dL_acts_710 (by decide) ?_
      refine lv_goto (tgt := 715) hx hb dL_acts_711 (by decide) ?_
      exact g_zret (v := 1) ((st σ 13 (upd (σ 13) j (nxF σ j))), bf, (upd lf (6 * j + 5) (1 - (lf (6 * j + 5)))), mf) hx hb hr hlocks hH hS hP ⟨true, rfl⟩ ⟨rfl, nL, nB, inv_tog hI, lrel_tg hR hj, hB1⟩ dL_acts_715 (Nat.le_of_ble_eq_true rfl) (Nat.le_of_ble_eq_true rfl)
  · have qn : nxF σ j = 1 := e7.elim (fun q => absurd c699 (by rw [q.1]; decide)) (fun q => by unfold nxF; rw [q.2]; decide)
    refine lv_iconst (v := 1) hx hb dL_acts_702 (by decide) ?_
    refine lv_goto (tgt := 707) hx hb dL_acts_703 (by decide) ?_
    refine lv_icmp_ne (tgt := 714) hx hb dL_acts_707 (by decide) (fun c707 => ?_) (fun c707 => ?_)
    · exact absurd qn c707
    · refine lv_iconst (v := 1) hx hb dL_acts_710 (by decide) ?_
      refine lv_goto (tgt := 715) hx hb dL_acts_711 (by decide) ?_
      exact g_zret (v := 1) ((st σ 13 (upd (σ 13) j (nxF σ j))), bf, (upd lf (6 * j + 5) (1 - (lf (6 * j + 5)))), mf) hx hb hr hlocks hH hS hP ⟨true, rfl⟩ ⟨rfl, nL, nB, inv_tog hI, lrel_tg hR hj, hB1⟩ dL_acts_715 (Nat.le_of_ble_eq_true rfl) (Nat.le_of_ble_eq_true rfl)
set_option maxHeartbeats 4000000 in
set_option maxRecDepth 100000 in
theorem ac_tend {p : Program} {l : Launch} {e : Env} {s : State} {m : MethodId} {args : Array Value} {below : List Frame} {meth : Method} {c : Code} (hfl : l.stackTraces = false) {D : va_G} {cI cZ : ClassId} {h : Nat} {a : Nat → Nat} {ab al at9 aw ap am : Nat} {bf lf mf : Nat → Int32} {H : Heap} {A : Nat → Prop} {σ : St} {nL nB : Nat} (he : roE p s m meth c args yL_acts cL_acts 15 (some .boolean) wsL_acts) (hH : s.heap = H) (hP : va_P D vwCl (fw cI cZ h a σ ab al at9 aw ap am bf lf mf) H) (hK : va_K D vwCl (tyX cI cZ) s) (hT : tpA A H s) (hD : va_D A (fw cI cZ h a σ ab al at9 aw ap am bf lf mf)) (hA : ∀ q, H.size ≤ q → A q) (hI : inv σ nL nB) (hR : lrel σ nL nB bf lf mf) {way z t : Nat} (hz : z < 100000000) (ht48 : t < 48) {ls : Array Slot} {j : Nat} (hj : j < nL) (hB1 : 1 ≤ nB) (hl : lv_has ls 15 [(11, .int (nI j)), (10, .int (ht σ t)), (9, .int (nI t)), (0, .ref h), (1, .ref ab), (2, .ref al), (3, .ref at9), (4, .ref aw), (5, .ref ap), (6, .ref am), (7, .int (nI way)), (8, .int (nI z))]) : W p l e ({ frames := 9, cells := 2, slots := 12, locals := 167 }) s m args below meth c H [] 0 0 (gQ below D (S := St × (Nat → Int32) × (Nat → Int32) × (Nat → Int32)) (fun u => fw cI cZ h a u.1 ab al at9 aw ap am u.2.1 u.2.2.1 u.2.2.2) (fun r u => r = 1 ∧ ∃ nL9 nB9 : Nat, inv u.1 nL9 nB9 ∧ lrel u.1 nL9 nB9 u.2.1 u.2.2.1 u.2.2.2 ∧ 1 ≤ nB9) A 2 12 args s) (F0 m 716 ls []) := by
  obtain ⟨hx, hb, hr, hml, hown, hts, hlocks⟩ := he
  have hown : s.vm.findClass RL = some m.cls := hown
  have hS : va_S A H H [] := va_S.rf
  have hS0 : va_S A H H [] := va_S.rf
  have hL10 : nL ≤ 10 := hI.2.1
  obtain ⟨⟨hL6, hB4⟩, ⟨hm0, hm1, hm2⟩, hRb, hRl⟩ := id hR
  have et : tN (nI t) = t := tN_nI (by omega)
  have hP : va_P D vwCl (xw cI cZ h a σ ++ lw6 cI ab al at9 aw ap am bf lf (σ 0) (σ 1) (σ 2) mf) H := hP
  have ej : tN (nI j) = j := tN_nI (by omega)
  obtain ⟨-, -, -, -, e7⟩ := hRl j hj
  refine lv_iload hx hb dL_acts_716 (lv_at hl 11 rfl) ?_
  refine lv_sipush (v := 900) hx hb dL_acts_718 (by decide) ?_
  refine lv_idiv hx hb dL_acts_721 (by decide) ?_
  refine lv_topi (fun y9 e9 => ?_)
  rw [show y9 = (nI (z / 900)) from e9.trans (pk_div (a := z) (d := 900) (by omega) (by omega) (by omega))]
  refine lv_sipush (v := 201) hx hb dL_acts_722 (by decide) ?_
  refine lv_irem hx hb dL_acts_725 (by decide) ?_
  refine lv_topi (fun y9 e9 => ?_)
  rw [show y9 = (nI ((z / 900) % 201)) from e9.trans (pk_rem (a := (z / 900)) (d := 201) (by omega) (by omega) (by omega))]
  refine lv_bipush (v := 100) hx hb dL_acts_726 (by decide) ?_
  refine lv_isub hx hb dL_acts_728 ?_
  obtain ⟨v, hv⟩ : ∃ y : Int32, y = nI (z / 900 % 201) - 100 := ⟨_, rfl⟩
  rw [← hv]
  have iv : inR v (-100) 100 = true := by rw [hv]; exact inR_sub (k := 100) (x := -100) (y := 100) rfl rfl rfl (by omega) (by omega) (by omega) (by omega) (by omega)
  have hP3 : va_P D vwCl (lw3 cI ab al am bf lf mf) H := hP.sub [13, 14, 18] rfl
  have hK1 : va_K D vwCl (tyI cI) s := hK.sub [0] rfl
  refine lv_istore (lv' := [(12, .int v), (11, .int (nI j)), (10, .int (ht σ t)), (9, .int (nI t)), (0, .ref h), (1, .ref ab), (2, .ref al), (3, .ref at9), (4, .ref aw), (5, .ref ap), (6, .ref am), (7, .int (nI way)), (8, .int (nI z))]) hx hb dL_acts_729 hl (by decide) rfl (fun ls hl => ?_)
  refine lv_aload_n hx hb dL_acts_731 rfl (lv_at hl 5 rfl) ?_
  refine lv_aload_n hx hb dL_acts_732 rfl (lv_at hl 6 rfl) ?_
  refine lv_iload hx hb dL_acts_733 (lv_at hl 1 rfl) ?_
  refine lv_iload hx hb dL_acts_735 (lv_at hl 2 rfl) ?_
  refine lv_aload_n hx hb dL_acts_737 rfl (lv_at hl 5 rfl) ?_
  refine lv_aload_n hx hb dL_acts_738 rfl (lv_at hl 6 rfl) ?_
  refine lv_aload hx hb dL_acts_739 (lv_at hl 10 rfl) ?_
  refine lv_iload hx hb dL_acts_741 (lv_at hl 2 rfl) ?_
  refine lv_aload hx hb dL_acts_743 (lv_at hl 9 rfl) ?_
  refine lv_iload hx hb dL_acts_745 (lv_at hl 3 rfl) ?_
  refine xa_ld hx hb hK hP 17 0 rfl rfl (j := t) (by omega) (by decide) dL_acts_747 ?_
  refine ro_callS 5 hx hb hml hown hts hl.1 hP3 hK1 (As := [.ref ab, .ref al, .ref am, .int (ht σ t), .int ((σ 2) t)]) (rest := [.int (ht σ t), .int (nI j), .ref al, .ref ab]) (c_L_shift l D cI ab al am bf lf mf H σ hI hR t ht48) gL_acts_L_shift rfl rfl rfl (by decide +kernel) ⟨Nat.le_of_ble_eq_true rfl, Nat.le_of_ble_eq_true rfl⟩ rfl rfl (Nat.le_of_ble_eq_true rfl) dL_acts_748 ⟨Nat.zero_le _, Nat.zero_le _⟩ (fun r1 hr1 => ?_)
  subst hr1
  refine ro_callS 5 hx hb hml hown hts hl.1 hP3 hK1 (As := [.ref ab, .ref al, .int (nI j), .int (ht σ t), .int (bal σ t)]) (rest := []) (c_L_len l D cI ab al am bf lf mf H σ hI hR j t hj ht48 (bal σ t) (bal_inS σ t)) gL_acts_L_length rfl rfl rfl (by decide +kernel) ⟨Nat.le_of_ble_eq_true rfl, Nat.le_of_ble_eq_true rfl⟩ rfl rfl (Nat.le_of_ble_eq_true rfl) dL_acts_751 ⟨Nat.zero_le _, Nat.zero_le _⟩ (fun r2 hr2 => ?_)
  subst hr2
  refine lv_iload hx hb dL_acts_754 (lv_at hl 0 rfl) ?_
  refine lv_iadd hx hb dL_acts_756 ?_
  obtain ⟨x9, hx9⟩ : ∃ y : Int32, y = len_ σ j t (bal σ t) + v := ⟨_, rfl⟩
  rw [← hx9]
  have eTD : tdR σ (nI j) (nI t) v = if x9 < 0 then 0 else x9 := by unfold tdR; rw [ej, et, ← hx9, mx0_if]
  refine lv_istore (lv' := [(13, .int x9), (12, .int v), (11, .int (nI j)), (10, .int (ht σ t)), (9, .int (nI t)), (0, .ref h), (1, .ref ab), (2, .ref al), (3, .ref at9), (4, .ref aw), (5, .ref ap), (6, .ref am), (7, .int (nI way)), (8, .int (nI z))]) hx hb dL_acts_757 hl (by decide) rfl (fun ls hl => ?_)
  refine lv_aload_n hx hb dL_acts_759 rfl (lv_at hl 7 rfl) ?_
  refine lv_bipush (v := 6) hx hb dL_acts_760 (by decide) ?_
  refine lv_iload hx hb dL_acts_762 (lv_at hl 2 rfl) ?_
  refine lv_imul hx hb dL_acts_764 ?_
  refine lv_topi (fun y9 e9 => ?_)
  rw [show y9 = (nI (6 * j)) from e9.trans (pk_mul 6 j)]
  refine lv_iconst (v := 5) hx hb dL_acts_765 (by decide) ?_
  refine lv_iadd hx hb dL_acts_766 ?_
  refine lv_topi (fun y9 e9 => ?_)
  rw [show y9 = (nI (6 * j + 5)) from e9.trans (nI_add (6 * j) 5)]
  refine xa_ld hx hb hK hP 14 0 rfl rfl (j := (6 * j + 5)) (by omega) (by decide) dL_acts_767 ?_
  refine lv_if_ne (tgt := 775) hx hb dL_acts_768 (by decide) (fun c768 => ?_) (fun c768 => ?_)
  · have q0 : σ 13 j = 0 := e7.elim (fun q => absurd q.1 c768) (fun q => q.2)
    refine lv_iconst (v := 0) hx hb dL_acts_775 (by decide) ?_
    refine lv_istore (lv' := [(14, .int 0), (13, .int x9), (12, .int v), (11, .int (nI j)), (10, .int (ht σ t)), (9, .int (nI t)), (0, .ref h), (1, .ref ab), (2, .ref al), (3, .ref at9), (4, .ref aw), (5, .ref ap), (6, .ref am), (7, .int (nI way)), (8, .int (nI z))]) hx hb dL_acts_776 hl (by decide) rfl (fun ls hl => ?_)
    refine lv_aload_n hx hb dL_acts_778 rfl (lv_at hl 8 rfl) ?_
    refine lv_bipush (v := 6) hx hb dL_acts_779 (by decide) ?_
    refine lv_iload hx hb dL_acts_781 (lv_at hl 3 rfl) ?_
    refine lv_imul hx hb dL_acts_783 ?_
    refine lv_topi (fun y9 e9 => ?_)
    rw [show y9 = (nI (6 * j)) from e9.trans (pk_mul 6 j)]
    refine lv_iconst (v := 4) hx hb dL_acts_784 (by decide) ?_
    refine lv_iadd hx hb dL_acts_785 ?_
    refine lv_topi (fun y9 e9 => ?_)
    rw [show y9 = (nI (6 * j + 4)) from e9.trans (nI_add (6 * j) 4)]
    refine lv_iload hx hb dL_acts_786 (lv_at hl 0 rfl) ?_
    refine lv_if_ne (tgt := 803) hx hb dL_acts_788 (by decide) (fun c788 => ?_) (fun c788 => ?_)
    · exact absurd rfl c788
    · refine lv_aload_n hx hb dL_acts_791 rfl (lv_at hl 8 rfl) ?_
      refine lv_bipush (v := 6) hx hb dL_acts_792 (by decide) ?_
      refine lv_iload hx hb dL_acts_794 (lv_at hl 3 rfl) ?_
      refine lv_imul hx hb dL_acts_796 ?_
      refine lv_topi (fun y9 e9 => ?_)
      rw [show y9 = (nI (6 * j)) from e9.trans (pk_mul 6 j)]
      refine lv_iconst (v := 4) hx hb dL_acts_797 (by decide) ?_
      refine lv_iadd hx hb dL_acts_798 ?_
      refine lv_topi (fun y9 e9 => ?_)
      rw [show y9 = (nI (6 * j + 4)) from e9.trans (nI_add (6 * j) 4)]
      refine xa_ld hx hb hK hP 14 0 rfl rfl (j := (6 * j + 4)) (by omega) (by decide) dL_acts_799 ?_
      refine lv_goto (tgt := 814) hx hb dL_acts_800 (by decide) ?_
      refine xa_st hx hb hK hP hD hS 14 0 rfl rfl (j := (6 * j + 4)) (by omega) (by decide) dL_acts_814 (fun H locs hP hD hS => ?_)
      have hP : va_P D vwCl (xw cI cZ h a σ ++ lw6 cI ab al at9 aw ap am bf (upd lf (6 * j + 4) (lf (6 * j + 4))) (σ 0) (σ 1) (σ 2) mf) H := hP
      have hD : va_D A (xw cI cZ h a σ ++ lw6 cI ab al at9 aw ap am bf (upd lf (6 * j + 4) (lf (6 * j + 4))) (σ 0) (σ 1) (σ 2) mf) := hD
      rw [upd_self] at hP hD
      refine lv_aload_n hx hb dL_acts_815 rfl (lv_at hl 6 rfl) ?_
      refine lv_iload hx hb dL_acts_816 (lv_at hl 3 rfl) ?_
      refine lv_iload hx hb dL_acts_818 (lv_at hl 5 rfl) ?_
      refine lv_iload hx hb dL_acts_820 (lv_at hl 2 rfl) ?_
      have hPx := va_P_l hP
      have hPl := va_P_r hP
      have hDx := va_D_l hD
      have hTx := tpA_nar (tpA_kept hT hS) (B := fun q => A q ∧ notin (lw6 cI ab al at9 aw ap am bf lf (σ 0) (σ 1) (σ 2) mf) q) (fun q h => h.1)
      refine hg_callSW 4 hx hb hml hown hts hl.1 hPx hK hTx hS (fun q h => h.1) (As := [.ref h, .int (nI j), .int (nI t), .int v]) (rest := []) (c_L_tend l hfl D cI cZ h a σ _ _ hDx hI j t hj ht48 v iv) gL_acts_L_tend rfl rfl rfl (by decide +kernel) ⟨Nat.le_of_ble_eq_true rfl, Nat.le_of_ble_eq_true rfl⟩ rfl rfl (Nat.le_of_ble_eq_true rfl) dL_acts_822 ⟨Nat.le_of_ble_eq_true rfl, Nat.le_of_ble_eq_true rfl⟩ (fun r1 ρ H locs hp1 hPx hS hz1 hk1 => ?_)
      obtain ⟨hr1, hρ⟩ := hp1.2 q0
      subst hr1
      have hPx : va_P D vwCl (xw cI cZ h a σ) H := by rw [← hρ]; exact hPx
      have hP : va_P D vwCl (xw cI cZ h a σ ++ lw6 cI ab al at9 aw ap am bf lf (σ 0) (σ 1) (σ 2) mf) H := va_P.app hPx (keepW hPl hk1)
      refine lv_iload hx hb dL_acts_825 (lv_at hl 0 rfl) ?_
      refine lv_if_eq (tgt := 842) hx hb dL_acts_827 (by decide) (fun c827 => ?_) (fun c827 => ?_)
      · refine lv_bipush (v := (-5)) hx hb dL_acts_842 (by decide) ?_
        refine lv_icmp_ne (tgt := 851) hx hb dL_acts_844 (by decide) (fun c844 => ?_) (fun c844 => ?_)
        · exact absurd rfl c844
        · refine lv_iconst (v := 1) hx hb dL_acts_847 (by decide) ?_
          refine lv_goto (tgt := 852) hx hb dL_acts_848 (by decide) ?_
          exact g_zret (v := 1) (σ, bf, lf, mf) hx hb hr hlocks hH hS hP ⟨true, rfl⟩ ⟨rfl, nL, nB, hI, hR, hB1⟩ dL_acts_852 (Nat.le_of_ble_eq_true rfl) (Nat.le_of_ble_eq_true rfl)
      · exact absurd rfl c827
  · have q1 : ¬ σ 13 j = 0 := e7.elim (fun q => by rw [q.2]; decide) (fun q => absurd (q.1.symm.trans c768) (by decide))
    refine lv_iconst (v := 1) hx hb dL_acts_771 (by decide) ?_
    refine lv_goto (tgt := 776) hx hb dL_acts_772 (by decide) ?_
    refine lv_istore (lv' := [(14, .int 1), (13, .int x9), (12, .int v), (11, .int (nI j)), (10, .int (ht σ t)), (9, .int (nI t)), (0, .ref h), (1, .ref ab), (2, .ref al), (3, .ref at9), (4, .ref aw), (5, .ref ap), (6, .ref am), (7, .int (nI way)), (8, .int (nI z))]) hx hb dL_acts_776 hl (by decide) rfl (fun ls hl => ?_)
    refine lv_aload_n hx hb dL_acts_778 rfl (lv_at hl 8 rfl) ?_
    refine lv_bipush (v := 6) hx hb dL_acts_779 (by decide) ?_
    refine lv_iload hx hb dL_acts_781 (lv_at hl 3 rfl) ?_
    refine lv_imul hx hb dL_acts_783 ?_
    refine lv_topi (fun y9 e9 => ?_)
    rw [show y9 = (nI (6 * j)) from e9.trans (pk_mul 6 j)]
    refine lv_iconst (v := 4) hx hb dL_acts_784 (by decide) ?_
    refine lv_iadd hx hb dL_acts_785 ?_
    refine lv_topi (fun y9 e9 => ?_)
    rw [show y9 = (nI (6 * j + 4)) from e9.trans (nI_add (6 * j) 4)]
    refine lv_iload hx hb dL_acts_786 (lv_at hl 0 rfl) ?_
    refine lv_if_ne (tgt := 803) hx hb dL_acts_788 (by decide) (fun c788 => ?_) (fun c788 => ?_)
    · refine lv_iload hx hb dL_acts_803 (lv_at hl 1 rfl) ?_
      have hs : ∀ (T : Int32) (ls : Array Slot), T = tdR σ (nI j) (nI t) v → lv_has ls 15 [(14, .int 1), (13, .int x9), (12, .int v), (11, .int (nI j)), (10, .int (ht σ t)), (9, .int (nI t)), (0, .ref h), (1, .ref ab), (2, .ref al), (3, .ref at9), (4, .ref aw), (5, .ref ap), (6, .ref am), (7, .int (nI way)), (8, .int (nI z))] → W p l e ({ frames := 9, cells := 2, slots := 12, locals := 167 }) s m args below meth c H [] 0 0 (gQ below D (S := St × (Nat → Int32) × (Nat → Int32) × (Nat → Int32)) (fun u => fw cI cZ h a u.1 ab al at9 aw ap am u.2.1 u.2.2.1 u.2.2.2) (fun r u => r = 1 ∧ ∃ nL9 nB9 : Nat, inv u.1 nL9 nB9 ∧ lrel u.1 nL9 nB9 u.2.1 u.2.2.1 u.2.2.2 ∧ 1 ≤ nB9) A 2 12 args s) (F0 m 814 ls [.int T, .int (nI (6 * j + 4)), .ref al]) := by
        intro T ls hT9 hl
        refine xa_st hx hb hK hP hD hS 14 0 rfl rfl (j := (6 * j + 4)) (by omega) (by decide) dL_acts_814 (fun H locs hP hD hS => ?_)
        have hP : va_P D vwCl (xw cI cZ h a σ ++ lw6 cI ab al at9 aw ap am bf (upd lf (6 * j + 4) T) (σ 0) (σ 1) (σ 2) mf) H := hP
        have hD : va_D A (xw cI cZ h a σ ++ lw6 cI ab al at9 aw ap am bf (upd lf (6 * j + 4) T) (σ 0) (σ 1) (σ 2) mf) := hD
        refine lv_aload_n hx hb dL_acts_815 rfl (lv_at hl 6 rfl) ?_
        refine lv_iload hx hb dL_acts_816 (lv_at hl 3 rfl) ?_
        refine lv_iload hx hb dL_acts_818 (lv_at hl 5 rfl) ?_
        refine lv_iload hx hb dL_acts_820 (lv_at hl 2 rfl) ?_
        have hPx := va_P_l hP
        have hPl := va_P_r hP
        have hDx := va_D_l hD
        have hTx := tpA_nar (tpA_kept hT hS) (B := fun q => A q ∧ notin (lw6 cI ab al at9 aw ap am bf (upd lf (6 * j + 4) T) (σ 0) (σ 1) (σ 2) mf) q) (fun q h => h.1)
        refine hg_callSW 4 hx hb hml hown hts hl.1 hPx hK hTx hS (fun q h => h.1) (As := [.ref h, .int (nI j), .int (nI t), .int v]) (rest := []) (c_L_tend l hfl D cI cZ h a σ _ _ hDx hI j t hj ht48 v iv) gL_acts_L_tend rfl rfl rfl (by decide +kernel) ⟨Nat.le_of_ble_eq_true rfl, Nat.le_of_ble_eq_true rfl⟩ rfl rfl (Nat.le_of_ble_eq_true rfl) dL_acts_822 ⟨Nat.le_of_ble_eq_true rfl, Nat.le_of_ble_eq_true rfl⟩ (fun r1 ρ H locs hp1 hPx hS hz1 hk1 => ?_)
        obtain ⟨hr1, hρ⟩ := hp1.1 q1
        rw [← hT9] at hr1 hρ
        subst hr1
        subst hρ
        have hP : va_P D vwCl (xw cI cZ h a (st σ 12 (upd (σ 12) j r1)) ++ lw6 cI ab al at9 aw ap am bf (upd lf (6 * j + 4) r1) (σ 0) (σ 1) (σ 2) mf) H := va_P.app hPx (keepW hPl hk1)
        refine lv_iload hx hb dL_acts_825 (lv_at hl 0 rfl) ?_
        refine lv_if_eq (tgt := 842) hx hb dL_acts_827 (by decide) (fun c827 => ?_) (fun c827 => ?_)
        · exact absurd c827 (by decide)
        · refine lv_aload_n hx hb dL_acts_830 rfl (lv_at hl 8 rfl) ?_
          refine lv_bipush (v := 6) hx hb dL_acts_831 (by decide) ?_
          refine lv_iload hx hb dL_acts_833 (lv_at hl 3 rfl) ?_
          refine lv_imul hx hb dL_acts_835 ?_
          refine lv_topi (fun y9 e9 => ?_)
          rw [show y9 = (nI (6 * j)) from e9.trans (pk_mul 6 j)]
          refine lv_iconst (v := 4) hx hb dL_acts_836 (by decide) ?_
          refine lv_iadd hx hb dL_acts_837 ?_
          refine lv_topi (fun y9 e9 => ?_)
          rw [show y9 = (nI (6 * j + 4)) from e9.trans (nI_add (6 * j) 4)]
          refine xa_ld hx hb hK hP 14 0 rfl rfl (j := (6 * j + 4)) (by omega) (by decide) dL_acts_838 ?_
          rw [show ((upd lf (6 * j + 4) r1) (6 * j + 4)) = r1 from pk_us]
          refine lv_goto (tgt := 844) hx hb dL_acts_839 (by decide) ?_
          refine lv_icmp_ne (tgt := 851) hx hb dL_acts_844 (by decide) (fun c844 => ?_) (fun c844 => ?_)
          · exact absurd rfl c844
          · refine lv_iconst (v := 1) hx hb dL_acts_847 (by decide) ?_
            refine lv_goto (tgt := 852) hx hb dL_acts_848 (by decide) ?_
            exact g_zret (v := 1) ((st σ 12 (upd (σ 12) j r1)), bf, (upd lf (6 * j + 4) r1), mf) hx hb hr hlocks hH hS hP ⟨true, rfl⟩ ⟨rfl, nL, nB, by rw [hT9]; exact inv_tend2 hI hj ht48 iv, lrel_td hR hj r1, hB1⟩ dL_acts_852 (Nat.le_of_ble_eq_true rfl) (Nat.le_of_ble_eq_true rfl)
      refine lv_if_ge (tgt := 812) hx hb dL_acts_805 (by decide) (fun c805 => ?_) (fun c805 => ?_)
      · refine lv_iload hx hb dL_acts_812 (lv_at hl 1 rfl) ?_
        exact hs _ ls (by rw [eTD, if_neg (Int32.not_lt.mpr c805)]) (lv_sub hl [0, 1, 2, 3, 4, 5, 6, 7, 8, 9, 10, 11, 12, 13, 14] rfl)
      · refine lv_iconst (v := 0) hx hb dL_acts_808 (by decide) ?_
        refine lv_goto (tgt := 814) hx hb dL_acts_809 (by decide) ?_
        exact hs _ ls (by rw [eTD, if_pos (Int32.not_le.mp c805)]) (lv_sub hl [0, 1, 2, 3, 4, 5, 6, 7, 8, 9, 10, 11, 12, 13, 14] rfl)
    · exact absurd c788 (by decide)
