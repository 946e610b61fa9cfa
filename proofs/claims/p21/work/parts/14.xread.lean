/-! MoorWatch: its checks where they pass, its reading calls at right arguments: nothing is written, nothing made. -/
set_option maxHeartbeats 4000000 in
set_option maxRecDepth 100000 in
theorem v_X0_checkHour (l : Launch) (D : va_G) (W0 : va_W) (tys : List (ClassId × FieldType)) (H : Heap) (t : Nat) (ht48 : t < 48) : rvM l yX0_checkHour wsX0_checkHour ({ frames := 0, cells := 0, slots := 0, locals := 0 }) [.int (nI t)] D W0 tys H := by
  refine rv_of (cc := cX0_checkHour) (maxL := 1) (ret := none) (by decide) rfl (Nat.le_of_ble_eq_true rfl) ?_
  intro p e s m args below meth c he hH hP hK ls hl
  obtain ⟨hx, hb, hr, hml, hown, hts, hlocks⟩ := he
  have hown : s.vm.findClass RX0 = some m.cls := hown
  have hl : lv_has ls 1 [(0, .int (nI t))] := hl
  refine lv_iload_n hx hb dX0_checkHour_0 rfl (lv_at hl 0 rfl) ?_
  refine lv_if_lt (tgt := 10) hx hb dX0_checkHour_1 (by decide) (fun c1 => ?_) (fun c1 => ?_)
  · exact absurd c1 (nI_pos (by omega))
  · refine lv_iload_n hx hb dX0_checkHour_4 rfl (lv_at hl 0 rfl) ?_
    refine lv_bipush (v := 48) hx hb dX0_checkHour_5 (by decide) ?_
    refine lv_icmp_lt (tgt := 20) hx hb dX0_checkHour_7 (by decide) (fun c7 => ?_) (fun c7 => ?_)
    · exact rv_ret hx hb hr hlocks hH dX0_checkHour_20
    · exact absurd (nI_lt (a := t) (b := 48) (by omega) (by omega)) c7
set_option maxHeartbeats 4000000 in
set_option maxRecDepth 100000 in
theorem v_X0_checkRange (l : Launch) (D : va_G) (W0 : va_W) (tys : List (ClassId × FieldType)) (H : Heap) (v lo hi : Int32) (h1 : ¬ v < lo) (h2 : v ≤ hi) : rvM l yX0_checkRange wsX0_checkRange ({ frames := 0, cells := 0, slots := 0, locals := 0 }) [.int v, .int lo, .int hi] D W0 tys H := by
  refine rv_of (cc := cX0_checkRange) (maxL := 3) (ret := none) (by decide) rfl (Nat.le_of_ble_eq_true rfl) ?_
  intro p e s m args below meth c he hH hP hK ls hl
  obtain ⟨hx, hb, hr, hml, hown, hts, hlocks⟩ := he
  have hown : s.vm.findClass RX0 = some m.cls := hown
  have hl : lv_has ls 3 [(0, .int v), (1, .int lo), (2, .int hi)] := hl
  refine lv_iload_n hx hb dX0_checkRange_0 rfl (lv_at hl 0 rfl) ?_
  refine lv_iload_n hx hb dX0_checkRange_1 rfl (lv_at hl 1 rfl) ?_
  refine lv_icmp_lt (tgt := 10) hx hb dX0_checkRange_2 (by decide) (fun c2 => ?_) (fun c2 => ?_)
  · exact absurd c2 h1
  · refine lv_iload_n hx hb dX0_checkRange_5 rfl (lv_at hl 0 rfl) ?_
    refine lv_iload_n hx hb dX0_checkRange_6 rfl (lv_at hl 2 rfl) ?_
    refine lv_icmp_le (tgt := 20) hx hb dX0_checkRange_7 (by decide) (fun c7 => ?_) (fun c7 => ?_)
    · exact rv_ret hx hb hr hlocks hH dX0_checkRange_20
    · exact absurd h2 c7
set_option maxHeartbeats 4000000 in
set_option maxRecDepth 100000 in
theorem v_X0_checkLine (l : Launch) (D : va_G) (cI cZ : ClassId) (h : Nat) (a : Nat → Nat) (σ : St) (H : Heap) {nL nB : Nat} (hI : inv σ nL nB) (j : Nat) (hj : j < nL) : rvM l yX0_checkLine wsX0_checkLine ({ frames := 0, cells := 0, slots := 0, locals := 0 }) [.ref h, .int (nI j)] D (xw cI cZ h a σ) (tyX cI cZ) H := by
  refine rv_of (cc := cX0_checkLine) (maxL := 2) (ret := none) (by decide) rfl (Nat.le_of_ble_eq_true rfl) ?_
  intro p e s m args below meth c he hH hP hK ls hl
  obtain ⟨hx, hb, hr, hml, hown, hts, hlocks⟩ := he
  have hown : s.vm.findClass RX0 = some m.cls := hown
  have hl : lv_has ls 2 [(0, .ref h), (1, .int (nI j))] := hl
  have hin : ∀ w ∈ u_ws RX0 TX0 15, w ∈ wsX0_checkLine := by decide +kernel
  have hL : σ 7 0 = nI nL := hI.1
  have hL10 : nL ≤ 10 := hI.2.1
  have hB : σ 4 0 = nI nB := hI.2.2.1
  have hB6 : nB ≤ 6 := hI.2.2.2.1
  refine lv_iload_n hx hb dX0_checkLine_0 rfl (lv_at hl 1 rfl) ?_
  refine lv_if_lt (tgt := 12) hx hb dX0_checkLine_1 (by decide) (fun c1 => ?_) (fun c1 => ?_)
  · exact absurd c1 (nI_pos (by omega))
  · refine lv_iload_n hx hb dX0_checkLine_4 rfl (lv_at hl 1 rfl) ?_
    refine lv_aload_n hx hb dX0_checkLine_5 rfl (lv_at hl 0 rfl) ?_
    refine x_get hin hx hb hts hown hK hP rfl 7 (by decide) (v := .int (nI nL)) (congrArg (fun z => some (Value.int z)) hL) (by decide +kernel) dX0_checkLine_6 ?_
    refine lv_icmp_lt (tgt := 22) hx hb dX0_checkLine_9 (by decide) (fun c9 => ?_) (fun c9 => ?_)
    · exact rv_ret hx hb hr hlocks hH dX0_checkLine_22
    · exact absurd (nI_lt (a := j) (b := nL) hj (by omega)) c9
set_option maxHeartbeats 4000000 in
set_option maxRecDepth 100000 in
theorem v_X0_checkBollard (l : Launch) (D : va_G) (cI cZ : ClassId) (h : Nat) (a : Nat → Nat) (σ : St) (H : Heap) {nL nB : Nat} (hI : inv σ nL nB) (j : Nat) (hj : j < nB) : rvM l yX0_checkBollard wsX0_checkBollard ({ frames := 0, cells := 0, slots := 0, locals := 0 }) [.ref h, .int (nI j)] D (xw cI cZ h a σ) (tyX cI cZ) H := by
  refine rv_of (cc := cX0_checkBollard) (maxL := 2) (ret := none) (by decide) rfl (Nat.le_of_ble_eq_true rfl) ?_
  intro p e s m args below meth c he hH hP hK ls hl
  obtain ⟨hx, hb, hr, hml, hown, hts, hlocks⟩ := he
  have hown : s.vm.findClass RX0 = some m.cls := hown
  have hl : lv_has ls 2 [(0, .ref h), (1, .int (nI j))] := hl
  have hin : ∀ w ∈ u_ws RX0 TX0 15, w ∈ wsX0_checkBollard := by decide +kernel
  have hL : σ 7 0 = nI nL := hI.1
  have hL10 : nL ≤ 10 := hI.2.1
  have hB : σ 4 0 = nI nB := hI.2.2.1
  have hB6 : nB ≤ 6 := hI.2.2.2.1
  refine lv_iload_n hx hb dX0_checkBollard_0 rfl (lv_at hl 1 rfl) ?_
  refine lv_if_lt (tgt := 12) hx hb dX0_checkBollard_1 (by decide) (fun c1 => ?_) (fun c1 => ?_)
  · exact absurd c1 (nI_pos (by omega))
  · refine lv_iload_n hx hb dX0_checkBollard_4 rfl (lv_at hl 1 rfl) ?_
    refine lv_aload_n hx hb dX0_checkBollard_5 rfl (lv_at hl 0 rfl) ?_
    refine x_get hin hx hb hts hown hK hP rfl 4 (by decide) (v := .int (nI nB)) (congrArg (fun z => some (Value.int z)) hB) (by decide +kernel) dX0_checkBollard_6 ?_
    refine lv_icmp_lt (tgt := 22) hx hb dX0_checkBollard_9 (by decide) (fun c9 => ?_) (fun c9 => ?_)
    · exact rv_ret hx hb hr hlocks hH dX0_checkBollard_22
    · exact absurd (nI_lt (a := j) (b := nB) hj (by omega)) c9
set_option maxHeartbeats 4000000 in
set_option maxRecDepth 100000 in
theorem r_X0_force (l : Launch) (D : va_G) (cI cZ : ClassId) (h : Nat) (a : Nat → Nat) (σ : St) (H : Heap) {nL nB : Nat} (hI : inv σ nL nB) (t : Nat) (ht48 : t < 48) (s9 : Int32) (hs9 : inS s9) : roM l yX0_force wsX0_force ({ frames := 4, cells := 0, slots := 0, locals := 93 }) [.ref h, .int (nI t), .int s9] D (xw cI cZ h a σ) (tyX cI cZ) H (fun r => r = frc σ t s9) := by
  refine ro_of (cc := cX0_force) (maxL := 3) (ret := some .int) (by decide) rfl (Nat.le_of_ble_eq_true rfl) ?_
  intro p e s m args below meth c he hH hP hK ls hl
  obtain ⟨hx, hb, hr, hml, hown, hts, hlocks⟩ := he
  have hown : s.vm.findClass RX0 = some m.cls := hown
  have hl : lv_has ls 3 [(0, .ref h), (1, .int (nI t)), (2, .int s9)] := hl
  refine lv_iload_n hx hb dX0_force_0 rfl (lv_at hl 1 rfl) ?_
  refine rv_callS 1 hx hb hml hown hts hl.1 hP hK (As := [.int (nI t)]) (rest := []) (v_X0_checkHour l D (xw cI cZ h a σ) (tyX cI cZ) H t ht48) gX0_force_X0_checkHour rfl rfl rfl (by decide +kernel) ⟨Nat.le_of_ble_eq_true rfl, Nat.le_of_ble_eq_true rfl⟩ rfl rfl (Nat.le_of_ble_eq_true rfl) dX0_force_1 ⟨Nat.zero_le _, Nat.zero_le _⟩ ?_
  refine lv_iload_n hx hb dX0_force_4 rfl (lv_at hl 2 rfl) ?_
  refine lv_sipush (v := (-200)) hx hb dX0_force_5 (by decide) ?_
  refine lv_sipush (v := 200) hx hb dX0_force_8 (by decide) ?_
  refine rv_callS 3 hx hb hml hown hts hl.1 hP hK (As := [.int s9, .int (-200), .int 200]) (rest := []) (v_X0_checkRange l D (xw cI cZ h a σ) (tyX cI cZ) H s9 (-200) 200 (fun q => by have q2 := i_lt.mp q; have e : (-200 : Int32).toInt = -200 := rfl; have := hs9.1; omega) (i_le.mpr (by have e : (200 : Int32).toInt = 200 := rfl; have := hs9.2; omega))) gX0_force_X0_checkRange rfl rfl rfl (by decide +kernel) ⟨Nat.le_of_ble_eq_true rfl, Nat.le_of_ble_eq_true rfl⟩ rfl rfl (Nat.le_of_ble_eq_true rfl) dX0_force_11 ⟨Nat.zero_le _, Nat.zero_le _⟩ ?_
  refine lv_aload_n hx hb dX0_force_14 rfl (lv_at hl 0 rfl) ?_
  refine lv_iload_n hx hb dX0_force_15 rfl (lv_at hl 1 rfl) ?_
  refine lv_iload_n hx hb dX0_force_16 rfl (lv_at hl 2 rfl) ?_
  refine ro_callV 2 hx hb hml hown hts hl.1 hP hK 0 0 rfl rfl (As := [.int (nI t), .int s9]) (rest := []) (c_X0_forceWith l D cI cZ h a σ H hI t ht48 s9 hs9) gX0_force_X0_forceWith rfl rfl rfl (by decide +kernel) ⟨Nat.le_of_ble_eq_true rfl, Nat.le_of_ble_eq_true rfl⟩ rfl rfl (Nat.le_of_ble_eq_true rfl) dX0_force_17 ⟨Nat.zero_le _, Nat.zero_le _⟩ (fun r1 hr1 => ?_)
  subst hr1
  exact ro_ret (v := (frc σ t s9)) hx hb hr hlocks hH rfl dX0_force_20
set_option maxHeartbeats 4000000 in
set_option maxRecDepth 100000 in
theorem r_X0_shift (l : Launch) (D : va_G) (cI cZ : ClassId) (h : Nat) (a : Nat → Nat) (σ : St) (H : Heap) {nL nB : Nat} (hI : inv σ nL nB) (t : Nat) (ht48 : t < 48) : roM l yX0_shift wsX0_shift ({ frames := 5, cells := 0, slots := 0, locals := 118 }) [.ref h, .int (nI t)] D (xw cI cZ h a σ) (tyX cI cZ) H (fun r => r = bal σ t) := by
  refine ro_of (cc := cX0_shift) (maxL := 2) (ret := some .int) (by decide) rfl (Nat.le_of_ble_eq_true rfl) ?_
  intro p e s m args below meth c he hH hP hK ls hl
  obtain ⟨hx, hb, hr, hml, hown, hts, hlocks⟩ := he
  have hown : s.vm.findClass RX0 = some m.cls := hown
  have hl : lv_has ls 2 [(0, .ref h), (1, .int (nI t))] := hl
  refine lv_iload_n hx hb dX0_shift_0 rfl (lv_at hl 1 rfl) ?_
  refine rv_callS 1 hx hb hml hown hts hl.1 hP hK (As := [.int (nI t)]) (rest := []) (v_X0_checkHour l D (xw cI cZ h a σ) (tyX cI cZ) H t ht48) gX0_shift_X0_checkHour rfl rfl rfl (by decide +kernel) ⟨Nat.le_of_ble_eq_true rfl, Nat.le_of_ble_eq_true rfl⟩ rfl rfl (Nat.le_of_ble_eq_true rfl) dX0_shift_1 ⟨Nat.zero_le _, Nat.zero_le _⟩ ?_
  refine lv_aload_n hx hb dX0_shift_4 rfl (lv_at hl 0 rfl) ?_
  refine lv_iload_n hx hb dX0_shift_5 rfl (lv_at hl 1 rfl) ?_
  refine ro_callV 1 hx hb hml hown hts hl.1 hP hK 0 0 rfl rfl (As := [.int (nI t)]) (rest := []) (c_X0_balanceOf l D cI cZ h a σ H hI t ht48) gX0_shift_X0_balanceOf rfl rfl rfl (by decide +kernel) ⟨Nat.le_of_ble_eq_true rfl, Nat.le_of_ble_eq_true rfl⟩ rfl rfl (Nat.le_of_ble_eq_true rfl) dX0_shift_6 ⟨Nat.zero_le _, Nat.zero_le _⟩ (fun r1 hr1 => ?_)
  subst hr1
  exact ro_ret (v := (bal σ t)) hx hb hr hlocks hH rfl dX0_shift_9
set_option maxHeartbeats 4000000 in
set_option maxRecDepth 100000 in
theorem r_X0_isAdrift (l : Launch) (D : va_G) (cI cZ : ClassId) (h : Nat) (a : Nat → Nat) (σ : St) (H : Heap) {nL nB : Nat} (hI : inv σ nL nB) (t : Nat) (ht48 : t < 48) : roM l yX0_isAdrift wsX0_isAdrift ({ frames := 5, cells := 0, slots := 0, locals := 118 }) [.ref h, .int (nI t)] D (xw cI cZ h a σ) (tyX cI cZ) H (fun r => r = bI (drfW σ t (bal σ t))) := by
  refine ro_of (cc := cX0_isAdrift) (maxL := 2) (ret := some .boolean) (by decide) rfl (Nat.le_of_ble_eq_true rfl) ?_
  intro p e s m args below meth c he hH hP hK ls hl
  obtain ⟨hx, hb, hr, hml, hown, hts, hlocks⟩ := he
  have hown : s.vm.findClass RX0 = some m.cls := hown
  have hl : lv_has ls 2 [(0, .ref h), (1, .int (nI t))] := hl
  refine lv_iload_n hx hb dX0_isAdrift_0 rfl (lv_at hl 1 rfl) ?_
  refine rv_callS 1 hx hb hml hown hts hl.1 hP hK (As := [.int (nI t)]) (rest := []) (v_X0_checkHour l D (xw cI cZ h a σ) (tyX cI cZ) H t ht48) gX0_isAdrift_X0_checkHour rfl rfl rfl (by decide +kernel) ⟨Nat.le_of_ble_eq_true rfl, Nat.le_of_ble_eq_true rfl⟩ rfl rfl (Nat.le_of_ble_eq_true rfl) dX0_isAdrift_1 ⟨Nat.zero_le _, Nat.zero_le _⟩ ?_
  refine lv_aload_n hx hb dX0_isAdrift_4 rfl (lv_at hl 0 rfl) ?_
  refine lv_iload_n hx hb dX0_isAdrift_5 rfl (lv_at hl 1 rfl) ?_
  refine lv_aload_n hx hb dX0_isAdrift_6 rfl (lv_at hl 0 rfl) ?_
  refine lv_iload_n hx hb dX0_isAdrift_7 rfl (lv_at hl 1 rfl) ?_
  refine ro_callV 1 hx hb hml hown hts hl.1 hP hK 0 0 rfl rfl (As := [.int (nI t)]) (rest := [.int (nI t), .ref h]) (c_X0_balanceOf l D cI cZ h a σ H hI t ht48) gX0_isAdrift_X0_balanceOf rfl rfl rfl (by decide +kernel) ⟨Nat.le_of_ble_eq_true rfl, Nat.le_of_ble_eq_true rfl⟩ rfl rfl (Nat.le_of_ble_eq_true rfl) dX0_isAdrift_8 ⟨Nat.zero_le _, Nat.zero_le _⟩ (fun r1 hr1 => ?_)
  subst hr1
  refine ro_callV 2 hx hb hml hown hts hl.1 hP hK 0 0 rfl rfl (As := [.int (nI t), .int (bal σ t)]) (rest := []) (c_X0_driftsWith l D cI cZ h a σ H hI t ht48 (bal σ t) (bal_inS σ t)) gX0_isAdrift_X0_driftsWith rfl rfl rfl (by decide +kernel) ⟨Nat.le_of_ble_eq_true rfl, Nat.le_of_ble_eq_true rfl⟩ rfl rfl (Nat.le_of_ble_eq_true rfl) dX0_isAdrift_11 ⟨Nat.zero_le _, Nat.zero_le _⟩ (fun r2 hr2 => ?_)
  subst hr2
  exact ro_zret (v := (bI (drfW σ t (bal σ t)))) hx hb hr hlocks hH ⟨_, rfl⟩ rfl dX0_isAdrift_14
set_option maxHeartbeats 4000000 in
set_option maxRecDepth 100000 in
theorem r_X0_length (l : Launch) (D : va_G) (cI cZ : ClassId) (h : Nat) (a : Nat → Nat) (σ : St) (H : Heap) {nL nB : Nat} (hI : inv σ nL nB) (j t : Nat) (hj : j < nL) (ht48 : t < 48) : roM l yX0_length wsX0_length ({ frames := 5, cells := 0, slots := 0, locals := 118 }) [.ref h, .int (nI j), .int (nI t)] D (xw cI cZ h a σ) (tyX cI cZ) H (fun r => r = len_ σ j t (bal σ t)) := by
  refine ro_of (cc := cX0_length) (maxL := 3) (ret := some .int) (by decide) rfl (Nat.le_of_ble_eq_true rfl) ?_
  intro p e s m args below meth c he hH hP hK ls hl
  obtain ⟨hx, hb, hr, hml, hown, hts, hlocks⟩ := he
  have hown : s.vm.findClass RX0 = some m.cls := hown
  have hl : lv_has ls 3 [(0, .ref h), (1, .int (nI j)), (2, .int (nI t))] := hl
  refine lv_aload_n hx hb dX0_length_0 rfl (lv_at hl 0 rfl) ?_
  refine lv_iload_n hx hb dX0_length_1 rfl (lv_at hl 1 rfl) ?_
  refine rv_callV 1 hx hb hml hown hts hl.1 hP hK 0 0 rfl rfl (As := [.int (nI j)]) (rest := []) (v_X0_checkLine l D cI cZ h a σ H hI j hj) gX0_length_X0_checkLine rfl rfl rfl (by decide +kernel) ⟨Nat.le_of_ble_eq_true rfl, Nat.le_of_ble_eq_true rfl⟩ rfl rfl (Nat.le_of_ble_eq_true rfl) dX0_length_2 ⟨Nat.zero_le _, Nat.zero_le _⟩ ?_
  refine lv_iload_n hx hb dX0_length_5 rfl (lv_at hl 2 rfl) ?_
  refine rv_callS 1 hx hb hml hown hts hl.1 hP hK (As := [.int (nI t)]) (rest := []) (v_X0_checkHour l D (xw cI cZ h a σ) (tyX cI cZ) H t ht48) gX0_length_X0_checkHour rfl rfl rfl (by decide +kernel) ⟨Nat.le_of_ble_eq_true rfl, Nat.le_of_ble_eq_true rfl⟩ rfl rfl (Nat.le_of_ble_eq_true rfl) dX0_length_6 ⟨Nat.zero_le _, Nat.zero_le _⟩ ?_
  refine lv_aload_n hx hb dX0_length_9 rfl (lv_at hl 0 rfl) ?_
  refine lv_iload_n hx hb dX0_length_10 rfl (lv_at hl 1 rfl) ?_
  refine lv_iload_n hx hb dX0_length_11 rfl (lv_at hl 2 rfl) ?_
  refine lv_aload_n hx hb dX0_length_12 rfl (lv_at hl 0 rfl) ?_
  refine lv_iload_n hx hb dX0_length_13 rfl (lv_at hl 2 rfl) ?_
  refine ro_callV 1 hx hb hml hown hts hl.1 hP hK 0 0 rfl rfl (As := [.int (nI t)]) (rest := [.int (nI t), .int (nI j), .ref h]) (c_X0_balanceOf l D cI cZ h a σ H hI t ht48) gX0_length_X0_balanceOf rfl rfl rfl (by decide +kernel) ⟨Nat.le_of_ble_eq_true rfl, Nat.le_of_ble_eq_true rfl⟩ rfl rfl (Nat.le_of_ble_eq_true rfl) dX0_length_14 ⟨Nat.zero_le _, Nat.zero_le _⟩ (fun r1 hr1 => ?_)
  subst hr1
  refine ro_callV 3 hx hb hml hown hts hl.1 hP hK 0 0 rfl rfl (As := [.int (nI j), .int (nI t), .int (bal σ t)]) (rest := []) (c_X0_lengthWith l D cI cZ h a σ H hI j t hj ht48 (bal σ t) (bal_inS σ t)) gX0_length_X0_lengthWith rfl rfl rfl (by decide +kernel) ⟨Nat.le_of_ble_eq_true rfl, Nat.le_of_ble_eq_true rfl⟩ rfl rfl (Nat.le_of_ble_eq_true rfl) dX0_length_17 ⟨Nat.zero_le _, Nat.zero_le _⟩ (fun r2 hr2 => ?_)
  subst hr2
  exact ro_ret (v := (len_ σ j t (bal σ t))) hx hb hr hlocks hH rfl dX0_length_20
set_option maxHeartbeats 4000000 in
set_option maxRecDepth 100000 in
theorem r_X0_tension (l : Launch) (D : va_G) (cI cZ : ClassId) (h : Nat) (a : Nat → Nat) (σ : St) (H : Heap) {nL nB : Nat} (hI : inv σ nL nB) (j t : Nat) (hj : j < nL) (ht48 : t < 48) : roM l yX0_tension wsX0_tension ({ frames := 5, cells := 0, slots := 0, locals := 118 }) [.ref h, .int (nI j), .int (nI t)] D (xw cI cZ h a σ) (tyX cI cZ) H (fun r => r = tn_ σ j t (bal σ t)) := by
  refine ro_of (cc := cX0_tension) (maxL := 3) (ret := some .int) (by decide) rfl (Nat.le_of_ble_eq_true rfl) ?_
  intro p e s m args below meth c he hH hP hK ls hl
  obtain ⟨hx, hb, hr, hml, hown, hts, hlocks⟩ := he
  have hown : s.vm.findClass RX0 = some m.cls := hown
  have hl : lv_has ls 3 [(0, .ref h), (1, .int (nI j)), (2, .int (nI t))] := hl
  refine lv_aload_n hx hb dX0_tension_0 rfl (lv_at hl 0 rfl) ?_
  refine lv_iload_n hx hb dX0_tension_1 rfl (lv_at hl 1 rfl) ?_
  refine rv_callV 1 hx hb hml hown hts hl.1 hP hK 0 0 rfl rfl (As := [.int (nI j)]) (rest := []) (v_X0_checkLine l D cI cZ h a σ H hI j hj) gX0_tension_X0_checkLine rfl rfl rfl (by decide +kernel) ⟨Nat.le_of_ble_eq_true rfl, Nat.le_of_ble_eq_true rfl⟩ rfl rfl (Nat.le_of_ble_eq_true rfl) dX0_tension_2 ⟨Nat.zero_le _, Nat.zero_le _⟩ ?_
  refine lv_iload_n hx hb dX0_tension_5 rfl (lv_at hl 2 rfl) ?_
  refine rv_callS 1 hx hb hml hown hts hl.1 hP hK (As := [.int (nI t)]) (rest := []) (v_X0_checkHour l D (xw cI cZ h a σ) (tyX cI cZ) H t ht48) gX0_tension_X0_checkHour rfl rfl rfl (by decide +kernel) ⟨Nat.le_of_ble_eq_true rfl, Nat.le_of_ble_eq_true rfl⟩ rfl rfl (Nat.le_of_ble_eq_true rfl) dX0_tension_6 ⟨Nat.zero_le _, Nat.zero_le _⟩ ?_
  refine lv_aload_n hx hb dX0_tension_9 rfl (lv_at hl 0 rfl) ?_
  refine lv_iload_n hx hb dX0_tension_10 rfl (lv_at hl 1 rfl) ?_
  refine lv_aload_n hx hb dX0_tension_11 rfl (lv_at hl 0 rfl) ?_
  refine lv_iload_n hx hb dX0_tension_12 rfl (lv_at hl 1 rfl) ?_
  refine lv_iload_n hx hb dX0_tension_13 rfl (lv_at hl 2 rfl) ?_
  refine lv_aload_n hx hb dX0_tension_14 rfl (lv_at hl 0 rfl) ?_
  refine lv_iload_n hx hb dX0_tension_15 rfl (lv_at hl 2 rfl) ?_
  refine ro_callV 1 hx hb hml hown hts hl.1 hP hK 0 0 rfl rfl (As := [.int (nI t)]) (rest := [.int (nI t), .int (nI j), .ref h, .int (nI j), .ref h]) (c_X0_balanceOf l D cI cZ h a σ H hI t ht48) gX0_tension_X0_balanceOf rfl rfl rfl (by decide +kernel) ⟨Nat.le_of_ble_eq_true rfl, Nat.le_of_ble_eq_true rfl⟩ rfl rfl (Nat.le_of_ble_eq_true rfl) dX0_tension_16 ⟨Nat.zero_le _, Nat.zero_le _⟩ (fun r1 hr1 => ?_)
  subst hr1
  refine ro_callV 3 hx hb hml hown hts hl.1 hP hK 0 0 rfl rfl (As := [.int (nI j), .int (nI t), .int (bal σ t)]) (rest := [.int (nI j), .ref h]) (c_X0_lengthWith l D cI cZ h a σ H hI j t hj ht48 (bal σ t) (bal_inS σ t)) gX0_tension_X0_lengthWith rfl rfl rfl (by decide +kernel) ⟨Nat.le_of_ble_eq_true rfl, Nat.le_of_ble_eq_true rfl⟩ rfl rfl (Nat.le_of_ble_eq_true rfl) dX0_tension_19 ⟨Nat.zero_le _, Nat.zero_le _⟩ (fun r2 hr2 => ?_)
  subst hr2
  refine ro_callV 2 hx hb hml hown hts hl.1 hP hK 0 0 rfl rfl (As := [.int (nI j), .int (len_ σ j t (bal σ t))]) (rest := []) (c_X0_tensionAtLength l D cI cZ h a σ H j (by have := hI.2.1; omega) (len_ σ j t (bal σ t))) gX0_tension_X0_tensionAtLength rfl rfl rfl (by decide +kernel) ⟨Nat.le_of_ble_eq_true rfl, Nat.le_of_ble_eq_true rfl⟩ rfl rfl (Nat.le_of_ble_eq_true rfl) dX0_tension_22 ⟨Nat.zero_le _, Nat.zero_le _⟩ (fun r3 hr3 => ?_)
  subst hr3
  exact ro_ret (v := (tens_ σ j (len_ σ j t (bal σ t)))) hx hb hr hlocks hH rfl dX0_tension_25
set_option maxHeartbeats 4000000 in
set_option maxRecDepth 100000 in
theorem r_X0_onBollard (l : Launch) (D : va_G) (cI cZ : ClassId) (h : Nat) (a : Nat → Nat) (σ : St) (H : Heap) {nL nB : Nat} (hI : inv σ nL nB) (j t : Nat) (hj : j < nB) (ht48 : t < 48) : roM l yX0_onBollard wsX0_onBollard ({ frames := 5, cells := 0, slots := 0, locals := 118 }) [.ref h, .int (nI j), .int (nI t)] D (xw cI cZ h a σ) (tyX cI cZ) H (fun r => r = sumOn_ σ (nI j) t (bal σ t)) := by
  refine ro_of (cc := cX0_onBollard) (maxL := 3) (ret := some .int) (by decide) rfl (Nat.le_of_ble_eq_true rfl) ?_
  intro p e s m args below meth c he hH hP hK ls hl
  obtain ⟨hx, hb, hr, hml, hown, hts, hlocks⟩ := he
  have hown : s.vm.findClass RX0 = some m.cls := hown
  have hl : lv_has ls 3 [(0, .ref h), (1, .int (nI j)), (2, .int (nI t))] := hl
  refine lv_aload_n hx hb dX0_onBollard_0 rfl (lv_at hl 0 rfl) ?_
  refine lv_iload_n hx hb dX0_onBollard_1 rfl (lv_at hl 1 rfl) ?_
  refine rv_callV 1 hx hb hml hown hts hl.1 hP hK 0 0 rfl rfl (As := [.int (nI j)]) (rest := []) (v_X0_checkBollard l D cI cZ h a σ H hI j hj) gX0_onBollard_X0_checkBollard rfl rfl rfl (by decide +kernel) ⟨Nat.le_of_ble_eq_true rfl, Nat.le_of_ble_eq_true rfl⟩ rfl rfl (Nat.le_of_ble_eq_true rfl) dX0_onBollard_2 ⟨Nat.zero_le _, Nat.zero_le _⟩ ?_
  refine lv_iload_n hx hb dX0_onBollard_5 rfl (lv_at hl 2 rfl) ?_
  refine rv_callS 1 hx hb hml hown hts hl.1 hP hK (As := [.int (nI t)]) (rest := []) (v_X0_checkHour l D (xw cI cZ h a σ) (tyX cI cZ) H t ht48) gX0_onBollard_X0_checkHour rfl rfl rfl (by decide +kernel) ⟨Nat.le_of_ble_eq_true rfl, Nat.le_of_ble_eq_true rfl⟩ rfl rfl (Nat.le_of_ble_eq_true rfl) dX0_onBollard_6 ⟨Nat.zero_le _, Nat.zero_le _⟩ ?_
  refine lv_aload_n hx hb dX0_onBollard_9 rfl (lv_at hl 0 rfl) ?_
  refine lv_iload_n hx hb dX0_onBollard_10 rfl (lv_at hl 1 rfl) ?_
  refine lv_iload_n hx hb dX0_onBollard_11 rfl (lv_at hl 2 rfl) ?_
  refine lv_aload_n hx hb dX0_onBollard_12 rfl (lv_at hl 0 rfl) ?_
  refine lv_iload_n hx hb dX0_onBollard_13 rfl (lv_at hl 2 rfl) ?_
  refine ro_callV 1 hx hb hml hown hts hl.1 hP hK 0 0 rfl rfl (As := [.int (nI t)]) (rest := [.int (nI t), .int (nI j), .ref h]) (c_X0_balanceOf l D cI cZ h a σ H hI t ht48) gX0_onBollard_X0_balanceOf rfl rfl rfl (by decide +kernel) ⟨Nat.le_of_ble_eq_true rfl, Nat.le_of_ble_eq_true rfl⟩ rfl rfl (Nat.le_of_ble_eq_true rfl) dX0_onBollard_14 ⟨Nat.zero_le _, Nat.zero_le _⟩ (fun r1 hr1 => ?_)
  subst hr1
  refine ro_callV 3 hx hb hml hown hts hl.1 hP hK 0 0 rfl rfl (As := [.int (nI j), .int (nI t), .int (bal σ t)]) (rest := []) (c_X0_bollardTension l D cI cZ h a σ H hI (nI j) t ht48 (bal σ t) (bal_inS σ t)) gX0_onBollard_X0_bollardTension rfl rfl rfl (by decide +kernel) ⟨Nat.le_of_ble_eq_true rfl, Nat.le_of_ble_eq_true rfl⟩ rfl rfl (Nat.le_of_ble_eq_true rfl) dX0_onBollard_17 ⟨Nat.zero_le _, Nat.zero_le _⟩ (fun r2 hr2 => ?_)
  subst hr2
  exact ro_ret (v := (sumOn_ σ (nI j) t (bal σ t))) hx hb hr hlocks hH rfl dX0_onBollard_20
set_option maxHeartbeats 4000000 in
set_option maxRecDepth 100000 in
theorem r_X0_isSafe (l : Launch) (D : va_G) (cI cZ : ClassId) (h : Nat) (a : Nat → Nat) (σ : St) (H : Heap) {nL nB : Nat} (hI : inv σ nL nB) (t : Nat) (ht48 : t < 48) : roM l yX0_isSafe wsX0_isSafe ({ frames := 6, cells := 0, slots := 0, locals := 140 }) [.ref h, .int (nI t)] D (xw cI cZ h a σ) (tyX cI cZ) H (fun r => r = bI (safe_ σ t)) := by
  refine ro_of (cc := cX0_isSafe) (maxL := 2) (ret := some .boolean) (by decide) rfl (Nat.le_of_ble_eq_true rfl) ?_
  intro p e s m args below meth c he hH hP hK ls hl
  obtain ⟨hx, hb, hr, hml, hown, hts, hlocks⟩ := he
  have hown : s.vm.findClass RX0 = some m.cls := hown
  have hl : lv_has ls 2 [(0, .ref h), (1, .int (nI t))] := hl
  refine lv_iload_n hx hb dX0_isSafe_0 rfl (lv_at hl 1 rfl) ?_
  refine rv_callS 1 hx hb hml hown hts hl.1 hP hK (As := [.int (nI t)]) (rest := []) (v_X0_checkHour l D (xw cI cZ h a σ) (tyX cI cZ) H t ht48) gX0_isSafe_X0_checkHour rfl rfl rfl (by decide +kernel) ⟨Nat.le_of_ble_eq_true rfl, Nat.le_of_ble_eq_true rfl⟩ rfl rfl (Nat.le_of_ble_eq_true rfl) dX0_isSafe_1 ⟨Nat.zero_le _, Nat.zero_le _⟩ ?_
  refine lv_aload_n hx hb dX0_isSafe_4 rfl (lv_at hl 0 rfl) ?_
  refine lv_iload_n hx hb dX0_isSafe_5 rfl (lv_at hl 1 rfl) ?_
  refine ro_callV 1 hx hb hml hown hts hl.1 hP hK 0 0 rfl rfl (As := [.int (nI t)]) (rest := []) (c_X0_holdsIn l D cI cZ h a σ H hI t ht48) gX0_isSafe_X0_holdsIn rfl rfl rfl (by decide +kernel) ⟨Nat.le_of_ble_eq_true rfl, Nat.le_of_ble_eq_true rfl⟩ rfl rfl (Nat.le_of_ble_eq_true rfl) dX0_isSafe_6 ⟨Nat.zero_le _, Nat.zero_le _⟩ (fun r1 hr1 => ?_)
  subst hr1
  exact ro_zret (v := (bI (safe_ σ t))) hx hb hr hlocks hH ⟨_, rfl⟩ rfl dX0_isSafe_9
set_option maxHeartbeats 4000000 in
set_option maxRecDepth 100000 in
theorem r_X0_firstUnsafe (l : Launch) (D : va_G) (cI cZ : ClassId) (h : Nat) (a : Nat → Nat) (σ : St) (H : Heap) {nL nB : Nat} (hI : inv σ nL nB) (t : Nat) (ht48 : t < 48) : roM l yX0_firstUnsafe wsX0_firstUnsafe ({ frames := 6, cells := 0, slots := 0, locals := 140 }) [.ref h, .int (nI t)] D (xw cI cZ h a σ) (tyX cI cZ) H (fun r => r = fuR (48 - t) σ t) := by
  refine ro_of (cc := cX0_firstUnsafe) (maxL := 3) (ret := some .int) (by decide) rfl (Nat.le_of_ble_eq_true rfl) ?_
  intro p e s m args below meth c he hH hP hK ls hl
  obtain ⟨hx, hb, hr, hml, hown, hts, hlocks⟩ := he
  have hown : s.vm.findClass RX0 = some m.cls := hown
  have hl : lv_has ls 3 [(0, .ref h), (1, .int (nI t))] := hl
  refine lv_iload_n hx hb dX0_firstUnsafe_0 rfl (lv_at hl 1 rfl) ?_
  refine rv_callS 1 hx hb hml hown hts hl.1 hP hK (As := [.int (nI t)]) (rest := []) (v_X0_checkHour l D (xw cI cZ h a σ) (tyX cI cZ) H t ht48) gX0_firstUnsafe_X0_checkHour rfl rfl rfl (by decide +kernel) ⟨Nat.le_of_ble_eq_true rfl, Nat.le_of_ble_eq_true rfl⟩ rfl rfl (Nat.le_of_ble_eq_true rfl) dX0_firstUnsafe_1 ⟨Nat.zero_le _, Nat.zero_le _⟩ ?_
  refine lv_iload_n hx hb dX0_firstUnsafe_4 rfl (lv_at hl 1 rfl) ?_
  refine lv_istore_n (lv' := [(2, .int (nI t)), (0, .ref h), (1, .int (nI t))]) hx hb dX0_firstUnsafe_5 rfl hl (by decide) rfl (fun ls hl => ?_)
  suffices K : ∀ (n k : Nat) (ls : Array Slot), k + n = 48 → fuR n σ k = fuR (48 - t) σ t → lv_has ls 3 [(2, .int (nI k)), (0, .ref h), (1, .int (nI t))] → W p l e _ s m args below meth c H [] 0 0 (roQ below H (fun r => r = fuR (48 - t) σ t) args s) (F0 m 6 ls []) by
    exact K (48 - t) t ls (by omega) rfl (lv_sub hl [0, 1, 2] rfl)
  intro n
  induction n with
  | zero =>
    intro k ls hk hf hl
    refine lv_iload_n hx hb dX0_firstUnsafe_6 rfl (lv_at hl 0 rfl) ?_
    refine lv_bipush (v := 48) hx hb dX0_firstUnsafe_7 (by decide) ?_
    refine lv_icmp_ge (tgt := 28) hx hb dX0_firstUnsafe_9 (by decide) (fun c9 => ?_) (fun c9 => ?_)
    · refine lv_iconst (v := (-1)) hx hb dX0_firstUnsafe_28 (by decide) ?_
      exact ro_ret (v := (-1)) hx hb hr hlocks hH (by show (-1 : Int32) = _; rw [← hf]; rfl) dX0_firstUnsafe_29
    · exact absurd (nI_le (a := 48) (b := k) (by omega) (by omega)) c9
  | succ n ih =>
    intro k ls hk hf hl
    refine lv_iload_n hx hb dX0_firstUnsafe_6 rfl (lv_at hl 0 rfl) ?_
    refine lv_bipush (v := 48) hx hb dX0_firstUnsafe_7 (by decide) ?_
    refine lv_icmp_ge (tgt := 28) hx hb dX0_firstUnsafe_9 (by decide) (fun c9 => ?_) (fun c9 => ?_)
    · exact absurd c9 (nI_ge (a := k) (b := 48) (by omega) (by omega))
    · refine lv_aload_n hx hb dX0_firstUnsafe_12 rfl (lv_at hl 1 rfl) ?_
      refine lv_iload_n hx hb dX0_firstUnsafe_13 rfl (lv_at hl 0 rfl) ?_
      refine ro_callV 1 hx hb hml hown hts hl.1 hP hK 0 0 rfl rfl (As := [.int (nI k)]) (rest := []) (c_X0_holdsIn l D cI cZ h a σ H hI k (by omega)) gX0_firstUnsafe_X0_holdsIn rfl rfl rfl (by decide +kernel) ⟨Nat.le_of_ble_eq_true rfl, Nat.le_of_ble_eq_true rfl⟩ rfl rfl (Nat.le_of_ble_eq_true rfl) dX0_firstUnsafe_14 ⟨Nat.zero_le _, Nat.zero_le _⟩ (fun r1 hr1 => ?_)
      subst hr1
      refine lv_if_ne (tgt := 22) hx hb dX0_firstUnsafe_17 (by decide) (fun c17 => ?_) (fun c17 => ?_)
      · refine lv_iinc (v := (nI (k + 1))) (lv' := [(2, .int (nI (k + 1))), (0, .ref h), (1, .int (nI t))]) hx hb dX0_firstUnsafe_22 hl (k := 0) rfl (by exact nI_add _ 1) (by decide) rfl (fun ls hl => ?_)
        refine lv_goto (tgt := 6) hx hb dX0_firstUnsafe_25 (by decide) ?_
        exact ih (k + 1) ls (by omega) (by rw [← hf]; show _ = (if safe_ σ k = true then fuR n σ (k + 1) else nI k); rw [if_pos (bI_t c17)]) (lv_sub hl [0, 1, 2] rfl)
      · refine lv_iload_n hx hb dX0_firstUnsafe_20 rfl (lv_at hl 0 rfl) ?_
        exact ro_ret (v := (nI k)) hx hb hr hlocks hH (by show nI k = _; rw [← hf]; show nI k = (if safe_ σ k = true then fuR n σ (k + 1) else nI k); rw [if_neg (by rw [bI_f c17]; decide)]) dX0_firstUnsafe_21
