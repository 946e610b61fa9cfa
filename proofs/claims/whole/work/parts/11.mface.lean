/-! The reference's face. -/
theorem rel_0 {σ τ : St} {nL : Nat} (f : Nat → Int32) (h : rel σ τ nL) : rel (st σ 0 f) (st τ 10 f) nL := by
  obtain ⟨⟨r10, r11, r12, r13, r2, r0, r1, r9⟩, ⟨r4, r5, r6, r7⟩, r3, r8, r8z⟩ := h
  exact ⟨⟨rfl, r11, r12, r13, r2, r0, r1, r9⟩, ⟨r4, r5, r6, r7⟩, r3, r8, r8z⟩
theorem rel_1 {σ τ : St} {nL : Nat} (f : Nat → Int32) (h : rel σ τ nL) : rel (st σ 1 f) (st τ 11 f) nL := by
  obtain ⟨⟨r10, r11, r12, r13, r2, r0, r1, r9⟩, ⟨r4, r5, r6, r7⟩, r3, r8, r8z⟩ := h
  exact ⟨⟨r10, rfl, r12, r13, r2, r0, r1, r9⟩, ⟨r4, r5, r6, r7⟩, r3, r8, r8z⟩
theorem rel_2 {σ τ : St} {nL : Nat} (f : Nat → Int32) (h : rel σ τ nL) : rel (st σ 2 f) (st τ 12 f) nL := by
  obtain ⟨⟨r10, r11, r12, r13, r2, r0, r1, r9⟩, ⟨r4, r5, r6, r7⟩, r3, r8, r8z⟩ := h
  exact ⟨⟨r10, r11, rfl, r13, r2, r0, r1, r9⟩, ⟨r4, r5, r6, r7⟩, r3, r8, r8z⟩
theorem rel_3 {σ τ : St} {nL : Nat} (f : Nat → Int32) (h : rel σ τ nL) : rel (st σ 3 f) (st τ 13 f) nL := by
  obtain ⟨⟨r10, r11, r12, r13, r2, r0, r1, r9⟩, ⟨r4, r5, r6, r7⟩, r3, r8, r8z⟩ := h
  exact ⟨⟨r10, r11, r12, rfl, r2, r0, r1, r9⟩, ⟨r4, r5, r6, r7⟩, r3, r8, r8z⟩
theorem rel_tog {σ τ : St} {nL j : Nat} (hj : j < nL) (h : rel σ τ nL) : rel (st σ 13 (upd (σ 13) j (nxF σ j))) (st τ 8 (upd (τ 8) j (if τ 8 j = 0 then 1 else 0))) nL := by
  obtain ⟨h1, h2, r3, r8, r8z⟩ := h
  refine ⟨h1, h2, r3, fun i hi => ?_, fun i hi => ?_⟩
  · show ((if i = j then _ else τ 8 i) = 0 ∧ (if i = j then _ else σ 13 i) = 1) ∨ ((if i = j then _ else τ 8 i) = 1 ∧ (if i = j then _ else σ 13 i) = 0)
    by_cases e : i = j
    · subst e
      rw [if_pos rfl, if_pos rfl]
      unfold nxF
      rcases r8 i hi with ⟨a1, a2⟩ | ⟨a1, a2⟩
      · right; rw [a1, a2]; exact ⟨rfl, rfl⟩
      · left; rw [a1, a2]; exact ⟨rfl, rfl⟩
    · rw [if_neg e, if_neg e]
      exact r8 i hi
  · show (if i = j then _ else τ 8 i) = 0
    rw [if_neg (by omega)]
    exact r8z i hi
theorem rel_ab {σ τ : St} {nL nB : Nat} {p lim : Int32} (hI : inv σ nL nB) (h : rel σ τ nL) : rel (abS σ nB p lim) (st (st (st τ 0 (upd (σ 5) nB p)) 1 (upd (σ 6) nB lim)) 2 (fun _ => nI (nB + 1))) nL := by
  obtain ⟨⟨r10, r11, r12, r13, r2, r0, r1, r9⟩, h2, r3, r8, r8z⟩ := h
  refine ⟨⟨r10, r11, r12, r13, rfl, rfl, rfl, r9⟩, h2, fun j hj => ?_, r8, r8z⟩
  obtain ⟨⟨b, hb, eb⟩, -⟩ := hI.2.2.2.2.2.2 j hj
  have hB6 := hI.2.2.2.1
  show σ 9 j = (if (σ 8 j).toNatClampNeg = nB then p else σ 5 (σ 8 j).toNatClampNeg) - τ 3 j
  rw [if_neg (by rw [eb, nI_clamp (by omega)]; omega)]
  exact r3 j hj
theorem rel_al {σ τ : St} {nL : Nat} {pt bo sf sr : Int32} (h : rel σ τ nL) : rel (alS σ nL pt bo sf sr) (st (st (st (st (st (st τ 3 (upd (τ 3) nL pt)) 4 (upd (σ 8) nL bo)) 5 (upd (σ 10) nL sf)) 6 (upd (σ 11) nL sr)) 7 (upd (σ 12) nL (LENs (σ 5 (tN bo) - pt) 300))) 9 (fun _ => nI (nL + 1))) (nL + 1) := by
  obtain ⟨⟨r10, r11, r12, r13, r2, r0, r1, r9⟩, h2, r3, r8, r8z⟩ := h
  refine ⟨⟨r10, r11, r12, r13, r2, r0, r1, rfl⟩, ⟨rfl, rfl, rfl, rfl⟩, fun j hj => ?_, fun j hj => ?_, fun j hj => r8z j (by omega)⟩
  · show (if j = nL then _ else σ 9 j) = σ 5 (if j = nL then bo else σ 8 j).toNatClampNeg - (if j = nL then pt else τ 3 j)
    by_cases e : j = nL
    · rw [if_pos e, if_pos e, if_pos e]
    · rw [if_neg e, if_neg e, if_neg e]
      exact r3 j (by omega)
  · show (τ 8 j = 0 ∧ (if j = nL then 1 else σ 13 j) = 1) ∨ (τ 8 j = 1 ∧ (if j = nL then 1 else σ 13 j) = 0)
    by_cases e : j = nL
    · rw [if_pos e]
      exact Or.inl ⟨r8z j (by omega), rfl⟩
    · rw [if_neg e]
      exact r8 j (by omega)
theorem rel_back {σ ρ τ : St} {nL : Nat} (h : rel ρ τ nL) (hag : ∀ k, k ≠ 12 → ρ k = σ k) : rel σ (st τ 7 (σ 12)) nL := by
  obtain ⟨⟨r10, r11, r12, r13, r2, r0, r1, r9⟩, ⟨r4, r5, r6, r7⟩, r3, r8, r8z⟩ := h
  have a (k : Nat) (hk : k ≠ 12) : ρ k = σ k := hag k hk
  rw [a 0 (by decide)] at r10
  rw [a 1 (by decide)] at r11
  rw [a 2 (by decide)] at r12
  rw [a 3 (by decide)] at r13
  rw [a 4 (by decide)] at r2
  rw [a 5 (by decide)] at r0 r3
  rw [a 6 (by decide)] at r1
  rw [a 7 (by decide)] at r9
  rw [a 8 (by decide)] at r4 r3
  rw [a 9 (by decide)] at r3
  rw [a 10 (by decide)] at r5
  rw [a 11 (by decide)] at r6
  rw [a 13 (by decide)] at r8
  exact ⟨⟨r10, r11, r12, r13, r2, r0, r1, r9⟩, ⟨r4, r5, r6, rfl⟩, r3, r8, r8z⟩
theorem go_f {b1 b2 b3 : Bool} (h : bI (b1 && (b2 && b3)) = 0) : ¬ goK b1 b2 b3 = 0 := by
  have h2 := bI_f h
  cases b1 <;> cases b2 <;> cases b3 <;> first | exact (by decide) | exact absurd h2 (by decide)
theorem go_t {b1 b2 b3 : Bool} (h : ¬ bI (b1 && (b2 && b3)) = 0) : goK b1 b2 b3 = 0 ∧ b1 = true ∧ b2 = true ∧ b3 = true := by
  have h2 := bI_t h
  cases b1 <;> cases b2 <;> cases b3 <;> first | exact ⟨rfl, rfl, rfl, rfl⟩ | exact absurd h2 (by decide)
theorem go_and {b1 b2 x : Bool} : goK b1 b2 (b1 && x) = goK b1 b2 x := by cases b1 <;> rfl
theorem and_sp {x y : Bool} (h : (x && y) = true) : x = true ∧ y = true := by cases x <;> cases y <;> first | exact ⟨rfl, rfl⟩ | exact absurd h (by decide)
def cpF (f g : Nat → Int32) (k : Nat) : Nat → Int32 := fun j => if j < k then f j else g j
theorem cpF_0 {f g : Nat → Int32} : cpF f g 0 = g := funext fun j => by unfold cpF; rw [if_neg (Nat.not_lt_zero j)]
theorem cpF_up {f g : Nat → Int32} {k : Nat} : upd (cpF f g k) k (f k) = cpF f g (k + 1) := by
  funext j
  unfold upd cpF
  by_cases e : j = k
  · rw [if_pos e, if_pos (by omega), e]
  · rw [if_neg e]
    by_cases w : j < k
    · rw [if_pos w, if_pos (by omega)]
    · rw [if_neg w, if_neg (by omega)]
theorem bI_e {b c : Bool} {v : Int32} (h : b = c) (hv : v = bI c) : v = bI b := by rw [h]; exact hv
set_option maxHeartbeats 4000000 in
set_option maxRecDepth 100000 in
/-- force -/
theorem c_X1_force (l : Launch) (D : va_G) (cI cZ : ClassId) (h : Nat) (a : Nat → Nat) (σ τ : St) (Hi : Heap) (A : Nat → Prop) (hD : va_D A (mw cI cZ h a τ)) {nL nB : Nat} (hI : inv σ nL nB) (hR : rel σ τ nL) (hour sh : Int32) : wrM l yX1_force wsX1_force ({ frames := 4, cells := 0, slots := 0, locals := 99 }) [.ref h, .int hour, .int sh] D (mw cI cZ h a τ) (tyX cI cZ) Hi (S := St) (fun ρ => mw cI cZ h a ρ) (fun r ρ => ρ 15 0 = goK (inR hour 0 47) (inR sh (-200) 200) true ∧ (goK (inR hour 0 47) (inR sh (-200) 200) true = 0 → r = frc σ (tN hour) sh ∧ rel σ ρ nL) ∧ (¬ goK (inR hour 0 47) (inR sh (-200) 200) true = 0 → rel σ ρ nL)) A := by
  refine wr_of (cc := cX1_force) (maxL := 3) (ret := some .int) (by decide) rfl (Nat.le_of_ble_eq_true rfl) ?_
  intro p e s m args below meth c he hH hP hK ls hl
  obtain ⟨hx, hb, hr, hml, hown, hts, hlocks⟩ := he
  have hown : s.vm.findClass RX1 = some m.cls := hown
  have hS : va_S A Hi Hi [] := va_S.rf
  obtain ⟨⟨r10, r11, r12, r13, r2, r0, r1, r9⟩, ⟨r4, r5, r6, r7⟩, r3, r8, r8z⟩ := id hR
  have hL : σ 7 0 = nI nL := hI.1
  have hL10 : nL ≤ 10 := hI.2.1
  have hl : lv_has ls 3 [(0, .ref h), (1, .int hour), (2, .int sh)] := hl
  have hB6 : nB ≤ 6 := hI.2.2.2.1
  refine lv_aload_n hx hb dX1_force_0 rfl (lv_at hl 0 rfl) ?_
  refine lv_iload_n hx hb dX1_force_1 rfl (lv_at hl 1 rfl) ?_
  refine ro_callS 1 hx hb hml hown hts hl.1 hP hK (As := [.int hour]) (rest := [.ref h]) (c_X1_isHour l D (mw cI cZ h a τ) (tyX cI cZ) Hi hour) gX1_force_X1_isHour rfl rfl rfl (by decide +kernel) ⟨Nat.le_of_ble_eq_true rfl, Nat.le_of_ble_eq_true rfl⟩ rfl rfl (Nat.le_of_ble_eq_true rfl) dX1_force_2 ⟨Nat.zero_le _, Nat.zero_le _⟩ (fun r9_ hr9_ => ?_)
  subst hr9_
  refine lv_iload_n hx hb dX1_force_5 rfl (lv_at hl 2 rfl) ?_
  refine lv_sipush (v := (-200)) hx hb dX1_force_6 (by decide) ?_
  refine lv_sipush (v := 200) hx hb dX1_force_9 (by decide) ?_
  refine ro_callS 3 hx hb hml hown hts hl.1 hP hK (As := [.int sh, .int (-200), .int 200]) (rest := [.int (bI (inR hour 0 47)), .ref h]) (c_X1_in l D (mw cI cZ h a τ) (tyX cI cZ) Hi sh (-200) 200) gX1_force_X1_in rfl rfl rfl (by decide +kernel) ⟨Nat.le_of_ble_eq_true rfl, Nat.le_of_ble_eq_true rfl⟩ rfl rfl (Nat.le_of_ble_eq_true rfl) dX1_force_12 ⟨Nat.zero_le _, Nat.zero_le _⟩ (fun r9_ hr9_ => ?_)
  subst hr9_
  refine lv_iconst (v := 1) hx hb dX1_force_15 (by decide) ?_
  refine wr_callV 3 hx hb hml hown hts hl.1 hP hK hS (fun _ h9 => h9) 0 1 rfl rfl (As := [.int (bI (inR hour 0 47)), .int (bI (inR sh (-200) 200)), .int (bI true)]) (rest := []) (c_X1_goes l D cI cZ h a σ τ Hi A hD (inR hour 0 47) (inR sh (-200) 200) true) gX1_force_X1_goes rfl rfl rfl (by decide +kernel) ⟨Nat.le_of_ble_eq_true rfl, Nat.le_of_ble_eq_true rfl⟩ rfl rfl (Nat.le_of_ble_eq_true rfl) dX1_force_16 ⟨Nat.zero_le _, Nat.zero_le _⟩ (fun r0 u0 H locs hr0 hP hS _ _ => ?_)
  subst hr0
  obtain ⟨τ1, eT⟩ : ∃ z : St, z = st τ 15 (fun _ => goK (inR hour 0 47) (inR sh (-200) 200) true) := ⟨_, rfl⟩
  rw [← eT] at hP
  have h15 : τ1 15 0 = goK (inR hour 0 47) (inR sh (-200) 200) true := by rw [eT]; rfl
  have hR1 : rel σ τ1 nL := by rw [eT]; exact hR
  have hD : va_D A (mw cI cZ h a τ1) := mD hD
  obtain ⟨⟨r10, r11, r12, r13, r2, r0, r1, r9⟩, ⟨r4, r5, r6, r7⟩, r3, r8, r8z⟩ := id hR1
  refine lv_if_eq (tgt := 31) hx hb dX1_force_19 (by decide) (fun c19 => ?_) (fun c19 => ?_)
  · have hne := go_f c19
    refine lv_iconst (v := 0) hx hb dX1_force_31 (by decide) ?_
    exact wr_ret (v := 0) τ1 hx hb hr hlocks hH hS hP ⟨h15, fun q => absurd q hne, fun _ => hR1⟩ dX1_force_32
  · obtain ⟨hK0, g1, g2, g3⟩ := go_t c19
    obtain ⟨t, ht48, rfl⟩ := inR_hour g1
    have et : tN (nI t) = t := tN_nI (by omega)
    have hs9 : inS sh := inR_sp g2
    refine lv_aload_n hx hb dX1_force_22 rfl (lv_at hl 0 rfl) ?_
    refine lv_iload_n hx hb dX1_force_23 rfl (lv_at hl 1 rfl) ?_
    refine lv_iload_n hx hb dX1_force_24 rfl (lv_at hl 2 rfl) ?_
    refine ro_callV 2 hx hb hml hown hts hl.1 hP hK 0 1 rfl rfl (As := [.int (nI t), .int sh]) (rest := []) (c_X1_forceAt l D cI cZ h a σ τ1 H hI hR1 t ht48 sh hs9) gX1_force_X1_forceAt rfl rfl rfl (by decide +kernel) ⟨Nat.le_of_ble_eq_true rfl, Nat.le_of_ble_eq_true rfl⟩ rfl rfl (Nat.le_of_ble_eq_true rfl) dX1_force_25 ⟨Nat.zero_le _, Nat.zero_le _⟩ (fun r1_ hr1_ => ?_)
    subst hr1_
    refine lv_goto (tgt := 32) hx hb dX1_force_28 (by decide) ?_
    exact wr_ret (v := (frc σ t sh)) τ1 hx hb hr hlocks hH hS hP ⟨h15, fun _ => ⟨by rw [et], hR1⟩, fun q => absurd hK0 q⟩ dX1_force_32
set_option maxHeartbeats 4000000 in
set_option maxRecDepth 100000 in
/-- shift -/
theorem c_X1_shift (l : Launch) (D : va_G) (cI cZ : ClassId) (h : Nat) (a : Nat → Nat) (σ τ : St) (Hi : Heap) (A : Nat → Prop) (hD : va_D A (mw cI cZ h a τ)) {nL nB : Nat} (hI : inv σ nL nB) (hR : rel σ τ nL) (hour : Int32) : wrM l yX1_shift wsX1_shift ({ frames := 5, cells := 0, slots := 0, locals := 123 }) [.ref h, .int hour] D (mw cI cZ h a τ) (tyX cI cZ) Hi (S := St) (fun ρ => mw cI cZ h a ρ) (fun r ρ => ρ 15 0 = goK (inR hour 0 47) true true ∧ (goK (inR hour 0 47) true true = 0 → r = bal σ (tN hour) ∧ rel σ ρ nL) ∧ (¬ goK (inR hour 0 47) true true = 0 → rel σ ρ nL)) A := by
  refine wr_of (cc := cX1_shift) (maxL := 2) (ret := some .int) (by decide) rfl (Nat.le_of_ble_eq_true rfl) ?_
  intro p e s m args below meth c he hH hP hK ls hl
  obtain ⟨hx, hb, hr, hml, hown, hts, hlocks⟩ := he
  have hown : s.vm.findClass RX1 = some m.cls := hown
  have hS : va_S A Hi Hi [] := va_S.rf
  obtain ⟨⟨r10, r11, r12, r13, r2, r0, r1, r9⟩, ⟨r4, r5, r6, r7⟩, r3, r8, r8z⟩ := id hR
  have hL : σ 7 0 = nI nL := hI.1
  have hL10 : nL ≤ 10 := hI.2.1
  have hl : lv_has ls 2 [(0, .ref h), (1, .int hour)] := hl
  have hB6 : nB ≤ 6 := hI.2.2.2.1
  refine lv_aload_n hx hb dX1_shift_0 rfl (lv_at hl 0 rfl) ?_
  refine lv_iload_n hx hb dX1_shift_1 rfl (lv_at hl 1 rfl) ?_
  refine ro_callS 1 hx hb hml hown hts hl.1 hP hK (As := [.int hour]) (rest := [.ref h]) (c_X1_isHour l D (mw cI cZ h a τ) (tyX cI cZ) Hi hour) gX1_shift_X1_isHour rfl rfl rfl (by decide +kernel) ⟨Nat.le_of_ble_eq_true rfl, Nat.le_of_ble_eq_true rfl⟩ rfl rfl (Nat.le_of_ble_eq_true rfl) dX1_shift_2 ⟨Nat.zero_le _, Nat.zero_le _⟩ (fun r9_ hr9_ => ?_)
  subst hr9_
  refine lv_iconst (v := 1) hx hb dX1_shift_5 (by decide) ?_
  refine lv_iconst (v := 1) hx hb dX1_shift_6 (by decide) ?_
  refine wr_callV 3 hx hb hml hown hts hl.1 hP hK hS (fun _ h9 => h9) 0 1 rfl rfl (As := [.int (bI (inR hour 0 47)), .int (bI true), .int (bI true)]) (rest := []) (c_X1_goes l D cI cZ h a σ τ Hi A hD (inR hour 0 47) true true) gX1_shift_X1_goes rfl rfl rfl (by decide +kernel) ⟨Nat.le_of_ble_eq_true rfl, Nat.le_of_ble_eq_true rfl⟩ rfl rfl (Nat.le_of_ble_eq_true rfl) dX1_shift_7 ⟨Nat.zero_le _, Nat.zero_le _⟩ (fun r0 u0 H locs hr0 hP hS _ _ => ?_)
  subst hr0
  obtain ⟨τ1, eT⟩ : ∃ z : St, z = st τ 15 (fun _ => goK (inR hour 0 47) true true) := ⟨_, rfl⟩
  rw [← eT] at hP
  have h15 : τ1 15 0 = goK (inR hour 0 47) true true := by rw [eT]; rfl
  have hR1 : rel σ τ1 nL := by rw [eT]; exact hR
  have hD : va_D A (mw cI cZ h a τ1) := mD hD
  obtain ⟨⟨r10, r11, r12, r13, r2, r0, r1, r9⟩, ⟨r4, r5, r6, r7⟩, r3, r8, r8z⟩ := id hR1
  refine lv_if_eq (tgt := 21) hx hb dX1_shift_10 (by decide) (fun c10 => ?_) (fun c10 => ?_)
  · have hne := go_f c10
    refine lv_iconst (v := 0) hx hb dX1_shift_21 (by decide) ?_
    exact wr_ret (v := 0) τ1 hx hb hr hlocks hH hS hP ⟨h15, fun q => absurd q hne, fun _ => hR1⟩ dX1_shift_22
  · obtain ⟨hK0, g1, g2, g3⟩ := go_t c10
    obtain ⟨t, ht48, rfl⟩ := inR_hour g1
    have et : tN (nI t) = t := tN_nI (by omega)
    refine lv_aload_n hx hb dX1_shift_13 rfl (lv_at hl 0 rfl) ?_
    refine lv_iload_n hx hb dX1_shift_14 rfl (lv_at hl 1 rfl) ?_
    refine ro_callV 1 hx hb hml hown hts hl.1 hP hK 0 1 rfl rfl (As := [.int (nI t)]) (rest := []) (c_X1_shiftAt l D cI cZ h a σ τ1 H hI hR1 t ht48) gX1_shift_X1_shiftAt rfl rfl rfl (by decide +kernel) ⟨Nat.le_of_ble_eq_true rfl, Nat.le_of_ble_eq_true rfl⟩ rfl rfl (Nat.le_of_ble_eq_true rfl) dX1_shift_15 ⟨Nat.zero_le _, Nat.zero_le _⟩ (fun r1_ hr1_ => ?_)
    subst hr1_
    refine lv_goto (tgt := 22) hx hb dX1_shift_18 (by decide) ?_
    exact wr_ret (v := (bal σ t)) τ1 hx hb hr hlocks hH hS hP ⟨h15, fun _ => ⟨by rw [et], hR1⟩, fun q => absurd hK0 q⟩ dX1_shift_22
set_option maxHeartbeats 4000000 in
set_option maxRecDepth 100000 in
/-- isAdrift -/
theorem c_X1_isAdrift (l : Launch) (D : va_G) (cI cZ : ClassId) (h : Nat) (a : Nat → Nat) (σ τ : St) (Hi : Heap) (A : Nat → Prop) (hD : va_D A (mw cI cZ h a τ)) {nL nB : Nat} (hI : inv σ nL nB) (hR : rel σ τ nL) (hour : Int32) : wrM l yX1_isAdrift wsX1_isAdrift ({ frames := 6, cells := 0, slots := 0, locals := 146 }) [.ref h, .int hour] D (mw cI cZ h a τ) (tyX cI cZ) Hi (S := St) (fun ρ => mw cI cZ h a ρ) (fun r ρ => ρ 15 0 = goK (inR hour 0 47) true true ∧ (goK (inR hour 0 47) true true = 0 → r = bI (drfW σ (tN hour) (bal σ (tN hour))) ∧ rel σ ρ nL) ∧ (¬ goK (inR hour 0 47) true true = 0 → rel σ ρ nL)) A := by
  refine wr_of (cc := cX1_isAdrift) (maxL := 2) (ret := some .boolean) (by decide) rfl (Nat.le_of_ble_eq_true rfl) ?_
  intro p e s m args below meth c he hH hP hK ls hl
  obtain ⟨hx, hb, hr, hml, hown, hts, hlocks⟩ := he
  have hown : s.vm.findClass RX1 = some m.cls := hown
  have hS : va_S A Hi Hi [] := va_S.rf
  obtain ⟨⟨r10, r11, r12, r13, r2, r0, r1, r9⟩, ⟨r4, r5, r6, r7⟩, r3, r8, r8z⟩ := id hR
  have hL : σ 7 0 = nI nL := hI.1
  have hL10 : nL ≤ 10 := hI.2.1
  have hl : lv_has ls 2 [(0, .ref h), (1, .int hour)] := hl
  have hB6 : nB ≤ 6 := hI.2.2.2.1
  refine lv_aload_n hx hb dX1_isAdrift_0 rfl (lv_at hl 0 rfl) ?_
  refine lv_iload_n hx hb dX1_isAdrift_1 rfl (lv_at hl 1 rfl) ?_
  refine ro_callS 1 hx hb hml hown hts hl.1 hP hK (As := [.int hour]) (rest := [.ref h]) (c_X1_isHour l D (mw cI cZ h a τ) (tyX cI cZ) Hi hour) gX1_isAdrift_X1_isHour rfl rfl rfl (by decide +kernel) ⟨Nat.le_of_ble_eq_true rfl, Nat.le_of_ble_eq_true rfl⟩ rfl rfl (Nat.le_of_ble_eq_true rfl) dX1_isAdrift_2 ⟨Nat.zero_le _, Nat.zero_le _⟩ (fun r9_ hr9_ => ?_)
  subst hr9_
  refine lv_iconst (v := 1) hx hb dX1_isAdrift_5 (by decide) ?_
  refine lv_iconst (v := 1) hx hb dX1_isAdrift_6 (by decide) ?_
  refine wr_callV 3 hx hb hml hown hts hl.1 hP hK hS (fun _ h9 => h9) 0 1 rfl rfl (As := [.int (bI (inR hour 0 47)), .int (bI true), .int (bI true)]) (rest := []) (c_X1_goes l D cI cZ h a σ τ Hi A hD (inR hour 0 47) true true) gX1_isAdrift_X1_goes rfl rfl rfl (by decide +kernel) ⟨Nat.le_of_ble_eq_true rfl, Nat.le_of_ble_eq_true rfl⟩ rfl rfl (Nat.le_of_ble_eq_true rfl) dX1_isAdrift_7 ⟨Nat.zero_le _, Nat.zero_le _⟩ (fun r0 u0 H locs hr0 hP hS _ _ => ?_)
  subst hr0
  obtain ⟨τ1, eT⟩ : ∃ z : St, z = st τ 15 (fun _ => goK (inR hour 0 47) true true) := ⟨_, rfl⟩
  rw [← eT] at hP
  have h15 : τ1 15 0 = goK (inR hour 0 47) true true := by rw [eT]; rfl
  have hR1 : rel σ τ1 nL := by rw [eT]; exact hR
  have hD : va_D A (mw cI cZ h a τ1) := mD hD
  obtain ⟨⟨r10, r11, r12, r13, r2, r0, r1, r9⟩, ⟨r4, r5, r6, r7⟩, r3, r8, r8z⟩ := id hR1
  refine lv_if_eq (tgt := 25) hx hb dX1_isAdrift_10 (by decide) (fun c10 => ?_) (fun c10 => ?_)
  · have hne := go_f c10
    refine lv_iconst (v := 0) hx hb dX1_isAdrift_25 (by decide) ?_
    exact wr_zret (v := 0) τ1 hx hb hr hlocks hH hS hP ⟨false, rfl⟩ ⟨h15, fun q => absurd q hne, fun _ => hR1⟩ dX1_isAdrift_26
  · obtain ⟨hK0, g1, g2, g3⟩ := go_t c10
    obtain ⟨t, ht48, rfl⟩ := inR_hour g1
    have et : tN (nI t) = t := tN_nI (by omega)
    refine lv_aload_n hx hb dX1_isAdrift_13 rfl (lv_at hl 0 rfl) ?_
    refine lv_iload_n hx hb dX1_isAdrift_14 rfl (lv_at hl 1 rfl) ?_
    refine ro_callV 1 hx hb hml hown hts hl.1 hP hK 0 1 rfl rfl (As := [.int (nI t)]) (rest := []) (c_X1_drifts l D cI cZ h a σ τ1 H hI hR1 t ht48) gX1_isAdrift_X1_drifts rfl rfl rfl (by decide +kernel) ⟨Nat.le_of_ble_eq_true rfl, Nat.le_of_ble_eq_true rfl⟩ rfl rfl (Nat.le_of_ble_eq_true rfl) dX1_isAdrift_15 ⟨Nat.zero_le _, Nat.zero_le _⟩ (fun r1_ hr1_ => ?_)
    subst hr1_
    refine lv_if_eq (tgt := 25) hx hb dX1_isAdrift_18 (by decide) (fun c18 => ?_) (fun c18 => ?_)
    · refine lv_iconst (v := 0) hx hb dX1_isAdrift_25 (by decide) ?_
      exact wr_zret (v := 0) τ1 hx hb hr hlocks hH hS hP ⟨false, rfl⟩ ⟨h15, fun _ => ⟨by rw [et, bI_f c18]; rfl, hR1⟩, fun q => absurd hK0 q⟩ dX1_isAdrift_26
    · refine lv_iconst (v := 1) hx hb dX1_isAdrift_21 (by decide) ?_
      refine lv_goto (tgt := 26) hx hb dX1_isAdrift_22 (by decide) ?_
      exact wr_zret (v := 1) τ1 hx hb hr hlocks hH hS hP ⟨true, rfl⟩ ⟨h15, fun _ => ⟨by rw [et, bI_t c18]; rfl, hR1⟩, fun q => absurd hK0 q⟩ dX1_isAdrift_26
set_option maxHeartbeats 4000000 in
set_option maxRecDepth 100000 in
/-- isSafe -/
theorem c_X1_isSafe (l : Launch) (D : va_G) (cI cZ : ClassId) (h : Nat) (a : Nat → Nat) (σ τ : St) (Hi : Heap) (A : Nat → Prop) (hD : va_D A (mw cI cZ h a τ)) {nL nB : Nat} (hI : inv σ nL nB) (hR : rel σ τ nL) (hour : Int32) : wrM l yX1_isSafe wsX1_isSafe ({ frames := 7, cells := 0, slots := 0, locals := 170 }) [.ref h, .int hour] D (mw cI cZ h a τ) (tyX cI cZ) Hi (S := St) (fun ρ => mw cI cZ h a ρ) (fun r ρ => ρ 15 0 = goK (inR hour 0 47) true true ∧ (goK (inR hour 0 47) true true = 0 → r = bI (safe_ σ (tN hour)) ∧ rel σ ρ nL) ∧ (¬ goK (inR hour 0 47) true true = 0 → rel σ ρ nL)) A := by
  refine wr_of (cc := cX1_isSafe) (maxL := 2) (ret := some .boolean) (by decide) rfl (Nat.le_of_ble_eq_true rfl) ?_
  intro p e s m args below meth c he hH hP hK ls hl
  obtain ⟨hx, hb, hr, hml, hown, hts, hlocks⟩ := he
  have hown : s.vm.findClass RX1 = some m.cls := hown
  have hS : va_S A Hi Hi [] := va_S.rf
  obtain ⟨⟨r10, r11, r12, r13, r2, r0, r1, r9⟩, ⟨r4, r5, r6, r7⟩, r3, r8, r8z⟩ := id hR
  have hL : σ 7 0 = nI nL := hI.1
  have hL10 : nL ≤ 10 := hI.2.1
  have hl : lv_has ls 2 [(0, .ref h), (1, .int hour)] := hl
  have hB6 : nB ≤ 6 := hI.2.2.2.1
  refine lv_aload_n hx hb dX1_isSafe_0 rfl (lv_at hl 0 rfl) ?_
  refine lv_iload_n hx hb dX1_isSafe_1 rfl (lv_at hl 1 rfl) ?_
  refine ro_callS 1 hx hb hml hown hts hl.1 hP hK (As := [.int hour]) (rest := [.ref h]) (c_X1_isHour l D (mw cI cZ h a τ) (tyX cI cZ) Hi hour) gX1_isSafe_X1_isHour rfl rfl rfl (by decide +kernel) ⟨Nat.le_of_ble_eq_true rfl, Nat.le_of_ble_eq_true rfl⟩ rfl rfl (Nat.le_of_ble_eq_true rfl) dX1_isSafe_2 ⟨Nat.zero_le _, Nat.zero_le _⟩ (fun r9_ hr9_ => ?_)
  subst hr9_
  refine lv_iconst (v := 1) hx hb dX1_isSafe_5 (by decide) ?_
  refine lv_iconst (v := 1) hx hb dX1_isSafe_6 (by decide) ?_
  refine wr_callV 3 hx hb hml hown hts hl.1 hP hK hS (fun _ h9 => h9) 0 1 rfl rfl (As := [.int (bI (inR hour 0 47)), .int (bI true), .int (bI true)]) (rest := []) (c_X1_goes l D cI cZ h a σ τ Hi A hD (inR hour 0 47) true true) gX1_isSafe_X1_goes rfl rfl rfl (by decide +kernel) ⟨Nat.le_of_ble_eq_true rfl, Nat.le_of_ble_eq_true rfl⟩ rfl rfl (Nat.le_of_ble_eq_true rfl) dX1_isSafe_7 ⟨Nat.zero_le _, Nat.zero_le _⟩ (fun r0 u0 H locs hr0 hP hS _ _ => ?_)
  subst hr0
  obtain ⟨τ1, eT⟩ : ∃ z : St, z = st τ 15 (fun _ => goK (inR hour 0 47) true true) := ⟨_, rfl⟩
  rw [← eT] at hP
  have h15 : τ1 15 0 = goK (inR hour 0 47) true true := by rw [eT]; rfl
  have hR1 : rel σ τ1 nL := by rw [eT]; exact hR
  have hD : va_D A (mw cI cZ h a τ1) := mD hD
  obtain ⟨⟨r10, r11, r12, r13, r2, r0, r1, r9⟩, ⟨r4, r5, r6, r7⟩, r3, r8, r8z⟩ := id hR1
  refine lv_if_eq (tgt := 25) hx hb dX1_isSafe_10 (by decide) (fun c10 => ?_) (fun c10 => ?_)
  · have hne := go_f c10
    refine lv_iconst (v := 0) hx hb dX1_isSafe_25 (by decide) ?_
    exact wr_zret (v := 0) τ1 hx hb hr hlocks hH hS hP ⟨false, rfl⟩ ⟨h15, fun q => absurd q hne, fun _ => hR1⟩ dX1_isSafe_26
  · obtain ⟨hK0, g1, g2, g3⟩ := go_t c10
    obtain ⟨t, ht48, rfl⟩ := inR_hour g1
    have et : tN (nI t) = t := tN_nI (by omega)
    refine lv_aload_n hx hb dX1_isSafe_13 rfl (lv_at hl 0 rfl) ?_
    refine lv_iload_n hx hb dX1_isSafe_14 rfl (lv_at hl 1 rfl) ?_
    refine ro_callV 1 hx hb hml hown hts hl.1 hP hK 0 1 rfl rfl (As := [.int (nI t)]) (rest := []) (c_X1_holds l D cI cZ h a σ τ1 H hI hR1 t ht48) gX1_isSafe_X1_holds rfl rfl rfl (by decide +kernel) ⟨Nat.le_of_ble_eq_true rfl, Nat.le_of_ble_eq_true rfl⟩ rfl rfl (Nat.le_of_ble_eq_true rfl) dX1_isSafe_15 ⟨Nat.zero_le _, Nat.zero_le _⟩ (fun r1_ hr1_ => ?_)
    subst hr1_
    refine lv_if_eq (tgt := 25) hx hb dX1_isSafe_18 (by decide) (fun c18 => ?_) (fun c18 => ?_)
    · refine lv_iconst (v := 0) hx hb dX1_isSafe_25 (by decide) ?_
      exact wr_zret (v := 0) τ1 hx hb hr hlocks hH hS hP ⟨false, rfl⟩ ⟨h15, fun _ => ⟨by rw [et, bI_f c18]; rfl, hR1⟩, fun q => absurd hK0 q⟩ dX1_isSafe_26
    · refine lv_iconst (v := 1) hx hb dX1_isSafe_21 (by decide) ?_
      refine lv_goto (tgt := 26) hx hb dX1_isSafe_22 (by decide) ?_
      exact wr_zret (v := 1) τ1 hx hb hr hlocks hH hS hP ⟨true, rfl⟩ ⟨h15, fun _ => ⟨by rw [et, bI_t c18]; rfl, hR1⟩, fun q => absurd hK0 q⟩ dX1_isSafe_26
set_option maxHeartbeats 4000000 in
set_option maxRecDepth 100000 in
/-- length -/
theorem c_X1_length (l : Launch) (D : va_G) (cI cZ : ClassId) (h : Nat) (a : Nat → Nat) (σ τ : St) (Hi : Heap) (A : Nat → Prop) (hD : va_D A (mw cI cZ h a τ)) {nL nB : Nat} (hI : inv σ nL nB) (hR : rel σ τ nL) (line hour : Int32) : wrM l yX1_length wsX1_length ({ frames := 5, cells := 0, slots := 0, locals := 123 }) [.ref h, .int line, .int hour] D (mw cI cZ h a τ) (tyX cI cZ) Hi (S := St) (fun ρ => mw cI cZ h a ρ) (fun r ρ => ρ 15 0 = goK (inR line 0 (nI nL - 1) && inR hour 0 47) true true ∧ (goK (inR line 0 (nI nL - 1) && inR hour 0 47) true true = 0 → r = len_ σ (tN line) (tN hour) (bal σ (tN hour)) ∧ rel σ ρ nL) ∧ (¬ goK (inR line 0 (nI nL - 1) && inR hour 0 47) true true = 0 → rel σ ρ nL)) A := by
  refine wr_of (cc := cX1_length) (maxL := 3) (ret := some .int) (by decide) rfl (Nat.le_of_ble_eq_true rfl) ?_
  intro p e s m args below meth c he hH hP hK ls hl
  obtain ⟨hx, hb, hr, hml, hown, hts, hlocks⟩ := he
  have hown : s.vm.findClass RX1 = some m.cls := hown
  have hS : va_S A Hi Hi [] := va_S.rf
  obtain ⟨⟨r10, r11, r12, r13, r2, r0, r1, r9⟩, ⟨r4, r5, r6, r7⟩, r3, r8, r8z⟩ := id hR
  have hL : σ 7 0 = nI nL := hI.1
  have hL10 : nL ≤ 10 := hI.2.1
  have hl : lv_has ls 3 [(0, .ref h), (1, .int line), (2, .int hour)] := hl
  have hB6 : nB ≤ 6 := hI.2.2.2.1
  refine lv_aload_n hx hb dX1_length_0 rfl (lv_at hl 0 rfl) ?_
  suffices J : W p l e ({ frames := 5, cells := 0, slots := 0, locals := 123 } : Room) s m args below meth c Hi [] 0 0 (wrQ below D (S := St) (fun ρ => mw cI cZ h a ρ) (fun r ρ => ρ 15 0 = goK (inR line 0 (nI nL - 1) && inR hour 0 47) true true ∧ (goK (inR line 0 (nI nL - 1) && inR hour 0 47) true true = 0 → r = len_ σ (tN line) (tN hour) (bal σ (tN hour)) ∧ rel σ ρ nL) ∧ (¬ goK (inR line 0 (nI nL - 1) && inR hour 0 47) true true = 0 → rel σ ρ nL)) A args s) (F0 m 21 ls [.int (bI (inR line 0 (nI nL - 1) && inR hour 0 47)), .ref h]) by
    refine lv_aload_n hx hb dX1_length_1 rfl (lv_at hl 0 rfl) ?_
    refine lv_iload_n hx hb dX1_length_2 rfl (lv_at hl 1 rfl) ?_
    refine ro_callV 1 hx hb hml hown hts hl.1 hP hK 0 1 rfl rfl (As := [.int line]) (rest := [.ref h]) (c_X1_isLine l D cI cZ h a σ τ Hi hI hR line) gX1_length_X1_isLine rfl rfl rfl (by decide +kernel) ⟨Nat.le_of_ble_eq_true rfl, Nat.le_of_ble_eq_true rfl⟩ rfl rfl (Nat.le_of_ble_eq_true rfl) dX1_length_3 ⟨Nat.zero_le _, Nat.zero_le _⟩ (fun r9_ hr9_ => ?_)
    subst hr9_
    refine lv_if_eq (tgt := 20) hx hb dX1_length_6 (by decide) (fun c6 => ?_) (fun c6 => ?_)
    · refine lv_iconst (v := 0) hx hb dX1_length_20 (by decide) ?_
      refine lv_topi (fun y9 e9 => ?_)
      rw [show y9 = (bI (inR line 0 (nI nL - 1) && inR hour 0 47)) from e9.trans (bI_e (c := false) (an1 (bI_f c6)) rfl)]
      exact J
    · refine lv_iload_n hx hb dX1_length_9 rfl (lv_at hl 2 rfl) ?_
      refine ro_callS 1 hx hb hml hown hts hl.1 hP hK (As := [.int hour]) (rest := [.ref h]) (c_X1_isHour l D (mw cI cZ h a τ) (tyX cI cZ) Hi hour) gX1_length_X1_isHour rfl rfl rfl (by decide +kernel) ⟨Nat.le_of_ble_eq_true rfl, Nat.le_of_ble_eq_true rfl⟩ rfl rfl (Nat.le_of_ble_eq_true rfl) dX1_length_10 ⟨Nat.zero_le _, Nat.zero_le _⟩ (fun r9_ hr9_ => ?_)
      subst hr9_
      refine lv_if_eq (tgt := 20) hx hb dX1_length_13 (by decide) (fun c13 => ?_) (fun c13 => ?_)
      · refine lv_iconst (v := 0) hx hb dX1_length_20 (by decide) ?_
        refine lv_topi (fun y9 e9 => ?_)
        rw [show y9 = (bI (inR line 0 (nI nL - 1) && inR hour 0 47)) from e9.trans (bI_e (c := false) (an2 (bI_f c13)) rfl)]
        exact J
      · refine lv_iconst (v := 1) hx hb dX1_length_16 (by decide) ?_
        refine lv_goto (tgt := 21) hx hb dX1_length_17 (by decide) ?_
        refine lv_topi (fun y9 e9 => ?_)
        rw [show y9 = (bI (inR line 0 (nI nL - 1) && inR hour 0 47)) from e9.trans (bI_e (c := true) (ant (bI_t c6) (bI_t c13)) rfl)]
        exact J
  refine lv_iconst (v := 1) hx hb dX1_length_21 (by decide) ?_
  refine lv_iconst (v := 1) hx hb dX1_length_22 (by decide) ?_
  refine wr_callV 3 hx hb hml hown hts hl.1 hP hK hS (fun _ h9 => h9) 0 1 rfl rfl (As := [.int (bI (inR line 0 (nI nL - 1) && inR hour 0 47)), .int (bI true), .int (bI true)]) (rest := []) (c_X1_goes l D cI cZ h a σ τ Hi A hD (inR line 0 (nI nL - 1) && inR hour 0 47) true true) gX1_length_X1_goes rfl rfl rfl (by decide +kernel) ⟨Nat.le_of_ble_eq_true rfl, Nat.le_of_ble_eq_true rfl⟩ rfl rfl (Nat.le_of_ble_eq_true rfl) dX1_length_23 ⟨Nat.zero_le _, Nat.zero_le _⟩ (fun r0 u0 H locs hr0 hP hS _ _ => ?_)
  subst hr0
  obtain ⟨τ1, eT⟩ : ∃ z : St, z = st τ 15 (fun _ => goK (inR line 0 (nI nL - 1) && inR hour 0 47) true true) := ⟨_, rfl⟩
  rw [← eT] at hP
  have h15 : τ1 15 0 = goK (inR line 0 (nI nL - 1) && inR hour 0 47) true true := by rw [eT]; rfl
  have hR1 : rel σ τ1 nL := by rw [eT]; exact hR
  have hD : va_D A (mw cI cZ h a τ1) := mD hD
  obtain ⟨⟨r10, r11, r12, r13, r2, r0, r1, r9⟩, ⟨r4, r5, r6, r7⟩, r3, r8, r8z⟩ := id hR1
  refine lv_if_eq (tgt := 43) hx hb dX1_length_26 (by decide) (fun c26 => ?_) (fun c26 => ?_)
  · have hne := go_f c26
    refine lv_iconst (v := 0) hx hb dX1_length_43 (by decide) ?_
    exact wr_ret (v := 0) τ1 hx hb hr hlocks hH hS hP ⟨h15, fun q => absurd q hne, fun _ => hR1⟩ dX1_length_44
  · obtain ⟨hK0, g1, g2, g3⟩ := go_t c26
    obtain ⟨g4, g5⟩ := and_sp g1
    obtain ⟨j, hj, rfl⟩ := inR_line (by omega) g4
    have ej : tN (nI j) = j := tN_nI (by omega)
    obtain ⟨t, ht48, rfl⟩ := inR_hour g5
    have et : tN (nI t) = t := tN_nI (by omega)
    refine lv_aload_n hx hb dX1_length_29 rfl (lv_at hl 0 rfl) ?_
    refine lv_iload_n hx hb dX1_length_30 rfl (lv_at hl 1 rfl) ?_
    refine lv_iload_n hx hb dX1_length_31 rfl (lv_at hl 2 rfl) ?_
    refine lv_aload_n hx hb dX1_length_32 rfl (lv_at hl 0 rfl) ?_
    refine lv_iload_n hx hb dX1_length_33 rfl (lv_at hl 2 rfl) ?_
    refine ro_callV 1 hx hb hml hown hts hl.1 hP hK 0 1 rfl rfl (As := [.int (nI t)]) (rest := [.int (nI t), .int (nI j), .ref h]) (c_X1_shiftAt l D cI cZ h a σ τ1 H hI hR1 t ht48) gX1_length_X1_shiftAt rfl rfl rfl (by decide +kernel) ⟨Nat.le_of_ble_eq_true rfl, Nat.le_of_ble_eq_true rfl⟩ rfl rfl (Nat.le_of_ble_eq_true rfl) dX1_length_34 ⟨Nat.zero_le _, Nat.zero_le _⟩ (fun r1_ hr1_ => ?_)
    subst hr1_
    refine ro_callV 3 hx hb hml hown hts hl.1 hP hK 0 1 rfl rfl (As := [.int (nI j), .int (nI t), .int (bal σ t)]) (rest := []) (c_X1_lengthAt l D cI cZ h a σ τ1 H hI hR1 j t hj ht48 (bal σ t) (bal_inS σ t)) gX1_length_X1_lengthAt rfl rfl rfl (by decide +kernel) ⟨Nat.le_of_ble_eq_true rfl, Nat.le_of_ble_eq_true rfl⟩ rfl rfl (Nat.le_of_ble_eq_true rfl) dX1_length_37 ⟨Nat.zero_le _, Nat.zero_le _⟩ (fun r2_ hr2_ => ?_)
    subst hr2_
    refine lv_goto (tgt := 44) hx hb dX1_length_40 (by decide) ?_
    exact wr_ret (v := (len_ σ j t (bal σ t))) τ1 hx hb hr hlocks hH hS hP ⟨h15, fun _ => ⟨by rw [ej, et], hR1⟩, fun q => absurd hK0 q⟩ dX1_length_44
set_option maxHeartbeats 4000000 in
set_option maxRecDepth 100000 in
/-- tension -/
theorem c_X1_tension (l : Launch) (D : va_G) (cI cZ : ClassId) (h : Nat) (a : Nat → Nat) (σ τ : St) (Hi : Heap) (A : Nat → Prop) (hD : va_D A (mw cI cZ h a τ)) {nL nB : Nat} (hI : inv σ nL nB) (hR : rel σ τ nL) (line hour : Int32) : wrM l yX1_tension wsX1_tension ({ frames := 5, cells := 0, slots := 0, locals := 123 }) [.ref h, .int line, .int hour] D (mw cI cZ h a τ) (tyX cI cZ) Hi (S := St) (fun ρ => mw cI cZ h a ρ) (fun r ρ => ρ 15 0 = goK (inR line 0 (nI nL - 1) && inR hour 0 47) true true ∧ (goK (inR line 0 (nI nL - 1) && inR hour 0 47) true true = 0 → r = tn_ σ (tN line) (tN hour) (bal σ (tN hour)) ∧ rel σ ρ nL) ∧ (¬ goK (inR line 0 (nI nL - 1) && inR hour 0 47) true true = 0 → rel σ ρ nL)) A := by
  refine wr_of (cc := cX1_tension) (maxL := 3) (ret := some .int) (by decide) rfl (Nat.le_of_ble_eq_true rfl) ?_
  intro p e s m args below meth c he hH hP hK ls hl
  obtain ⟨hx, hb, hr, hml, hown, hts, hlocks⟩ := he
  have hown : s.vm.findClass RX1 = some m.cls := hown
  have hS : va_S A Hi Hi [] := va_S.rf
  obtain ⟨⟨r10, r11, r12, r13, r2, r0, r1, r9⟩, ⟨r4, r5, r6, r7⟩, r3, r8, r8z⟩ := id hR
  have hL : σ 7 0 = nI nL := hI.1
  have hL10 : nL ≤ 10 := hI.2.1
  have hl : lv_has ls 3 [(0, .ref h), (1, .int line), (2, .int hour)] := hl
  have hB6 : nB ≤ 6 := hI.2.2.2.1
  refine lv_aload_n hx hb dX1_tension_0 rfl (lv_at hl 0 rfl) ?_
  suffices J : W p l e ({ frames := 5, cells := 0, slots := 0, locals := 123 } : Room) s m args below meth c Hi [] 0 0 (wrQ below D (S := St) (fun ρ => mw cI cZ h a ρ) (fun r ρ => ρ 15 0 = goK (inR line 0 (nI nL - 1) && inR hour 0 47) true true ∧ (goK (inR line 0 (nI nL - 1) && inR hour 0 47) true true = 0 → r = tn_ σ (tN line) (tN hour) (bal σ (tN hour)) ∧ rel σ ρ nL) ∧ (¬ goK (inR line 0 (nI nL - 1) && inR hour 0 47) true true = 0 → rel σ ρ nL)) A args s) (F0 m 21 ls [.int (bI (inR line 0 (nI nL - 1) && inR hour 0 47)), .ref h]) by
    refine lv_aload_n hx hb dX1_tension_1 rfl (lv_at hl 0 rfl) ?_
    refine lv_iload_n hx hb dX1_tension_2 rfl (lv_at hl 1 rfl) ?_
    refine ro_callV 1 hx hb hml hown hts hl.1 hP hK 0 1 rfl rfl (As := [.int line]) (rest := [.ref h]) (c_X1_isLine l D cI cZ h a σ τ Hi hI hR line) gX1_tension_X1_isLine rfl rfl rfl (by decide +kernel) ⟨Nat.le_of_ble_eq_true rfl, Nat.le_of_ble_eq_true rfl⟩ rfl rfl (Nat.le_of_ble_eq_true rfl) dX1_tension_3 ⟨Nat.zero_le _, Nat.zero_le _⟩ (fun r9_ hr9_ => ?_)
    subst hr9_
    refine lv_if_eq (tgt := 20) hx hb dX1_tension_6 (by decide) (fun c6 => ?_) (fun c6 => ?_)
    · refine lv_iconst (v := 0) hx hb dX1_tension_20 (by decide) ?_
      refine lv_topi (fun y9 e9 => ?_)
      rw [show y9 = (bI (inR line 0 (nI nL - 1) && inR hour 0 47)) from e9.trans (bI_e (c := false) (an1 (bI_f c6)) rfl)]
      exact J
    · refine lv_iload_n hx hb dX1_tension_9 rfl (lv_at hl 2 rfl) ?_
      refine ro_callS 1 hx hb hml hown hts hl.1 hP hK (As := [.int hour]) (rest := [.ref h]) (c_X1_isHour l D (mw cI cZ h a τ) (tyX cI cZ) Hi hour) gX1_tension_X1_isHour rfl rfl rfl (by decide +kernel) ⟨Nat.le_of_ble_eq_true rfl, Nat.le_of_ble_eq_true rfl⟩ rfl rfl (Nat.le_of_ble_eq_true rfl) dX1_tension_10 ⟨Nat.zero_le _, Nat.zero_le _⟩ (fun r9_ hr9_ => ?_)
      subst hr9_
      refine lv_if_eq (tgt := 20) hx hb dX1_tension_13 (by decide) (fun c13 => ?_) (fun c13 => ?_)
      · refine lv_iconst (v := 0) hx hb dX1_tension_20 (by decide) ?_
        refine lv_topi (fun y9 e9 => ?_)
        rw [show y9 = (bI (inR line 0 (nI nL - 1) && inR hour 0 47)) from e9.trans (bI_e (c := false) (an2 (bI_f c13)) rfl)]
        exact J
      · refine lv_iconst (v := 1) hx hb dX1_tension_16 (by decide) ?_
        refine lv_goto (tgt := 21) hx hb dX1_tension_17 (by decide) ?_
        refine lv_topi (fun y9 e9 => ?_)
        rw [show y9 = (bI (inR line 0 (nI nL - 1) && inR hour 0 47)) from e9.trans (bI_e (c := true) (ant (bI_t c6) (bI_t c13)) rfl)]
        exact J
  refine lv_iconst (v := 1) hx hb dX1_tension_21 (by decide) ?_
  refine lv_iconst (v := 1) hx hb dX1_tension_22 (by decide) ?_
  refine wr_callV 3 hx hb hml hown hts hl.1 hP hK hS (fun _ h9 => h9) 0 1 rfl rfl (As := [.int (bI (inR line 0 (nI nL - 1) && inR hour 0 47)), .int (bI true), .int (bI true)]) (rest := []) (c_X1_goes l D cI cZ h a σ τ Hi A hD (inR line 0 (nI nL - 1) && inR hour 0 47) true true) gX1_tension_X1_goes rfl rfl rfl (by decide +kernel) ⟨Nat.le_of_ble_eq_true rfl, Nat.le_of_ble_eq_true rfl⟩ rfl rfl (Nat.le_of_ble_eq_true rfl) dX1_tension_23 ⟨Nat.zero_le _, Nat.zero_le _⟩ (fun r0 u0 H locs hr0 hP hS _ _ => ?_)
  subst hr0
  obtain ⟨τ1, eT⟩ : ∃ z : St, z = st τ 15 (fun _ => goK (inR line 0 (nI nL - 1) && inR hour 0 47) true true) := ⟨_, rfl⟩
  rw [← eT] at hP
  have h15 : τ1 15 0 = goK (inR line 0 (nI nL - 1) && inR hour 0 47) true true := by rw [eT]; rfl
  have hR1 : rel σ τ1 nL := by rw [eT]; exact hR
  have hD : va_D A (mw cI cZ h a τ1) := mD hD
  obtain ⟨⟨r10, r11, r12, r13, r2, r0, r1, r9⟩, ⟨r4, r5, r6, r7⟩, r3, r8, r8z⟩ := id hR1
  refine lv_if_eq (tgt := 43) hx hb dX1_tension_26 (by decide) (fun c26 => ?_) (fun c26 => ?_)
  · have hne := go_f c26
    refine lv_iconst (v := 0) hx hb dX1_tension_43 (by decide) ?_
    exact wr_ret (v := 0) τ1 hx hb hr hlocks hH hS hP ⟨h15, fun q => absurd q hne, fun _ => hR1⟩ dX1_tension_44
  · obtain ⟨hK0, g1, g2, g3⟩ := go_t c26
    obtain ⟨g4, g5⟩ := and_sp g1
    obtain ⟨j, hj, rfl⟩ := inR_line (by omega) g4
    have ej : tN (nI j) = j := tN_nI (by omega)
    obtain ⟨t, ht48, rfl⟩ := inR_hour g5
    have et : tN (nI t) = t := tN_nI (by omega)
    refine lv_aload_n hx hb dX1_tension_29 rfl (lv_at hl 0 rfl) ?_
    refine lv_iload_n hx hb dX1_tension_30 rfl (lv_at hl 1 rfl) ?_
    refine lv_iload_n hx hb dX1_tension_31 rfl (lv_at hl 2 rfl) ?_
    refine lv_aload_n hx hb dX1_tension_32 rfl (lv_at hl 0 rfl) ?_
    refine lv_iload_n hx hb dX1_tension_33 rfl (lv_at hl 2 rfl) ?_
    refine ro_callV 1 hx hb hml hown hts hl.1 hP hK 0 1 rfl rfl (As := [.int (nI t)]) (rest := [.int (nI t), .int (nI j), .ref h]) (c_X1_shiftAt l D cI cZ h a σ τ1 H hI hR1 t ht48) gX1_tension_X1_shiftAt rfl rfl rfl (by decide +kernel) ⟨Nat.le_of_ble_eq_true rfl, Nat.le_of_ble_eq_true rfl⟩ rfl rfl (Nat.le_of_ble_eq_true rfl) dX1_tension_34 ⟨Nat.zero_le _, Nat.zero_le _⟩ (fun r1_ hr1_ => ?_)
    subst hr1_
    refine ro_callV 3 hx hb hml hown hts hl.1 hP hK 0 1 rfl rfl (As := [.int (nI j), .int (nI t), .int (bal σ t)]) (rest := []) (c_X1_tensionAt l D cI cZ h a σ τ1 H hI hR1 j t hj ht48 (bal σ t) (bal_inS σ t)) gX1_tension_X1_tensionAt rfl rfl rfl (by decide +kernel) ⟨Nat.le_of_ble_eq_true rfl, Nat.le_of_ble_eq_true rfl⟩ rfl rfl (Nat.le_of_ble_eq_true rfl) dX1_tension_37 ⟨Nat.zero_le _, Nat.zero_le _⟩ (fun r2_ hr2_ => ?_)
    subst hr2_
    refine lv_goto (tgt := 44) hx hb dX1_tension_40 (by decide) ?_
    exact wr_ret (v := (tn_ σ j t (bal σ t))) τ1 hx hb hr hlocks hH hS hP ⟨h15, fun _ => ⟨by rw [ej, et], hR1⟩, fun q => absurd hK0 q⟩ dX1_tension_44
set_option maxHeartbeats 4000000 in
set_option maxRecDepth 100000 in
/-- onBollard -/
theorem c_X1_onBollard (l : Launch) (D : va_G) (cI cZ : ClassId) (h : Nat) (a : Nat → Nat) (σ τ : St) (Hi : Heap) (A : Nat → Prop) (hD : va_D A (mw cI cZ h a τ)) {nL nB : Nat} (hI : inv σ nL nB) (hR : rel σ τ nL) (bo hour : Int32) : wrM l yX1_onBollard wsX1_onBollard ({ frames := 5, cells := 0, slots := 0, locals := 123 }) [.ref h, .int bo, .int hour] D (mw cI cZ h a τ) (tyX cI cZ) Hi (S := St) (fun ρ => mw cI cZ h a ρ) (fun r ρ => ρ 15 0 = goK (inR bo 0 (nI nB - 1) && inR hour 0 47) true true ∧ (goK (inR bo 0 (nI nB - 1) && inR hour 0 47) true true = 0 → r = sumOn_ σ bo (tN hour) (bal σ (tN hour)) ∧ rel σ ρ nL) ∧ (¬ goK (inR bo 0 (nI nB - 1) && inR hour 0 47) true true = 0 → rel σ ρ nL)) A := by
  refine wr_of (cc := cX1_onBollard) (maxL := 3) (ret := some .int) (by decide) rfl (Nat.le_of_ble_eq_true rfl) ?_
  intro p e s m args below meth c he hH hP hK ls hl
  obtain ⟨hx, hb, hr, hml, hown, hts, hlocks⟩ := he
  have hown : s.vm.findClass RX1 = some m.cls := hown
  have hS : va_S A Hi Hi [] := va_S.rf
  obtain ⟨⟨r10, r11, r12, r13, r2, r0, r1, r9⟩, ⟨r4, r5, r6, r7⟩, r3, r8, r8z⟩ := id hR
  have hL : σ 7 0 = nI nL := hI.1
  have hL10 : nL ≤ 10 := hI.2.1
  have hl : lv_has ls 3 [(0, .ref h), (1, .int bo), (2, .int hour)] := hl
  have hin : ∀ w ∈ u_ws RX1 TX1 16, w ∈ wsX1_onBollard := by decide +kernel
  have hB6 : nB ≤ 6 := hI.2.2.2.1
  refine lv_aload_n hx hb dX1_onBollard_0 rfl (lv_at hl 0 rfl) ?_
  suffices J : W p l e ({ frames := 5, cells := 0, slots := 0, locals := 123 } : Room) s m args below meth c Hi [] 0 0 (wrQ below D (S := St) (fun ρ => mw cI cZ h a ρ) (fun r ρ => ρ 15 0 = goK (inR bo 0 (nI nB - 1) && inR hour 0 47) true true ∧ (goK (inR bo 0 (nI nB - 1) && inR hour 0 47) true true = 0 → r = sumOn_ σ bo (tN hour) (bal σ (tN hour)) ∧ rel σ ρ nL) ∧ (¬ goK (inR bo 0 (nI nB - 1) && inR hour 0 47) true true = 0 → rel σ ρ nL)) A args s) (F0 m 27 ls [.int (bI (inR bo 0 (nI nB - 1) && inR hour 0 47)), .ref h]) by
    refine lv_iload_n hx hb dX1_onBollard_1 rfl (lv_at hl 1 rfl) ?_
    refine lv_iconst (v := 0) hx hb dX1_onBollard_2 (by decide) ?_
    refine lv_aload_n hx hb dX1_onBollard_3 rfl (lv_at hl 0 rfl) ?_
    refine m_get hin hx hb hts hown hK hP rfl 2 (by decide) (v := .int (nI nB)) (congrArg (fun z => some (Value.int z)) (r2.trans hI.2.2.1)) (by decide +kernel) dX1_onBollard_4 ?_
    refine lv_iconst (v := 1) hx hb dX1_onBollard_7 (by decide) ?_
    refine lv_isub hx hb dX1_onBollard_8 ?_
    refine ro_callS 3 hx hb hml hown hts hl.1 hP hK (As := [.int bo, .int 0, .int ((nI nB) - 1)]) (rest := [.ref h]) (c_X1_in l D (mw cI cZ h a τ) (tyX cI cZ) Hi bo 0 (nI nB - 1)) gX1_onBollard_X1_in rfl rfl rfl (by decide +kernel) ⟨Nat.le_of_ble_eq_true rfl, Nat.le_of_ble_eq_true rfl⟩ rfl rfl (Nat.le_of_ble_eq_true rfl) dX1_onBollard_9 ⟨Nat.zero_le _, Nat.zero_le _⟩ (fun r9_ hr9_ => ?_)
    subst hr9_
    refine lv_if_eq (tgt := 26) hx hb dX1_onBollard_12 (by decide) (fun c12 => ?_) (fun c12 => ?_)
    · refine lv_iconst (v := 0) hx hb dX1_onBollard_26 (by decide) ?_
      refine lv_topi (fun y9 e9 => ?_)
      rw [show y9 = (bI (inR bo 0 (nI nB - 1) && inR hour 0 47)) from e9.trans (bI_e (c := false) (an1 (bI_f c12)) rfl)]
      exact J
    · refine lv_iload_n hx hb dX1_onBollard_15 rfl (lv_at hl 2 rfl) ?_
      refine ro_callS 1 hx hb hml hown hts hl.1 hP hK (As := [.int hour]) (rest := [.ref h]) (c_X1_isHour l D (mw cI cZ h a τ) (tyX cI cZ) Hi hour) gX1_onBollard_X1_isHour rfl rfl rfl (by decide +kernel) ⟨Nat.le_of_ble_eq_true rfl, Nat.le_of_ble_eq_true rfl⟩ rfl rfl (Nat.le_of_ble_eq_true rfl) dX1_onBollard_16 ⟨Nat.zero_le _, Nat.zero_le _⟩ (fun r9_ hr9_ => ?_)
      subst hr9_
      refine lv_if_eq (tgt := 26) hx hb dX1_onBollard_19 (by decide) (fun c19 => ?_) (fun c19 => ?_)
      · refine lv_iconst (v := 0) hx hb dX1_onBollard_26 (by decide) ?_
        refine lv_topi (fun y9 e9 => ?_)
        rw [show y9 = (bI (inR bo 0 (nI nB - 1) && inR hour 0 47)) from e9.trans (bI_e (c := false) (an2 (bI_f c19)) rfl)]
        exact J
      · refine lv_iconst (v := 1) hx hb dX1_onBollard_22 (by decide) ?_
        refine lv_goto (tgt := 27) hx hb dX1_onBollard_23 (by decide) ?_
        refine lv_topi (fun y9 e9 => ?_)
        rw [show y9 = (bI (inR bo 0 (nI nB - 1) && inR hour 0 47)) from e9.trans (bI_e (c := true) (ant (bI_t c12) (bI_t c19)) rfl)]
        exact J
  refine lv_iconst (v := 1) hx hb dX1_onBollard_27 (by decide) ?_
  refine lv_iconst (v := 1) hx hb dX1_onBollard_28 (by decide) ?_
  refine wr_callV 3 hx hb hml hown hts hl.1 hP hK hS (fun _ h9 => h9) 0 1 rfl rfl (As := [.int (bI (inR bo 0 (nI nB - 1) && inR hour 0 47)), .int (bI true), .int (bI true)]) (rest := []) (c_X1_goes l D cI cZ h a σ τ Hi A hD (inR bo 0 (nI nB - 1) && inR hour 0 47) true true) gX1_onBollard_X1_goes rfl rfl rfl (by decide +kernel) ⟨Nat.le_of_ble_eq_true rfl, Nat.le_of_ble_eq_true rfl⟩ rfl rfl (Nat.le_of_ble_eq_true rfl) dX1_onBollard_29 ⟨Nat.zero_le _, Nat.zero_le _⟩ (fun r0 u0 H locs hr0 hP hS _ _ => ?_)
  subst hr0
  obtain ⟨τ1, eT⟩ : ∃ z : St, z = st τ 15 (fun _ => goK (inR bo 0 (nI nB - 1) && inR hour 0 47) true true) := ⟨_, rfl⟩
  rw [← eT] at hP
  have h15 : τ1 15 0 = goK (inR bo 0 (nI nB - 1) && inR hour 0 47) true true := by rw [eT]; rfl
  have hR1 : rel σ τ1 nL := by rw [eT]; exact hR
  have hD : va_D A (mw cI cZ h a τ1) := mD hD
  obtain ⟨⟨r10, r11, r12, r13, r2, r0, r1, r9⟩, ⟨r4, r5, r6, r7⟩, r3, r8, r8z⟩ := id hR1
  refine lv_if_eq (tgt := 49) hx hb dX1_onBollard_32 (by decide) (fun c32 => ?_) (fun c32 => ?_)
  · have hne := go_f c32
    refine lv_iconst (v := 0) hx hb dX1_onBollard_49 (by decide) ?_
    exact wr_ret (v := 0) τ1 hx hb hr hlocks hH hS hP ⟨h15, fun q => absurd q hne, fun _ => hR1⟩ dX1_onBollard_50
  · obtain ⟨hK0, g1, g2, g3⟩ := go_t c32
    obtain ⟨g4, g5⟩ := and_sp g1
    obtain ⟨t, ht48, rfl⟩ := inR_hour g5
    have et : tN (nI t) = t := tN_nI (by omega)
    refine lv_aload_n hx hb dX1_onBollard_35 rfl (lv_at hl 0 rfl) ?_
    refine lv_iload_n hx hb dX1_onBollard_36 rfl (lv_at hl 1 rfl) ?_
    refine lv_iload_n hx hb dX1_onBollard_37 rfl (lv_at hl 2 rfl) ?_
    refine lv_aload_n hx hb dX1_onBollard_38 rfl (lv_at hl 0 rfl) ?_
    refine lv_iload_n hx hb dX1_onBollard_39 rfl (lv_at hl 2 rfl) ?_
    refine ro_callV 1 hx hb hml hown hts hl.1 hP hK 0 1 rfl rfl (As := [.int (nI t)]) (rest := [.int (nI t), .int bo, .ref h]) (c_X1_shiftAt l D cI cZ h a σ τ1 H hI hR1 t ht48) gX1_onBollard_X1_shiftAt rfl rfl rfl (by decide +kernel) ⟨Nat.le_of_ble_eq_true rfl, Nat.le_of_ble_eq_true rfl⟩ rfl rfl (Nat.le_of_ble_eq_true rfl) dX1_onBollard_40 ⟨Nat.zero_le _, Nat.zero_le _⟩ (fun r1_ hr1_ => ?_)
    subst hr1_
    refine ro_callV 3 hx hb hml hown hts hl.1 hP hK 0 1 rfl rfl (As := [.int bo, .int (nI t), .int (bal σ t)]) (rest := []) (c_X1_sumOn l D cI cZ h a σ τ1 H hI hR1 bo t ht48 (bal σ t) (bal_inS σ t)) gX1_onBollard_X1_sumOn rfl rfl rfl (by decide +kernel) ⟨Nat.le_of_ble_eq_true rfl, Nat.le_of_ble_eq_true rfl⟩ rfl rfl (Nat.le_of_ble_eq_true rfl) dX1_onBollard_43 ⟨Nat.zero_le _, Nat.zero_le _⟩ (fun r2_ hr2_ => ?_)
    subst hr2_
    refine lv_goto (tgt := 50) hx hb dX1_onBollard_46 (by decide) ?_
    exact wr_ret (v := (sumOn_ σ bo t (bal σ t))) τ1 hx hb hr hlocks hH hS hP ⟨h15, fun _ => ⟨by rw [et], hR1⟩, fun q => absurd hK0 q⟩ dX1_onBollard_50
set_option maxHeartbeats 4000000 in
set_option maxRecDepth 100000 in
/-- firstUnsafe -/
theorem c_X1_firstUnsafe (l : Launch) (D : va_G) (cI cZ : ClassId) (h : Nat) (a : Nat → Nat) (σ τ : St) (Hi : Heap) (A : Nat → Prop) (hD : va_D A (mw cI cZ h a τ)) {nL nB : Nat} (hI : inv σ nL nB) (hR : rel σ τ nL) (hour : Int32) : wrM l yX1_firstUnsafe wsX1_firstUnsafe ({ frames := 7, cells := 0, slots := 0, locals := 170 }) [.ref h, .int hour] D (mw cI cZ h a τ) (tyX cI cZ) Hi (S := St) (fun ρ => mw cI cZ h a ρ) (fun r ρ => ρ 15 0 = goK (inR hour 0 47) true true ∧ (goK (inR hour 0 47) true true = 0 → r = fuR (48 - tN hour) σ (tN hour) ∧ rel σ ρ nL) ∧ (¬ goK (inR hour 0 47) true true = 0 → rel σ ρ nL)) A := by
  refine wr_of (cc := cX1_firstUnsafe) (maxL := 3) (ret := some .int) (by decide) rfl (Nat.le_of_ble_eq_true rfl) ?_
  intro p e s m args below meth c he hH hP hK ls hl
  obtain ⟨hx, hb, hr, hml, hown, hts, hlocks⟩ := he
  have hown : s.vm.findClass RX1 = some m.cls := hown
  have hS : va_S A Hi Hi [] := va_S.rf
  obtain ⟨⟨r10, r11, r12, r13, r2, r0, r1, r9⟩, ⟨r4, r5, r6, r7⟩, r3, r8, r8z⟩ := id hR
  have hL : σ 7 0 = nI nL := hI.1
  have hL10 : nL ≤ 10 := hI.2.1
  have hl : lv_has ls 3 [(0, .ref h), (1, .int hour)] := hl
  have hB6 : nB ≤ 6 := hI.2.2.2.1
  refine lv_aload_n hx hb dX1_firstUnsafe_0 rfl (lv_at hl 0 rfl) ?_
  refine lv_iload_n hx hb dX1_firstUnsafe_1 rfl (lv_at hl 1 rfl) ?_
  refine ro_callS 1 hx hb hml hown hts hl.1 hP hK (As := [.int hour]) (rest := [.ref h]) (c_X1_isHour l D (mw cI cZ h a τ) (tyX cI cZ) Hi hour) gX1_firstUnsafe_X1_isHour rfl rfl rfl (by decide +kernel) ⟨Nat.le_of_ble_eq_true rfl, Nat.le_of_ble_eq_true rfl⟩ rfl rfl (Nat.le_of_ble_eq_true rfl) dX1_firstUnsafe_2 ⟨Nat.zero_le _, Nat.zero_le _⟩ (fun r9_ hr9_ => ?_)
  subst hr9_
  refine lv_iconst (v := 1) hx hb dX1_firstUnsafe_5 (by decide) ?_
  refine lv_iconst (v := 1) hx hb dX1_firstUnsafe_6 (by decide) ?_
  refine wr_callV 3 hx hb hml hown hts hl.1 hP hK hS (fun _ h9 => h9) 0 1 rfl rfl (As := [.int (bI (inR hour 0 47)), .int (bI true), .int (bI true)]) (rest := []) (c_X1_goes l D cI cZ h a σ τ Hi A hD (inR hour 0 47) true true) gX1_firstUnsafe_X1_goes rfl rfl rfl (by decide +kernel) ⟨Nat.le_of_ble_eq_true rfl, Nat.le_of_ble_eq_true rfl⟩ rfl rfl (Nat.le_of_ble_eq_true rfl) dX1_firstUnsafe_7 ⟨Nat.zero_le _, Nat.zero_le _⟩ (fun r0 u0 H locs hr0 hP hS _ _ => ?_)
  subst hr0
  obtain ⟨τ1, eT⟩ : ∃ z : St, z = st τ 15 (fun _ => goK (inR hour 0 47) true true) := ⟨_, rfl⟩
  rw [← eT] at hP
  have h15 : τ1 15 0 = goK (inR hour 0 47) true true := by rw [eT]; rfl
  have hR1 : rel σ τ1 nL := by rw [eT]; exact hR
  have hD : va_D A (mw cI cZ h a τ1) := mD hD
  obtain ⟨⟨r10, r11, r12, r13, r2, r0, r1, r9⟩, ⟨r4, r5, r6, r7⟩, r3, r8, r8z⟩ := id hR1
  refine lv_if_ne (tgt := 15) hx hb dX1_firstUnsafe_10 (by decide) (fun c10 => ?_) (fun c10 => ?_)
  · obtain ⟨hK0, g1, g2, g3⟩ := go_t c10
    obtain ⟨t, ht48, rfl⟩ := inR_hour g1
    have et : tN (nI t) = t := tN_nI (by omega)
    refine lv_iload_n hx hb dX1_firstUnsafe_15 rfl (lv_at hl 1 rfl) ?_
    refine lv_istore_n (lv' := [(2, .int (nI t)), (0, .ref h), (1, .int (nI t))]) hx hb dX1_firstUnsafe_16 rfl hl (by decide) rfl (fun ls hl => ?_)
    suffices K : ∀ (n k : Nat) (ls : Array Slot), k + n = 48 → fuR n σ k = fuR (48 - t) σ t → lv_has ls 3 [(2, .int (nI k)), (0, .ref h), (1, .int (nI t))] → W p l e _ s m args below meth c H locs 0 0 (wrQ below D (S := St) (fun ρ => mw cI cZ h a ρ) (fun r ρ => ρ 15 0 = goK (inR (nI t) 0 47) true true ∧ (goK (inR (nI t) 0 47) true true = 0 → r = fuR (48 - tN (nI t)) σ (tN (nI t)) ∧ rel σ ρ nL) ∧ (¬ goK (inR (nI t) 0 47) true true = 0 → rel σ ρ nL)) A args s) (F0 m 17 ls []) by
      exact K (48 - t) t ls (by omega) rfl (lv_sub hl [0, 1, 2] rfl)
    intro n
    induction n with
    | zero =>
        intro k ls hk hf hl
        refine lv_iload_n hx hb dX1_firstUnsafe_17 rfl (lv_at hl 0 rfl) ?_
        refine lv_bipush (v := 48) hx hb dX1_firstUnsafe_18 (by decide) ?_
        refine lv_icmp_ge (tgt := 39) hx hb dX1_firstUnsafe_20 (by decide) (fun c20 => ?_) (fun c20 => ?_)
        · refine lv_iconst (v := (-1)) hx hb dX1_firstUnsafe_39 (by decide) ?_
          exact wr_ret (v := (-1)) τ1 hx hb hr hlocks hH hS hP ⟨h15, fun _ => ⟨by rw [et, ← hf]; rfl, hR1⟩, fun q => absurd hK0 q⟩ dX1_firstUnsafe_40
        · exact absurd (nI_le (a := 48) (b := k) (by omega) (by omega)) c20
    | succ n ih =>
        intro k ls hk hf hl
        refine lv_iload_n hx hb dX1_firstUnsafe_17 rfl (lv_at hl 0 rfl) ?_
        refine lv_bipush (v := 48) hx hb dX1_firstUnsafe_18 (by decide) ?_
        refine lv_icmp_ge (tgt := 39) hx hb dX1_firstUnsafe_20 (by decide) (fun c20 => ?_) (fun c20 => ?_)
        · exact absurd c20 (nI_ge (a := k) (b := 48) (by omega) (by omega))
        · refine lv_aload_n hx hb dX1_firstUnsafe_23 rfl (lv_at hl 1 rfl) ?_
          refine lv_iload_n hx hb dX1_firstUnsafe_24 rfl (lv_at hl 0 rfl) ?_
          refine ro_callV 1 hx hb hml hown hts hl.1 hP hK 0 1 rfl rfl (As := [.int (nI k)]) (rest := []) (c_X1_holds l D cI cZ h a σ τ1 H hI hR1 k (by omega)) gX1_firstUnsafe_X1_holds rfl rfl rfl (by decide +kernel) ⟨Nat.le_of_ble_eq_true rfl, Nat.le_of_ble_eq_true rfl⟩ rfl rfl (Nat.le_of_ble_eq_true rfl) dX1_firstUnsafe_25 ⟨Nat.zero_le _, Nat.zero_le _⟩ (fun r1_ hr1_ => ?_)
          subst hr1_
          refine lv_if_ne (tgt := 33) hx hb dX1_firstUnsafe_28 (by decide) (fun c28 => ?_) (fun c28 => ?_)
          · refine lv_iinc (v := (nI (k + 1))) (lv' := [(2, .int (nI (k + 1))), (0, .ref h), (1, .int (nI t))]) hx hb dX1_firstUnsafe_33 hl (k := 0) rfl (by exact nI_add _ 1) (by decide) rfl (fun ls hl => ?_)
            refine lv_goto (tgt := 17) hx hb dX1_firstUnsafe_36 (by decide) ?_
            exact ih (k + 1) ls (by omega) (by rw [← hf]; show _ = (if safe_ σ k = true then fuR n σ (k + 1) else nI k); rw [if_pos (bI_t c28)]) (lv_sub hl [0, 1, 2] rfl)
          · refine lv_iload_n hx hb dX1_firstUnsafe_31 rfl (lv_at hl 0 rfl) ?_
            exact wr_ret (v := (nI k)) τ1 hx hb hr hlocks hH hS hP ⟨h15, fun _ => ⟨by rw [et, ← hf]; show nI k = (if safe_ σ k = true then fuR n σ (k + 1) else nI k); rw [if_neg (by rw [bI_f c28]; decide)], hR1⟩, fun q => absurd hK0 q⟩ dX1_firstUnsafe_32
  · have hne := go_f c10
    refine lv_iconst (v := 0) hx hb dX1_firstUnsafe_13 (by decide) ?_
    exact wr_ret (v := 0) τ1 hx hb hr hlocks hH hS hP ⟨h15, fun q => absurd q hne, fun _ => hR1⟩ dX1_firstUnsafe_14
set_option maxHeartbeats 4000000 in
set_option maxRecDepth 100000 in
/-- tendAll -/
theorem c_X1_tendAll (l : Launch) (D : va_G) (cI cZ : ClassId) (h : Nat) (a : Nat → Nat) (σ τ : St) (Hi : Heap) (A : Nat → Prop) (hD : va_D A (mw cI cZ h a τ)) {nL nB : Nat} (hI : inv σ nL nB) (hR : rel σ τ nL) (hour : Int32) : wrM l yX1_tendAll wsX1_tendAll ({ frames := 6, cells := 0, slots := 0, locals := 148 }) [.ref h, .int hour] D (mw cI cZ h a τ) (tyX cI cZ) Hi (S := St) (fun ρ => mw cI cZ h a ρ) (fun r ρ => ρ 15 0 = goK (inR hour 0 47) true true ∧ (goK (inR hour 0 47) true true = 0 → r = tdC σ (tN hour) (bal σ (tN hour)) nL ∧ rel (tnd σ (tN hour)) ρ nL) ∧ (¬ goK (inR hour 0 47) true true = 0 → rel σ ρ nL)) A := by
  refine wr_of (cc := cX1_tendAll) (maxL := 2) (ret := some .int) (by decide) rfl (Nat.le_of_ble_eq_true rfl) ?_
  intro p e s m args below meth c he hH hP hK ls hl
  obtain ⟨hx, hb, hr, hml, hown, hts, hlocks⟩ := he
  have hown : s.vm.findClass RX1 = some m.cls := hown
  have hS : va_S A Hi Hi [] := va_S.rf
  obtain ⟨⟨r10, r11, r12, r13, r2, r0, r1, r9⟩, ⟨r4, r5, r6, r7⟩, r3, r8, r8z⟩ := id hR
  have hL : σ 7 0 = nI nL := hI.1
  have hL10 : nL ≤ 10 := hI.2.1
  have hl : lv_has ls 2 [(0, .ref h), (1, .int hour)] := hl
  have hB6 : nB ≤ 6 := hI.2.2.2.1
  refine lv_aload_n hx hb dX1_tendAll_0 rfl (lv_at hl 0 rfl) ?_
  refine lv_iload_n hx hb dX1_tendAll_1 rfl (lv_at hl 1 rfl) ?_
  refine ro_callS 1 hx hb hml hown hts hl.1 hP hK (As := [.int hour]) (rest := [.ref h]) (c_X1_isHour l D (mw cI cZ h a τ) (tyX cI cZ) Hi hour) gX1_tendAll_X1_isHour rfl rfl rfl (by decide +kernel) ⟨Nat.le_of_ble_eq_true rfl, Nat.le_of_ble_eq_true rfl⟩ rfl rfl (Nat.le_of_ble_eq_true rfl) dX1_tendAll_2 ⟨Nat.zero_le _, Nat.zero_le _⟩ (fun r9_ hr9_ => ?_)
  subst hr9_
  refine lv_iconst (v := 1) hx hb dX1_tendAll_5 (by decide) ?_
  refine lv_iconst (v := 1) hx hb dX1_tendAll_6 (by decide) ?_
  refine wr_callV 3 hx hb hml hown hts hl.1 hP hK hS (fun _ h9 => h9) 0 1 rfl rfl (As := [.int (bI (inR hour 0 47)), .int (bI true), .int (bI true)]) (rest := []) (c_X1_goes l D cI cZ h a σ τ Hi A hD (inR hour 0 47) true true) gX1_tendAll_X1_goes rfl rfl rfl (by decide +kernel) ⟨Nat.le_of_ble_eq_true rfl, Nat.le_of_ble_eq_true rfl⟩ rfl rfl (Nat.le_of_ble_eq_true rfl) dX1_tendAll_7 ⟨Nat.zero_le _, Nat.zero_le _⟩ (fun r0 u0 H locs hr0 hP hS _ _ => ?_)
  subst hr0
  obtain ⟨τ1, eT⟩ : ∃ z : St, z = st τ 15 (fun _ => goK (inR hour 0 47) true true) := ⟨_, rfl⟩
  rw [← eT] at hP
  have h15 : τ1 15 0 = goK (inR hour 0 47) true true := by rw [eT]; rfl
  have hR1 : rel σ τ1 nL := by rw [eT]; exact hR
  have hD : va_D A (mw cI cZ h a τ1) := mD hD
  obtain ⟨⟨r10, r11, r12, r13, r2, r0, r1, r9⟩, ⟨r4, r5, r6, r7⟩, r3, r8, r8z⟩ := id hR1
  refine lv_if_eq (tgt := 21) hx hb dX1_tendAll_10 (by decide) (fun c10 => ?_) (fun c10 => ?_)
  · have hne := go_f c10
    refine lv_iconst (v := 0) hx hb dX1_tendAll_21 (by decide) ?_
    exact wr_ret (v := 0) τ1 hx hb hr hlocks hH hS hP ⟨h15, fun q => absurd q hne, fun _ => hR1⟩ dX1_tendAll_22
  · obtain ⟨hK0, g1, g2, g3⟩ := go_t c10
    obtain ⟨t, ht48, rfl⟩ := inR_hour g1
    have et : tN (nI t) = t := tN_nI (by omega)
    refine lv_aload_n hx hb dX1_tendAll_13 rfl (lv_at hl 0 rfl) ?_
    refine lv_iload_n hx hb dX1_tendAll_14 rfl (lv_at hl 1 rfl) ?_
    refine wr_callV 1 hx hb hml hown hts hl.1 hP hK hS (fun _ h9 => h9) 0 1 rfl rfl (As := [.int (nI t)]) (rest := []) (c_X1_tends l D cI cZ h a σ τ1 H A hD hI hR1 t ht48) gX1_tendAll_X1_tends rfl rfl rfl (by decide +kernel) ⟨Nat.le_of_ble_eq_true rfl, Nat.le_of_ble_eq_true rfl⟩ rfl rfl (Nat.le_of_ble_eq_true rfl) dX1_tendAll_15 ⟨Nat.zero_le _, Nat.zero_le _⟩ (fun r1_ u1 H locs hr1_ hP hS _ _ => ?_)
    subst hr1_
    refine lv_goto (tgt := 22) hx hb dX1_tendAll_18 (by decide) ?_
    exact wr_ret (v := (tdC σ t (bal σ t) nL)) (st τ1 7 (tdS σ t (bal σ t) nL)) hx hb hr hlocks hH hS hP ⟨h15, fun _ => ⟨by rw [et], by rw [et]; unfold tnd; rw [inv_nL hI]; exact rel_st12 _ hR1⟩, fun q => absurd hK0 q⟩ dX1_tendAll_22
set_option maxHeartbeats 4000000 in
set_option maxRecDepth 100000 in
/-- setTide -/
theorem c_X1_setTide (l : Launch) (D : va_G) (cI cZ : ClassId) (h : Nat) (a : Nat → Nat) (σ τ : St) (Hi : Heap) (A : Nat → Prop) (hD : va_D A (mw cI cZ h a τ)) {nL nB : Nat} (hI : inv σ nL nB) (hR : rel σ τ nL) (hour v : Int32) : wrM l yX1_setTide wsX1_setTide ({ frames := 2, cells := 0, slots := 0, locals := 42 }) [.ref h, .int hour, .int v] D (mw cI cZ h a τ) (tyX cI cZ) Hi (S := St) (fun ρ => mw cI cZ h a ρ) (fun r ρ => ρ 15 0 = goK (inR hour 0 47) (inR v (-200) 200) true ∧ (goK (inR hour 0 47) (inR v (-200) 200) true = 0 → r = σ 0 (tN hour) ∧ rel (st σ 0 (upd (σ 0) (tN hour) v)) ρ nL) ∧ (¬ goK (inR hour 0 47) (inR v (-200) 200) true = 0 → rel σ ρ nL)) A := by
  refine wr_of (cc := cX1_setTide) (maxL := 4) (ret := some .int) (by decide) rfl (Nat.le_of_ble_eq_true rfl) ?_
  intro p e s m args below meth c he hH hP hK ls hl
  obtain ⟨hx, hb, hr, hml, hown, hts, hlocks⟩ := he
  have hown : s.vm.findClass RX1 = some m.cls := hown
  have hS : va_S A Hi Hi [] := va_S.rf
  obtain ⟨⟨r10, r11, r12, r13, r2, r0, r1, r9⟩, ⟨r4, r5, r6, r7⟩, r3, r8, r8z⟩ := id hR
  have hL : σ 7 0 = nI nL := hI.1
  have hL10 : nL ≤ 10 := hI.2.1
  have hl : lv_has ls 4 [(0, .ref h), (1, .int hour), (2, .int v)] := hl
  have hin : ∀ w ∈ u_ws RX1 TX1 16, w ∈ wsX1_setTide := by decide +kernel
  have hB6 : nB ≤ 6 := hI.2.2.2.1
  refine lv_aload_n hx hb dX1_setTide_0 rfl (lv_at hl 0 rfl) ?_
  refine lv_iload_n hx hb dX1_setTide_1 rfl (lv_at hl 1 rfl) ?_
  refine ro_callS 1 hx hb hml hown hts hl.1 hP hK (As := [.int hour]) (rest := [.ref h]) (c_X1_isHour l D (mw cI cZ h a τ) (tyX cI cZ) Hi hour) gX1_setTide_X1_isHour rfl rfl rfl (by decide +kernel) ⟨Nat.le_of_ble_eq_true rfl, Nat.le_of_ble_eq_true rfl⟩ rfl rfl (Nat.le_of_ble_eq_true rfl) dX1_setTide_2 ⟨Nat.zero_le _, Nat.zero_le _⟩ (fun r9_ hr9_ => ?_)
  subst hr9_
  refine lv_iload_n hx hb dX1_setTide_5 rfl (lv_at hl 2 rfl) ?_
  refine lv_sipush (v := (-200)) hx hb dX1_setTide_6 (by decide) ?_
  refine lv_sipush (v := 200) hx hb dX1_setTide_9 (by decide) ?_
  refine ro_callS 3 hx hb hml hown hts hl.1 hP hK (As := [.int v, .int (-200), .int 200]) (rest := [.int (bI (inR hour 0 47)), .ref h]) (c_X1_in l D (mw cI cZ h a τ) (tyX cI cZ) Hi v (-200) 200) gX1_setTide_X1_in rfl rfl rfl (by decide +kernel) ⟨Nat.le_of_ble_eq_true rfl, Nat.le_of_ble_eq_true rfl⟩ rfl rfl (Nat.le_of_ble_eq_true rfl) dX1_setTide_12 ⟨Nat.zero_le _, Nat.zero_le _⟩ (fun r9_ hr9_ => ?_)
  subst hr9_
  refine lv_iconst (v := 1) hx hb dX1_setTide_15 (by decide) ?_
  refine wr_callV 3 hx hb hml hown hts hl.1 hP hK hS (fun _ h9 => h9) 0 1 rfl rfl (As := [.int (bI (inR hour 0 47)), .int (bI (inR v (-200) 200)), .int (bI true)]) (rest := []) (c_X1_goes l D cI cZ h a σ τ Hi A hD (inR hour 0 47) (inR v (-200) 200) true) gX1_setTide_X1_goes rfl rfl rfl (by decide +kernel) ⟨Nat.le_of_ble_eq_true rfl, Nat.le_of_ble_eq_true rfl⟩ rfl rfl (Nat.le_of_ble_eq_true rfl) dX1_setTide_16 ⟨Nat.zero_le _, Nat.zero_le _⟩ (fun r0 u0 H locs hr0 hP hS _ _ => ?_)
  subst hr0
  obtain ⟨τ1, eT⟩ : ∃ z : St, z = st τ 15 (fun _ => goK (inR hour 0 47) (inR v (-200) 200) true) := ⟨_, rfl⟩
  rw [← eT] at hP
  have h15 : τ1 15 0 = goK (inR hour 0 47) (inR v (-200) 200) true := by rw [eT]; rfl
  have hR1 : rel σ τ1 nL := by rw [eT]; exact hR
  have hD : va_D A (mw cI cZ h a τ1) := mD hD
  obtain ⟨⟨r10, r11, r12, r13, r2, r0, r1, r9⟩, ⟨r4, r5, r6, r7⟩, r3, r8, r8z⟩ := id hR1
  refine lv_if_ne (tgt := 24) hx hb dX1_setTide_19 (by decide) (fun c19 => ?_) (fun c19 => ?_)
  · obtain ⟨hK0, g1, g2, g3⟩ := go_t c19
    obtain ⟨t, ht48, rfl⟩ := inR_hour g1
    have et : tN (nI t) = t := tN_nI (by omega)
    refine lv_aload_n hx hb dX1_setTide_24 rfl (lv_at hl 0 rfl) ?_
    refine m_get hin hx hb hts hown hK hP rfl 10 (by decide) (v := .ref (a 10)) rfl (by decide +kernel) dX1_setTide_25 ?_
    refine lv_iload_n hx hb dX1_setTide_28 rfl (lv_at hl 1 rfl) ?_
    refine xa_ld hx hb hK hP 9 0 rfl rfl (j := t) ht48 (by decide) dX1_setTide_29 ?_
    rw [show τ1 10 t = (σ 0 t) from congrFun r10 t]
    refine lv_istore_n (lv' := [(3, .int (σ 0 t)), (0, .ref h), (1, .int (nI t)), (2, .int v)]) hx hb dX1_setTide_30 rfl hl (by decide) rfl (fun ls hl => ?_)
    refine lv_aload_n hx hb dX1_setTide_31 rfl (lv_at hl 1 rfl) ?_
    refine m_get hin hx hb hts hown hK hP rfl 10 (by decide) (v := .ref (a 10)) rfl (by decide +kernel) dX1_setTide_32 ?_
    refine lv_iload_n hx hb dX1_setTide_35 rfl (lv_at hl 2 rfl) ?_
    refine lv_iload_n hx hb dX1_setTide_36 rfl (lv_at hl 3 rfl) ?_
    refine xa_st hx hb hK hP hD hS 9 0 rfl rfl (j := t) ht48 (by decide) dX1_setTide_37 (fun H locs hP hD hS => ?_)
    have hP : va_P D vwCl (mw cI cZ h a (st τ1 10 (upd (σ 0) t v))) H := by rw [← r10]; exact hP
    have hD : va_D A (mw cI cZ h a (st τ1 10 (upd (σ 0) t v))) := mD (σ := (st τ1 10 (upd (τ1 10) t v))) hD
    refine lv_iload_n hx hb dX1_setTide_38 rfl (lv_at hl 0 rfl) ?_
    exact wr_ret (v := (σ 0 t)) (st τ1 10 (upd (σ 0) t v)) hx hb hr hlocks hH hS hP ⟨h15, fun _ => ⟨by rw [et], by rw [et]; exact rel_0 _ hR1⟩, fun q => absurd hK0 q⟩ dX1_setTide_39
  · have hne := go_f c19
    refine lv_iconst (v := 0) hx hb dX1_setTide_22 (by decide) ?_
    exact wr_ret (v := 0) τ1 hx hb hr hlocks hH hS hP ⟨h15, fun q => absurd q hne, fun _ => hR1⟩ dX1_setTide_23
set_option maxHeartbeats 4000000 in
set_option maxRecDepth 100000 in
/-- setPassing -/
theorem c_X1_setPassing (l : Launch) (D : va_G) (cI cZ : ClassId) (h : Nat) (a : Nat → Nat) (σ τ : St) (Hi : Heap) (A : Nat → Prop) (hD : va_D A (mw cI cZ h a τ)) {nL nB : Nat} (hI : inv σ nL nB) (hR : rel σ τ nL) (hour v : Int32) : wrM l yX1_setPassing wsX1_setPassing ({ frames := 2, cells := 0, slots := 0, locals := 42 }) [.ref h, .int hour, .int v] D (mw cI cZ h a τ) (tyX cI cZ) Hi (S := St) (fun ρ => mw cI cZ h a ρ) (fun r ρ => ρ 15 0 = goK (inR hour 0 47) (inR v (-1000000) 1000000) true ∧ (goK (inR hour 0 47) (inR v (-1000000) 1000000) true = 0 → r = σ 2 (tN hour) ∧ rel (st σ 2 (upd (σ 2) (tN hour) v)) ρ nL) ∧ (¬ goK (inR hour 0 47) (inR v (-1000000) 1000000) true = 0 → rel σ ρ nL)) A := by
  refine wr_of (cc := cX1_setPassing) (maxL := 4) (ret := some .int) (by decide) rfl (Nat.le_of_ble_eq_true rfl) ?_
  intro p e s m args below meth c he hH hP hK ls hl
  obtain ⟨hx, hb, hr, hml, hown, hts, hlocks⟩ := he
  have hown : s.vm.findClass RX1 = some m.cls := hown
  have hS : va_S A Hi Hi [] := va_S.rf
  obtain ⟨⟨r10, r11, r12, r13, r2, r0, r1, r9⟩, ⟨r4, r5, r6, r7⟩, r3, r8, r8z⟩ := id hR
  have hL : σ 7 0 = nI nL := hI.1
  have hL10 : nL ≤ 10 := hI.2.1
  have hl : lv_has ls 4 [(0, .ref h), (1, .int hour), (2, .int v)] := hl
  have hin : ∀ w ∈ u_ws RX1 TX1 16, w ∈ wsX1_setPassing := by decide +kernel
  have hB6 : nB ≤ 6 := hI.2.2.2.1
  refine lv_aload_n hx hb dX1_setPassing_0 rfl (lv_at hl 0 rfl) ?_
  refine lv_iload_n hx hb dX1_setPassing_1 rfl (lv_at hl 1 rfl) ?_
  refine ro_callS 1 hx hb hml hown hts hl.1 hP hK (As := [.int hour]) (rest := [.ref h]) (c_X1_isHour l D (mw cI cZ h a τ) (tyX cI cZ) Hi hour) gX1_setPassing_X1_isHour rfl rfl rfl (by decide +kernel) ⟨Nat.le_of_ble_eq_true rfl, Nat.le_of_ble_eq_true rfl⟩ rfl rfl (Nat.le_of_ble_eq_true rfl) dX1_setPassing_2 ⟨Nat.zero_le _, Nat.zero_le _⟩ (fun r9_ hr9_ => ?_)
  subst hr9_
  refine lv_iload_n hx hb dX1_setPassing_5 rfl (lv_at hl 2 rfl) ?_
  refine lv_ldc (v := (-1000000)) hx hb hown (hts (.constant RX1 77 (-1000000)) (by decide +kernel)) dX1_setPassing_6 ?_
  refine lv_ldc (v := (1000000)) hx hb hown (hts (.constant RX1 58 (1000000)) (by decide +kernel)) dX1_setPassing_8 ?_
  refine ro_callS 3 hx hb hml hown hts hl.1 hP hK (As := [.int v, .int (-1000000), .int 1000000]) (rest := [.int (bI (inR hour 0 47)), .ref h]) (c_X1_in l D (mw cI cZ h a τ) (tyX cI cZ) Hi v (-1000000) 1000000) gX1_setPassing_X1_in rfl rfl rfl (by decide +kernel) ⟨Nat.le_of_ble_eq_true rfl, Nat.le_of_ble_eq_true rfl⟩ rfl rfl (Nat.le_of_ble_eq_true rfl) dX1_setPassing_10 ⟨Nat.zero_le _, Nat.zero_le _⟩ (fun r9_ hr9_ => ?_)
  subst hr9_
  refine lv_iconst (v := 1) hx hb dX1_setPassing_13 (by decide) ?_
  refine wr_callV 3 hx hb hml hown hts hl.1 hP hK hS (fun _ h9 => h9) 0 1 rfl rfl (As := [.int (bI (inR hour 0 47)), .int (bI (inR v (-1000000) 1000000)), .int (bI true)]) (rest := []) (c_X1_goes l D cI cZ h a σ τ Hi A hD (inR hour 0 47) (inR v (-1000000) 1000000) true) gX1_setPassing_X1_goes rfl rfl rfl (by decide +kernel) ⟨Nat.le_of_ble_eq_true rfl, Nat.le_of_ble_eq_true rfl⟩ rfl rfl (Nat.le_of_ble_eq_true rfl) dX1_setPassing_14 ⟨Nat.zero_le _, Nat.zero_le _⟩ (fun r0 u0 H locs hr0 hP hS _ _ => ?_)
  subst hr0
  obtain ⟨τ1, eT⟩ : ∃ z : St, z = st τ 15 (fun _ => goK (inR hour 0 47) (inR v (-1000000) 1000000) true) := ⟨_, rfl⟩
  rw [← eT] at hP
  have h15 : τ1 15 0 = goK (inR hour 0 47) (inR v (-1000000) 1000000) true := by rw [eT]; rfl
  have hR1 : rel σ τ1 nL := by rw [eT]; exact hR
  have hD : va_D A (mw cI cZ h a τ1) := mD hD
  obtain ⟨⟨r10, r11, r12, r13, r2, r0, r1, r9⟩, ⟨r4, r5, r6, r7⟩, r3, r8, r8z⟩ := id hR1
  refine lv_if_ne (tgt := 22) hx hb dX1_setPassing_17 (by decide) (fun c17 => ?_) (fun c17 => ?_)
  · obtain ⟨hK0, g1, g2, g3⟩ := go_t c17
    obtain ⟨t, ht48, rfl⟩ := inR_hour g1
    have et : tN (nI t) = t := tN_nI (by omega)
    refine lv_aload_n hx hb dX1_setPassing_22 rfl (lv_at hl 0 rfl) ?_
    refine m_get hin hx hb hts hown hK hP rfl 12 (by decide) (v := .ref (a 12)) rfl (by decide +kernel) dX1_setPassing_23 ?_
    refine lv_iload_n hx hb dX1_setPassing_26 rfl (lv_at hl 1 rfl) ?_
    refine xa_ld hx hb hK hP 11 0 rfl rfl (j := t) ht48 (by decide) dX1_setPassing_27 ?_
    rw [show τ1 12 t = (σ 2 t) from congrFun r12 t]
    refine lv_istore_n (lv' := [(3, .int (σ 2 t)), (0, .ref h), (1, .int (nI t)), (2, .int v)]) hx hb dX1_setPassing_28 rfl hl (by decide) rfl (fun ls hl => ?_)
    refine lv_aload_n hx hb dX1_setPassing_29 rfl (lv_at hl 1 rfl) ?_
    refine m_get hin hx hb hts hown hK hP rfl 12 (by decide) (v := .ref (a 12)) rfl (by decide +kernel) dX1_setPassing_30 ?_
    refine lv_iload_n hx hb dX1_setPassing_33 rfl (lv_at hl 2 rfl) ?_
    refine lv_iload_n hx hb dX1_setPassing_34 rfl (lv_at hl 3 rfl) ?_
    refine xa_st hx hb hK hP hD hS 11 0 rfl rfl (j := t) ht48 (by decide) dX1_setPassing_35 (fun H locs hP hD hS => ?_)
    have hP : va_P D vwCl (mw cI cZ h a (st τ1 12 (upd (σ 2) t v))) H := by rw [← r12]; exact hP
    have hD : va_D A (mw cI cZ h a (st τ1 12 (upd (σ 2) t v))) := mD (σ := (st τ1 12 (upd (τ1 12) t v))) hD
    refine lv_iload_n hx hb dX1_setPassing_36 rfl (lv_at hl 0 rfl) ?_
    exact wr_ret (v := (σ 2 t)) (st τ1 12 (upd (σ 2) t v)) hx hb hr hlocks hH hS hP ⟨h15, fun _ => ⟨by rw [et], by rw [et]; exact rel_2 _ hR1⟩, fun q => absurd hK0 q⟩ dX1_setPassing_37
  · have hne := go_f c17
    refine lv_iconst (v := 0) hx hb dX1_setPassing_20 (by decide) ?_
    exact wr_ret (v := 0) τ1 hx hb hr hlocks hH hS hP ⟨h15, fun q => absurd q hne, fun _ => hR1⟩ dX1_setPassing_21
set_option maxHeartbeats 4000000 in
set_option maxRecDepth 100000 in
/-- setWind -/
theorem c_X1_setWind (l : Launch) (D : va_G) (cI cZ : ClassId) (h : Nat) (a : Nat → Nat) (σ τ : St) (Hi : Heap) (A : Nat → Prop) (hD : va_D A (mw cI cZ h a τ)) {nL nB : Nat} (hI : inv σ nL nB) (hR : rel σ τ nL) (v : Int32) : wrM l yX1_setWind wsX1_setWind ({ frames := 1, cells := 0, slots := 0, locals := 23 }) [.ref h, .int v] D (mw cI cZ h a τ) (tyX cI cZ) Hi (S := St) (fun ρ => mw cI cZ h a ρ) (fun r ρ => ρ 15 0 = goK (inR v (-1000000) 1000000) true true ∧ (goK (inR v (-1000000) 1000000) true true = 0 → r = σ 3 0 ∧ rel (st σ 3 (fun _ => v)) ρ nL) ∧ (¬ goK (inR v (-1000000) 1000000) true true = 0 → rel σ ρ nL)) A := by
  refine wr_of (cc := cX1_setWind) (maxL := 3) (ret := some .int) (by decide) rfl (Nat.le_of_ble_eq_true rfl) ?_
  intro p e s m args below meth c he hH hP hK ls hl
  obtain ⟨hx, hb, hr, hml, hown, hts, hlocks⟩ := he
  have hown : s.vm.findClass RX1 = some m.cls := hown
  have hS : va_S A Hi Hi [] := va_S.rf
  obtain ⟨⟨r10, r11, r12, r13, r2, r0, r1, r9⟩, ⟨r4, r5, r6, r7⟩, r3, r8, r8z⟩ := id hR
  have hL : σ 7 0 = nI nL := hI.1
  have hL10 : nL ≤ 10 := hI.2.1
  have hl : lv_has ls 3 [(0, .ref h), (1, .int v)] := hl
  have hin : ∀ w ∈ u_ws RX1 TX1 16, w ∈ wsX1_setWind := by decide +kernel
  have hB6 : nB ≤ 6 := hI.2.2.2.1
  refine lv_aload_n hx hb dX1_setWind_0 rfl (lv_at hl 0 rfl) ?_
  refine lv_iload_n hx hb dX1_setWind_1 rfl (lv_at hl 1 rfl) ?_
  refine lv_ldc (v := (-1000000)) hx hb hown (hts (.constant RX1 77 (-1000000)) (by decide +kernel)) dX1_setWind_2 ?_
  refine lv_ldc (v := (1000000)) hx hb hown (hts (.constant RX1 58 (1000000)) (by decide +kernel)) dX1_setWind_4 ?_
  refine ro_callS 3 hx hb hml hown hts hl.1 hP hK (As := [.int v, .int (-1000000), .int 1000000]) (rest := [.ref h]) (c_X1_in l D (mw cI cZ h a τ) (tyX cI cZ) Hi v (-1000000) 1000000) gX1_setWind_X1_in rfl rfl rfl (by decide +kernel) ⟨Nat.le_of_ble_eq_true rfl, Nat.le_of_ble_eq_true rfl⟩ rfl rfl (Nat.le_of_ble_eq_true rfl) dX1_setWind_6 ⟨Nat.zero_le _, Nat.zero_le _⟩ (fun r9_ hr9_ => ?_)
  subst hr9_
  refine lv_iconst (v := 1) hx hb dX1_setWind_9 (by decide) ?_
  refine lv_iconst (v := 1) hx hb dX1_setWind_10 (by decide) ?_
  refine wr_callV 3 hx hb hml hown hts hl.1 hP hK hS (fun _ h9 => h9) 0 1 rfl rfl (As := [.int (bI (inR v (-1000000) 1000000)), .int (bI true), .int (bI true)]) (rest := []) (c_X1_goes l D cI cZ h a σ τ Hi A hD (inR v (-1000000) 1000000) true true) gX1_setWind_X1_goes rfl rfl rfl (by decide +kernel) ⟨Nat.le_of_ble_eq_true rfl, Nat.le_of_ble_eq_true rfl⟩ rfl rfl (Nat.le_of_ble_eq_true rfl) dX1_setWind_11 ⟨Nat.zero_le _, Nat.zero_le _⟩ (fun r0 u0 H locs hr0 hP hS _ _ => ?_)
  subst hr0
  obtain ⟨τ1, eT⟩ : ∃ z : St, z = st τ 15 (fun _ => goK (inR v (-1000000) 1000000) true true) := ⟨_, rfl⟩
  rw [← eT] at hP
  have h15 : τ1 15 0 = goK (inR v (-1000000) 1000000) true true := by rw [eT]; rfl
  have hR1 : rel σ τ1 nL := by rw [eT]; exact hR
  have hD : va_D A (mw cI cZ h a τ1) := mD hD
  obtain ⟨⟨r10, r11, r12, r13, r2, r0, r1, r9⟩, ⟨r4, r5, r6, r7⟩, r3, r8, r8z⟩ := id hR1
  refine lv_if_ne (tgt := 19) hx hb dX1_setWind_14 (by decide) (fun c14 => ?_) (fun c14 => ?_)
  · obtain ⟨hK0, g1, g2, g3⟩ := go_t c14
    refine lv_aload_n hx hb dX1_setWind_19 rfl (lv_at hl 0 rfl) ?_
    refine m_get hin hx hb hts hown hK hP rfl 13 (by decide) (v := .int (σ 3 0)) (congrArg (fun z => some (Value.int z)) r13) (by decide +kernel) dX1_setWind_20 ?_
    refine lv_istore_n (lv' := [(2, .int (σ 3 0)), (0, .ref h), (1, .int v)]) hx hb dX1_setWind_23 rfl hl (by decide) rfl (fun ls hl => ?_)
    refine lv_aload_n hx hb dX1_setWind_24 rfl (lv_at hl 1 rfl) ?_
    refine lv_iload_n hx hb dX1_setWind_25 rfl (lv_at hl 2 rfl) ?_
    refine m_put hin hx hb hts hown hK hP hD hS rfl 13 (by decide) (by decide +kernel) rfl (by decide +kernel) (Nat.le_of_ble_eq_true rfl) dX1_setWind_26 (fun H locs hP hD hS => ?_)
    have hP : va_P D vwCl (mw cI cZ h a (st τ1 13 (fun _ => v))) H := hP
    have hD : va_D A (mw cI cZ h a (st τ1 13 (fun _ => v))) := hD
    refine lv_iload_n hx hb dX1_setWind_29 rfl (lv_at hl 0 rfl) ?_
    exact wr_ret (v := (σ 3 0)) (st τ1 13 (fun _ => v)) hx hb hr hlocks hH hS hP ⟨h15, fun _ => ⟨rfl, rel_3 _ hR1⟩, fun q => absurd hK0 q⟩ dX1_setWind_30
  · have hne := go_f c14
    refine lv_iconst (v := 0) hx hb dX1_setWind_17 (by decide) ?_
    exact wr_ret (v := 0) τ1 hx hb hr hlocks hH hS hP ⟨h15, fun q => absurd q hne, fun _ => hR1⟩ dX1_setWind_18
set_option maxHeartbeats 4000000 in
set_option maxRecDepth 100000 in
/-- setLoad -/
theorem c_X1_setLoad (l : Launch) (D : va_G) (cI cZ : ClassId) (h : Nat) (a : Nat → Nat) (σ τ : St) (Hi : Heap) (A : Nat → Prop) (hD : va_D A (mw cI cZ h a τ)) {nL nB : Nat} (hI : inv σ nL nB) (hR : rel σ τ nL) (hour v : Int32) : wrM l yX1_setLoad wsX1_setLoad ({ frames := 2, cells := 0, slots := 0, locals := 42 }) [.ref h, .int hour, .int v] D (mw cI cZ h a τ) (tyX cI cZ) Hi (S := St) (fun ρ => mw cI cZ h a ρ) (fun r ρ => ρ 15 0 = goK (inR hour 0 47) (inR v (-200) 200) true ∧ (goK (inR hour 0 47) (inR v (-200) 200) true = 0 → r = σ 1 (tN hour) ∧ rel (st σ 1 (ldF (σ 1) (tN hour) v 48)) ρ nL) ∧ (¬ goK (inR hour 0 47) (inR v (-200) 200) true = 0 → rel σ ρ nL)) A := by
  refine wr_of (cc := cX1_setLoad) (maxL := 5) (ret := some .int) (by decide) rfl (Nat.le_of_ble_eq_true rfl) ?_
  intro p e s m args below meth c he hH hP hK ls hl
  obtain ⟨hx, hb, hr, hml, hown, hts, hlocks⟩ := he
  have hown : s.vm.findClass RX1 = some m.cls := hown
  have hS : va_S A Hi Hi [] := va_S.rf
  obtain ⟨⟨r10, r11, r12, r13, r2, r0, r1, r9⟩, ⟨r4, r5, r6, r7⟩, r3, r8, r8z⟩ := id hR
  have hL : σ 7 0 = nI nL := hI.1
  have hL10 : nL ≤ 10 := hI.2.1
  have hl : lv_has ls 5 [(0, .ref h), (1, .int hour), (2, .int v)] := hl
  have hin : ∀ w ∈ u_ws RX1 TX1 16, w ∈ wsX1_setLoad := by decide +kernel
  have hB6 : nB ≤ 6 := hI.2.2.2.1
  refine lv_aload_n hx hb dX1_setLoad_0 rfl (lv_at hl 0 rfl) ?_
  refine lv_iload_n hx hb dX1_setLoad_1 rfl (lv_at hl 1 rfl) ?_
  refine ro_callS 1 hx hb hml hown hts hl.1 hP hK (As := [.int hour]) (rest := [.ref h]) (c_X1_isHour l D (mw cI cZ h a τ) (tyX cI cZ) Hi hour) gX1_setLoad_X1_isHour rfl rfl rfl (by decide +kernel) ⟨Nat.le_of_ble_eq_true rfl, Nat.le_of_ble_eq_true rfl⟩ rfl rfl (Nat.le_of_ble_eq_true rfl) dX1_setLoad_2 ⟨Nat.zero_le _, Nat.zero_le _⟩ (fun r9_ hr9_ => ?_)
  subst hr9_
  refine lv_iload_n hx hb dX1_setLoad_5 rfl (lv_at hl 2 rfl) ?_
  refine lv_sipush (v := (-200)) hx hb dX1_setLoad_6 (by decide) ?_
  refine lv_sipush (v := 200) hx hb dX1_setLoad_9 (by decide) ?_
  refine ro_callS 3 hx hb hml hown hts hl.1 hP hK (As := [.int v, .int (-200), .int 200]) (rest := [.int (bI (inR hour 0 47)), .ref h]) (c_X1_in l D (mw cI cZ h a τ) (tyX cI cZ) Hi v (-200) 200) gX1_setLoad_X1_in rfl rfl rfl (by decide +kernel) ⟨Nat.le_of_ble_eq_true rfl, Nat.le_of_ble_eq_true rfl⟩ rfl rfl (Nat.le_of_ble_eq_true rfl) dX1_setLoad_12 ⟨Nat.zero_le _, Nat.zero_le _⟩ (fun r9_ hr9_ => ?_)
  subst hr9_
  refine lv_iconst (v := 1) hx hb dX1_setLoad_15 (by decide) ?_
  refine wr_callV 3 hx hb hml hown hts hl.1 hP hK hS (fun _ h9 => h9) 0 1 rfl rfl (As := [.int (bI (inR hour 0 47)), .int (bI (inR v (-200) 200)), .int (bI true)]) (rest := []) (c_X1_goes l D cI cZ h a σ τ Hi A hD (inR hour 0 47) (inR v (-200) 200) true) gX1_setLoad_X1_goes rfl rfl rfl (by decide +kernel) ⟨Nat.le_of_ble_eq_true rfl, Nat.le_of_ble_eq_true rfl⟩ rfl rfl (Nat.le_of_ble_eq_true rfl) dX1_setLoad_16 ⟨Nat.zero_le _, Nat.zero_le _⟩ (fun r0 u0 H locs hr0 hP hS _ _ => ?_)
  subst hr0
  obtain ⟨τ1, eT⟩ : ∃ z : St, z = st τ 15 (fun _ => goK (inR hour 0 47) (inR v (-200) 200) true) := ⟨_, rfl⟩
  rw [← eT] at hP
  have h15 : τ1 15 0 = goK (inR hour 0 47) (inR v (-200) 200) true := by rw [eT]; rfl
  have hR1 : rel σ τ1 nL := by rw [eT]; exact hR
  have hD : va_D A (mw cI cZ h a τ1) := mD hD
  obtain ⟨⟨r10, r11, r12, r13, r2, r0, r1, r9⟩, ⟨r4, r5, r6, r7⟩, r3, r8, r8z⟩ := id hR1
  refine lv_if_ne (tgt := 24) hx hb dX1_setLoad_19 (by decide) (fun c19 => ?_) (fun c19 => ?_)
  · obtain ⟨hK0, g1, g2, g3⟩ := go_t c19
    obtain ⟨t, ht48, rfl⟩ := inR_hour g1
    have et : tN (nI t) = t := tN_nI (by omega)
    refine lv_aload_n hx hb dX1_setLoad_24 rfl (lv_at hl 0 rfl) ?_
    refine m_get hin hx hb hts hown hK hP rfl 11 (by decide) (v := .ref (a 11)) rfl (by decide +kernel) dX1_setLoad_25 ?_
    refine lv_iload_n hx hb dX1_setLoad_28 rfl (lv_at hl 1 rfl) ?_
    refine xa_ld hx hb hK hP 10 0 rfl rfl (j := t) ht48 (by decide) dX1_setLoad_29 ?_
    rw [show τ1 11 t = (σ 1 t) from congrFun r11 t]
    refine lv_istore_n (lv' := [(3, .int (σ 1 t)), (0, .ref h), (1, .int (nI t)), (2, .int v)]) hx hb dX1_setLoad_30 rfl hl (by decide) rfl (fun ls hl => ?_)
    refine lv_iload_n hx hb dX1_setLoad_31 rfl (lv_at hl 2 rfl) ?_
    refine lv_istore (lv' := [(4, .int (nI t)), (3, .int (σ 1 t)), (0, .ref h), (1, .int (nI t)), (2, .int v)]) hx hb dX1_setLoad_32 hl (by decide) rfl (fun ls hl => ?_)
    suffices K : ∀ (n k : Nat) (H : Heap) (locs : List Loc) (ls : Array Slot), k + n = 48 → t ≤ k → va_P D vwCl (mw cI cZ h a (st τ1 11 (ldF (σ 1) t v k))) H → va_S A Hi H locs → lv_has ls 5 [(4, .int (nI k)), (3, .int (σ 1 t)), (0, .ref h), (1, .int (nI t)), (2, .int v)] → W p l e _ s m args below meth c H locs 0 0 (wrQ below D (S := St) (fun ρ => mw cI cZ h a ρ) (fun r ρ => ρ 15 0 = goK (inR (nI t) 0 47) (inR v (-200) 200) true ∧ (goK (inR (nI t) 0 47) (inR v (-200) 200) true = 0 → r = σ 1 (tN (nI t)) ∧ rel (st σ 1 (ldF (σ 1) (tN (nI t)) v 48)) ρ nL) ∧ (¬ goK (inR (nI t) 0 47) (inR v (-200) 200) true = 0 → rel σ ρ nL)) A args s) (F0 m 34 ls []) by
      exact K (48 - t) t H locs ls (by omega) (Nat.le_refl _) (by rw [ldF_0, ← r11]; exact hP) hS (lv_sub hl [0, 1, 2, 3, 4] rfl)
    intro n
    induction n with
    | zero =>
        intro k H locs ls hk htk hP hS hl
        refine lv_iload hx hb dX1_setLoad_34 (lv_at hl 0 rfl) ?_
        refine lv_bipush (v := 48) hx hb dX1_setLoad_36 (by decide) ?_
        refine lv_icmp_ge (tgt := 55) hx hb dX1_setLoad_38 (by decide) (fun c38 => ?_) (fun c38 => ?_)
        · rw [show k = 48 by omega] at hP
          refine lv_iload_n hx hb dX1_setLoad_55 rfl (lv_at hl 1 rfl) ?_
          exact wr_ret (v := (σ 1 t)) (st τ1 11 (ldF (σ 1) t v 48)) hx hb hr hlocks hH hS hP ⟨h15, fun _ => ⟨by rw [et], by rw [et]; exact rel_1 _ hR1⟩, fun q => absurd hK0 q⟩ dX1_setLoad_56
        · exact absurd (nI_le (a := 48) (b := k) (by omega) (by omega)) c38
    | succ n ih =>
        intro k H locs ls hk htk hP hS hl
        have hD : va_D A (mw cI cZ h a (st τ1 11 (ldF (σ 1) t v k))) := mD hD
        refine lv_iload hx hb dX1_setLoad_34 (lv_at hl 0 rfl) ?_
        refine lv_bipush (v := 48) hx hb dX1_setLoad_36 (by decide) ?_
        refine lv_icmp_ge (tgt := 55) hx hb dX1_setLoad_38 (by decide) (fun c38 => ?_) (fun c38 => ?_)
        · exact absurd c38 (nI_ge (a := k) (b := 48) (by omega) (by omega))
        · refine lv_aload_n hx hb dX1_setLoad_41 rfl (lv_at hl 2 rfl) ?_
          refine m_get hin hx hb hts hown hK hP rfl 11 (by decide) (v := .ref (a 11)) rfl (by decide +kernel) dX1_setLoad_42 ?_
          refine lv_iload hx hb dX1_setLoad_45 (lv_at hl 0 rfl) ?_
          refine lv_iload_n hx hb dX1_setLoad_47 rfl (lv_at hl 4 rfl) ?_
          refine xa_st hx hb hK hP hD hS 10 0 rfl rfl (j := k) (by omega) (by decide) dX1_setLoad_48 (fun H locs hP hD hS => ?_)
          have hP : va_P D vwCl (mw cI cZ h a (st (st τ1 11 (ldF (σ 1) t v k)) 11 (upd ((st τ1 11 (ldF (σ 1) t v k)) 11) k v))) H := hP
          have hD : va_D A (mw cI cZ h a (st (st τ1 11 (ldF (σ 1) t v k)) 11 (upd ((st τ1 11 (ldF (σ 1) t v k)) 11) k v))) := hD
          have hP : va_P D vwCl (mw cI cZ h a (st τ1 11 (ldF (σ 1) t v (k + 1)))) H := by rw [← ldF_up htk]; exact hP
          refine lv_iinc (v := (nI (k + 1))) (lv' := [(4, .int (nI (k + 1))), (3, .int (σ 1 t)), (0, .ref h), (1, .int (nI t)), (2, .int v)]) hx hb dX1_setLoad_49 hl (k := 0) rfl (by exact nI_add _ 1) (by decide) rfl (fun ls hl => ?_)
          refine lv_goto (tgt := 34) hx hb dX1_setLoad_52 (by decide) ?_
          exact ih (k + 1) H locs ls (by omega) (by omega) hP hS (lv_sub hl [0, 1, 2, 3, 4] rfl)
  · have hne := go_f c19
    refine lv_iconst (v := 0) hx hb dX1_setLoad_22 (by decide) ?_
    exact wr_ret (v := 0) τ1 hx hb hr hlocks hH hS hP ⟨h15, fun q => absurd q hne, fun _ => hR1⟩ dX1_setLoad_23
set_option maxHeartbeats 4000000 in
set_option maxRecDepth 100000 in
/-- toggle -/
theorem c_X1_toggle (l : Launch) (D : va_G) (cI cZ : ClassId) (h : Nat) (a : Nat → Nat) (σ τ : St) (Hi : Heap) (A : Nat → Prop) (hD : va_D A (mw cI cZ h a τ)) {nL nB : Nat} (hI : inv σ nL nB) (hR : rel σ τ nL) (line : Int32) : wrM l yX1_toggle wsX1_toggle ({ frames := 2, cells := 0, slots := 0, locals := 43 }) [.ref h, .int line] D (mw cI cZ h a τ) (tyX cI cZ) Hi (S := St) (fun ρ => mw cI cZ h a ρ) (fun r ρ => ρ 15 0 = goK (inR line 0 (nI nL - 1)) true true ∧ (goK (inR line 0 (nI nL - 1)) true true = 0 → r = nxF σ (tN line) ∧ rel (st σ 13 (upd (σ 13) (tN line) (nxF σ (tN line)))) ρ nL) ∧ (¬ goK (inR line 0 (nI nL - 1)) true true = 0 → rel σ ρ nL)) A := by
  refine wr_of (cc := cX1_toggle) (maxL := 2) (ret := some .boolean) (by decide) rfl (Nat.le_of_ble_eq_true rfl) ?_
  intro p e s m args below meth c he hH hP hK ls hl
  obtain ⟨hx, hb, hr, hml, hown, hts, hlocks⟩ := he
  have hown : s.vm.findClass RX1 = some m.cls := hown
  have hS : va_S A Hi Hi [] := va_S.rf
  obtain ⟨⟨r10, r11, r12, r13, r2, r0, r1, r9⟩, ⟨r4, r5, r6, r7⟩, r3, r8, r8z⟩ := id hR
  have hL : σ 7 0 = nI nL := hI.1
  have hL10 : nL ≤ 10 := hI.2.1
  have hl : lv_has ls 2 [(0, .ref h), (1, .int line)] := hl
  have hin : ∀ w ∈ u_ws RX1 TX1 16, w ∈ wsX1_toggle := by decide +kernel
  have hB6 : nB ≤ 6 := hI.2.2.2.1
  refine lv_aload_n hx hb dX1_toggle_0 rfl (lv_at hl 0 rfl) ?_
  refine lv_aload_n hx hb dX1_toggle_1 rfl (lv_at hl 0 rfl) ?_
  refine lv_iload_n hx hb dX1_toggle_2 rfl (lv_at hl 1 rfl) ?_
  refine ro_callV 1 hx hb hml hown hts hl.1 hP hK 0 1 rfl rfl (As := [.int line]) (rest := [.ref h]) (c_X1_isLine l D cI cZ h a σ τ Hi hI hR line) gX1_toggle_X1_isLine rfl rfl rfl (by decide +kernel) ⟨Nat.le_of_ble_eq_true rfl, Nat.le_of_ble_eq_true rfl⟩ rfl rfl (Nat.le_of_ble_eq_true rfl) dX1_toggle_3 ⟨Nat.zero_le _, Nat.zero_le _⟩ (fun r9_ hr9_ => ?_)
  subst hr9_
  refine lv_iconst (v := 1) hx hb dX1_toggle_6 (by decide) ?_
  refine lv_iconst (v := 1) hx hb dX1_toggle_7 (by decide) ?_
  refine wr_callV 3 hx hb hml hown hts hl.1 hP hK hS (fun _ h9 => h9) 0 1 rfl rfl (As := [.int (bI (inR line 0 (nI nL - 1))), .int (bI true), .int (bI true)]) (rest := []) (c_X1_goes l D cI cZ h a σ τ Hi A hD (inR line 0 (nI nL - 1)) true true) gX1_toggle_X1_goes rfl rfl rfl (by decide +kernel) ⟨Nat.le_of_ble_eq_true rfl, Nat.le_of_ble_eq_true rfl⟩ rfl rfl (Nat.le_of_ble_eq_true rfl) dX1_toggle_8 ⟨Nat.zero_le _, Nat.zero_le _⟩ (fun r0 u0 H locs hr0 hP hS _ _ => ?_)
  subst hr0
  obtain ⟨τ1, eT⟩ : ∃ z : St, z = st τ 15 (fun _ => goK (inR line 0 (nI nL - 1)) true true) := ⟨_, rfl⟩
  rw [← eT] at hP
  have h15 : τ1 15 0 = goK (inR line 0 (nI nL - 1)) true true := by rw [eT]; rfl
  have hR1 : rel σ τ1 nL := by rw [eT]; exact hR
  have hD : va_D A (mw cI cZ h a τ1) := mD hD
  obtain ⟨⟨r10, r11, r12, r13, r2, r0, r1, r9⟩, ⟨r4, r5, r6, r7⟩, r3, r8, r8z⟩ := id hR1
  refine lv_if_ne (tgt := 16) hx hb dX1_toggle_11 (by decide) (fun c11 => ?_) (fun c11 => ?_)
  · obtain ⟨hK0, g1, g2, g3⟩ := go_t c11
    obtain ⟨j, hj, rfl⟩ := inR_line (by omega) g1
    have ej : tN (nI j) = j := tN_nI (by omega)
    refine lv_aload_n hx hb dX1_toggle_16 rfl (lv_at hl 0 rfl) ?_
    refine m_get hin hx hb hts hown hK hP rfl 8 (by decide) (v := .ref (a 8)) rfl (by decide +kernel) dX1_toggle_17 ?_
    refine lv_iload_n hx hb dX1_toggle_20 rfl (lv_at hl 1 rfl) ?_
    refine lv_aload_n hx hb dX1_toggle_21 rfl (lv_at hl 0 rfl) ?_
    refine m_get hin hx hb hts hown hK hP rfl 8 (by decide) (v := .ref (a 8)) rfl (by decide +kernel) dX1_toggle_22 ?_
    refine lv_iload_n hx hb dX1_toggle_25 rfl (lv_at hl 1 rfl) ?_
    refine xa_zld hx hb hK hP 8 1 rfl rfl (j := j) (by omega) (by decide) dX1_toggle_26 ?_
    refine lv_if_ne (tgt := 34) hx hb dX1_toggle_27 (by decide) (fun c27 => ?_) (fun c27 => ?_)
    · refine lv_iconst (v := 0) hx hb dX1_toggle_34 (by decide) ?_
      refine lv_topi (fun y9 e9 => ?_)
      rw [show y9 = (if τ1 8 j = 0 then 1 else 0) from e9.trans (by rw [if_neg c27])]
      refine xa_zst hx hb hK hP hD hS 8 1 rfl rfl (j := j) (by rw [if_neg c27]; rfl) (by omega) (by decide) dX1_toggle_35 (fun H locs hP hD hS => ?_)
      have hP : va_P D vwCl (mw cI cZ h a (st τ1 8 (upd (τ1 8) j (if τ1 8 j = 0 then 1 else 0)))) H := hP
      have hD : va_D A (mw cI cZ h a (st τ1 8 (upd (τ1 8) j (if τ1 8 j = 0 then 1 else 0)))) := hD
      refine lv_aload_n hx hb dX1_toggle_36 rfl (lv_at hl 0 rfl) ?_
      refine m_get hin hx hb hts hown hK hP rfl 8 (by decide) (v := .ref (a 8)) rfl (by decide +kernel) dX1_toggle_37 ?_
      refine lv_iload_n hx hb dX1_toggle_40 rfl (lv_at hl 1 rfl) ?_
      refine xa_zld hx hb hK hP 8 1 rfl rfl (j := j) (by omega) (by decide) dX1_toggle_41 ?_
      rw [show (st τ1 8 (upd (τ1 8) j (if τ1 8 j = 0 then 1 else 0))) 8 j = (if τ1 8 j = 0 then 1 else 0) from by show (if j = j then _ else _) = _; rw [if_pos rfl]]
      refine lv_topi (fun y9 e9 => ?_)
      rw [show y9 = 0 from e9.trans (by rw [if_neg c27])]
      refine lv_if_ne (tgt := 49) hx hb dX1_toggle_42 (by decide) (fun c42 => ?_) (fun c42 => ?_)
      · exact absurd rfl c42
      · refine lv_iconst (v := 1) hx hb dX1_toggle_45 (by decide) ?_
        refine lv_goto (tgt := 50) hx hb dX1_toggle_46 (by decide) ?_
        exact wr_zret (v := 1) (st τ1 8 (upd (τ1 8) j (if τ1 8 j = 0 then 1 else 0))) hx hb hr hlocks hH hS hP ⟨true, rfl⟩ ⟨h15, fun _ => ⟨by rw [ej]; unfold nxF; rcases r8 j hj with ⟨q1, q2⟩ | ⟨q1, q2⟩; exact absurd q1 c27; rw [q2]; rfl, by rw [ej]; exact rel_tog hj hR1⟩, fun q => absurd hK0 q⟩ dX1_toggle_50
    · refine lv_iconst (v := 1) hx hb dX1_toggle_30 (by decide) ?_
      refine lv_goto (tgt := 35) hx hb dX1_toggle_31 (by decide) ?_
      refine lv_topi (fun y9 e9 => ?_)
      rw [show y9 = (if τ1 8 j = 0 then 1 else 0) from e9.trans (by rw [if_pos c27])]
      refine xa_zst hx hb hK hP hD hS 8 1 rfl rfl (j := j) (by rw [if_pos c27]; rfl) (by omega) (by decide) dX1_toggle_35 (fun H locs hP hD hS => ?_)
      have hP : va_P D vwCl (mw cI cZ h a (st τ1 8 (upd (τ1 8) j (if τ1 8 j = 0 then 1 else 0)))) H := hP
      have hD : va_D A (mw cI cZ h a (st τ1 8 (upd (τ1 8) j (if τ1 8 j = 0 then 1 else 0)))) := hD
      refine lv_aload_n hx hb dX1_toggle_36 rfl (lv_at hl 0 rfl) ?_
      refine m_get hin hx hb hts hown hK hP rfl 8 (by decide) (v := .ref (a 8)) rfl (by decide +kernel) dX1_toggle_37 ?_
      refine lv_iload_n hx hb dX1_toggle_40 rfl (lv_at hl 1 rfl) ?_
      refine xa_zld hx hb hK hP 8 1 rfl rfl (j := j) (by omega) (by decide) dX1_toggle_41 ?_
      rw [show (st τ1 8 (upd (τ1 8) j (if τ1 8 j = 0 then 1 else 0))) 8 j = (if τ1 8 j = 0 then 1 else 0) from by show (if j = j then _ else _) = _; rw [if_pos rfl]]
      refine lv_topi (fun y9 e9 => ?_)
      rw [show y9 = 1 from e9.trans (by rw [if_pos c27])]
      refine lv_if_ne (tgt := 49) hx hb dX1_toggle_42 (by decide) (fun c42 => ?_) (fun c42 => ?_)
      · refine lv_iconst (v := 0) hx hb dX1_toggle_49 (by decide) ?_
        exact wr_zret (v := 0) (st τ1 8 (upd (τ1 8) j (if τ1 8 j = 0 then 1 else 0))) hx hb hr hlocks hH hS hP ⟨false, rfl⟩ ⟨h15, fun _ => ⟨by rw [ej]; unfold nxF; rcases r8 j hj with ⟨q1, q2⟩ | ⟨q1, q2⟩; rw [q2]; rfl; exact absurd (q1.symm.trans c27) (by decide), by rw [ej]; exact rel_tog hj hR1⟩, fun q => absurd hK0 q⟩ dX1_toggle_50
      · exact absurd c42 (by decide)
  · have hne := go_f c11
    refine lv_iconst (v := 0) hx hb dX1_toggle_14 (by decide) ?_
    exact wr_zret (v := 0) τ1 hx hb hr hlocks hH hS hP ⟨false, rfl⟩ ⟨h15, fun q => absurd q hne, fun _ => hR1⟩ dX1_toggle_15
set_option maxHeartbeats 4000000 in
set_option maxRecDepth 100000 in
/-- addBollard -/
theorem c_X1_addBollard (l : Launch) (D : va_G) (cI cZ : ClassId) (h : Nat) (a : Nat → Nat) (σ τ : St) (Hi : Heap) (A : Nat → Prop) (hD : va_D A (mw cI cZ h a τ)) {nL nB : Nat} (hI : inv σ nL nB) (hR : rel σ τ nL) (pl lim : Int32) : wrM l yX1_addBollard wsX1_addBollard ({ frames := 1, cells := 0, slots := 0, locals := 23 }) [.ref h, .int pl, .int lim] D (mw cI cZ h a τ) (tyX cI cZ) Hi (S := St) (fun ρ => mw cI cZ h a ρ) (fun r ρ => ρ 15 0 = goK (inR pl (-5000) 5000 && inR lim 1 1000000) (decide (nB < 6)) true ∧ (goK (inR pl (-5000) 5000 && inR lim 1 1000000) (decide (nB < 6)) true = 0 → r = nI nB ∧ rel (abS σ nB pl lim) ρ nL) ∧ (¬ goK (inR pl (-5000) 5000 && inR lim 1 1000000) (decide (nB < 6)) true = 0 → rel σ ρ nL)) A := by
  refine wr_of (cc := cX1_addBollard) (maxL := 3) (ret := some .int) (by decide) rfl (Nat.le_of_ble_eq_true rfl) ?_
  intro p e s m args below meth c he hH hP hK ls hl
  obtain ⟨hx, hb, hr, hml, hown, hts, hlocks⟩ := he
  have hown : s.vm.findClass RX1 = some m.cls := hown
  have hS : va_S A Hi Hi [] := va_S.rf
  obtain ⟨⟨r10, r11, r12, r13, r2, r0, r1, r9⟩, ⟨r4, r5, r6, r7⟩, r3, r8, r8z⟩ := id hR
  have hL : σ 7 0 = nI nL := hI.1
  have hL10 : nL ≤ 10 := hI.2.1
  have hl : lv_has ls 3 [(0, .ref h), (1, .int pl), (2, .int lim)] := hl
  have hin : ∀ w ∈ u_ws RX1 TX1 16, w ∈ wsX1_addBollard := by decide +kernel
  have hB6 : nB ≤ 6 := hI.2.2.2.1
  refine lv_aload_n hx hb dX1_addBollard_0 rfl (lv_at hl 0 rfl) ?_
  suffices J : W p l e ({ frames := 1, cells := 0, slots := 0, locals := 23 } : Room) s m args below meth c Hi [] 0 0 (wrQ below D (S := St) (fun ρ => mw cI cZ h a ρ) (fun r ρ => ρ 15 0 = goK (inR pl (-5000) 5000 && inR lim 1 1000000) (decide (nB < 6)) true ∧ (goK (inR pl (-5000) 5000 && inR lim 1 1000000) (decide (nB < 6)) true = 0 → r = nI nB ∧ rel (abS σ nB pl lim) ρ nL) ∧ (¬ goK (inR pl (-5000) 5000 && inR lim 1 1000000) (decide (nB < 6)) true = 0 → rel σ ρ nL)) A args s) (F0 m 29 ls [.int (bI (inR pl (-5000) 5000 && inR lim 1 1000000)), .ref h]) by
    refine lv_iload_n hx hb dX1_addBollard_1 rfl (lv_at hl 1 rfl) ?_
    refine lv_sipush (v := (-5000)) hx hb dX1_addBollard_2 (by decide) ?_
    refine lv_sipush (v := 5000) hx hb dX1_addBollard_5 (by decide) ?_
    refine ro_callS 3 hx hb hml hown hts hl.1 hP hK (As := [.int pl, .int (-5000), .int 5000]) (rest := [.ref h]) (c_X1_in l D (mw cI cZ h a τ) (tyX cI cZ) Hi pl (-5000) 5000) gX1_addBollard_X1_in rfl rfl rfl (by decide +kernel) ⟨Nat.le_of_ble_eq_true rfl, Nat.le_of_ble_eq_true rfl⟩ rfl rfl (Nat.le_of_ble_eq_true rfl) dX1_addBollard_8 ⟨Nat.zero_le _, Nat.zero_le _⟩ (fun r9_ hr9_ => ?_)
    subst hr9_
    refine lv_if_eq (tgt := 28) hx hb dX1_addBollard_11 (by decide) (fun c11 => ?_) (fun c11 => ?_)
    · refine lv_iconst (v := 0) hx hb dX1_addBollard_28 (by decide) ?_
      refine lv_topi (fun y9 e9 => ?_)
      rw [show y9 = (bI (inR pl (-5000) 5000 && inR lim 1 1000000)) from e9.trans (bI_e (c := false) (an1 (bI_f c11)) rfl)]
      exact J
    · refine lv_iload_n hx hb dX1_addBollard_14 rfl (lv_at hl 2 rfl) ?_
      refine lv_iconst (v := 1) hx hb dX1_addBollard_15 (by decide) ?_
      refine lv_ldc (v := (1000000)) hx hb hown (hts (.constant RX1 58 (1000000)) (by decide +kernel)) dX1_addBollard_16 ?_
      refine ro_callS 3 hx hb hml hown hts hl.1 hP hK (As := [.int lim, .int 1, .int 1000000]) (rest := [.ref h]) (c_X1_in l D (mw cI cZ h a τ) (tyX cI cZ) Hi lim 1 1000000) gX1_addBollard_X1_in rfl rfl rfl (by decide +kernel) ⟨Nat.le_of_ble_eq_true rfl, Nat.le_of_ble_eq_true rfl⟩ rfl rfl (Nat.le_of_ble_eq_true rfl) dX1_addBollard_18 ⟨Nat.zero_le _, Nat.zero_le _⟩ (fun r9_ hr9_ => ?_)
      subst hr9_
      refine lv_if_eq (tgt := 28) hx hb dX1_addBollard_21 (by decide) (fun c21 => ?_) (fun c21 => ?_)
      · refine lv_iconst (v := 0) hx hb dX1_addBollard_28 (by decide) ?_
        refine lv_topi (fun y9 e9 => ?_)
        rw [show y9 = (bI (inR pl (-5000) 5000 && inR lim 1 1000000)) from e9.trans (bI_e (c := false) (an2 (bI_f c21)) rfl)]
        exact J
      · refine lv_iconst (v := 1) hx hb dX1_addBollard_24 (by decide) ?_
        refine lv_goto (tgt := 29) hx hb dX1_addBollard_25 (by decide) ?_
        refine lv_topi (fun y9 e9 => ?_)
        rw [show y9 = (bI (inR pl (-5000) 5000 && inR lim 1 1000000)) from e9.trans (bI_e (c := true) (ant (bI_t c11) (bI_t c21)) rfl)]
        exact J
  suffices J2 : W p l e ({ frames := 1, cells := 0, slots := 0, locals := 23 } : Room) s m args below meth c Hi [] 0 0 (wrQ below D (S := St) (fun ρ => mw cI cZ h a ρ) (fun r ρ => ρ 15 0 = goK (inR pl (-5000) 5000 && inR lim 1 1000000) (decide (nB < 6)) true ∧ (goK (inR pl (-5000) 5000 && inR lim 1 1000000) (decide (nB < 6)) true = 0 → r = nI nB ∧ rel (abS σ nB pl lim) ρ nL) ∧ (¬ goK (inR pl (-5000) 5000 && inR lim 1 1000000) (decide (nB < 6)) true = 0 → rel σ ρ nL)) A args s) (F0 m 43 ls [.int (bI (decide (nB < 6))), .int (bI (inR pl (-5000) 5000 && inR lim 1 1000000)), .ref h]) by
    refine lv_aload_n hx hb dX1_addBollard_29 rfl (lv_at hl 0 rfl) ?_
    refine m_get hin hx hb hts hown hK hP rfl 2 (by decide) (v := .int (nI nB)) (congrArg (fun z => some (Value.int z)) (r2.trans hI.2.2.1)) (by decide +kernel) dX1_addBollard_30 ?_
    refine lv_bipush (v := 6) hx hb dX1_addBollard_33 (by decide) ?_
    refine lv_icmp_ge (tgt := 42) hx hb dX1_addBollard_35 (by decide) (fun c35 => ?_) (fun c35 => ?_)
    · refine lv_iconst (v := 0) hx hb dX1_addBollard_42 (by decide) ?_
      refine lv_topi (fun y9 e9 => ?_)
      rw [show y9 = (bI (decide (nB < 6))) from e9.trans (bI_e (c := false) (decide_eq_false (fun w => absurd c35 (nI_ge (a := nB) (b := 6) w (by omega)))) rfl)]
      exact J2
    · refine lv_iconst (v := 1) hx hb dX1_addBollard_38 (by decide) ?_
      refine lv_goto (tgt := 43) hx hb dX1_addBollard_39 (by decide) ?_
      refine lv_topi (fun y9 e9 => ?_)
      rw [show y9 = (bI (decide (nB < 6))) from e9.trans (bI_e (c := true) (decide_eq_true (Nat.not_le.mp (fun w => c35 (nI_le (a := 6) (b := nB) w (by omega))))) rfl)]
      exact J2
  refine lv_iconst (v := 1) hx hb dX1_addBollard_43 (by decide) ?_
  refine wr_callV 3 hx hb hml hown hts hl.1 hP hK hS (fun _ h9 => h9) 0 1 rfl rfl (As := [.int (bI (inR pl (-5000) 5000 && inR lim 1 1000000)), .int (bI (decide (nB < 6))), .int (bI true)]) (rest := []) (c_X1_goes l D cI cZ h a σ τ Hi A hD (inR pl (-5000) 5000 && inR lim 1 1000000) (decide (nB < 6)) true) gX1_addBollard_X1_goes rfl rfl rfl (by decide +kernel) ⟨Nat.le_of_ble_eq_true rfl, Nat.le_of_ble_eq_true rfl⟩ rfl rfl (Nat.le_of_ble_eq_true rfl) dX1_addBollard_44 ⟨Nat.zero_le _, Nat.zero_le _⟩ (fun r0 u0 H locs hr0 hP hS _ _ => ?_)
  subst hr0
  obtain ⟨τ1, eT⟩ : ∃ z : St, z = st τ 15 (fun _ => goK (inR pl (-5000) 5000 && inR lim 1 1000000) (decide (nB < 6)) true) := ⟨_, rfl⟩
  rw [← eT] at hP
  have h15 : τ1 15 0 = goK (inR pl (-5000) 5000 && inR lim 1 1000000) (decide (nB < 6)) true := by rw [eT]; rfl
  have hR1 : rel σ τ1 nL := by rw [eT]; exact hR
  have hD : va_D A (mw cI cZ h a τ1) := mD hD
  obtain ⟨⟨r10, r11, r12, r13, r2, r0, r1, r9⟩, ⟨r4, r5, r6, r7⟩, r3, r8, r8z⟩ := id hR1
  refine lv_if_ne (tgt := 52) hx hb dX1_addBollard_47 (by decide) (fun c47 => ?_) (fun c47 => ?_)
  · obtain ⟨hK0, g1, g2, g3⟩ := go_t c47
    have hlt : nB < 6 := of_decide_eq_true g2
    refine lv_aload_n hx hb dX1_addBollard_52 rfl (lv_at hl 0 rfl) ?_
    refine m_get hin hx hb hts hown hK hP rfl 0 (by decide) (v := .ref (a 0)) rfl (by decide +kernel) dX1_addBollard_53 ?_
    refine lv_aload_n hx hb dX1_addBollard_56 rfl (lv_at hl 0 rfl) ?_
    refine m_get hin hx hb hts hown hK hP rfl 2 (by decide) (v := .int (nI nB)) (congrArg (fun z => some (Value.int z)) (r2.trans hI.2.2.1)) (by decide +kernel) dX1_addBollard_57 ?_
    refine lv_iload_n hx hb dX1_addBollard_60 rfl (lv_at hl 1 rfl) ?_
    refine xa_st hx hb hK hP hD hS 1 0 rfl rfl (j := nB) hlt (by decide) dX1_addBollard_61 (fun H locs hP hD hS => ?_)
    have hP : va_P D vwCl (mw cI cZ h a (st τ1 0 (upd (σ 5) nB pl))) H := by rw [← r0]; exact hP
    have hD : va_D A (mw cI cZ h a (st τ1 0 (upd (σ 5) nB pl))) := mD (σ := (st τ1 0 (upd (τ1 0) nB pl))) hD
    refine lv_aload_n hx hb dX1_addBollard_62 rfl (lv_at hl 0 rfl) ?_
    refine m_get hin hx hb hts hown hK hP rfl 1 (by decide) (v := .ref (a 1)) rfl (by decide +kernel) dX1_addBollard_63 ?_
    refine lv_aload_n hx hb dX1_addBollard_66 rfl (lv_at hl 0 rfl) ?_
    refine m_get hin hx hb hts hown hK hP rfl 2 (by decide) (v := .int (nI nB)) (congrArg (fun z => some (Value.int z)) (r2.trans hI.2.2.1)) (by decide +kernel) dX1_addBollard_67 ?_
    refine lv_iload_n hx hb dX1_addBollard_70 rfl (lv_at hl 2 rfl) ?_
    refine xa_st hx hb hK hP hD hS 2 0 rfl rfl (j := nB) hlt (by decide) dX1_addBollard_71 (fun H locs hP hD hS => ?_)
    have hP : va_P D vwCl (mw cI cZ h a (st (st τ1 0 (upd (σ 5) nB pl)) 1 (upd (σ 6) nB lim))) H := by rw [← r1]; exact hP
    have hD : va_D A (mw cI cZ h a (st (st τ1 0 (upd (σ 5) nB pl)) 1 (upd (σ 6) nB lim))) := mD (σ := (st (st τ1 0 (upd (σ 5) nB pl)) 1 (upd ((st τ1 0 (upd (σ 5) nB pl)) 1) nB lim))) hD
    refine lv_aload_n hx hb dX1_addBollard_72 rfl (lv_at hl 0 rfl) ?_
    refine lv_dup hx hb dX1_addBollard_73 rfl ?_
    refine m_get hin hx hb hts hown hK hP rfl 2 (by decide) (v := .int (nI nB)) (congrArg (fun z => some (Value.int z)) (r2.trans hI.2.2.1)) (by decide +kernel) dX1_addBollard_74 ?_
    refine lv_iconst (v := 1) hx hb dX1_addBollard_77 (by decide) ?_
    refine lv_iadd hx hb dX1_addBollard_78 ?_
    rw [nI_1]
    refine m_put hin hx hb hts hown hK hP hD hS rfl 2 (by decide) (by decide +kernel) rfl (by decide +kernel) (Nat.le_of_ble_eq_true rfl) dX1_addBollard_79 (fun H locs hP hD hS => ?_)
    have hP : va_P D vwCl (mw cI cZ h a (st (st (st τ1 0 (upd (σ 5) nB pl)) 1 (upd (σ 6) nB lim)) 2 (fun _ => (nI (nB + 1))))) H := hP
    have hD : va_D A (mw cI cZ h a (st (st (st τ1 0 (upd (σ 5) nB pl)) 1 (upd (σ 6) nB lim)) 2 (fun _ => (nI (nB + 1))))) := hD
    refine lv_aload_n hx hb dX1_addBollard_82 rfl (lv_at hl 0 rfl) ?_
    refine m_get hin hx hb hts hown hK hP rfl 2 (by decide) (v := .int (nI (nB + 1))) rfl (by decide +kernel) dX1_addBollard_83 ?_
    refine lv_iconst (v := 1) hx hb dX1_addBollard_86 (by decide) ?_
    refine lv_isub hx hb dX1_addBollard_87 ?_
    rw [nI_pred]
    exact wr_ret (v := (nI nB)) (st (st (st τ1 0 (upd (σ 5) nB pl)) 1 (upd (σ 6) nB lim)) 2 (fun _ => (nI (nB + 1)))) hx hb hr hlocks hH hS hP ⟨h15, fun _ => ⟨rfl, rel_ab hI hR1⟩, fun q => absurd hK0 q⟩ dX1_addBollard_88
  · have hne := go_f c47
    refine lv_iconst (v := 0) hx hb dX1_addBollard_50 (by decide) ?_
    exact wr_ret (v := 0) τ1 hx hb hr hlocks hH hS hP ⟨h15, fun q => absurd q hne, fun _ => hR1⟩ dX1_addBollard_51
set_option maxHeartbeats 4000000 in
set_option maxRecDepth 100000 in
/-- addLine -/
theorem c_X1_addLine (l : Launch) (D : va_G) (cI cZ : ClassId) (h : Nat) (a : Nat → Nat) (σ τ : St) (Hi : Heap) (A : Nat → Prop) (hD : va_D A (mw cI cZ h a τ)) {nL nB : Nat} (hI : inv σ nL nB) (hR : rel σ τ nL) (pt bo sf sr : Int32) : wrM l yX1_addLine wsX1_addLine ({ frames := 1, cells := 0, slots := 0, locals := 25 }) [.ref h, .int pt, .int bo, .int sf, .int sr] D (mw cI cZ h a τ) (tyX cI cZ) Hi (S := St) (fun ρ => mw cI cZ h a ρ) (fun r ρ => ρ 15 0 = goK (inR bo 0 (nI nB - 1)) (inR pt (-5000) 5000 && (inR sf 1 100 && inR sr 1 1000000)) (decide (nL < 10)) ∧ (goK (inR bo 0 (nI nB - 1)) (inR pt (-5000) 5000 && (inR sf 1 100 && inR sr 1 1000000)) (decide (nL < 10)) = 0 → r = nI nL ∧ rel (alS σ nL pt bo sf sr) ρ (nL + 1)) ∧ (¬ goK (inR bo 0 (nI nB - 1)) (inR pt (-5000) 5000 && (inR sf 1 100 && inR sr 1 1000000)) (decide (nL < 10)) = 0 → rel σ ρ nL)) A := by
  refine wr_of (cc := cX1_addLine) (maxL := 7) (ret := some .int) (by decide) rfl (Nat.le_of_ble_eq_true rfl) ?_
  intro p e s m args below meth c he hH hP hK ls hl
  obtain ⟨hx, hb, hr, hml, hown, hts, hlocks⟩ := he
  have hown : s.vm.findClass RX1 = some m.cls := hown
  have hS : va_S A Hi Hi [] := va_S.rf
  obtain ⟨⟨r10, r11, r12, r13, r2, r0, r1, r9⟩, ⟨r4, r5, r6, r7⟩, r3, r8, r8z⟩ := id hR
  have hL : σ 7 0 = nI nL := hI.1
  have hL10 : nL ≤ 10 := hI.2.1
  have hl : lv_has ls 7 [(0, .ref h), (1, .int pt), (2, .int bo), (3, .int sf), (4, .int sr)] := hl
  have hin : ∀ w ∈ u_ws RX1 TX1 16, w ∈ wsX1_addLine := by decide +kernel
  have hB6 : nB ≤ 6 := hI.2.2.2.1
  refine lv_iload_n hx hb dX1_addLine_0 rfl (lv_at hl 2 rfl) ?_
  refine lv_iconst (v := 0) hx hb dX1_addLine_1 (by decide) ?_
  refine lv_aload_n hx hb dX1_addLine_2 rfl (lv_at hl 0 rfl) ?_
  refine m_get hin hx hb hts hown hK hP rfl 2 (by decide) (v := .int (nI nB)) (congrArg (fun z => some (Value.int z)) (r2.trans hI.2.2.1)) (by decide +kernel) dX1_addLine_3 ?_
  refine lv_iconst (v := 1) hx hb dX1_addLine_6 (by decide) ?_
  refine lv_isub hx hb dX1_addLine_7 ?_
  refine ro_callS 3 hx hb hml hown hts hl.1 hP hK (As := [.int bo, .int 0, .int ((nI nB) - 1)]) (rest := []) (c_X1_in l D (mw cI cZ h a τ) (tyX cI cZ) Hi bo 0 (nI nB - 1)) gX1_addLine_X1_in rfl rfl rfl (by decide +kernel) ⟨Nat.le_of_ble_eq_true rfl, Nat.le_of_ble_eq_true rfl⟩ rfl rfl (Nat.le_of_ble_eq_true rfl) dX1_addLine_8 ⟨Nat.zero_le _, Nat.zero_le _⟩ (fun r9_ hr9_ => ?_)
  subst hr9_
  refine lv_istore (lv' := [(5, .int (bI (inR bo 0 (nI nB - 1)))), (0, .ref h), (1, .int pt), (2, .int bo), (3, .int sf), (4, .int sr)]) hx hb dX1_addLine_11 hl (by decide) rfl (fun ls hl => ?_)
  suffices J : W p l e ({ frames := 1, cells := 0, slots := 0, locals := 25 } : Room) s m args below meth c Hi [] 0 0 (wrQ below D (S := St) (fun ρ => mw cI cZ h a ρ) (fun r ρ => ρ 15 0 = goK (inR bo 0 (nI nB - 1)) (inR pt (-5000) 5000 && (inR sf 1 100 && inR sr 1 1000000)) (decide (nL < 10)) ∧ (goK (inR bo 0 (nI nB - 1)) (inR pt (-5000) 5000 && (inR sf 1 100 && inR sr 1 1000000)) (decide (nL < 10)) = 0 → r = nI nL ∧ rel (alS σ nL pt bo sf sr) ρ (nL + 1)) ∧ (¬ goK (inR bo 0 (nI nB - 1)) (inR pt (-5000) 5000 && (inR sf 1 100 && inR sr 1 1000000)) (decide (nL < 10)) = 0 → rel σ ρ nL)) A args s) (F0 m 52 ls [.int (bI (inR pt (-5000) 5000 && (inR sf 1 100 && inR sr 1 1000000)))]) by
    refine lv_iload_n hx hb dX1_addLine_13 rfl (lv_at hl 2 rfl) ?_
    refine lv_sipush (v := (-5000)) hx hb dX1_addLine_14 (by decide) ?_
    refine lv_sipush (v := 5000) hx hb dX1_addLine_17 (by decide) ?_
    refine ro_callS 3 hx hb hml hown hts hl.1 hP hK (As := [.int pt, .int (-5000), .int 5000]) (rest := []) (c_X1_in l D (mw cI cZ h a τ) (tyX cI cZ) Hi pt (-5000) 5000) gX1_addLine_X1_in rfl rfl rfl (by decide +kernel) ⟨Nat.le_of_ble_eq_true rfl, Nat.le_of_ble_eq_true rfl⟩ rfl rfl (Nat.le_of_ble_eq_true rfl) dX1_addLine_20 ⟨Nat.zero_le _, Nat.zero_le _⟩ (fun r9_ hr9_ => ?_)
    subst hr9_
    refine lv_if_eq (tgt := 51) hx hb dX1_addLine_23 (by decide) (fun c23 => ?_) (fun c23 => ?_)
    · refine lv_iconst (v := 0) hx hb dX1_addLine_51 (by decide) ?_
      refine lv_topi (fun y9 e9 => ?_)
      rw [show y9 = (bI (inR pt (-5000) 5000 && (inR sf 1 100 && inR sr 1 1000000))) from e9.trans (bI_e (c := false) (an1 (bI_f c23)) rfl)]
      exact J
    · refine lv_iload_n hx hb dX1_addLine_26 rfl (lv_at hl 4 rfl) ?_
      refine lv_iconst (v := 1) hx hb dX1_addLine_27 (by decide) ?_
      refine lv_bipush (v := 100) hx hb dX1_addLine_28 (by decide) ?_
      refine ro_callS 3 hx hb hml hown hts hl.1 hP hK (As := [.int sf, .int 1, .int 100]) (rest := []) (c_X1_in l D (mw cI cZ h a τ) (tyX cI cZ) Hi sf 1 100) gX1_addLine_X1_in rfl rfl rfl (by decide +kernel) ⟨Nat.le_of_ble_eq_true rfl, Nat.le_of_ble_eq_true rfl⟩ rfl rfl (Nat.le_of_ble_eq_true rfl) dX1_addLine_30 ⟨Nat.zero_le _, Nat.zero_le _⟩ (fun r9_ hr9_ => ?_)
      subst hr9_
      refine lv_if_eq (tgt := 51) hx hb dX1_addLine_33 (by decide) (fun c33 => ?_) (fun c33 => ?_)
      · refine lv_iconst (v := 0) hx hb dX1_addLine_51 (by decide) ?_
        refine lv_topi (fun y9 e9 => ?_)
        rw [show y9 = (bI (inR pt (-5000) 5000 && (inR sf 1 100 && inR sr 1 1000000))) from e9.trans (bI_e (c := false) (an2 (an1 (bI_f c33))) rfl)]
        exact J
      · refine lv_iload hx hb dX1_addLine_36 (lv_at hl 5 rfl) ?_
        refine lv_iconst (v := 1) hx hb dX1_addLine_38 (by decide) ?_
        refine lv_ldc (v := (1000000)) hx hb hown (hts (.constant RX1 58 (1000000)) (by decide +kernel)) dX1_addLine_39 ?_
        refine ro_callS 3 hx hb hml hown hts hl.1 hP hK (As := [.int sr, .int 1, .int 1000000]) (rest := []) (c_X1_in l D (mw cI cZ h a τ) (tyX cI cZ) Hi sr 1 1000000) gX1_addLine_X1_in rfl rfl rfl (by decide +kernel) ⟨Nat.le_of_ble_eq_true rfl, Nat.le_of_ble_eq_true rfl⟩ rfl rfl (Nat.le_of_ble_eq_true rfl) dX1_addLine_41 ⟨Nat.zero_le _, Nat.zero_le _⟩ (fun r9_ hr9_ => ?_)
        subst hr9_
        refine lv_if_eq (tgt := 51) hx hb dX1_addLine_44 (by decide) (fun c44 => ?_) (fun c44 => ?_)
        · refine lv_iconst (v := 0) hx hb dX1_addLine_51 (by decide) ?_
          refine lv_topi (fun y9 e9 => ?_)
          rw [show y9 = (bI (inR pt (-5000) 5000 && (inR sf 1 100 && inR sr 1 1000000))) from e9.trans (bI_e (c := false) (an2 (an2 (bI_f c44))) rfl)]
          exact J
        · refine lv_iconst (v := 1) hx hb dX1_addLine_47 (by decide) ?_
          refine lv_goto (tgt := 52) hx hb dX1_addLine_48 (by decide) ?_
          refine lv_topi (fun y9 e9 => ?_)
          rw [show y9 = (bI (inR pt (-5000) 5000 && (inR sf 1 100 && inR sr 1 1000000))) from e9.trans (bI_e (c := true) (ant (bI_t c23) (ant (bI_t c33) (bI_t c44))) rfl)]
          exact J
  refine lv_istore (lv' := [(6, .int (bI (inR pt (-5000) 5000 && (inR sf 1 100 && inR sr 1 1000000)))), (5, .int (bI (inR bo 0 (nI nB - 1)))), (0, .ref h), (1, .int pt), (2, .int bo), (3, .int sf), (4, .int sr)]) hx hb dX1_addLine_52 hl (by decide) rfl (fun ls hl => ?_)
  refine lv_aload_n hx hb dX1_addLine_54 rfl (lv_at hl 2 rfl) ?_
  refine lv_iload hx hb dX1_addLine_55 (lv_at hl 1 rfl) ?_
  refine lv_iload hx hb dX1_addLine_57 (lv_at hl 0 rfl) ?_
  suffices J2 : W p l e ({ frames := 1, cells := 0, slots := 0, locals := 25 } : Room) s m args below meth c Hi [] 0 0 (wrQ below D (S := St) (fun ρ => mw cI cZ h a ρ) (fun r ρ => ρ 15 0 = goK (inR bo 0 (nI nB - 1)) (inR pt (-5000) 5000 && (inR sf 1 100 && inR sr 1 1000000)) (decide (nL < 10)) ∧ (goK (inR bo 0 (nI nB - 1)) (inR pt (-5000) 5000 && (inR sf 1 100 && inR sr 1 1000000)) (decide (nL < 10)) = 0 → r = nI nL ∧ rel (alS σ nL pt bo sf sr) ρ (nL + 1)) ∧ (¬ goK (inR bo 0 (nI nB - 1)) (inR pt (-5000) 5000 && (inR sf 1 100 && inR sr 1 1000000)) (decide (nL < 10)) = 0 → rel σ ρ nL)) A args s) (F0 m 73 ls [.int (bI (decide (nL < 10))), .int (bI (inR pt (-5000) 5000 && (inR sf 1 100 && inR sr 1 1000000))), .int (bI (inR bo 0 (nI nB - 1))), .ref h]) by
    refine lv_aload_n hx hb dX1_addLine_59 rfl (lv_at hl 2 rfl) ?_
    refine m_get hin hx hb hts hown hK hP rfl 9 (by decide) (v := .int (nI nL)) (congrArg (fun z => some (Value.int z)) (r9.trans hL)) (by decide +kernel) dX1_addLine_60 ?_
    refine lv_bipush (v := 10) hx hb dX1_addLine_63 (by decide) ?_
    refine lv_icmp_ge (tgt := 72) hx hb dX1_addLine_65 (by decide) (fun c65 => ?_) (fun c65 => ?_)
    · refine lv_iconst (v := 0) hx hb dX1_addLine_72 (by decide) ?_
      refine lv_topi (fun y9 e9 => ?_)
      rw [show y9 = (bI (decide (nL < 10))) from e9.trans (bI_e (c := false) (decide_eq_false (fun w => absurd c65 (nI_ge (a := nL) (b := 10) w (by omega)))) rfl)]
      exact J2
    · refine lv_iconst (v := 1) hx hb dX1_addLine_68 (by decide) ?_
      refine lv_goto (tgt := 73) hx hb dX1_addLine_69 (by decide) ?_
      refine lv_topi (fun y9 e9 => ?_)
      rw [show y9 = (bI (decide (nL < 10))) from e9.trans (bI_e (c := true) (decide_eq_true (Nat.not_le.mp (fun w => c65 (nI_le (a := 10) (b := nL) w (by omega))))) rfl)]
      exact J2
  refine wr_callV 3 hx hb hml hown hts hl.1 hP hK hS (fun _ h9 => h9) 0 1 rfl rfl (As := [.int (bI (inR bo 0 (nI nB - 1))), .int (bI (inR pt (-5000) 5000 && (inR sf 1 100 && inR sr 1 1000000))), .int (bI (decide (nL < 10)))]) (rest := []) (c_X1_goes l D cI cZ h a σ τ Hi A hD (inR bo 0 (nI nB - 1)) (inR pt (-5000) 5000 && (inR sf 1 100 && inR sr 1 1000000)) (decide (nL < 10))) gX1_addLine_X1_goes rfl rfl rfl (by decide +kernel) ⟨Nat.le_of_ble_eq_true rfl, Nat.le_of_ble_eq_true rfl⟩ rfl rfl (Nat.le_of_ble_eq_true rfl) dX1_addLine_73 ⟨Nat.zero_le _, Nat.zero_le _⟩ (fun r0 u0 H locs hr0 hP hS _ _ => ?_)
  subst hr0
  obtain ⟨τ1, eT⟩ : ∃ z : St, z = st τ 15 (fun _ => goK (inR bo 0 (nI nB - 1)) (inR pt (-5000) 5000 && (inR sf 1 100 && inR sr 1 1000000)) (decide (nL < 10))) := ⟨_, rfl⟩
  rw [← eT] at hP
  have h15 : τ1 15 0 = goK (inR bo 0 (nI nB - 1)) (inR pt (-5000) 5000 && (inR sf 1 100 && inR sr 1 1000000)) (decide (nL < 10)) := by rw [eT]; rfl
  have hR1 : rel σ τ1 nL := by rw [eT]; exact hR
  have hD : va_D A (mw cI cZ h a τ1) := mD hD
  obtain ⟨⟨r10, r11, r12, r13, r2, r0, r1, r9⟩, ⟨r4, r5, r6, r7⟩, r3, r8, r8z⟩ := id hR1
  refine lv_if_ne (tgt := 81) hx hb dX1_addLine_76 (by decide) (fun c76 => ?_) (fun c76 => ?_)
  · obtain ⟨hK0, g1, g2, g3⟩ := go_t c76
    have hlt : nL < 10 := of_decide_eq_true g3
    obtain ⟨b, hb_, rfl⟩ := inR_line (by omega) g1
    have eb : tN (nI b) = b := tN_nI (by omega)
    obtain ⟨g4, g5⟩ := and_sp g2
    refine lv_aload_n hx hb dX1_addLine_81 rfl (lv_at hl 2 rfl) ?_
    refine m_get hin hx hb hts hown hK hP rfl 3 (by decide) (v := .ref (a 3)) rfl (by decide +kernel) dX1_addLine_82 ?_
    refine lv_aload_n hx hb dX1_addLine_85 rfl (lv_at hl 2 rfl) ?_
    refine m_get hin hx hb hts hown hK hP rfl 9 (by decide) (v := .int (nI nL)) (congrArg (fun z => some (Value.int z)) (r9.trans hL)) (by decide +kernel) dX1_addLine_86 ?_
    refine lv_iload_n hx hb dX1_addLine_89 rfl (lv_at hl 3 rfl) ?_
    refine xa_st hx hb hK hP hD hS 3 0 rfl rfl (j := nL) hlt (by decide) dX1_addLine_90 (fun H locs hP hD hS => ?_)
    have hP : va_P D vwCl (mw cI cZ h a (st τ1 3 (upd (τ1 3) nL pt))) H := hP
    have hD : va_D A (mw cI cZ h a (st τ1 3 (upd (τ1 3) nL pt))) := hD
    refine lv_aload_n hx hb dX1_addLine_91 rfl (lv_at hl 2 rfl) ?_
    refine m_get hin hx hb hts hown hK hP rfl 4 (by decide) (v := .ref (a 4)) rfl (by decide +kernel) dX1_addLine_92 ?_
    refine lv_aload_n hx hb dX1_addLine_95 rfl (lv_at hl 2 rfl) ?_
    refine m_get hin hx hb hts hown hK hP rfl 9 (by decide) (v := .int (nI nL)) (congrArg (fun z => some (Value.int z)) (r9.trans hL)) (by decide +kernel) dX1_addLine_96 ?_
    refine lv_iload_n hx hb dX1_addLine_99 rfl (lv_at hl 4 rfl) ?_
    refine xa_st hx hb hK hP hD hS 4 0 rfl rfl (j := nL) hlt (by decide) dX1_addLine_100 (fun H locs hP hD hS => ?_)
    have hP : va_P D vwCl (mw cI cZ h a (st (st τ1 3 (upd (τ1 3) nL pt)) 4 (upd (σ 8) nL (nI b)))) H := by rw [← r4]; exact hP
    have hD : va_D A (mw cI cZ h a (st (st τ1 3 (upd (τ1 3) nL pt)) 4 (upd (σ 8) nL (nI b)))) := mD (σ := (st (st τ1 3 (upd (τ1 3) nL pt)) 4 (upd ((st τ1 3 (upd (τ1 3) nL pt)) 4) nL (nI b)))) hD
    refine lv_aload_n hx hb dX1_addLine_101 rfl (lv_at hl 2 rfl) ?_
    refine m_get hin hx hb hts hown hK hP rfl 5 (by decide) (v := .ref (a 5)) rfl (by decide +kernel) dX1_addLine_102 ?_
    refine lv_aload_n hx hb dX1_addLine_105 rfl (lv_at hl 2 rfl) ?_
    refine m_get hin hx hb hts hown hK hP rfl 9 (by decide) (v := .int (nI nL)) (congrArg (fun z => some (Value.int z)) (r9.trans hL)) (by decide +kernel) dX1_addLine_106 ?_
    refine lv_iload_n hx hb dX1_addLine_109 rfl (lv_at hl 5 rfl) ?_
    refine xa_st hx hb hK hP hD hS 5 0 rfl rfl (j := nL) hlt (by decide) dX1_addLine_110 (fun H locs hP hD hS => ?_)
    have hP : va_P D vwCl (mw cI cZ h a (st (st (st τ1 3 (upd (τ1 3) nL pt)) 4 (upd (σ 8) nL (nI b))) 5 (upd (σ 10) nL sf))) H := by rw [← r5]; exact hP
    have hD : va_D A (mw cI cZ h a (st (st (st τ1 3 (upd (τ1 3) nL pt)) 4 (upd (σ 8) nL (nI b))) 5 (upd (σ 10) nL sf))) := mD (σ := (st (st (st τ1 3 (upd (τ1 3) nL pt)) 4 (upd (σ 8) nL (nI b))) 5 (upd ((st (st τ1 3 (upd (τ1 3) nL pt)) 4 (upd (σ 8) nL (nI b))) 5) nL sf))) hD
    refine lv_aload_n hx hb dX1_addLine_111 rfl (lv_at hl 2 rfl) ?_
    refine m_get hin hx hb hts hown hK hP rfl 6 (by decide) (v := .ref (a 6)) rfl (by decide +kernel) dX1_addLine_112 ?_
    refine lv_aload_n hx hb dX1_addLine_115 rfl (lv_at hl 2 rfl) ?_
    refine m_get hin hx hb hts hown hK hP rfl 9 (by decide) (v := .int (nI nL)) (congrArg (fun z => some (Value.int z)) (r9.trans hL)) (by decide +kernel) dX1_addLine_116 ?_
    refine lv_iload hx hb dX1_addLine_119 (lv_at hl 6 rfl) ?_
    refine xa_st hx hb hK hP hD hS 6 0 rfl rfl (j := nL) hlt (by decide) dX1_addLine_121 (fun H locs hP hD hS => ?_)
    have hP : va_P D vwCl (mw cI cZ h a (st (st (st (st τ1 3 (upd (τ1 3) nL pt)) 4 (upd (σ 8) nL (nI b))) 5 (upd (σ 10) nL sf)) 6 (upd (σ 11) nL sr))) H := by rw [← r6]; exact hP
    have hD : va_D A (mw cI cZ h a (st (st (st (st τ1 3 (upd (τ1 3) nL pt)) 4 (upd (σ 8) nL (nI b))) 5 (upd (σ 10) nL sf)) 6 (upd (σ 11) nL sr))) := mD (σ := (st (st (st (st τ1 3 (upd (τ1 3) nL pt)) 4 (upd (σ 8) nL (nI b))) 5 (upd (σ 10) nL sf)) 6 (upd ((st (st (st τ1 3 (upd (τ1 3) nL pt)) 4 (upd (σ 8) nL (nI b))) 5 (upd (σ 10) nL sf)) 6) nL sr))) hD
    refine lv_aload_n hx hb dX1_addLine_122 rfl (lv_at hl 2 rfl) ?_
    refine m_get hin hx hb hts hown hK hP rfl 7 (by decide) (v := .ref (a 7)) rfl (by decide +kernel) dX1_addLine_123 ?_
    refine lv_aload_n hx hb dX1_addLine_126 rfl (lv_at hl 2 rfl) ?_
    refine m_get hin hx hb hts hown hK hP rfl 9 (by decide) (v := .int (nI nL)) (congrArg (fun z => some (Value.int z)) (r9.trans hL)) (by decide +kernel) dX1_addLine_127 ?_
    refine lv_aload_n hx hb dX1_addLine_130 rfl (lv_at hl 2 rfl) ?_
    refine m_get hin hx hb hts hown hK hP rfl 0 (by decide) (v := .ref (a 0)) rfl (by decide +kernel) dX1_addLine_131 ?_
    refine lv_iload_n hx hb dX1_addLine_134 rfl (lv_at hl 4 rfl) ?_
    refine xa_ld hx hb hK hP 1 0 rfl rfl (j := b) (by omega) (by decide) dX1_addLine_135 ?_
    rw [show (st (st (st (st τ1 3 (upd (τ1 3) nL pt)) 4 (upd (σ 8) nL (nI b))) 5 (upd (σ 10) nL sf)) 6 (upd (σ 11) nL sr)) 0 b = (σ 5 b) from congrFun r0 b]
    refine lv_iload_n hx hb dX1_addLine_136 rfl (lv_at hl 3 rfl) ?_
    refine lv_isub hx hb dX1_addLine_137 ?_
    refine lv_sipush (v := 300) hx hb dX1_addLine_138 (by decide) ?_
    obtain ⟨p1, p2⟩ := hI.2.2.2.2.2.1 b hb_
    obtain ⟨q1, q2⟩ := inR_sp g4
    have e5 : (-5000 : Int32).toInt = -5000 := rfl
    have e6 : (5000 : Int32).toInt = 5000 := rfl
    have e7 : (300 : Int32).toInt = 300 := rfl
    have hA_ : inA (σ 5 b - pt) := by unfold inA; rw [Jvm.Kit.i32_sub (by omega) (by omega)]; omega
    have hH_ : inH 300 := by unfold inH; rw [e7]; omega
    refine ro_callS 2 hx hb hml hown hts hl.1 hP hK (As := [.int ((σ 5 b) - pt), .int 300]) (rest := [.int (nI nL), .ref (a 7)]) (c_X1_root l D (mw cI cZ h a (st (st (st (st τ1 3 (upd (τ1 3) nL pt)) 4 (upd (σ 8) nL (nI b))) 5 (upd (σ 10) nL sf)) 6 (upd (σ 11) nL sr))) (tyX cI cZ) H (σ 5 b - pt) 300 hA_ hH_) gX1_addLine_X1_root rfl rfl rfl (by decide +kernel) ⟨Nat.le_of_ble_eq_true rfl, Nat.le_of_ble_eq_true rfl⟩ rfl rfl (Nat.le_of_ble_eq_true rfl) dX1_addLine_141 ⟨Nat.zero_le _, Nat.zero_le _⟩ (fun r1_ hr1_ => ?_)
    subst hr1_
    refine xa_st hx hb hK hP hD hS 7 0 rfl rfl (j := nL) hlt (by decide) dX1_addLine_144 (fun H locs hP hD hS => ?_)
    have hP : va_P D vwCl (mw cI cZ h a (st (st (st (st (st τ1 3 (upd (τ1 3) nL pt)) 4 (upd (σ 8) nL (nI b))) 5 (upd (σ 10) nL sf)) 6 (upd (σ 11) nL sr)) 7 (upd (σ 12) nL (LENs (σ 5 b - pt) 300)))) H := by rw [← r7]; exact hP
    have hD : va_D A (mw cI cZ h a (st (st (st (st (st τ1 3 (upd (τ1 3) nL pt)) 4 (upd (σ 8) nL (nI b))) 5 (upd (σ 10) nL sf)) 6 (upd (σ 11) nL sr)) 7 (upd (σ 12) nL (LENs (σ 5 b - pt) 300)))) := mD (σ := (st (st (st (st (st τ1 3 (upd (τ1 3) nL pt)) 4 (upd (σ 8) nL (nI b))) 5 (upd (σ 10) nL sf)) 6 (upd (σ 11) nL sr)) 7 (upd ((st (st (st (st τ1 3 (upd (τ1 3) nL pt)) 4 (upd (σ 8) nL (nI b))) 5 (upd (σ 10) nL sf)) 6 (upd (σ 11) nL sr)) 7) nL (LENs (σ 5 b - pt) 300)))) hD
    refine lv_aload_n hx hb dX1_addLine_145 rfl (lv_at hl 2 rfl) ?_
    refine lv_dup hx hb dX1_addLine_146 rfl ?_
    refine m_get hin hx hb hts hown hK hP rfl 9 (by decide) (v := .int (nI nL)) (congrArg (fun z => some (Value.int z)) (r9.trans hL)) (by decide +kernel) dX1_addLine_147 ?_
    refine lv_iconst (v := 1) hx hb dX1_addLine_150 (by decide) ?_
    refine lv_iadd hx hb dX1_addLine_151 ?_
    rw [nI_1]
    refine m_put hin hx hb hts hown hK hP hD hS rfl 9 (by decide) (by decide +kernel) rfl (by decide +kernel) (Nat.le_of_ble_eq_true rfl) dX1_addLine_152 (fun H locs hP hD hS => ?_)
    have hP : va_P D vwCl (mw cI cZ h a (st (st (st (st (st (st τ1 3 (upd (τ1 3) nL pt)) 4 (upd (σ 8) nL (nI b))) 5 (upd (σ 10) nL sf)) 6 (upd (σ 11) nL sr)) 7 (upd (σ 12) nL (LENs (σ 5 b - pt) 300))) 9 (fun _ => (nI (nL + 1))))) H := hP
    have hD : va_D A (mw cI cZ h a (st (st (st (st (st (st τ1 3 (upd (τ1 3) nL pt)) 4 (upd (σ 8) nL (nI b))) 5 (upd (σ 10) nL sf)) 6 (upd (σ 11) nL sr)) 7 (upd (σ 12) nL (LENs (σ 5 b - pt) 300))) 9 (fun _ => (nI (nL + 1))))) := hD
    refine lv_aload_n hx hb dX1_addLine_155 rfl (lv_at hl 2 rfl) ?_
    refine m_get hin hx hb hts hown hK hP rfl 9 (by decide) (v := .int (nI (nL + 1))) rfl (by decide +kernel) dX1_addLine_156 ?_
    refine lv_iconst (v := 1) hx hb dX1_addLine_159 (by decide) ?_
    refine lv_isub hx hb dX1_addLine_160 ?_
    rw [nI_pred]
    exact wr_ret (v := (nI nL)) (st (st (st (st (st (st τ1 3 (upd (τ1 3) nL pt)) 4 (upd (σ 8) nL (nI b))) 5 (upd (σ 10) nL sf)) 6 (upd (σ 11) nL sr)) 7 (upd (σ 12) nL (LENs (σ 5 b - pt) 300))) 9 (fun _ => (nI (nL + 1)))) hx hb hr hlocks hH hS hP ⟨h15, fun _ => ⟨rfl, by have hr := rel_al (pt := pt) (bo := nI b) (sf := sf) (sr := sr) hR1; rw [eb] at hr; exact hr⟩, fun q => absurd hK0 q⟩ dX1_addLine_161
  · have hne := go_f c76
    refine lv_iconst (v := 0) hx hb dX1_addLine_79 (by decide) ?_
    exact wr_ret (v := 0) τ1 hx hb hr hlocks hH hS hP ⟨h15, fun q => absurd q hne, fun _ => hR1⟩ dX1_addLine_80
set_option maxHeartbeats 4000000 in
set_option maxRecDepth 100000 in
/-- tend -/
theorem c_X1_tend (l : Launch) (D : va_G) (cI cZ : ClassId) (h : Nat) (a : Nat → Nat) (σ τ : St) (Hi : Heap) (A : Nat → Prop) (hD : va_D A (mw cI cZ h a τ)) {nL nB : Nat} (hI : inv σ nL nB) (hR : rel σ τ nL) (line hour slack : Int32) : wrM l yX1_tend wsX1_tend ({ frames := 5, cells := 0, slots := 0, locals := 123 }) [.ref h, .int line, .int hour, .int slack] D (mw cI cZ h a τ) (tyX cI cZ) Hi (S := St) (fun ρ => mw cI cZ h a ρ) (fun r ρ => ρ 15 0 = goK (inR line 0 (nI nL - 1) && inR hour 0 47) (inR slack (-100) 100) (decide (¬ σ 13 (tN line) = 0)) ∧ (goK (inR line 0 (nI nL - 1) && inR hour 0 47) (inR slack (-100) 100) (decide (¬ σ 13 (tN line) = 0)) = 0 → r = tdR σ line hour slack ∧ rel (st σ 12 (upd (σ 12) (tN line) (tdR σ line hour slack))) ρ nL) ∧ (¬ goK (inR line 0 (nI nL - 1) && inR hour 0 47) (inR slack (-100) 100) (decide (¬ σ 13 (tN line) = 0)) = 0 → rel σ ρ nL)) A := by
  refine wr_of (cc := cX1_tend) (maxL := 6) (ret := some .int) (by decide) rfl (Nat.le_of_ble_eq_true rfl) ?_
  intro p e s m args below meth c he hH hP hK ls hl
  obtain ⟨hx, hb, hr, hml, hown, hts, hlocks⟩ := he
  have hown : s.vm.findClass RX1 = some m.cls := hown
  have hS : va_S A Hi Hi [] := va_S.rf
  obtain ⟨⟨r10, r11, r12, r13, r2, r0, r1, r9⟩, ⟨r4, r5, r6, r7⟩, r3, r8, r8z⟩ := id hR
  have hL : σ 7 0 = nI nL := hI.1
  have hL10 : nL ≤ 10 := hI.2.1
  have hl : lv_has ls 6 [(0, .ref h), (1, .int line), (2, .int hour), (3, .int slack)] := hl
  have hin : ∀ w ∈ u_ws RX1 TX1 16, w ∈ wsX1_tend := by decide +kernel
  have hB6 : nB ≤ 6 := hI.2.2.2.1
  suffices J : W p l e ({ frames := 5, cells := 0, slots := 0, locals := 123 } : Room) s m args below meth c Hi [] 0 0 (wrQ below D (S := St) (fun ρ => mw cI cZ h a ρ) (fun r ρ => ρ 15 0 = goK (inR line 0 (nI nL - 1) && inR hour 0 47) (inR slack (-100) 100) (decide (¬ σ 13 (tN line) = 0)) ∧ (goK (inR line 0 (nI nL - 1) && inR hour 0 47) (inR slack (-100) 100) (decide (¬ σ 13 (tN line) = 0)) = 0 → r = tdR σ line hour slack ∧ rel (st σ 12 (upd (σ 12) (tN line) (tdR σ line hour slack))) ρ nL) ∧ (¬ goK (inR line 0 (nI nL - 1) && inR hour 0 47) (inR slack (-100) 100) (decide (¬ σ 13 (tN line) = 0)) = 0 → rel σ ρ nL)) A args s) (F0 m 20 ls [.int (bI (inR line 0 (nI nL - 1) && inR hour 0 47))]) by
    refine lv_aload_n hx hb dX1_tend_0 rfl (lv_at hl 0 rfl) ?_
    refine lv_iload_n hx hb dX1_tend_1 rfl (lv_at hl 1 rfl) ?_
    refine ro_callV 1 hx hb hml hown hts hl.1 hP hK 0 1 rfl rfl (As := [.int line]) (rest := []) (c_X1_isLine l D cI cZ h a σ τ Hi hI hR line) gX1_tend_X1_isLine rfl rfl rfl (by decide +kernel) ⟨Nat.le_of_ble_eq_true rfl, Nat.le_of_ble_eq_true rfl⟩ rfl rfl (Nat.le_of_ble_eq_true rfl) dX1_tend_2 ⟨Nat.zero_le _, Nat.zero_le _⟩ (fun r9_ hr9_ => ?_)
    subst hr9_
    refine lv_if_eq (tgt := 19) hx hb dX1_tend_5 (by decide) (fun c5 => ?_) (fun c5 => ?_)
    · refine lv_iconst (v := 0) hx hb dX1_tend_19 (by decide) ?_
      refine lv_topi (fun y9 e9 => ?_)
      rw [show y9 = (bI (inR line 0 (nI nL - 1) && inR hour 0 47)) from e9.trans (bI_e (c := false) (an1 (bI_f c5)) rfl)]
      exact J
    · refine lv_iload_n hx hb dX1_tend_8 rfl (lv_at hl 2 rfl) ?_
      refine ro_callS 1 hx hb hml hown hts hl.1 hP hK (As := [.int hour]) (rest := []) (c_X1_isHour l D (mw cI cZ h a τ) (tyX cI cZ) Hi hour) gX1_tend_X1_isHour rfl rfl rfl (by decide +kernel) ⟨Nat.le_of_ble_eq_true rfl, Nat.le_of_ble_eq_true rfl⟩ rfl rfl (Nat.le_of_ble_eq_true rfl) dX1_tend_9 ⟨Nat.zero_le _, Nat.zero_le _⟩ (fun r9_ hr9_ => ?_)
      subst hr9_
      refine lv_if_eq (tgt := 19) hx hb dX1_tend_12 (by decide) (fun c12 => ?_) (fun c12 => ?_)
      · refine lv_iconst (v := 0) hx hb dX1_tend_19 (by decide) ?_
        refine lv_topi (fun y9 e9 => ?_)
        rw [show y9 = (bI (inR line 0 (nI nL - 1) && inR hour 0 47)) from e9.trans (bI_e (c := false) (an2 (bI_f c12)) rfl)]
        exact J
      · refine lv_iconst (v := 1) hx hb dX1_tend_15 (by decide) ?_
        refine lv_goto (tgt := 20) hx hb dX1_tend_16 (by decide) ?_
        refine lv_topi (fun y9 e9 => ?_)
        rw [show y9 = (bI (inR line 0 (nI nL - 1) && inR hour 0 47)) from e9.trans (bI_e (c := true) (ant (bI_t c5) (bI_t c12)) rfl)]
        exact J
  refine lv_istore (lv' := [(4, .int (bI (inR line 0 (nI nL - 1) && inR hour 0 47))), (0, .ref h), (1, .int line), (2, .int hour), (3, .int slack)]) hx hb dX1_tend_20 hl (by decide) rfl (fun ls hl => ?_)
  refine lv_aload_n hx hb dX1_tend_22 rfl (lv_at hl 1 rfl) ?_
  refine lv_iload hx hb dX1_tend_23 (lv_at hl 0 rfl) ?_
  refine lv_iload_n hx hb dX1_tend_25 rfl (lv_at hl 4 rfl) ?_
  refine lv_bipush (v := (-100)) hx hb dX1_tend_26 (by decide) ?_
  refine lv_bipush (v := 100) hx hb dX1_tend_28 (by decide) ?_
  refine ro_callS 3 hx hb hml hown hts hl.1 hP hK (As := [.int slack, .int (-100), .int 100]) (rest := [.int (bI (inR line 0 (nI nL - 1) && inR hour 0 47)), .ref h]) (c_X1_in l D (mw cI cZ h a τ) (tyX cI cZ) Hi slack (-100) 100) gX1_tend_X1_in rfl rfl rfl (by decide +kernel) ⟨Nat.le_of_ble_eq_true rfl, Nat.le_of_ble_eq_true rfl⟩ rfl rfl (Nat.le_of_ble_eq_true rfl) dX1_tend_30 ⟨Nat.zero_le _, Nat.zero_le _⟩ (fun r9_ hr9_ => ?_)
  subst hr9_
  suffices J2 : W p l e ({ frames := 5, cells := 0, slots := 0, locals := 123 } : Room) s m args below meth c Hi [] 0 0 (wrQ below D (S := St) (fun ρ => mw cI cZ h a ρ) (fun r ρ => ρ 15 0 = goK (inR line 0 (nI nL - 1) && inR hour 0 47) (inR slack (-100) 100) (decide (¬ σ 13 (tN line) = 0)) ∧ (goK (inR line 0 (nI nL - 1) && inR hour 0 47) (inR slack (-100) 100) (decide (¬ σ 13 (tN line) = 0)) = 0 → r = tdR σ line hour slack ∧ rel (st σ 12 (upd (σ 12) (tN line) (tdR σ line hour slack))) ρ nL) ∧ (¬ goK (inR line 0 (nI nL - 1) && inR hour 0 47) (inR slack (-100) 100) (decide (¬ σ 13 (tN line) = 0)) = 0 → rel σ ρ nL)) A args s) (F0 m 52 ls [.int (bI ((inR line 0 (nI nL - 1) && inR hour 0 47) && decide (¬ σ 13 (tN line) = 0))), .int (bI (inR slack (-100) 100)), .int (bI (inR line 0 (nI nL - 1) && inR hour 0 47)), .ref h]) by
    refine lv_iload hx hb dX1_tend_33 (lv_at hl 0 rfl) ?_
    refine lv_if_eq (tgt := 51) hx hb dX1_tend_35 (by decide) (fun c35 => ?_) (fun c35 => ?_)
    · refine lv_iconst (v := 0) hx hb dX1_tend_51 (by decide) ?_
      refine lv_topi (fun y9 e9 => ?_)
      rw [show y9 = (bI ((inR line 0 (nI nL - 1) && inR hour 0 47) && decide (¬ σ 13 (tN line) = 0))) from e9.trans (bI_e (c := false) (an1 (bI_f c35)) rfl)]
      exact J2
    · obtain ⟨g4, g5⟩ := and_sp (bI_t c35)
      obtain ⟨j, hj, ejj⟩ := inR_line (by omega) g4
      have etj : tN line = j := by rw [ejj]; exact tN_nI (by omega)
      refine lv_aload_n hx hb dX1_tend_38 rfl (lv_at hl 1 rfl) ?_
      refine m_get hin hx hb hts hown hK hP rfl 8 (by decide) (v := .ref (a 8)) rfl (by decide +kernel) dX1_tend_39 ?_
      refine lv_iload_n (x := nI j) hx hb dX1_tend_42 rfl (by rw [← ejj]; exact lv_at hl 2 rfl) ?_
      refine xa_zld hx hb hK hP 8 1 rfl rfl (j := j) (by omega) (by decide) dX1_tend_43 ?_
      refine lv_if_ne (tgt := 51) hx hb dX1_tend_44 (by decide) (fun c44 => ?_) (fun c44 => ?_)
      · have hg : σ 13 j = 0 := by rcases r8 j hj with ⟨q1, _⟩ | ⟨_, q2⟩; exact absurd q1 c44; exact q2
        refine lv_iconst (v := 0) hx hb dX1_tend_51 (by decide) ?_
        refine lv_topi (fun y9 e9 => ?_)
        rw [show y9 = (bI ((inR line 0 (nI nL - 1) && inR hour 0 47) && decide (¬ σ 13 (tN line) = 0))) from e9.trans (bI_e (c := false) (an2 (decide_eq_false (by rw [etj]; exact not_not_intro hg))) rfl)]
        exact J2
      · have hg : ¬ σ 13 j = 0 := by rcases r8 j hj with ⟨_, q2⟩ | ⟨q1, _⟩; rw [q2]; decide; rw [q1] at c44; exact absurd c44 (by decide)
        refine lv_iconst (v := 1) hx hb dX1_tend_47 (by decide) ?_
        refine lv_goto (tgt := 52) hx hb dX1_tend_48 (by decide) ?_
        refine lv_topi (fun y9 e9 => ?_)
        rw [show y9 = (bI ((inR line 0 (nI nL - 1) && inR hour 0 47) && decide (¬ σ 13 (tN line) = 0))) from e9.trans (bI_e (c := true) (ant (bI_t c35) (decide_eq_true (by rw [etj]; exact hg))) rfl)]
        exact J2
  refine wr_callV 3 hx hb hml hown hts hl.1 hP hK hS (fun _ h9 => h9) 0 1 rfl rfl (As := [.int (bI (inR line 0 (nI nL - 1) && inR hour 0 47)), .int (bI (inR slack (-100) 100)), .int (bI ((inR line 0 (nI nL - 1) && inR hour 0 47) && decide (¬ σ 13 (tN line) = 0)))]) (rest := []) (c_X1_goes l D cI cZ h a σ τ Hi A hD (inR line 0 (nI nL - 1) && inR hour 0 47) (inR slack (-100) 100) ((inR line 0 (nI nL - 1) && inR hour 0 47) && decide (¬ σ 13 (tN line) = 0))) gX1_tend_X1_goes rfl rfl rfl (by decide +kernel) ⟨Nat.le_of_ble_eq_true rfl, Nat.le_of_ble_eq_true rfl⟩ rfl rfl (Nat.le_of_ble_eq_true rfl) dX1_tend_52 ⟨Nat.zero_le _, Nat.zero_le _⟩ (fun r0 u0 H locs hr0 hP hS _ _ => ?_)
  subst hr0
  obtain ⟨τ1, eT⟩ : ∃ z : St, z = st τ 15 (fun _ => goK (inR line 0 (nI nL - 1) && inR hour 0 47) (inR slack (-100) 100) ((inR line 0 (nI nL - 1) && inR hour 0 47) && decide (¬ σ 13 (tN line) = 0))) := ⟨_, rfl⟩
  rw [← eT] at hP
  have h15 : τ1 15 0 = goK (inR line 0 (nI nL - 1) && inR hour 0 47) (inR slack (-100) 100) ((inR line 0 (nI nL - 1) && inR hour 0 47) && decide (¬ σ 13 (tN line) = 0)) := by rw [eT]; rfl
  rw [go_and] at h15
  have hR1 : rel σ τ1 nL := by rw [eT]; exact hR
  have hD : va_D A (mw cI cZ h a τ1) := mD hD
  obtain ⟨⟨r10, r11, r12, r13, r2, r0, r1, r9⟩, ⟨r4, r5, r6, r7⟩, r3, r8, r8z⟩ := id hR1
  refine lv_if_ne (tgt := 60) hx hb dX1_tend_55 (by decide) (fun c55 => ?_) (fun c55 => ?_)
  · obtain ⟨hK0, g1, g2, g3⟩ := go_t c55
    rw [go_and] at hK0
    obtain ⟨g4, g5⟩ := and_sp g1
    obtain ⟨j, hj, rfl⟩ := inR_line (by omega) g4
    have ej : tN (nI j) = j := tN_nI (by omega)
    obtain ⟨t, ht48, rfl⟩ := inR_hour g5
    have et : tN (nI t) = t := tN_nI (by omega)
    refine lv_aload_n hx hb dX1_tend_60 rfl (lv_at hl 1 rfl) ?_
    refine lv_iload_n hx hb dX1_tend_61 rfl (lv_at hl 2 rfl) ?_
    refine lv_iload_n hx hb dX1_tend_62 rfl (lv_at hl 3 rfl) ?_
    refine lv_aload_n hx hb dX1_tend_63 rfl (lv_at hl 1 rfl) ?_
    refine lv_iload_n hx hb dX1_tend_64 rfl (lv_at hl 3 rfl) ?_
    refine ro_callV 1 hx hb hml hown hts hl.1 hP hK 0 1 rfl rfl (As := [.int (nI t)]) (rest := [.int (nI t), .int (nI j), .ref h]) (c_X1_shiftAt l D cI cZ h a σ τ1 H hI hR1 t ht48) gX1_tend_X1_shiftAt rfl rfl rfl (by decide +kernel) ⟨Nat.le_of_ble_eq_true rfl, Nat.le_of_ble_eq_true rfl⟩ rfl rfl (Nat.le_of_ble_eq_true rfl) dX1_tend_65 ⟨Nat.zero_le _, Nat.zero_le _⟩ (fun r1_ hr1_ => ?_)
    subst hr1_
    refine ro_callV 3 hx hb hml hown hts hl.1 hP hK 0 1 rfl rfl (As := [.int (nI j), .int (nI t), .int (bal σ t)]) (rest := []) (c_X1_lengthAt l D cI cZ h a σ τ1 H hI hR1 j t hj ht48 (bal σ t) (bal_inS σ t)) gX1_tend_X1_lengthAt rfl rfl rfl (by decide +kernel) ⟨Nat.le_of_ble_eq_true rfl, Nat.le_of_ble_eq_true rfl⟩ rfl rfl (Nat.le_of_ble_eq_true rfl) dX1_tend_68 ⟨Nat.zero_le _, Nat.zero_le _⟩ (fun r2_ hr2_ => ?_)
    subst hr2_
    refine lv_iload_n hx hb dX1_tend_71 rfl (lv_at hl 4 rfl) ?_
    refine lv_iadd hx hb dX1_tend_72 ?_
    refine lv_istore (lv' := [(5, .int ((len_ σ j t (bal σ t)) + slack)), (4, .int (bI (inR (nI j) 0 (nI nL - 1) && inR (nI t) 0 47))), (0, .ref h), (1, .int (nI j)), (2, .int (nI t)), (3, .int slack)]) hx hb dX1_tend_73 hl (by decide) rfl (fun ls hl => ?_)
    refine lv_aload_n hx hb dX1_tend_75 rfl (lv_at hl 2 rfl) ?_
    refine m_get hin hx hb hts hown hK hP rfl 7 (by decide) (v := .ref (a 7)) rfl (by decide +kernel) dX1_tend_76 ?_
    refine lv_iload_n hx hb dX1_tend_79 rfl (lv_at hl 3 rfl) ?_
    refine lv_iload hx hb dX1_tend_80 (lv_at hl 0 rfl) ?_
    refine lv_if_ge (tgt := 89) hx hb dX1_tend_82 (by decide) (fun c82 => ?_) (fun c82 => ?_)
    · refine lv_iload hx hb dX1_tend_89 (lv_at hl 0 rfl) ?_
      refine lv_topi (fun y9 e9 => ?_)
      rw [show y9 = (tdR σ (nI j) (nI t) slack) from e9.trans (by unfold tdR mx0; rw [ej, et]; by_cases w : 0 < len_ σ j t (bal σ t) + slack; rw [if_pos w]; rw [if_neg w, Int32.le_antisymm (Int32.not_lt.mp w) c82])]
      refine xa_st hx hb hK hP hD hS 7 0 rfl rfl (j := j) (by omega) (by decide) dX1_tend_91 (fun H locs hP hD hS => ?_)
      have hP : va_P D vwCl (mw cI cZ h a (st τ1 7 (upd (σ 12) j (tdR σ (nI j) (nI t) slack)))) H := by rw [← r7]; exact hP
      have hD : va_D A (mw cI cZ h a (st τ1 7 (upd (σ 12) j (tdR σ (nI j) (nI t) slack)))) := mD (σ := (st τ1 7 (upd (τ1 7) j (tdR σ (nI j) (nI t) slack)))) hD
      refine lv_aload_n hx hb dX1_tend_92 rfl (lv_at hl 2 rfl) ?_
      refine m_get hin hx hb hts hown hK hP rfl 7 (by decide) (v := .ref (a 7)) rfl (by decide +kernel) dX1_tend_93 ?_
      refine lv_iload_n hx hb dX1_tend_96 rfl (lv_at hl 3 rfl) ?_
      refine xa_ld hx hb hK hP 7 0 rfl rfl (j := j) (by omega) (by decide) dX1_tend_97 ?_
      rw [show (st τ1 7 (upd (σ 12) j (tdR σ (nI j) (nI t) slack))) 7 j = (tdR σ (nI j) (nI t) slack) from by show (if j = j then _ else _) = _; rw [if_pos rfl]]
      exact wr_ret (v := (tdR σ (nI j) (nI t) slack)) (st τ1 7 (upd (σ 12) j (tdR σ (nI j) (nI t) slack))) hx hb hr hlocks hH hS hP ⟨h15, fun _ => ⟨rfl, by rw [ej]; exact rel_st12 _ hR1⟩, fun q => absurd hK0 q⟩ dX1_tend_98
    · refine lv_iconst (v := 0) hx hb dX1_tend_85 (by decide) ?_
      refine lv_goto (tgt := 91) hx hb dX1_tend_86 (by decide) ?_
      refine lv_topi (fun y9 e9 => ?_)
      rw [show y9 = (tdR σ (nI j) (nI t) slack) from e9.trans (by unfold tdR mx0; rw [ej, et]; rw [if_neg (fun w => c82 (Int32.le_of_lt w))])]
      refine xa_st hx hb hK hP hD hS 7 0 rfl rfl (j := j) (by omega) (by decide) dX1_tend_91 (fun H locs hP hD hS => ?_)
      have hP : va_P D vwCl (mw cI cZ h a (st τ1 7 (upd (σ 12) j (tdR σ (nI j) (nI t) slack)))) H := by rw [← r7]; exact hP
      have hD : va_D A (mw cI cZ h a (st τ1 7 (upd (σ 12) j (tdR σ (nI j) (nI t) slack)))) := mD (σ := (st τ1 7 (upd (τ1 7) j (tdR σ (nI j) (nI t) slack)))) hD
      refine lv_aload_n hx hb dX1_tend_92 rfl (lv_at hl 2 rfl) ?_
      refine m_get hin hx hb hts hown hK hP rfl 7 (by decide) (v := .ref (a 7)) rfl (by decide +kernel) dX1_tend_93 ?_
      refine lv_iload_n hx hb dX1_tend_96 rfl (lv_at hl 3 rfl) ?_
      refine xa_ld hx hb hK hP 7 0 rfl rfl (j := j) (by omega) (by decide) dX1_tend_97 ?_
      rw [show (st τ1 7 (upd (σ 12) j (tdR σ (nI j) (nI t) slack))) 7 j = (tdR σ (nI j) (nI t) slack) from by show (if j = j then _ else _) = _; rw [if_pos rfl]]
      exact wr_ret (v := (tdR σ (nI j) (nI t) slack)) (st τ1 7 (upd (σ 12) j (tdR σ (nI j) (nI t) slack))) hx hb hr hlocks hH hS hP ⟨h15, fun _ => ⟨rfl, by rw [ej]; exact rel_st12 _ hR1⟩, fun q => absurd hK0 q⟩ dX1_tend_98
  · have hne := go_f c55
    rw [go_and] at hne
    refine lv_iconst (v := 0) hx hb dX1_tend_58 (by decide) ?_
    exact wr_ret (v := 0) τ1 hx hb hr hlocks hH hS hP ⟨h15, fun q => absurd q hne, fun _ => hR1⟩ dX1_tend_59
set_option maxHeartbeats 4000000 in
set_option maxRecDepth 100000 in
/-- plan -/
theorem c_X1_plan (l : Launch) (D : va_G) (cI cZ : ClassId) (h : Nat) (a : Nat → Nat) (σ τ : St) (Hi : Heap) (A : Nat → Prop) (hD : va_D A (mw cI cZ h a τ)) {nL nB : Nat} (hI : inv σ nL nB) (hR : rel σ τ nL) (fr to : Int32) : wrM l yX1_plan wsX1_plan ({ frames := 7, cells := 0, slots := 0, locals := 170 }) [.ref h, .int fr, .int to] D (mw cI cZ h a τ) (tyX cI cZ) Hi (S := St) (fun ρ => mw cI cZ h a ρ) (fun r ρ => ρ 15 0 = goK (inR fr 0 47 && inR to 0 47) (decide (fr ≤ to)) true ∧ (goK (inR fr 0 47 && inR to 0 47) (decide (fr ≤ to)) true = 0 → r = plR (tN to + 1 - tN fr) σ (tN fr) 0 ∧ rel σ ρ nL) ∧ (¬ goK (inR fr 0 47 && inR to 0 47) (decide (fr ≤ to)) true = 0 → rel σ ρ nL)) A := by
  refine wr_of (cc := cX1_plan) (maxL := 5) (ret := some .int) (by decide) rfl (Nat.le_of_ble_eq_true rfl) ?_
  intro p e s m args below meth c he hH hP hK ls hl
  obtain ⟨hx, hb, hr, hml, hown, hts, hlocks⟩ := he
  have hown : s.vm.findClass RX1 = some m.cls := hown
  have hS : va_S A Hi Hi [] := va_S.rf
  obtain ⟨⟨r10, r11, r12, r13, r2, r0, r1, r9⟩, ⟨r4, r5, r6, r7⟩, r3, r8, r8z⟩ := id hR
  have hL : σ 7 0 = nI nL := hI.1
  have hL10 : nL ≤ 10 := hI.2.1
  have hl : lv_has ls 5 [(0, .ref h), (1, .int fr), (2, .int to)] := hl
  have hin : ∀ w ∈ u_ws RX1 TX1 16, w ∈ wsX1_plan := by decide +kernel
  have hB6 : nB ≤ 6 := hI.2.2.2.1
  refine lv_aload_n hx hb dX1_plan_0 rfl (lv_at hl 0 rfl) ?_
  suffices J : W p l e ({ frames := 7, cells := 0, slots := 0, locals := 170 } : Room) s m args below meth c Hi [] 0 0 (wrQ below D (S := St) (fun ρ => mw cI cZ h a ρ) (fun r ρ => ρ 15 0 = goK (inR fr 0 47 && inR to 0 47) (decide (fr ≤ to)) true ∧ (goK (inR fr 0 47 && inR to 0 47) (decide (fr ≤ to)) true = 0 → r = plR (tN to + 1 - tN fr) σ (tN fr) 0 ∧ rel σ ρ nL) ∧ (¬ goK (inR fr 0 47 && inR to 0 47) (decide (fr ≤ to)) true = 0 → rel σ ρ nL)) A args s) (F0 m 20 ls [.int (bI (inR fr 0 47 && inR to 0 47)), .ref h]) by
    refine lv_iload_n hx hb dX1_plan_1 rfl (lv_at hl 1 rfl) ?_
    refine ro_callS 1 hx hb hml hown hts hl.1 hP hK (As := [.int fr]) (rest := [.ref h]) (c_X1_isHour l D (mw cI cZ h a τ) (tyX cI cZ) Hi fr) gX1_plan_X1_isHour rfl rfl rfl (by decide +kernel) ⟨Nat.le_of_ble_eq_true rfl, Nat.le_of_ble_eq_true rfl⟩ rfl rfl (Nat.le_of_ble_eq_true rfl) dX1_plan_2 ⟨Nat.zero_le _, Nat.zero_le _⟩ (fun r9_ hr9_ => ?_)
    subst hr9_
    refine lv_if_eq (tgt := 19) hx hb dX1_plan_5 (by decide) (fun c5 => ?_) (fun c5 => ?_)
    · refine lv_iconst (v := 0) hx hb dX1_plan_19 (by decide) ?_
      refine lv_topi (fun y9 e9 => ?_)
      rw [show y9 = (bI (inR fr 0 47 && inR to 0 47)) from e9.trans (bI_e (c := false) (an1 (bI_f c5)) rfl)]
      exact J
    · refine lv_iload_n hx hb dX1_plan_8 rfl (lv_at hl 2 rfl) ?_
      refine ro_callS 1 hx hb hml hown hts hl.1 hP hK (As := [.int to]) (rest := [.ref h]) (c_X1_isHour l D (mw cI cZ h a τ) (tyX cI cZ) Hi to) gX1_plan_X1_isHour rfl rfl rfl (by decide +kernel) ⟨Nat.le_of_ble_eq_true rfl, Nat.le_of_ble_eq_true rfl⟩ rfl rfl (Nat.le_of_ble_eq_true rfl) dX1_plan_9 ⟨Nat.zero_le _, Nat.zero_le _⟩ (fun r9_ hr9_ => ?_)
      subst hr9_
      refine lv_if_eq (tgt := 19) hx hb dX1_plan_12 (by decide) (fun c12 => ?_) (fun c12 => ?_)
      · refine lv_iconst (v := 0) hx hb dX1_plan_19 (by decide) ?_
        refine lv_topi (fun y9 e9 => ?_)
        rw [show y9 = (bI (inR fr 0 47 && inR to 0 47)) from e9.trans (bI_e (c := false) (an2 (bI_f c12)) rfl)]
        exact J
      · refine lv_iconst (v := 1) hx hb dX1_plan_15 (by decide) ?_
        refine lv_goto (tgt := 20) hx hb dX1_plan_16 (by decide) ?_
        refine lv_topi (fun y9 e9 => ?_)
        rw [show y9 = (bI (inR fr 0 47 && inR to 0 47)) from e9.trans (bI_e (c := true) (ant (bI_t c5) (bI_t c12)) rfl)]
        exact J
  suffices J2 : W p l e ({ frames := 7, cells := 0, slots := 0, locals := 170 } : Room) s m args below meth c Hi [] 0 0 (wrQ below D (S := St) (fun ρ => mw cI cZ h a ρ) (fun r ρ => ρ 15 0 = goK (inR fr 0 47 && inR to 0 47) (decide (fr ≤ to)) true ∧ (goK (inR fr 0 47 && inR to 0 47) (decide (fr ≤ to)) true = 0 → r = plR (tN to + 1 - tN fr) σ (tN fr) 0 ∧ rel σ ρ nL) ∧ (¬ goK (inR fr 0 47 && inR to 0 47) (decide (fr ≤ to)) true = 0 → rel σ ρ nL)) A args s) (F0 m 30 ls [.int (bI (decide (fr ≤ to))), .int (bI (inR fr 0 47 && inR to 0 47)), .ref h]) by
    refine lv_iload_n hx hb dX1_plan_20 rfl (lv_at hl 2 rfl) ?_
    refine lv_iload_n hx hb dX1_plan_21 rfl (lv_at hl 1 rfl) ?_
    refine lv_icmp_lt (tgt := 29) hx hb dX1_plan_22 (by decide) (fun c22 => ?_) (fun c22 => ?_)
    · refine lv_iconst (v := 0) hx hb dX1_plan_29 (by decide) ?_
      refine lv_topi (fun y9 e9 => ?_)
      rw [show y9 = (bI (decide (fr ≤ to))) from e9.trans (bI_e (c := false) (decide_eq_false (Int32.not_le.mpr c22)) rfl)]
      exact J2
    · refine lv_iconst (v := 1) hx hb dX1_plan_25 (by decide) ?_
      refine lv_goto (tgt := 30) hx hb dX1_plan_26 (by decide) ?_
      refine lv_topi (fun y9 e9 => ?_)
      rw [show y9 = (bI (decide (fr ≤ to))) from e9.trans (bI_e (c := true) (decide_eq_true (Int32.not_lt.mp c22)) rfl)]
      exact J2
  refine lv_iconst (v := 1) hx hb dX1_plan_30 (by decide) ?_
  refine wr_callV 3 hx hb hml hown hts hl.1 hP hK hS (fun _ h9 => h9) 0 1 rfl rfl (As := [.int (bI (inR fr 0 47 && inR to 0 47)), .int (bI (decide (fr ≤ to))), .int (bI true)]) (rest := []) (c_X1_goes l D cI cZ h a σ τ Hi A hD (inR fr 0 47 && inR to 0 47) (decide (fr ≤ to)) true) gX1_plan_X1_goes rfl rfl rfl (by decide +kernel) ⟨Nat.le_of_ble_eq_true rfl, Nat.le_of_ble_eq_true rfl⟩ rfl rfl (Nat.le_of_ble_eq_true rfl) dX1_plan_31 ⟨Nat.zero_le _, Nat.zero_le _⟩ (fun r0 u0 H locs hr0 hP hS _ _ => ?_)
  subst hr0
  obtain ⟨τ1, eT⟩ : ∃ z : St, z = st τ 15 (fun _ => goK (inR fr 0 47 && inR to 0 47) (decide (fr ≤ to)) true) := ⟨_, rfl⟩
  rw [← eT] at hP
  have h15 : τ1 15 0 = goK (inR fr 0 47 && inR to 0 47) (decide (fr ≤ to)) true := by rw [eT]; rfl
  have hR1 : rel σ τ1 nL := by rw [eT]; exact hR
  have hD : va_D A (mw cI cZ h a τ1) := mD hD
  obtain ⟨⟨r10, r11, r12, r13, r2, r0, r1, r9⟩, ⟨r4, r5, r6, r7⟩, r3, r8, r8z⟩ := id hR1
  refine lv_if_ne (tgt := 39) hx hb dX1_plan_34 (by decide) (fun c34 => ?_) (fun c34 => ?_)
  · obtain ⟨hK0, g1, g2, g3⟩ := go_t c34
    obtain ⟨g4, g5⟩ := and_sp g1
    obtain ⟨f, hf48, rfl⟩ := inR_hour g4
    have ef : tN (nI f) = f := tN_nI (by omega)
    obtain ⟨u, hu48, rfl⟩ := inR_hour g5
    have eu : tN (nI u) = u := tN_nI (by omega)
    have hfu : f ≤ u := (nI_leI (by omega) (by omega)).mp (of_decide_eq_true g2)
    have K3 : ∀ (n k : Nat) (ρ ϑ : St) (F : Nat → Int32) (H : Heap) (locs : List Loc) (ls : Array Slot), k + n = nL → inv ρ nL nB → rel ρ ϑ nL → (∀ k, k ≠ 12 → ρ k = σ k) → (∀ j, nL ≤ j → ρ 12 j = σ 12 j) → (∀ j, j < nL → ϑ 14 j = σ 12 j) → ϑ 15 0 = goK (inR (nI f) 0 47 && inR (nI u) 0 47) (decide (nI f ≤ nI u)) true → (∀ j, j < k → F j = σ 12 j) → (∀ j, nL ≤ j → F j = σ 12 j) → va_P D vwCl (mw cI cZ h a (st ϑ 7 F)) H → va_S A Hi H locs → lv_has ls 5 [(4, .int (nI k)), (3, .int (plR (u + 1 - f) σ f 0)), (0, .ref h), (1, .int (nI f)), (2, .int (nI u))] → W p l e ({ frames := 7, cells := 0, slots := 0, locals := 170 } : Room) s m args below meth c H locs 0 0 (wrQ below D (S := St) (fun ρ => mw cI cZ h a ρ) (fun r ρ => ρ 15 0 = goK (inR (nI f) 0 47 && inR (nI u) 0 47) (decide ((nI f) ≤ (nI u))) true ∧ (goK (inR (nI f) 0 47 && inR (nI u) 0 47) (decide ((nI f) ≤ (nI u))) true = 0 → r = plR (tN (nI u) + 1 - tN (nI f)) σ (tN (nI f)) 0 ∧ rel σ ρ nL) ∧ (¬ goK (inR (nI f) 0 47 && inR (nI u) 0 47) (decide ((nI f) ≤ (nI u))) true = 0 → rel σ ρ nL)) A args s) (F0 m 124 ls []) := by
      intro n
      induction n with
      | zero =>
        intro k ρ ϑ F H locs ls hk hIr hRr hag hhi hkp h15r hF1 hF2 hP hS hl
        have r9r : ϑ 9 0 = nI nL := hRr.1.2.2.2.2.2.2.2.trans hIr.1
        refine lv_iload hx hb dX1_plan_124 (lv_at hl 0 rfl) ?_
        refine lv_aload_n hx hb dX1_plan_126 rfl (lv_at hl 2 rfl) ?_
        refine m_get hin hx hb hts hown hK hP rfl 9 (by decide) (v := .int (nI nL)) (congrArg (fun z => some (Value.int z)) r9r) (by decide +kernel) dX1_plan_127 ?_
        refine lv_icmp_ge (tgt := 153) hx hb dX1_plan_130 (by decide) (fun c130 => ?_) (fun c130 => ?_)
        · refine lv_iload_n hx hb dX1_plan_153 rfl (lv_at hl 1 rfl) ?_
          have eF : F = σ 12 := funext fun j => by rcases Nat.lt_or_ge j nL with w | w; exact hF1 j (by omega); exact hF2 j w
          subst eF
          exact wr_ret (v := (plR (u + 1 - f) σ f 0)) (st ϑ 7 (σ 12)) hx hb hr hlocks hH hS hP ⟨h15r, fun _ => ⟨by rw [ef, eu], rel_back hRr hag⟩, fun q => absurd hK0 q⟩ dX1_plan_154
        · exact absurd (nI_le (by omega) (by omega)) c130
      | succ n ih =>
        intro k ρ ϑ F H locs ls hk hIr hRr hag hhi hkp h15r hF1 hF2 hP hS hl
        have r9r : ϑ 9 0 = nI nL := hRr.1.2.2.2.2.2.2.2.trans hIr.1
        have hD : va_D A (mw cI cZ h a (st ϑ 7 F)) := mD hD
        refine lv_iload hx hb dX1_plan_124 (lv_at hl 0 rfl) ?_
        refine lv_aload_n hx hb dX1_plan_126 rfl (lv_at hl 2 rfl) ?_
        refine m_get hin hx hb hts hown hK hP rfl 9 (by decide) (v := .int (nI nL)) (congrArg (fun z => some (Value.int z)) r9r) (by decide +kernel) dX1_plan_127 ?_
        refine lv_icmp_ge (tgt := 153) hx hb dX1_plan_130 (by decide) (fun c130 => ?_) (fun c130 => ?_)
        · exact absurd c130 (nI_ge (by omega) (by omega))
        · refine lv_aload_n hx hb dX1_plan_133 rfl (lv_at hl 2 rfl) ?_
          refine m_get hin hx hb hts hown hK hP rfl 7 (by decide) (v := .ref (a 7)) rfl (by decide +kernel) dX1_plan_134 ?_
          refine lv_iload hx hb dX1_plan_137 (lv_at hl 0 rfl) ?_
          refine lv_aload_n hx hb dX1_plan_139 rfl (lv_at hl 2 rfl) ?_
          refine m_get hin hx hb hts hown hK hP rfl 14 (by decide) (v := .ref (a 14)) rfl (by decide +kernel) dX1_plan_140 ?_
          refine lv_iload hx hb dX1_plan_143 (lv_at hl 0 rfl) ?_
          refine xa_ld hx hb hK hP 12 0 rfl rfl (j := k) (by omega) (by decide) dX1_plan_145 ?_
          rw [show (st ϑ 7 F) 14 k = (σ 12 k) from hkp k (by omega)]
          refine xa_st hx hb hK hP hD hS 7 0 rfl rfl (j := k) (by omega) (by decide) dX1_plan_146 (fun H locs hP hD hS => ?_)
          have hP : va_P D vwCl (mw cI cZ h a (st (st ϑ 7 F) 7 (upd ((st ϑ 7 F) 7) k (σ 12 k)))) H := hP
          have hD : va_D A (mw cI cZ h a (st (st ϑ 7 F) 7 (upd ((st ϑ 7 F) 7) k (σ 12 k)))) := hD
          have hP : va_P D vwCl (mw cI cZ h a (st ϑ 7 (upd F k (σ 12 k)))) H := hP
          refine lv_iinc (v := (nI (k + 1))) (lv' := [(4, .int (nI (k + 1))), (3, .int (plR (u + 1 - f) σ f 0)), (0, .ref h), (1, .int (nI f)), (2, .int (nI u))]) hx hb dX1_plan_147 hl (k := 0) rfl (by exact nI_add _ 1) (by decide) rfl (fun ls hl => ?_)
          refine lv_goto (tgt := 124) hx hb dX1_plan_150 (by decide) ?_
          exact ih (k + 1) ρ ϑ (upd F k (σ 12 k)) H locs ls (by omega) hIr hRr hag hhi hkp h15r (fun j hj => by show (if j = k then _ else _) = _; by_cases w : j = k; rw [if_pos w, w]; rw [if_neg w]; exact hF1 j (by omega)) (fun j hj => by show (if j = k then _ else _) = _; rw [if_neg (by omega)]; exact hF2 j hj) hP hS (lv_sub hl [0, 1, 2, 3, 4] rfl)
    have K2e : ∀ (ρ ϑ : St) (v w9 : Int32) (H : Heap) (locs : List Loc) (ls : Array Slot), v = plR (u + 1 - f) σ f 0 → inv ρ nL nB → rel ρ ϑ nL → (∀ k, k ≠ 12 → ρ k = σ k) → (∀ j, nL ≤ j → ρ 12 j = σ 12 j) → (∀ j, j < nL → ϑ 14 j = σ 12 j) → ϑ 15 0 = goK (inR (nI f) 0 47 && inR (nI u) 0 47) (decide (nI f ≤ nI u)) true → va_P D vwCl (mw cI cZ h a ϑ) H → va_S A Hi H locs → lv_has ls 5 [(4, .int w9), (3, .int v), (0, .ref h), (1, .int (nI f)), (2, .int (nI u))] → W p l e ({ frames := 7, cells := 0, slots := 0, locals := 170 } : Room) s m args below meth c H locs 0 0 (wrQ below D (S := St) (fun ρ => mw cI cZ h a ρ) (fun r ρ => ρ 15 0 = goK (inR (nI f) 0 47 && inR (nI u) 0 47) (decide ((nI f) ≤ (nI u))) true ∧ (goK (inR (nI f) 0 47 && inR (nI u) 0 47) (decide ((nI f) ≤ (nI u))) true = 0 → r = plR (tN (nI u) + 1 - tN (nI f)) σ (tN (nI f)) 0 ∧ rel σ ρ nL) ∧ (¬ goK (inR (nI f) 0 47 && inR (nI u) 0 47) (decide ((nI f) ≤ (nI u))) true = 0 → rel σ ρ nL)) A args s) (F0 m 121 ls []) := by
      intro ρ ϑ v w9 H locs ls hv hIr hRr hag hhi hkp h15r hP hS hl
      subst hv
      refine lv_iconst (v := 0) hx hb dX1_plan_121 (by decide) ?_
      refine lv_istore (lv' := [(4, .int 0), (3, .int (plR (u + 1 - f) σ f 0)), (0, .ref h), (1, .int (nI f)), (2, .int (nI u))]) hx hb dX1_plan_122 hl (by decide) rfl (fun ls hl => ?_)
      exact K3 nL 0 ρ ϑ (ρ 12) H locs ls (by omega) hIr hRr hag hhi hkp h15r (fun j hj => absurd hj (Nat.not_lt_zero j)) hhi (by show va_P D vwCl (mw cI cZ h a (st ϑ 7 (ρ 12))) H; rw [← hRr.2.1.2.2.2]; exact hP) hS (lv_sub hl [0, 1, 2, 3, 4] rfl)
    have K2 : ∀ (n t c9 : Nat) (ρ ϑ : St) (H : Heap) (locs : List Loc) (ls : Array Slot), t + n = u + 1 → plR n ρ t c9 = plR (u + 1 - f) σ f 0 → c9 ≤ t → inv ρ nL nB → rel ρ ϑ nL → (∀ k, k ≠ 12 → ρ k = σ k) → (∀ j, nL ≤ j → ρ 12 j = σ 12 j) → (∀ j, j < nL → ϑ 14 j = σ 12 j) → ϑ 15 0 = goK (inR (nI f) 0 47 && inR (nI u) 0 47) (decide (nI f ≤ nI u)) true → va_P D vwCl (mw cI cZ h a ϑ) H → va_S A Hi H locs → lv_has ls 5 [(4, .int (nI t)), (3, .int (nI c9)), (0, .ref h), (1, .int (nI f)), (2, .int (nI u))] → W p l e ({ frames := 7, cells := 0, slots := 0, locals := 170 } : Room) s m args below meth c H locs 0 0 (wrQ below D (S := St) (fun ρ => mw cI cZ h a ρ) (fun r ρ => ρ 15 0 = goK (inR (nI f) 0 47 && inR (nI u) 0 47) (decide ((nI f) ≤ (nI u))) true ∧ (goK (inR (nI f) 0 47 && inR (nI u) 0 47) (decide ((nI f) ≤ (nI u))) true = 0 → r = plR (tN (nI u) + 1 - tN (nI f)) σ (tN (nI f)) 0 ∧ rel σ ρ nL) ∧ (¬ goK (inR (nI f) 0 47 && inR (nI u) 0 47) (decide ((nI f) ≤ (nI u))) true = 0 → rel σ ρ nL)) A args s) (F0 m 72 ls []) := by
      intro n
      induction n with
      | zero =>
        intro t c9 ρ ϑ H locs ls ht hpl hct hIr hRr hag hhi hkp h15r hP hS hl
        refine lv_iload hx hb dX1_plan_72 (lv_at hl 0 rfl) ?_
        refine lv_iload_n hx hb dX1_plan_74 rfl (lv_at hl 4 rfl) ?_
        refine lv_icmp_gt (tgt := 121) hx hb dX1_plan_75 (by decide) (fun c75 => ?_) (fun c75 => ?_)
        · exact K2e ρ ϑ (nI c9) (nI t) H locs ls hpl hIr hRr hag hhi hkp h15r hP hS (lv_sub hl [0, 1, 2, 3, 4] rfl)
        · exact absurd (nI_lt (a := u) (b := t) (by omega) (by omega)) c75
      | succ n ih =>
        intro t c9 ρ ϑ H locs ls ht hpl hct hIr hRr hag hhi hkp h15r hP hS hl
        have ht48 : t < 48 := by omega
        refine lv_iload hx hb dX1_plan_72 (lv_at hl 0 rfl) ?_
        refine lv_iload_n hx hb dX1_plan_74 rfl (lv_at hl 4 rfl) ?_
        refine lv_icmp_gt (tgt := 121) hx hb dX1_plan_75 (by decide) (fun c75 => ?_) (fun c75 => ?_)
        · exact absurd c75 (nI_nlt (by omega) (by omega))
        · refine lv_iload_n hx hb dX1_plan_78 rfl (lv_at hl 1 rfl) ?_
          refine lv_if_lt (tgt := 121) hx hb dX1_plan_79 (by decide) (fun c79 => ?_) (fun c79 => ?_)
          · exact absurd c79 (nI_pos (by omega))
          · refine lv_aload_n hx hb dX1_plan_82 rfl (lv_at hl 2 rfl) ?_
            refine lv_iload hx hb dX1_plan_83 (lv_at hl 0 rfl) ?_
            refine ro_callV 1 hx hb hml hown hts hl.1 hP hK 0 1 rfl rfl (As := [.int (nI t)]) (rest := []) (c_X1_holds l D cI cZ h a ρ ϑ H hIr hRr t ht48) gX1_plan_X1_holds rfl rfl rfl (by decide +kernel) ⟨Nat.le_of_ble_eq_true rfl, Nat.le_of_ble_eq_true rfl⟩ rfl rfl (Nat.le_of_ble_eq_true rfl) dX1_plan_85 ⟨Nat.zero_le _, Nat.zero_le _⟩ (fun r1_ hr1_ => ?_)
            subst hr1_
            refine lv_if_ne (tgt := 115) hx hb dX1_plan_88 (by decide) (fun c88 => ?_) (fun c88 => ?_)
            · refine lv_iinc (v := (nI (t + 1))) (lv' := [(4, .int (nI (t + 1))), (3, .int (nI c9)), (0, .ref h), (1, .int (nI f)), (2, .int (nI u))]) hx hb dX1_plan_115 hl (k := 0) rfl (by exact nI_add _ 1) (by decide) rfl (fun ls hl => ?_)
              refine lv_goto (tgt := 72) hx hb dX1_plan_118 (by decide) ?_
              exact ih (t + 1) c9 ρ ϑ H locs ls (by omega) (by rw [← hpl]; show _ = (if safe_ ρ t = true then plR n ρ (t + 1) c9 else _); rw [if_pos (bI_t c88)]) (by omega) hIr hRr hag hhi hkp h15r hP hS (lv_sub hl [0, 1, 2, 3, 4] rfl)
            · have hns : ¬ safe_ ρ t = true := by rw [bI_f c88]; decide
              have hD1 : va_D A (mw cI cZ h a ϑ) := mD hD
              refine lv_aload_n hx hb dX1_plan_91 rfl (lv_at hl 2 rfl) ?_
              refine lv_iload hx hb dX1_plan_92 (lv_at hl 0 rfl) ?_
              refine wr_callV 1 hx hb hml hown hts hl.1 hP hK hS (fun _ h9 => h9) 0 1 rfl rfl (As := [.int (nI t)]) (rest := []) (c_X1_tends l D cI cZ h a ρ ϑ H A hD1 hIr hRr t ht48) gX1_plan_X1_tends rfl rfl rfl (by decide +kernel) ⟨Nat.le_of_ble_eq_true rfl, Nat.le_of_ble_eq_true rfl⟩ rfl rfl (Nat.le_of_ble_eq_true rfl) dX1_plan_94 ⟨Nat.zero_le _, Nat.zero_le _⟩ (fun r2_ u2 H locs hr2_ hP hS _ _ => ?_)
              have eN : tnd ρ t = st ρ 12 (tdS ρ t (bal ρ t) nL) := by unfold tnd; rw [inv_nL hIr]
              have hR2 : rel (tnd ρ t) (st ϑ 7 (tdS ρ t (bal ρ t) nL)) nL := by rw [eN]; exact rel_st12 _ hRr
              have hag2 : ∀ k, k ≠ 12 → tnd ρ t k = σ k := fun k hk => by rw [eN, st_ne hk]; exact hag k hk
              have hhi2 : ∀ j, nL ≤ j → tnd ρ t 12 j = σ 12 j := fun j hj => by rw [eN, st_eq, tdS_hi nL j hj]; exact hhi j hj
              refine lv_pop hx hb dX1_plan_97 rfl ?_
              refine lv_aload_n hx hb dX1_plan_98 rfl (lv_at hl 2 rfl) ?_
              refine lv_iload hx hb dX1_plan_99 (lv_at hl 0 rfl) ?_
              refine ro_callV 1 hx hb hml hown hts hl.1 hP hK 0 1 rfl rfl (As := [.int (nI t)]) (rest := []) (c_X1_holds l D cI cZ h a (tnd ρ t) (st ϑ 7 (tdS ρ t (bal ρ t) nL)) H (inv_tnd hIr ht48) hR2 t ht48) gX1_plan_X1_holds rfl rfl rfl (by decide +kernel) ⟨Nat.le_of_ble_eq_true rfl, Nat.le_of_ble_eq_true rfl⟩ rfl rfl (Nat.le_of_ble_eq_true rfl) dX1_plan_101 ⟨Nat.zero_le _, Nat.zero_le _⟩ (fun r3_ hr3_ => ?_)
              subst hr3_
              refine lv_if_eq (tgt := 113) hx hb dX1_plan_104 (by decide) (fun c104 => ?_) (fun c104 => ?_)
              · refine lv_iconst (v := (-1)) hx hb dX1_plan_113 (by decide) ?_
                have htg : (-1 : Int32) = plR (u + 1 - f) σ f 0 := by rw [← hpl]; show _ = (if safe_ ρ t = true then plR n ρ (t + 1) c9 else if safe_ (tnd ρ t) t = true then plR n (tnd ρ t) (t + 1) (c9 + 1) else -1); rw [if_neg hns, if_neg (by rw [bI_f c104]; decide)]
                refine lv_istore_n (lv' := [(3, .int (-1)), (4, .int (nI t)), (0, .ref h), (1, .int (nI f)), (2, .int (nI u))]) hx hb dX1_plan_114 rfl hl (by decide) rfl (fun ls hl => ?_)
                refine lv_iinc (v := (nI (t + 1))) (lv' := [(4, .int (nI (t + 1))), (3, .int (-1)), (0, .ref h), (1, .int (nI f)), (2, .int (nI u))]) hx hb dX1_plan_115 hl (k := 1) rfl (by exact nI_add _ 1) (by decide) rfl (fun ls hl => ?_)
                refine lv_goto (tgt := 72) hx hb dX1_plan_118 (by decide) ?_
                refine lv_iload hx hb dX1_plan_72 (lv_at hl 0 rfl) ?_
                refine lv_iload_n hx hb dX1_plan_74 rfl (lv_at hl 4 rfl) ?_
                refine lv_icmp_gt (tgt := 121) hx hb dX1_plan_75 (by decide) (fun c75 => ?_) (fun c75 => ?_)
                · exact K2e (tnd ρ t) _ (-1) _ H locs ls htg (inv_tnd hIr ht48) hR2 hag2 hhi2 hkp h15r hP hS (lv_sub hl [0, 1, 2, 3, 4] rfl)
                · refine lv_iload_n hx hb dX1_plan_78 rfl (lv_at hl 1 rfl) ?_
                  refine lv_if_lt (tgt := 121) hx hb dX1_plan_79 (by decide) (fun c79 => ?_) (fun c79 => ?_)
                  · exact K2e (tnd ρ t) _ (-1) _ H locs ls htg (inv_tnd hIr ht48) hR2 hag2 hhi2 hkp h15r hP hS (lv_sub hl [0, 1, 2, 3, 4] rfl)
                  · exact absurd (by decide : (-1 : Int32) < 0) c79
              · refine lv_iload_n hx hb dX1_plan_107 rfl (lv_at hl 1 rfl) ?_
                refine lv_iconst (v := 1) hx hb dX1_plan_108 (by decide) ?_
                refine lv_iadd hx hb dX1_plan_109 ?_
                rw [nI_1]
                refine lv_goto (tgt := 114) hx hb dX1_plan_110 (by decide) ?_
                refine lv_istore_n (lv' := [(3, .int (nI (c9 + 1))), (4, .int (nI t)), (0, .ref h), (1, .int (nI f)), (2, .int (nI u))]) hx hb dX1_plan_114 rfl hl (by decide) rfl (fun ls hl => ?_)
                refine lv_iinc (v := (nI (t + 1))) (lv' := [(4, .int (nI (t + 1))), (3, .int (nI (c9 + 1))), (0, .ref h), (1, .int (nI f)), (2, .int (nI u))]) hx hb dX1_plan_115 hl (k := 1) rfl (by exact nI_add _ 1) (by decide) rfl (fun ls hl => ?_)
                refine lv_goto (tgt := 72) hx hb dX1_plan_118 (by decide) ?_
                exact ih (t + 1) (c9 + 1) (tnd ρ t) _ H locs ls (by omega) (by rw [← hpl]; show _ = (if safe_ ρ t = true then plR n ρ (t + 1) c9 else if safe_ (tnd ρ t) t = true then plR n (tnd ρ t) (t + 1) (c9 + 1) else -1); rw [if_neg hns, if_pos (bI_t c104)]) (by omega) (inv_tnd hIr ht48) hR2 hag2 hhi2 hkp h15r hP hS (lv_sub hl [0, 1, 2, 3, 4] rfl)
    refine lv_iconst (v := 0) hx hb dX1_plan_39 (by decide) ?_
    refine lv_istore_n (lv' := [(3, .int 0), (0, .ref h), (1, .int (nI f)), (2, .int (nI u))]) hx hb dX1_plan_40 rfl hl (by decide) rfl (fun ls hl => ?_)
    suffices K : ∀ (n k : Nat) (H : Heap) (locs : List Loc) (ls : Array Slot), k + n = nL → va_P D vwCl (mw cI cZ h a (st τ1 14 (cpF (σ 12) (τ1 14) k))) H → va_S A Hi H locs → lv_has ls 5 [(3, .int (nI k)), (0, .ref h), (1, .int (nI f)), (2, .int (nI u))] → W p l e _ s m args below meth c H locs 0 0 (wrQ below D (S := St) (fun ρ => mw cI cZ h a ρ) (fun r ρ => ρ 15 0 = goK (inR (nI f) 0 47 && inR (nI u) 0 47) (decide ((nI f) ≤ (nI u))) true ∧ (goK (inR (nI f) 0 47 && inR (nI u) 0 47) (decide ((nI f) ≤ (nI u))) true = 0 → r = plR (tN (nI u) + 1 - tN (nI f)) σ (tN (nI f)) 0 ∧ rel σ ρ nL) ∧ (¬ goK (inR (nI f) 0 47 && inR (nI u) 0 47) (decide ((nI f) ≤ (nI u))) true = 0 → rel σ ρ nL)) A args s) (F0 m 41 ls []) by
      exact K nL 0 H locs ls (by omega) (by show va_P D vwCl (mw cI cZ h a (st τ1 14 (cpF (σ 12) (τ1 14) 0))) H; rw [cpF_0]; exact hP) hS (lv_sub hl [0, 1, 2, 3] rfl)
    intro n
    induction n with
    | zero =>
        intro k H locs ls hk hP hS hl
        refine lv_iload_n hx hb dX1_plan_41 rfl (lv_at hl 0 rfl) ?_
        refine lv_aload_n hx hb dX1_plan_42 rfl (lv_at hl 1 rfl) ?_
        refine m_get hin hx hb hts hown hK hP rfl 9 (by decide) (v := .int (nI nL)) (congrArg (fun z => some (Value.int z)) (r9.trans hL)) (by decide +kernel) dX1_plan_43 ?_
        refine lv_icmp_ge (tgt := 67) hx hb dX1_plan_46 (by decide) (fun c46 => ?_) (fun c46 => ?_)
        · refine lv_iconst (v := 0) hx hb dX1_plan_67 (by decide) ?_
          refine lv_istore_n (lv' := [(3, .int 0), (0, .ref h), (1, .int (nI f)), (2, .int (nI u))]) hx hb dX1_plan_68 rfl hl (by decide) rfl (fun ls hl => ?_)
          refine lv_iload_n hx hb dX1_plan_69 rfl (lv_at hl 2 rfl) ?_
          refine lv_istore (lv' := [(4, .int (nI f)), (3, .int 0), (0, .ref h), (1, .int (nI f)), (2, .int (nI u))]) hx hb dX1_plan_70 hl (by decide) rfl (fun ls hl => ?_)
          exact K2 (u + 1 - f) f 0 σ (st τ1 14 (cpF (σ 12) (τ1 14) k)) H locs ls (by omega) rfl (by omega) hI hR1 (fun _ _ => rfl) (fun _ _ => rfl) (fun j hj => by show (if j < k then σ 12 j else _) = _; rw [if_pos (by omega)]) h15 hP hS (lv_sub hl [0, 1, 2, 3, 4] rfl)
        · exact absurd (nI_le (by omega) (by omega)) c46
    | succ n ih =>
        intro k H locs ls hk hP hS hl
        have hD : va_D A (mw cI cZ h a (st τ1 14 (cpF (σ 12) (τ1 14) k))) := mD hD
        refine lv_iload_n hx hb dX1_plan_41 rfl (lv_at hl 0 rfl) ?_
        refine lv_aload_n hx hb dX1_plan_42 rfl (lv_at hl 1 rfl) ?_
        refine m_get hin hx hb hts hown hK hP rfl 9 (by decide) (v := .int (nI nL)) (congrArg (fun z => some (Value.int z)) (r9.trans hL)) (by decide +kernel) dX1_plan_43 ?_
        refine lv_icmp_ge (tgt := 67) hx hb dX1_plan_46 (by decide) (fun c46 => ?_) (fun c46 => ?_)
        · exact absurd c46 (nI_ge (by omega) (by omega))
        · refine lv_aload_n hx hb dX1_plan_49 rfl (lv_at hl 1 rfl) ?_
          refine m_get hin hx hb hts hown hK hP rfl 14 (by decide) (v := .ref (a 14)) rfl (by decide +kernel) dX1_plan_50 ?_
          refine lv_iload_n hx hb dX1_plan_53 rfl (lv_at hl 0 rfl) ?_
          refine lv_aload_n hx hb dX1_plan_54 rfl (lv_at hl 1 rfl) ?_
          refine m_get hin hx hb hts hown hK hP rfl 7 (by decide) (v := .ref (a 7)) rfl (by decide +kernel) dX1_plan_55 ?_
          refine lv_iload_n hx hb dX1_plan_58 rfl (lv_at hl 0 rfl) ?_
          refine xa_ld hx hb hK hP 7 0 rfl rfl (j := k) (by omega) (by decide) dX1_plan_59 ?_
          rw [show (st τ1 14 (cpF (σ 12) (τ1 14) k)) 7 k = (σ 12 k) from congrFun r7 k]
          refine xa_st hx hb hK hP hD hS 12 0 rfl rfl (j := k) (by omega) (by decide) dX1_plan_60 (fun H locs hP hD hS => ?_)
          have hP : va_P D vwCl (mw cI cZ h a (st (st τ1 14 (cpF (σ 12) (τ1 14) k)) 14 (upd ((st τ1 14 (cpF (σ 12) (τ1 14) k)) 14) k (σ 12 k)))) H := hP
          have hD : va_D A (mw cI cZ h a (st (st τ1 14 (cpF (σ 12) (τ1 14) k)) 14 (upd ((st τ1 14 (cpF (σ 12) (τ1 14) k)) 14) k (σ 12 k)))) := hD
          have hP : va_P D vwCl (mw cI cZ h a (st τ1 14 (cpF (σ 12) (τ1 14) (k + 1)))) H := by rw [← cpF_up]; exact hP
          refine lv_iinc (v := (nI (k + 1))) (lv' := [(3, .int (nI (k + 1))), (0, .ref h), (1, .int (nI f)), (2, .int (nI u))]) hx hb dX1_plan_61 hl (k := 0) rfl (by exact nI_add _ 1) (by decide) rfl (fun ls hl => ?_)
          refine lv_goto (tgt := 41) hx hb dX1_plan_64 (by decide) ?_
          exact ih (k + 1) H locs ls (by omega) hP hS (lv_sub hl [0, 1, 2, 3] rfl)
  · have hne := go_f c34
    refine lv_iconst (v := 0) hx hb dX1_plan_37 (by decide) ?_
    exact wr_ret (v := 0) τ1 hx hb hr hlocks hH hS hP ⟨h15, fun q => absurd q hne, fun _ => hR1⟩ dX1_plan_38
