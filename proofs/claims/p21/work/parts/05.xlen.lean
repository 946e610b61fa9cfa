/-! MoorWatch: lengths, tensions, pulls. -/
set_option maxHeartbeats 4000000 in
set_option maxRecDepth 100000 in
/-- heightIn: 300, tide and load -/
theorem c_X0_heightIn (l : Launch) (D : va_G) (cI cZ : ClassId) (h : Nat) (a : Nat → Nat) (σ : St) (H : Heap) (t : Nat) (ht48 : t < 48) : roM l yX0_heightIn wsX0_heightIn ({ frames := 0, cells := 0, slots := 0, locals := 0 }) [.ref h, .int (nI t)] D (xw cI cZ h a σ) (tyX cI cZ) H (fun r => r = ht σ t) := by
  refine ro_of (cc := cX0_heightIn) (maxL := 2) (ret := some .int) (by decide) rfl (Nat.le_of_ble_eq_true rfl) ?_
  intro p e s m args below meth c he hH hP hK ls hl
  obtain ⟨hx, hb, hr, hml, hown, hts, hlocks⟩ := he
  have hown : s.vm.findClass RX0 = some m.cls := hown
  have hl : lv_has ls 2 [(0, .ref h), (1, .int (nI t))] := hl
  have hin : ∀ w ∈ u_ws RX0 TX0 15, w ∈ wsX0_heightIn := by decide +kernel
  refine lv_sipush (v := 300) hx hb dX0_heightIn_0 (by decide) ?_
  refine lv_aload_n hx hb dX0_heightIn_3 rfl (lv_at hl 0 rfl) ?_
  refine x_get hin hx hb hts hown hK hP rfl 0 (by decide) (v := .ref (a 0)) rfl (by decide +kernel) dX0_heightIn_4 ?_
  refine lv_iload_n hx hb dX0_heightIn_7 rfl (lv_at hl 1 rfl) ?_
  refine xa_ld hx hb hK hP 1 0 rfl rfl (j := t) ht48 (by decide) dX0_heightIn_8 ?_
  refine lv_iadd hx hb dX0_heightIn_9 ?_
  refine lv_aload_n hx hb dX0_heightIn_10 rfl (lv_at hl 0 rfl) ?_
  refine x_get hin hx hb hts hown hK hP rfl 1 (by decide) (v := .ref (a 1)) rfl (by decide +kernel) dX0_heightIn_11 ?_
  refine lv_iload_n hx hb dX0_heightIn_14 rfl (lv_at hl 1 rfl) ?_
  refine xa_ld hx hb hK hP 2 0 rfl rfl (j := t) ht48 (by decide) dX0_heightIn_15 ?_
  refine lv_iadd hx hb dX0_heightIn_16 ?_
  exact ro_ret (v := ((300 + (σ 0 t)) + (σ 1 t))) hx hb hr hlocks hH rfl dX0_heightIn_17
set_option maxHeartbeats 4000000 in
set_option maxRecDepth 100000 in
/-- lengthOver: the root, bit by bit -/
theorem c_X0_lengthOver (l : Launch) (D : va_G) (W0 : va_W) (tys : List (ClassId × FieldType)) (H : Heap) (x y : Int32) (hxA : inA x) (hyH : inH y) : roM l yX0_lengthOver wsX0_lengthOver ({ frames := 0, cells := 0, slots := 0, locals := 0 }) [.int x, .int y] D W0 tys H (fun r => r = LENs x y) := by
  refine ro_of (cc := cX0_lengthOver) (maxL := 6) (ret := some .int) (by decide) rfl (Nat.le_of_ble_eq_true rfl) ?_
  intro p e s m args below meth c he hH hP hK ls hl
  obtain ⟨hx, hb, hr, hml, hown, hts, hlocks⟩ := he
  have hown : s.vm.findClass RX0 = some m.cls := hown
  have hl : lv_has ls 6 [(0, .int x), (1, .int y)] := hl
  refine lv_iload_n hx hb dX0_lengthOver_0 rfl (lv_at hl 0 rfl) ?_
  refine lv_iload_n hx hb dX0_lengthOver_1 rfl (lv_at hl 0 rfl) ?_
  refine lv_imul hx hb dX0_lengthOver_2 ?_
  refine lv_iload_n hx hb dX0_lengthOver_3 rfl (lv_at hl 1 rfl) ?_
  refine lv_iload_n hx hb dX0_lengthOver_4 rfl (lv_at hl 1 rfl) ?_
  refine lv_imul hx hb dX0_lengthOver_5 ?_
  refine lv_iadd hx hb dX0_lengthOver_6 ?_
  rw [sq2_eq hxA hyH]
  refine lv_istore_n (lv' := [(2, .int (nI (sq2 x y))), (0, .int x), (1, .int y)]) hx hb dX0_lengthOver_7 rfl hl (by decide) rfl (fun ls hl => ?_)
  refine lv_iconst (v := 0) hx hb dX0_lengthOver_8 (by decide) ?_
  refine lv_istore_n (lv' := [(3, .int 0), (2, .int (nI (sq2 x y))), (0, .int x), (1, .int y)]) hx hb dX0_lengthOver_9 rfl hl (by decide) rfl (fun ls hl => ?_)
  refine lv_sipush (v := 8192) hx hb dX0_lengthOver_10 (by decide) ?_
  refine lv_istore (lv' := [(4, .int 8192), (3, .int 0), (2, .int (nI (sq2 x y))), (0, .int x), (1, .int y)]) hx hb dX0_lengthOver_13 hl (by decide) rfl (fun ls hl => ?_)
  have hsq := (sq2_le hxA hyH).1
  suffices K : ∀ (n r : Nat) (ls : Array Slot), r + 2 ^ n ≤ 16384 → r * r ≤ sq2 x y → sq2 x y < (r + 2 ^ n) * (r + 2 ^ n) → lv_has ls 6 [(4, .int (nI (2 ^ n / 2))), (3, .int (nI r)), (2, .int (nI (sq2 x y))), (0, .int x), (1, .int y)] → W p l e _ s m args below meth c H [] 0 0 (roQ below H (fun r => r = LENs x y) args s) (F0 m 15 ls []) by
    exact K 14 0 ls (by decide) (Nat.zero_le _) (by have : (0 + 2 ^ 14) * (0 + 2 ^ 14) = 268435456 := rfl; omega) (lv_sub hl [0, 1, 2, 3, 4] rfl)
  intro n
  induction n with
  | zero =>
    intro r ls h1 h2 h3 hl
    refine lv_iload hx hb dX0_lengthOver_15 (lv_at hl 0 rfl) ?_
    refine lv_if_le (tgt := 47) hx hb dX0_lengthOver_17 (by decide) (fun c17 => ?_) (fun c17 => ?_)
    · refine lv_iload_n hx hb dX0_lengthOver_47 rfl (lv_at hl 1 rfl) ?_
      exact ro_ret (v := (nI r)) hx hb hr hlocks hH (by unfold LENs; rw [isq_uniq h2 h3]) dX0_lengthOver_48
    · exact absurd (show nI (2 ^ 0 / 2) ≤ 0 by decide) c17
  | succ n ih =>
    intro r ls h1 h2 h3 hl
    have e2 : 2 ^ (n + 1) = 2 * 2 ^ n := by rw [Nat.pow_succ]; omega
    have ed : 2 ^ (n + 1) / 2 = 2 ^ n := by omega
    have hp : 0 < 2 ^ n := Nat.pow_pos (by decide)
    rw [ed] at hl
    refine lv_iload hx hb dX0_lengthOver_15 (lv_at hl 0 rfl) ?_
    refine lv_if_le (tgt := 47) hx hb dX0_lengthOver_17 (by decide) (fun c17 => ?_) (fun c17 => ?_)
    · exact absurd c17 (nI_nle hp (by omega))
    · refine lv_iload_n hx hb dX0_lengthOver_20 rfl (lv_at hl 1 rfl) ?_
      refine lv_iload hx hb dX0_lengthOver_21 (lv_at hl 0 rfl) ?_
      refine lv_iadd hx hb dX0_lengthOver_23 ?_
      rw [nI_add]
      refine lv_istore (lv' := [(5, .int (nI (r + 2 ^ n))), (4, .int (nI (2 ^ n))), (3, .int (nI r)), (2, .int (nI (sq2 x y))), (0, .int x), (1, .int y)]) hx hb dX0_lengthOver_24 hl (by decide) rfl (fun ls hl => ?_)
      refine lv_iload hx hb dX0_lengthOver_26 (lv_at hl 0 rfl) ?_
      refine lv_iload hx hb dX0_lengthOver_28 (lv_at hl 0 rfl) ?_
      refine lv_imul hx hb dX0_lengthOver_30 ?_
      rw [pk_mul]
      have hm : (r + 2 ^ n) * (r + 2 ^ n) ≤ 16384 * 16384 := Nat.mul_le_mul (by omega) (by omega)
      refine lv_iload_n hx hb dX0_lengthOver_31 rfl (lv_at hl 3 rfl) ?_
      refine lv_icmp_gt (tgt := 38) hx hb dX0_lengthOver_32 (by decide) (fun c32 => ?_) (fun c32 => ?_)
      · have hgt : sq2 x y < (r + 2 ^ n) * (r + 2 ^ n) := (nI_ltI (by omega) (by omega)).mp c32
        refine lv_iload hx hb dX0_lengthOver_38 (lv_at hl 1 rfl) ?_
        refine lv_iconst (v := 2) hx hb dX0_lengthOver_40 (by decide) ?_
        refine lv_idiv hx hb dX0_lengthOver_41 (by decide) ?_
        rw [show (nI (2 ^ n) / 2 : Int32) = nI (2 ^ n / 2) from pk_div (a := 2 ^ n) (d := 2) (by omega) (by decide) (by decide)]
        refine lv_istore (lv' := [(4, .int (nI (2 ^ n / 2))), (5, .int (nI (r + 2 ^ n))), (3, .int (nI r)), (2, .int (nI (sq2 x y))), (0, .int x), (1, .int y)]) hx hb dX0_lengthOver_42 hl (by decide) rfl (fun ls hl => ?_)
        refine lv_goto (tgt := 15) hx hb dX0_lengthOver_44 (by decide) ?_
        exact ih r ls (by omega) h2 hgt (lv_sub hl [0, 2, 3, 4, 5] rfl)
      · have hle : (r + 2 ^ n) * (r + 2 ^ n) ≤ sq2 x y := Nat.not_lt.mp (fun q => c32 ((nI_ltI (by omega) (by omega)).mpr q))
        refine lv_iload hx hb dX0_lengthOver_35 (lv_at hl 0 rfl) ?_
        refine lv_istore_n (lv' := [(3, .int (nI (r + 2 ^ n))), (5, .int (nI (r + 2 ^ n))), (4, .int (nI (2 ^ n))), (2, .int (nI (sq2 x y))), (0, .int x), (1, .int y)]) hx hb dX0_lengthOver_37 rfl hl (by decide) rfl (fun ls hl => ?_)
        refine lv_iload hx hb dX0_lengthOver_38 (lv_at hl 2 rfl) ?_
        refine lv_iconst (v := 2) hx hb dX0_lengthOver_40 (by decide) ?_
        refine lv_idiv hx hb dX0_lengthOver_41 (by decide) ?_
        rw [show (nI (2 ^ n) / 2 : Int32) = nI (2 ^ n / 2) from pk_div (a := 2 ^ n) (d := 2) (by omega) (by decide) (by decide)]
        refine lv_istore (lv' := [(4, .int (nI (2 ^ n / 2))), (3, .int (nI (r + 2 ^ n))), (5, .int (nI (r + 2 ^ n))), (2, .int (nI (sq2 x y))), (0, .int x), (1, .int y)]) hx hb dX0_lengthOver_42 hl (by decide) rfl (fun ls hl => ?_)
        refine lv_goto (tgt := 15) hx hb dX0_lengthOver_44 (by decide) ?_
        exact ih (r + 2 ^ n) ls (by omega) hle (by rw [show r + 2 ^ n + 2 ^ n = r + 2 ^ (n + 1) by omega]; exact h3) (lv_sub hl [0, 1, 3, 4, 5] rfl)
set_option maxHeartbeats 4000000 in
set_option maxRecDepth 100000 in
/-- lengthWith -/
theorem c_X0_lengthWith (l : Launch) (D : va_G) (cI cZ : ClassId) (h : Nat) (a : Nat → Nat) (σ : St) (H : Heap) {nL nB : Nat} (hI : inv σ nL nB) (j t : Nat) (hj : j < nL) (ht48 : t < 48) (s9 : Int32) (hs9 : inS s9) : roM l yX0_lengthWith wsX0_lengthWith ({ frames := 1, cells := 0, slots := 0, locals := 25 }) [.ref h, .int (nI j), .int (nI t), .int s9] D (xw cI cZ h a σ) (tyX cI cZ) H (fun r => r = len_ σ j t s9) := by
  refine ro_of (cc := cX0_lengthWith) (maxL := 4) (ret := some .int) (by decide) rfl (Nat.le_of_ble_eq_true rfl) ?_
  intro p e s m args below meth c he hH hP hK ls hl
  obtain ⟨hx, hb, hr, hml, hown, hts, hlocks⟩ := he
  have hown : s.vm.findClass RX0 = some m.cls := hown
  have hl : lv_has ls 4 [(0, .ref h), (1, .int (nI j)), (2, .int (nI t)), (3, .int s9)] := hl
  have hin : ∀ w ∈ u_ws RX0 TX0 15, w ∈ wsX0_lengthWith := by decide +kernel
  have hj10 : j < 10 := Nat.lt_of_lt_of_le hj hI.2.1
  refine lv_aload_n hx hb dX0_lengthWith_0 rfl (lv_at hl 0 rfl) ?_
  refine x_get hin hx hb hts hown hK hP rfl 9 (by decide) (v := .ref (a 9)) rfl (by decide +kernel) dX0_lengthWith_1 ?_
  refine lv_iload_n hx hb dX0_lengthWith_4 rfl (lv_at hl 1 rfl) ?_
  refine xa_ld hx hb hK hP 7 0 rfl rfl (j := j) hj10 (by decide) dX0_lengthWith_5 ?_
  refine lv_iload_n hx hb dX0_lengthWith_6 rfl (lv_at hl 3 rfl) ?_
  refine lv_isub hx hb dX0_lengthWith_7 ?_
  refine lv_aload_n hx hb dX0_lengthWith_8 rfl (lv_at hl 0 rfl) ?_
  refine lv_iload_n hx hb dX0_lengthWith_9 rfl (lv_at hl 2 rfl) ?_
  refine ro_callV 1 hx hb hml hown hts hl.1 hP hK 0 0 rfl rfl (As := [.int (nI t)]) (rest := [.int ((σ 9 j) - s9)]) (c_X0_heightIn l D cI cZ h a σ H t ht48) gX0_lengthWith_X0_heightIn rfl rfl rfl (by decide +kernel) ⟨Nat.le_of_ble_eq_true rfl, Nat.le_of_ble_eq_true rfl⟩ rfl rfl (Nat.le_of_ble_eq_true rfl) dX0_lengthWith_10 ⟨Nat.zero_le _, Nat.zero_le _⟩ (fun r1 hr1 => ?_)
  subst hr1
  refine ro_callS 2 hx hb hml hown hts hl.1 hP hK (As := [.int ((σ 9 j) - s9), .int (ht σ t)]) (rest := []) (c_X0_lengthOver l D (xw cI cZ h a σ) (tyX cI cZ) H (σ 9 j - s9) (ht σ t) (inv_al hI hj hs9) (inv_ht hI ht48)) gX0_lengthWith_X0_lengthOver rfl rfl rfl (by decide +kernel) ⟨Nat.le_of_ble_eq_true rfl, Nat.le_of_ble_eq_true rfl⟩ rfl rfl (Nat.le_of_ble_eq_true rfl) dX0_lengthWith_13 ⟨Nat.zero_le _, Nat.zero_le _⟩ (fun r2 hr2 => ?_)
  subst hr2
  exact ro_ret (v := (LENs (σ 9 j - s9) (ht σ t))) hx hb hr hlocks hH rfl dX0_lengthWith_16
set_option maxHeartbeats 4000000 in
set_option maxRecDepth 100000 in
/-- tensionAtLength -/
theorem c_X0_tensionAtLength (l : Launch) (D : va_G) (cI cZ : ClassId) (h : Nat) (a : Nat → Nat) (σ : St) (H : Heap) (j : Nat) (hj10 : j < 10) (z : Int32) : roM l yX0_tensionAtLength wsX0_tensionAtLength ({ frames := 1, cells := 0, slots := 0, locals := 20 }) [.ref h, .int (nI j), .int z] D (xw cI cZ h a σ) (tyX cI cZ) H (fun r => r = tens_ σ j z) := by
  refine ro_of (cc := cX0_tensionAtLength) (maxL := 3) (ret := some .int) (by decide) rfl (Nat.le_of_ble_eq_true rfl) ?_
  intro p e s m args below meth c he hH hP hK ls hl
  obtain ⟨hx, hb, hr, hml, hown, hts, hlocks⟩ := he
  have hown : s.vm.findClass RX0 = some m.cls := hown
  have hl : lv_has ls 3 [(0, .ref h), (1, .int (nI j)), (2, .int z)] := hl
  have hin : ∀ w ∈ u_ws RX0 TX0 15, w ∈ wsX0_tensionAtLength := by decide +kernel
  refine lv_aload_n hx hb dX0_tensionAtLength_0 rfl (lv_at hl 0 rfl) ?_
  refine x_get hin hx hb hts hown hK hP rfl 13 (by decide) (v := .ref (a 13)) rfl (by decide +kernel) dX0_tensionAtLength_1 ?_
  refine lv_iload_n hx hb dX0_tensionAtLength_4 rfl (lv_at hl 1 rfl) ?_
  refine xa_zld hx hb hK hP 11 1 rfl rfl (j := j) hj10 (by decide) dX0_tensionAtLength_5 ?_
  refine lv_if_ne (tgt := 11) hx hb dX0_tensionAtLength_6 (by decide) (fun c6 => ?_) (fun c6 => ?_)
  · refine lv_aload_n hx hb dX0_tensionAtLength_11 rfl (lv_at hl 0 rfl) ?_
    refine x_get hin hx hb hts hown hK hP rfl 10 (by decide) (v := .ref (a 10)) rfl (by decide +kernel) dX0_tensionAtLength_12 ?_
    refine lv_iload_n hx hb dX0_tensionAtLength_15 rfl (lv_at hl 1 rfl) ?_
    refine xa_ld hx hb hK hP 8 0 rfl rfl (j := j) hj10 (by decide) dX0_tensionAtLength_16 ?_
    refine lv_iconst (v := 0) hx hb dX0_tensionAtLength_17 (by decide) ?_
    refine lv_iload_n hx hb dX0_tensionAtLength_18 rfl (lv_at hl 2 rfl) ?_
    refine lv_aload_n hx hb dX0_tensionAtLength_19 rfl (lv_at hl 0 rfl) ?_
    refine x_get hin hx hb hts hown hK hP rfl 12 (by decide) (v := .ref (a 12)) rfl (by decide +kernel) dX0_tensionAtLength_20 ?_
    refine lv_iload_n hx hb dX0_tensionAtLength_23 rfl (lv_at hl 1 rfl) ?_
    refine xa_ld hx hb hK hP 10 0 rfl rfl (j := j) hj10 (by decide) dX0_tensionAtLength_24 ?_
    refine lv_isub hx hb dX0_tensionAtLength_25 ?_
    refine va_mmax hx hb (by rw [hml]; exact hl.1.symm) hown (hts (.methodLink RX0 113 Lib.Math.max.name) (by decide +kernel)) (hts (.static Lib.Math.max.name) (by decide +kernel)) (hts (.initialized "java/lang/Math") (by decide +kernel)) (hts (.code Lib.Math.max.name Lib.Math.max.code 2 (some .int)) (by decide +kernel)) (Nat.le_of_ble_eq_true rfl) (Nat.le_of_ble_eq_true rfl) (Nat.zero_le _) (Nat.zero_le _) dX0_tensionAtLength_26 ?_
    refine lv_imul hx hb dX0_tensionAtLength_29 ?_
    exact ro_ret (v := ((σ 10 j) * (if 0 < z - σ 12 j then z - σ 12 j else 0))) hx hb hr hlocks hH (by show _ = tens_ σ j z; unfold tens_; rw [if_neg c6]) dX0_tensionAtLength_30
  · refine lv_iconst (v := 0) hx hb dX0_tensionAtLength_9 (by decide) ?_
    exact ro_ret (v := 0) hx hb hr hlocks hH (by show _ = tens_ σ j z; unfold tens_; rw [if_pos c6]) dX0_tensionAtLength_10
set_option maxHeartbeats 4000000 in
set_option maxRecDepth 100000 in
/-- pullWith -/
theorem c_X0_pullWith (l : Launch) (D : va_G) (cI cZ : ClassId) (h : Nat) (a : Nat → Nat) (σ : St) (H : Heap) {nL nB : Nat} (hI : inv σ nL nB) (j t : Nat) (hj : j < nL) (ht48 : t < 48) (s9 : Int32) (hs9 : inS s9) : roM l yX0_pullWith wsX0_pullWith ({ frames := 2, cells := 0, slots := 0, locals := 42 }) [.ref h, .int (nI j), .int (nI t), .int s9] D (xw cI cZ h a σ) (tyX cI cZ) H (fun r => r = pull_ σ j t s9) := by
  refine ro_of (cc := cX0_pullWith) (maxL := 8) (ret := some .int) (by decide) rfl (Nat.le_of_ble_eq_true rfl) ?_
  intro p e s m args below meth c he hH hP hK ls hl
  obtain ⟨hx, hb, hr, hml, hown, hts, hlocks⟩ := he
  have hown : s.vm.findClass RX0 = some m.cls := hown
  have hl : lv_has ls 8 [(0, .ref h), (1, .int (nI j)), (2, .int (nI t)), (3, .int s9)] := hl
  have hin : ∀ w ∈ u_ws RX0 TX0 15, w ∈ wsX0_pullWith := by decide +kernel
  have hj10 : j < 10 := Nat.lt_of_lt_of_le hj hI.2.1
  refine lv_aload_n hx hb dX0_pullWith_0 rfl (lv_at hl 0 rfl) ?_
  refine x_get hin hx hb hts hown hK hP rfl 9 (by decide) (v := .ref (a 9)) rfl (by decide +kernel) dX0_pullWith_1 ?_
  refine lv_iload_n hx hb dX0_pullWith_4 rfl (lv_at hl 1 rfl) ?_
  refine xa_ld hx hb hK hP 7 0 rfl rfl (j := j) hj10 (by decide) dX0_pullWith_5 ?_
  refine lv_iload_n hx hb dX0_pullWith_6 rfl (lv_at hl 3 rfl) ?_
  refine lv_isub hx hb dX0_pullWith_7 ?_
  refine lv_istore (lv' := [(4, .int ((σ 9 j) - s9)), (0, .ref h), (1, .int (nI j)), (2, .int (nI t)), (3, .int s9)]) hx hb dX0_pullWith_8 hl (by decide) rfl (fun ls hl => ?_)
  refine lv_iload hx hb dX0_pullWith_10 (lv_at hl 0 rfl) ?_
  refine lv_aload_n hx hb dX0_pullWith_12 rfl (lv_at hl 1 rfl) ?_
  refine lv_iload_n hx hb dX0_pullWith_13 rfl (lv_at hl 3 rfl) ?_
  refine ro_callV 1 hx hb hml hown hts hl.1 hP hK 0 0 rfl rfl (As := [.int (nI t)]) (rest := [.int ((σ 9 j) - s9)]) (c_X0_heightIn l D cI cZ h a σ H t ht48) gX0_pullWith_X0_heightIn rfl rfl rfl (by decide +kernel) ⟨Nat.le_of_ble_eq_true rfl, Nat.le_of_ble_eq_true rfl⟩ rfl rfl (Nat.le_of_ble_eq_true rfl) dX0_pullWith_14 ⟨Nat.zero_le _, Nat.zero_le _⟩ (fun r1 hr1 => ?_)
  subst hr1
  refine ro_callS 2 hx hb hml hown hts hl.1 hP hK (As := [.int ((σ 9 j) - s9), .int (ht σ t)]) (rest := []) (c_X0_lengthOver l D (xw cI cZ h a σ) (tyX cI cZ) H (σ 9 j - s9) (ht σ t) (inv_al hI hj hs9) (inv_ht hI ht48)) gX0_pullWith_X0_lengthOver rfl rfl rfl (by decide +kernel) ⟨Nat.le_of_ble_eq_true rfl, Nat.le_of_ble_eq_true rfl⟩ rfl rfl (Nat.le_of_ble_eq_true rfl) dX0_pullWith_17 ⟨Nat.zero_le _, Nat.zero_le _⟩ (fun r2 hr2 => ?_)
  subst hr2
  rw [show LENs (σ 9 j - s9) (ht σ t) = len_ σ j t s9 from rfl]
  refine lv_istore (lv' := [(5, .int (len_ σ j t s9)), (4, .int ((σ 9 j) - s9)), (0, .ref h), (1, .int (nI j)), (2, .int (nI t)), (3, .int s9)]) hx hb dX0_pullWith_20 hl (by decide) rfl (fun ls hl => ?_)
  refine lv_iload hx hb dX0_pullWith_22 (lv_at hl 0 rfl) ?_
  refine lv_if_gt (tgt := 29) hx hb dX0_pullWith_24 (by decide) (fun c24 => ?_) (fun c24 => ?_)
  · have hn0 : ¬ len_ σ j t s9 ≤ 0 := fun q => absurd c24 (Int32.not_lt.mpr q)
    refine lv_aload_n hx hb dX0_pullWith_29 rfl (lv_at hl 2 rfl) ?_
    refine lv_iload_n hx hb dX0_pullWith_30 rfl (lv_at hl 3 rfl) ?_
    refine lv_iload hx hb dX0_pullWith_31 (lv_at hl 0 rfl) ?_
    refine ro_callV 2 hx hb hml hown hts hl.1 hP hK 0 0 rfl rfl (As := [.int (nI j), .int (len_ σ j t s9)]) (rest := []) (c_X0_tensionAtLength l D cI cZ h a σ H j hj10 (len_ σ j t s9)) gX0_pullWith_X0_tensionAtLength rfl rfl rfl (by decide +kernel) ⟨Nat.le_of_ble_eq_true rfl, Nat.le_of_ble_eq_true rfl⟩ rfl rfl (Nat.le_of_ble_eq_true rfl) dX0_pullWith_33 ⟨Nat.zero_le _, Nat.zero_le _⟩ (fun r3 hr3 => ?_)
    subst hr3
    refine lv_i2l hx hb dX0_pullWith_36 rfl ?_
    refine lv_iload hx hb dX0_pullWith_37 (lv_at hl 1 rfl) ?_
    refine lv_i2l hx hb dX0_pullWith_39 rfl ?_
    refine lv_lmul hx hb dX0_pullWith_40 ?_
    refine lv_lstore (lv' := [(6, .long ((tens_ σ j (len_ σ j t s9)).toInt64 * ((σ 9 j) - s9).toInt64)), (5, .int (len_ σ j t s9)), (4, .int ((σ 9 j) - s9)), (0, .ref h), (1, .int (nI j)), (2, .int (nI t)), (3, .int s9)]) hx hb dX0_pullWith_41 hl (by decide) rfl (fun ls hl => ?_)
    refine lv_lload hx hb dX0_pullWith_43 (lv_at hl 0 rfl) ?_
    refine lv_iload hx hb dX0_pullWith_45 (lv_at hl 1 rfl) ?_
    refine lv_i2l hx hb dX0_pullWith_47 rfl ?_
    have hne : ¬ (len_ σ j t s9).toInt64 = 0 := by
      obtain ⟨n, en, hn⟩ := inv_len hI hj ht48 hs9
      rw [en] at hn0 ⊢
      rw [nI_l (by omega)]
      intro q
      have q2 := congrArg Int64.toInt q
      rw [lN_toInt (by omega)] at q2
      have q3 : n = 0 := by have : (0 : Int64).toInt = 0 := rfl; omega
      subst q3; exact hn0 (by decide)
    refine lv_ldiv hx hb dX0_pullWith_48 hne ?_
    refine lv_l2i hx hb dX0_pullWith_49 rfl ?_
    exact ro_ret (v := (((tens_ σ j (len_ σ j t s9)).toInt64 * ((σ 9 j) - s9).toInt64) / (len_ σ j t s9).toInt64).toInt32) hx hb hr hlocks hH (by show _ = pull_ σ j t s9; unfold pull_; rw [if_neg hn0]; rfl) dX0_pullWith_50
  · refine lv_iconst (v := 0) hx hb dX0_pullWith_27 (by decide) ?_
    exact ro_ret (v := 0) hx hb hr hlocks hH (by show _ = pull_ σ j t s9; unfold pull_; rw [if_pos (Int32.not_lt.mp c24)]) dX0_pullWith_28
