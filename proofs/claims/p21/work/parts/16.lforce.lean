/-! The law: root, away, length, tension, force. -/
set_option maxHeartbeats 4000000 in
set_option maxRecDepth 100000 in
theorem c_L_root (l : Launch) (D : va_G) (W0 : va_W) (tys : List (ClassId × FieldType)) (H : Heap) (N : Nat) (hN : N ≤ 104530000) : roM l yL_root wsL_root ({ frames := 0, cells := 0, slots := 0, locals := 0 }) [.long (lN N)] D W0 tys H (fun r => r = nI (isq N)) := by
  refine ro_of (cc := cL_root) (maxL := 6) (ret := some .int) (by decide) rfl (Nat.le_of_ble_eq_true rfl) ?_
  intro p e s m args below meth c he hH hP hK ls hl
  obtain ⟨hx, hb, hr, hml, hown, hts, hlocks⟩ := he
  have hown : s.vm.findClass RL = some m.cls := hown
  have hl : lv_has ls 6 [(0, .long (lN N))] := hl
  refine lv_lconst (v := 0) hx hb dL_root_0 (by decide) ?_
  refine lv_lstore_n (lv' := [(2, .long 0), (0, .long (lN N))]) hx hb dL_root_1 rfl hl (by decide) rfl (fun ls hl => ?_)
  refine lv_ldc2 (v := (16384)) hx hb hown (hts (.constantLong RL 9 (16384)) (by decide +kernel)) dL_root_2 ?_
  refine lv_lstore (lv' := [(4, .long 16384), (2, .long 0), (0, .long (lN N))]) hx hb dL_root_5 hl (by decide) rfl (fun ls hl => ?_)
  suffices K : ∀ (n r : Nat) (ls : Array Slot), r + 2 ^ n ≤ 32768 → r * r ≤ N → N < (r + 2 ^ n) * (r + 2 ^ n) → lv_has ls 6 [(4, .long (lN (2 ^ n / 2))), (2, .long (lN r)), (0, .long (lN N))] → W p l e _ s m args below meth c H [] 0 0 (roQ below H (fun r => r = nI (isq N)) args s) (F0 m 7 ls []) by
    exact K 15 0 ls (by decide) (Nat.zero_le _) (by have : (0 + 2 ^ 15) * (0 + 2 ^ 15) = 1073741824 := rfl; omega) (lv_sub hl [0, 1, 2] rfl)
  intro n
  induction n with
  | zero =>
    intro r ls h1 h2 h3 hl
    refine lv_lload hx hb dL_root_7 (lv_at hl 0 rfl) ?_
    refine lv_lconst (v := 0) hx hb dL_root_9 (by decide) ?_
    refine W.lcmp hx hb dL_root_10 ?_
    refine lv_if_le (tgt := 48) hx hb dL_root_11 (by decide) (fun c11 => ?_) (fun c11 => ?_)
    · refine lv_lload_n hx hb dL_root_48 rfl (lv_at hl 1 rfl) ?_
      refine lv_l2i hx hb dL_root_49 (lN_i r) ?_
      exact ro_ret (v := (nI r)) hx hb hr hlocks hH (by rw [isq_uniq h2 h3]) dL_root_50
    · exact absurd ((lg_cmp_le _ _).mpr (show lN (2 ^ 0 / 2) ≤ 0 by decide)) c11
  | succ n ih =>
    intro r ls h1 h2 h3 hl
    have e2 : 2 ^ (n + 1) = 2 * 2 ^ n := by rw [Nat.pow_succ]; omega
    have ed : 2 ^ (n + 1) / 2 = 2 ^ n := by omega
    have hp : 0 < 2 ^ n := Nat.pow_pos (by decide)
    rw [ed] at hl
    refine lv_lload hx hb dL_root_7 (lv_at hl 0 rfl) ?_
    refine lv_lconst (v := 0) hx hb dL_root_9 (by decide) ?_
    refine W.lcmp hx hb dL_root_10 ?_
    refine lv_if_le (tgt := 48) hx hb dL_root_11 (by decide) (fun c11 => ?_) (fun c11 => ?_)
    · exact absurd ((lg_cmp_le _ _).mp c11) (fun w => by have w2 := (pk_lLE (a := 2 ^ n) (b := 0) (by omega) (by omega)).mp w; omega)
    · refine lv_lload_n hx hb dL_root_14 rfl (lv_at hl 1 rfl) ?_
      refine lv_lload_n hx hb dL_root_15 rfl (lv_at hl 1 rfl) ?_
      refine lv_lload hx hb dL_root_16 (lv_at hl 0 rfl) ?_
      refine lv_ladd hx hb dL_root_18 ?_
      refine lv_topl (fun y9 e9 => ?_)
      rw [show y9 = (lN (r + 2 ^ n)) from e9.trans (lN_add _ _)]
      refine lv_lload_n hx hb dL_root_19 rfl (lv_at hl 1 rfl) ?_
      refine lv_lload hx hb dL_root_20 (lv_at hl 0 rfl) ?_
      refine lv_ladd hx hb dL_root_22 ?_
      refine lv_topl (fun y9 e9 => ?_)
      rw [show y9 = (lN (r + 2 ^ n)) from e9.trans (lN_add _ _)]
      refine lv_lmul hx hb dL_root_23 ?_
      refine lv_topl (fun y9 e9 => ?_)
      rw [show y9 = (lN ((r + 2 ^ n) * (r + 2 ^ n))) from e9.trans (lN_mul _ _)]
      have hm : (r + 2 ^ n) * (r + 2 ^ n) ≤ 32768 * 32768 := Nat.mul_le_mul (by omega) (by omega)
      refine lv_lload_n hx hb dL_root_24 rfl (lv_at hl 2 rfl) ?_
      refine W.lcmp hx hb dL_root_25 ?_
      refine lv_if_gt (tgt := 34) hx hb dL_root_26 (by decide) (fun c26 => ?_) (fun c26 => ?_)
      · have hgt : N < (r + 2 ^ n) * (r + 2 ^ n) := (pk_lLT (by omega) (by omega)).mp ((lg_cmp_gt _ _).mp c26)
        refine lv_lconst (v := 0) hx hb dL_root_34 (by decide) ?_
        refine lv_ladd hx hb dL_root_35 ?_
        refine lv_topl (fun y9 e9 => ?_)
        rw [show y9 = (lN r) from e9.trans (lN_add r 0)]
        refine lv_lstore_n (lv' := [(2, .long (lN r)), (4, .long (lN (2 ^ n))), (0, .long (lN N))]) hx hb dL_root_36 rfl hl (by decide) rfl (fun ls hl => ?_)
        refine lv_lload hx hb dL_root_37 (lv_at hl 1 rfl) ?_
        refine lv_ldc2 (v := (2)) hx hb hown (hts (.constantLong RL 11 (2)) (by decide +kernel)) dL_root_39 ?_
        refine lv_ldiv hx hb dL_root_42 (by decide) ?_
        refine lv_topl (fun y9 e9 => ?_)
        rw [show y9 = (lN (2 ^ n / 2)) from e9.trans (pk_lDiv (a := 2 ^ n) (b := 2) (by omega) (by omega) (by omega))]
        refine lv_lstore (lv' := [(4, .long (lN (2 ^ n / 2))), (2, .long (lN r)), (0, .long (lN N))]) hx hb dL_root_43 hl (by decide) rfl (fun ls hl => ?_)
        refine lv_goto (tgt := 7) hx hb dL_root_45 (by decide) ?_
        exact ih r ls (by omega) h2 hgt (lv_sub hl [0, 1, 2] rfl)
      · have hle : (r + 2 ^ n) * (r + 2 ^ n) ≤ N := Nat.not_lt.mp (fun v => c26 ((lg_cmp_gt _ _).mpr ((pk_lLT (by omega) (by omega)).mpr v)))
        refine lv_lload hx hb dL_root_29 (lv_at hl 0 rfl) ?_
        refine lv_goto (tgt := 35) hx hb dL_root_31 (by decide) ?_
        refine lv_ladd hx hb dL_root_35 ?_
        refine lv_topl (fun y9 e9 => ?_)
        rw [show y9 = (lN (r + 2 ^ n)) from e9.trans (lN_add _ _)]
        refine lv_lstore_n (lv' := [(2, .long (lN (r + 2 ^ n))), (4, .long (lN (2 ^ n))), (0, .long (lN N))]) hx hb dL_root_36 rfl hl (by decide) rfl (fun ls hl => ?_)
        refine lv_lload hx hb dL_root_37 (lv_at hl 1 rfl) ?_
        refine lv_ldc2 (v := (2)) hx hb hown (hts (.constantLong RL 11 (2)) (by decide +kernel)) dL_root_39 ?_
        refine lv_ldiv hx hb dL_root_42 (by decide) ?_
        refine lv_topl (fun y9 e9 => ?_)
        rw [show y9 = (lN (2 ^ n / 2)) from e9.trans (pk_lDiv (a := 2 ^ n) (b := 2) (by omega) (by omega) (by omega))]
        refine lv_lstore (lv' := [(4, .long (lN (2 ^ n / 2))), (2, .long (lN (r + 2 ^ n))), (0, .long (lN N))]) hx hb dL_root_43 hl (by decide) rfl (fun ls hl => ?_)
        refine lv_goto (tgt := 7) hx hb dL_root_45 (by decide) ?_
        exact ih (r + 2 ^ n) ls (by omega) hle (by rw [show r + 2 ^ n + 2 ^ n = r + 2 ^ (n + 1) by omega]; exact h3) (lv_sub hl [0, 1, 2] rfl)
set_option maxHeartbeats 4000000 in
set_option maxRecDepth 100000 in
theorem c_L_away (l : Launch) (D : va_G) (cI : ClassId) (ab al am : Nat) (bf lf mf : Nat → Int32) (H : Heap) (j k : Nat) (hj : j < 6) (hk : k < 4) (ek : lf (6 * j + 1) = nI k) (s9 : Int32) : roM l yL_away wsL_away ({ frames := 0, cells := 0, slots := 0, locals := 0 }) [.ref ab, .ref al, .int (nI j), .int s9] D (lw3 cI ab al am bf lf mf) (tyI cI) H (fun r => r = bf (2 * k) - lf (6 * j) - s9) := by
  refine ro_of (cc := cL_away) (maxL := 4) (ret := some .int) (by decide) rfl (Nat.le_of_ble_eq_true rfl) ?_
  intro p e s m args below meth c he hH hP hK ls hl
  obtain ⟨hx, hb, hr, hml, hown, hts, hlocks⟩ := he
  have hown : s.vm.findClass RL = some m.cls := hown
  have hl : lv_has ls 4 [(0, .ref ab), (1, .ref al), (2, .int (nI j)), (3, .int s9)] := hl
  refine lv_aload_n hx hb dL_away_0 rfl (lv_at hl 0 rfl) ?_
  refine lv_iconst (v := 2) hx hb dL_away_1 (by decide) ?_
  refine lv_aload_n hx hb dL_away_2 rfl (lv_at hl 1 rfl) ?_
  refine lv_bipush (v := 6) hx hb dL_away_3 (by decide) ?_
  refine lv_iload_n hx hb dL_away_5 rfl (lv_at hl 2 rfl) ?_
  refine lv_imul hx hb dL_away_6 ?_
  refine lv_topi (fun y9 e9 => ?_)
  rw [show y9 = (nI (6 * j)) from e9.trans (pk_mul 6 j)]
  refine lv_iconst (v := 1) hx hb dL_away_7 (by decide) ?_
  refine lv_iadd hx hb dL_away_8 ?_
  refine lv_topi (fun y9 e9 => ?_)
  rw [show y9 = (nI (6 * j + 1)) from e9.trans (nI_add (6 * j) 1)]
  refine xa_ld hx hb hK hP 1 0 rfl rfl (j := (6 * j + 1)) (by omega) (by decide) dL_away_9 ?_
  rw [show (lf (6 * j + 1)) = (nI k) from ek]
  refine lv_imul hx hb dL_away_10 ?_
  refine lv_topi (fun y9 e9 => ?_)
  rw [show y9 = (nI (2 * k)) from e9.trans (pk_mul 2 k)]
  refine xa_ld hx hb hK hP 0 0 rfl rfl (j := (2 * k)) (by omega) (by decide) dL_away_11 ?_
  refine lv_aload_n hx hb dL_away_12 rfl (lv_at hl 1 rfl) ?_
  refine lv_bipush (v := 6) hx hb dL_away_13 (by decide) ?_
  refine lv_iload_n hx hb dL_away_15 rfl (lv_at hl 2 rfl) ?_
  refine lv_imul hx hb dL_away_16 ?_
  refine lv_topi (fun y9 e9 => ?_)
  rw [show y9 = (nI (6 * j)) from e9.trans (pk_mul 6 j)]
  refine xa_ld hx hb hK hP 1 0 rfl rfl (j := (6 * j)) (by omega) (by decide) dL_away_17 ?_
  refine lv_isub hx hb dL_away_18 ?_
  refine lv_iload_n hx hb dL_away_19 rfl (lv_at hl 3 rfl) ?_
  refine lv_isub hx hb dL_away_20 ?_
  exact ro_ret (v := (((bf (2 * k)) - (lf (6 * j))) - s9)) hx hb hr hlocks hH rfl dL_away_21
set_option maxHeartbeats 4000000 in
set_option maxRecDepth 100000 in
theorem c_L_length (l : Launch) (D : va_G) (cI : ClassId) (ab al am : Nat) (bf lf mf : Nat → Int32) (H : Heap) (j k : Nat) (hj : j < 6) (hk : k < 4) (ek : lf (6 * j + 1) = nI k) (hh9 s9 : Int32) (hA : inA (bf (2 * k) - lf (6 * j) - s9)) (hY : inH hh9) : roM l yL_length wsL_length ({ frames := 1, cells := 0, slots := 0, locals := 25 }) [.ref ab, .ref al, .int (nI j), .int hh9, .int s9] D (lw3 cI ab al am bf lf mf) (tyI cI) H (fun r => r = LENs (bf (2 * k) - lf (6 * j) - s9) hh9) := by
  refine ro_of (cc := cL_length) (maxL := 7) (ret := some .int) (by decide) rfl (Nat.le_of_ble_eq_true rfl) ?_
  intro p e s m args below meth c he hH hP hK ls hl
  obtain ⟨hx, hb, hr, hml, hown, hts, hlocks⟩ := he
  have hown : s.vm.findClass RL = some m.cls := hown
  have hl : lv_has ls 7 [(0, .ref ab), (1, .ref al), (2, .int (nI j)), (3, .int hh9), (4, .int s9)] := hl
  refine lv_aload_n hx hb dL_length_0 rfl (lv_at hl 0 rfl) ?_
  refine lv_aload_n hx hb dL_length_1 rfl (lv_at hl 1 rfl) ?_
  refine lv_iload_n hx hb dL_length_2 rfl (lv_at hl 2 rfl) ?_
  refine lv_iload hx hb dL_length_3 (lv_at hl 4 rfl) ?_
  refine ro_callS 4 hx hb hml hown hts hl.1 hP hK (As := [.ref ab, .ref al, .int (nI j), .int s9]) (rest := []) (c_L_away l D cI ab al am bf lf mf H j k hj hk ek s9) gL_length_L_away rfl rfl rfl (by decide +kernel) ⟨Nat.le_of_ble_eq_true rfl, Nat.le_of_ble_eq_true rfl⟩ rfl rfl (Nat.le_of_ble_eq_true rfl) dL_length_5 ⟨Nat.zero_le _, Nat.zero_le _⟩ (fun r1 hr1 => ?_)
  subst hr1
  refine lv_i2l hx hb dL_length_8 rfl ?_
  refine lv_lstore (lv' := [(5, .long (bf (2 * k) - lf (6 * j) - s9).toInt64), (0, .ref ab), (1, .ref al), (2, .int (nI j)), (3, .int hh9), (4, .int s9)]) hx hb dL_length_9 hl (by decide) rfl (fun ls hl => ?_)
  refine lv_lload hx hb dL_length_11 (lv_at hl 0 rfl) ?_
  refine lv_lload hx hb dL_length_13 (lv_at hl 0 rfl) ?_
  refine lv_lmul hx hb dL_length_15 ?_
  refine lv_iload_n hx hb dL_length_16 rfl (lv_at hl 4 rfl) ?_
  refine lv_i2l hx hb dL_length_17 rfl ?_
  refine lv_iload_n hx hb dL_length_18 rfl (lv_at hl 4 rfl) ?_
  refine lv_i2l hx hb dL_length_19 rfl ?_
  refine lv_lmul hx hb dL_length_20 ?_
  refine lv_ladd hx hb dL_length_21 ?_
  refine lv_topl (fun y9 e9 => ?_)
  rw [show y9 = (lN (sq2 (bf (2 * k) - lf (6 * j) - s9) hh9)) from e9.trans (sq64 hA hY)]
  refine ro_callS 1 hx hb hml hown hts hl.1 hP hK (As := [.long (lN (sq2 (bf (2 * k) - lf (6 * j) - s9) hh9))]) (rest := []) (c_L_root l D (lw3 cI ab al am bf lf mf) (tyI cI) H (sq2 (bf (2 * k) - lf (6 * j) - s9) hh9) (sq2_le hA hY).1) gL_length_L_root rfl rfl rfl (by decide +kernel) ⟨Nat.le_of_ble_eq_true rfl, Nat.le_of_ble_eq_true rfl⟩ rfl rfl (Nat.le_of_ble_eq_true rfl) dL_length_22 ⟨Nat.zero_le _, Nat.zero_le _⟩ (fun r2 hr2 => ?_)
  subst hr2
  exact ro_ret (v := (nI (isq (sq2 (bf (2 * k) - lf (6 * j) - s9) hh9)))) hx hb hr hlocks hH rfl dL_length_25
set_option maxHeartbeats 4000000 in
set_option maxRecDepth 100000 in
theorem c_L_len (l : Launch) (D : va_G) (cI : ClassId) (ab al am : Nat) (bf lf mf : Nat → Int32) (H : Heap) (σ : St) {nL nB : Nat} (hI : inv σ nL nB) (hR : lrel σ nL nB bf lf mf) (j t : Nat) (hj : j < nL) (ht48 : t < 48) (s9 : Int32) (hs9 : inS s9) : roM l yL_length wsL_length ({ frames := 1, cells := 0, slots := 0, locals := 25 }) [.ref ab, .ref al, .int (nI j), .int (ht σ t), .int s9] D (lw3 cI ab al am bf lf mf) (tyI cI) H (fun r => r = len_ σ j t s9) := by
  obtain ⟨k, hk, ek, es⟩ := lrel_ln hR hj
  have hA : inA (bf (2 * k) - lf (6 * j) - s9) := by rw [es]; exact inv_al hI hj hs9
  have hL6 := hR.1.1
  have h := c_L_length l D cI ab al am bf lf mf H j k (by omega) hk ek (ht σ t) s9 hA (inv_ht hI ht48)
  rw [es] at h
  exact h
set_option maxHeartbeats 4000000 in
set_option maxRecDepth 100000 in
theorem c_L_awy (l : Launch) (D : va_G) (cI : ClassId) (ab al am : Nat) (bf lf mf : Nat → Int32) (H : Heap) (σ : St) {nL nB : Nat} (hI : inv σ nL nB) (hR : lrel σ nL nB bf lf mf) (j : Nat) (hj : j < nL) (s9 : Int32) : roM l yL_away wsL_away ({ frames := 0, cells := 0, slots := 0, locals := 0 }) [.ref ab, .ref al, .int (nI j), .int s9] D (lw3 cI ab al am bf lf mf) (tyI cI) H (fun r => r = σ 9 j - s9) := by
  obtain ⟨k, hk, ek, es⟩ := lrel_ln hR hj
  have hL6 := hR.1.1
  have h := c_L_away l D cI ab al am bf lf mf H j k (by omega) hk ek s9
  rw [es] at h
  exact h
set_option maxHeartbeats 4000000 in
set_option maxRecDepth 100000 in
theorem c_L_tension (l : Launch) (D : va_G) (cI : ClassId) (ab al am : Nat) (bf lf mf : Nat → Int32) (H : Heap) (σ : St) {nL nB : Nat} (hI : inv σ nL nB) (hR : lrel σ nL nB bf lf mf) (j t : Nat) (hj : j < nL) (ht48 : t < 48) (s9 : Int32) (hs9 : inS s9) : roM l yL_tension wsL_tension ({ frames := 2, cells := 0, slots := 0, locals := 51 }) [.ref ab, .ref al, .int (nI j), .int (ht σ t), .int s9] D (lw3 cI ab al am bf lf mf) (tyI cI) H (fun r => r = tn_ σ j t s9) := by
  refine ro_of (cc := cL_tension) (maxL := 6) (ret := some .int) (by decide) rfl (Nat.le_of_ble_eq_true rfl) ?_
  intro p e s m args below meth c he hH hP hK ls hl
  obtain ⟨hx, hb, hr, hml, hown, hts, hlocks⟩ := he
  have hown : s.vm.findClass RL = some m.cls := hown
  obtain ⟨⟨hL6, hB4⟩, ⟨hm0, hm1, hm2⟩, hRb, hRl⟩ := id hR
  have hl : lv_has ls 6 [(0, .ref ab), (1, .ref al), (2, .int (nI j)), (3, .int (ht σ t)), (4, .int s9)] := hl
  obtain ⟨-, e2, e3, e4, e5⟩ := hRl j hj
  obtain ⟨n9, en9, hn9⟩ := inv_len hI hj ht48 hs9
  obtain ⟨-, -, -, -, ⟨z1, z2⟩, -⟩ := hI.2.2.2.2.2.2 j hj
  have ed : (len_ σ j t s9 - σ 12 j).toInt = (n9 : Int) - (σ 12 j).toInt := by rw [Jvm.Kit.i32_sub (by rw [en9, nI_ti (by omega)]; omega) (by rw [en9, nI_ti (by omega)]; omega), en9, nI_ti (by omega)]
  refine lv_aload_n hx hb dL_tension_0 rfl (lv_at hl 0 rfl) ?_
  refine lv_aload_n hx hb dL_tension_1 rfl (lv_at hl 1 rfl) ?_
  refine lv_iload_n hx hb dL_tension_2 rfl (lv_at hl 2 rfl) ?_
  refine lv_iload_n hx hb dL_tension_3 rfl (lv_at hl 3 rfl) ?_
  refine lv_iload hx hb dL_tension_4 (lv_at hl 4 rfl) ?_
  refine ro_callS 5 hx hb hml hown hts hl.1 hP hK (As := [.ref ab, .ref al, .int (nI j), .int (ht σ t), .int s9]) (rest := []) (c_L_len l D cI ab al am bf lf mf H σ hI hR j t hj ht48 s9 hs9) gL_tension_L_length rfl rfl rfl (by decide +kernel) ⟨Nat.le_of_ble_eq_true rfl, Nat.le_of_ble_eq_true rfl⟩ rfl rfl (Nat.le_of_ble_eq_true rfl) dL_tension_6 ⟨Nat.zero_le _, Nat.zero_le _⟩ (fun r1 hr1 => ?_)
  subst hr1
  refine lv_aload_n hx hb dL_tension_9 rfl (lv_at hl 1 rfl) ?_
  refine lv_bipush (v := 6) hx hb dL_tension_10 (by decide) ?_
  refine lv_iload_n hx hb dL_tension_12 rfl (lv_at hl 2 rfl) ?_
  refine lv_imul hx hb dL_tension_13 ?_
  refine lv_topi (fun y9 e9 => ?_)
  rw [show y9 = (nI (6 * j)) from e9.trans (pk_mul 6 j)]
  refine lv_iconst (v := 4) hx hb dL_tension_14 (by decide) ?_
  refine lv_iadd hx hb dL_tension_15 ?_
  refine lv_topi (fun y9 e9 => ?_)
  rw [show y9 = (nI (6 * j + 4)) from e9.trans (nI_add (6 * j) 4)]
  refine xa_ld hx hb hK hP 1 0 rfl rfl (j := (6 * j + 4)) (by omega) (by decide) dL_tension_16 ?_
  rw [show (lf (6 * j + 4)) = (σ 12 j) from e4]
  refine lv_isub hx hb dL_tension_17 ?_
  refine lv_istore (lv' := [(5, .int ((len_ σ j t s9) - (σ 12 j))), (0, .ref ab), (1, .ref al), (2, .int (nI j)), (3, .int (ht σ t)), (4, .int s9)]) hx hb dL_tension_18 hl (by decide) rfl (fun ls hl => ?_)
  refine lv_aload_n hx hb dL_tension_20 rfl (lv_at hl 2 rfl) ?_
  refine lv_bipush (v := 6) hx hb dL_tension_21 (by decide) ?_
  refine lv_iload_n hx hb dL_tension_23 rfl (lv_at hl 3 rfl) ?_
  refine lv_imul hx hb dL_tension_24 ?_
  refine lv_topi (fun y9 e9 => ?_)
  rw [show y9 = (nI (6 * j)) from e9.trans (pk_mul 6 j)]
  refine lv_iconst (v := 5) hx hb dL_tension_25 (by decide) ?_
  refine lv_iadd hx hb dL_tension_26 ?_
  refine lv_topi (fun y9 e9 => ?_)
  rw [show y9 = (nI (6 * j + 5)) from e9.trans (nI_add (6 * j) 5)]
  refine xa_ld hx hb hK hP 1 0 rfl rfl (j := (6 * j + 5)) (by omega) (by decide) dL_tension_27 ?_
  refine lv_iconst (v := 1) hx hb dL_tension_28 (by decide) ?_
  refine lv_icmp_eq (tgt := 37) hx hb dL_tension_29 (by decide) (fun c29 => ?_) (fun c29 => ?_)
  · have q0 : σ 13 j = 0 := e5.elim (fun q => absurd (q.1.symm.trans c29) (by decide)) (fun q => q.2)
    refine lv_iconst (v := 0) hx hb dL_tension_37 (by decide) ?_
    refine lv_goto (tgt := 52) hx hb dL_tension_38 (by decide) ?_
    exact ro_ret (v := 0) hx hb hr hlocks hH (by show (0 : Int32) = tens_ σ j (len_ σ j t s9); unfold tens_; rw [if_pos q0]) dL_tension_52
  · have q1 : ¬ σ 13 j = 0 := e5.elim (fun q => by rw [q.2]; decide) (fun q => absurd q.1 c29)
    refine lv_iload hx hb dL_tension_32 (lv_at hl 0 rfl) ?_
    refine lv_if_gt (tgt := 41) hx hb dL_tension_34 (by decide) (fun c34 => ?_) (fun c34 => ?_)
    · refine lv_aload_n hx hb dL_tension_41 rfl (lv_at hl 2 rfl) ?_
      refine lv_bipush (v := 6) hx hb dL_tension_42 (by decide) ?_
      refine lv_iload_n hx hb dL_tension_44 rfl (lv_at hl 3 rfl) ?_
      refine lv_imul hx hb dL_tension_45 ?_
      refine lv_topi (fun y9 e9 => ?_)
      rw [show y9 = (nI (6 * j)) from e9.trans (pk_mul 6 j)]
      refine lv_iconst (v := 2) hx hb dL_tension_46 (by decide) ?_
      refine lv_iadd hx hb dL_tension_47 ?_
      refine lv_topi (fun y9 e9 => ?_)
      rw [show y9 = (nI (6 * j + 2)) from e9.trans (nI_add (6 * j) 2)]
      refine xa_ld hx hb hK hP 1 0 rfl rfl (j := (6 * j + 2)) (by omega) (by decide) dL_tension_48 ?_
      rw [show (lf (6 * j + 2)) = (σ 10 j) from e2]
      refine lv_iload hx hb dL_tension_49 (lv_at hl 0 rfl) ?_
      refine lv_imul hx hb dL_tension_51 ?_
      exact ro_ret (v := ((σ 10 j) * ((len_ σ j t s9) - (σ 12 j)))) hx hb hr hlocks hH (by show _ = tens_ σ j (len_ σ j t s9); unfold tens_; rw [if_neg q1, if_pos c34]) dL_tension_52
    · refine lv_iconst (v := 0) hx hb dL_tension_37 (by decide) ?_
      refine lv_goto (tgt := 52) hx hb dL_tension_38 (by decide) ?_
      exact ro_ret (v := 0) hx hb hr hlocks hH (by show (0 : Int32) = tens_ σ j (len_ σ j t s9); unfold tens_; rw [if_neg q1, if_neg c34, Int32.mul_zero]) dL_tension_52
set_option maxHeartbeats 4000000 in
set_option maxRecDepth 100000 in
theorem c_L_force (l : Launch) (D : va_G) (cI : ClassId) (ab al am : Nat) (bf lf mf : Nat → Int32) (H : Heap) (σ : St) {nL nB : Nat} (hI : inv σ nL nB) (hR : lrel σ nL nB bf lf mf) (t : Nat) (ht48 : t < 48) (s9 : Int32) (hs9 : inS s9) : roM l yL_force wsL_force ({ frames := 3, cells := 0, slots := 0, locals := 76 }) [.ref ab, .ref al, .ref am, .int (ht σ t), .int (σ 2 t), .int s9] D (lw3 cI ab al am bf lf mf) (tyI cI) H (fun r => r = frc σ t s9) := by
  refine ro_of (cc := cL_force) (maxL := 15) (ret := some .int) (by decide) rfl (Nat.le_of_ble_eq_true rfl) ?_
  intro p e s m args below meth c he hH hP hK ls hl
  obtain ⟨hx, hb, hr, hml, hown, hts, hlocks⟩ := he
  have hown : s.vm.findClass RL = some m.cls := hown
  obtain ⟨⟨hL6, hB4⟩, ⟨hm0, hm1, hm2⟩, hRb, hRl⟩ := id hR
  have hl : lv_has ls 15 [(0, .ref ab), (1, .ref al), (2, .ref am), (3, .int (ht σ t)), (4, .int (σ 2 t)), (5, .int s9)] := hl
  refine lv_aload_n hx hb dL_force_0 rfl (lv_at hl 2 rfl) ?_
  refine lv_iconst (v := 2) hx hb dL_force_1 (by decide) ?_
  refine xa_ld hx hb hK hP 2 0 rfl rfl (j := 2) (by omega) (by decide) dL_force_2 ?_
  rw [show (mf 2) = (σ 3 0) from hm2]
  refine lv_i2l hx hb dL_force_3 rfl ?_
  refine lv_iload hx hb dL_force_4 (lv_at hl 4 rfl) ?_
  refine lv_i2l hx hb dL_force_6 rfl ?_
  refine lv_ladd hx hb dL_force_7 ?_
  refine lv_lstore (lv' := [(6, .long ((σ 3 0).toInt64 + (σ 2 t).toInt64)), (0, .ref ab), (1, .ref al), (2, .ref am), (3, .int (ht σ t)), (4, .int (σ 2 t)), (5, .int s9)]) hx hb dL_force_8 hl (by decide) rfl (fun ls hl => ?_)
  refine lv_iconst (v := 0) hx hb dL_force_10 (by decide) ?_
  refine lv_istore (lv' := [(8, .int 0), (6, .long ((σ 3 0).toInt64 + (σ 2 t).toInt64)), (0, .ref ab), (1, .ref al), (2, .ref am), (3, .int (ht σ t)), (4, .int (σ 2 t)), (5, .int s9)]) hx hb dL_force_11 hl (by decide) rfl (fun ls hl => ?_)
  suffices K : ∀ (n k : Nat) (w : Int64) (ls : Array Slot), k + n = nL → w.toInt32 = acc (fun j => pull_ σ j t s9) (σ 3 0 + σ 2 t) k → lv_has ls 15 [(8, .int (nI k)), (6, .long w), (0, .ref ab), (1, .ref al), (2, .ref am), (3, .int (ht σ t)), (4, .int (σ 2 t)), (5, .int s9)] → W p l e _ s m args below meth c H [] 0 0 (roQ below H (fun r => r = frc σ t s9) args s) (F0 m 13 ls []) by
    exact K nL 0 _ ls (by omega) (add64 _ _) (lv_sub hl [0, 1, 2, 3, 4, 5, 6, 7] rfl)
  intro n
  induction n with
  | zero =>
    intro k w ls hk hw hl
    refine lv_iload hx hb dL_force_13 (lv_at hl 0 rfl) ?_
    refine lv_aload_n hx hb dL_force_15 rfl (lv_at hl 4 rfl) ?_
    refine lv_iconst (v := 1) hx hb dL_force_16 (by decide) ?_
    refine xa_ld hx hb hK hP 2 0 rfl rfl (j := 1) (by omega) (by decide) dL_force_17 ?_
    rw [show (mf 1) = (nI nL) from hm1]
    refine lv_icmp_ge (tgt := 115) hx hb dL_force_18 (by decide) (fun c18 => ?_) (fun c18 => ?_)
    · refine lv_lload hx hb dL_force_115 (lv_at hl 1 rfl) ?_
      refine lv_l2i hx hb dL_force_117 rfl ?_
      exact ro_ret (v := w.toInt32) hx hb hr hlocks hH (by rw [hw, show k = nL by omega]; unfold frc; rw [inv_nL hI]) dL_force_118
    · exact absurd (nI_le (a := nL) (b := k) (by omega) (by omega)) c18
  | succ n ih =>
    intro k w ls hk hw hl
    refine lv_iload hx hb dL_force_13 (lv_at hl 0 rfl) ?_
    refine lv_aload_n hx hb dL_force_15 rfl (lv_at hl 4 rfl) ?_
    refine lv_iconst (v := 1) hx hb dL_force_16 (by decide) ?_
    refine xa_ld hx hb hK hP 2 0 rfl rfl (j := 1) (by omega) (by decide) dL_force_17 ?_
    rw [show (mf 1) = (nI nL) from hm1]
    refine lv_icmp_ge (tgt := 115) hx hb dL_force_18 (by decide) (fun c18 => ?_) (fun c18 => ?_)
    · exact absurd c18 (nI_ge (a := k) (b := nL) (by omega) (by omega))
    · have hk1 : k < nL := by omega
      obtain ⟨n9, en9, hn9⟩ := inv_len hI hk1 ht48 hs9
      obtain ⟨t1, t2⟩ := inv_tn hI hk1 ht48 hs9
      obtain ⟨a1, a2⟩ := inv_al hI hk1 hs9
      refine lv_aload_n hx hb dL_force_21 rfl (lv_at hl 2 rfl) ?_
      refine lv_aload_n hx hb dL_force_22 rfl (lv_at hl 3 rfl) ?_
      refine lv_iload hx hb dL_force_23 (lv_at hl 0 rfl) ?_
      refine lv_iload_n hx hb dL_force_25 rfl (lv_at hl 5 rfl) ?_
      refine lv_iload hx hb dL_force_26 (lv_at hl 7 rfl) ?_
      refine ro_callS 5 hx hb hml hown hts hl.1 hP hK (As := [.ref ab, .ref al, .int (nI k), .int (ht σ t), .int s9]) (rest := []) (c_L_len l D cI ab al am bf lf mf H σ hI hR k t hk1 ht48 s9 hs9) gL_force_L_length rfl rfl rfl (by decide +kernel) ⟨Nat.le_of_ble_eq_true rfl, Nat.le_of_ble_eq_true rfl⟩ rfl rfl (Nat.le_of_ble_eq_true rfl) dL_force_28 ⟨Nat.zero_le _, Nat.zero_le _⟩ (fun r1 hr1 => ?_)
      subst hr1
      refine lv_i2l hx hb dL_force_31 rfl ?_
      refine lv_lstore (lv' := [(9, .long (len_ σ k t s9).toInt64), (8, .int (nI k)), (6, .long w), (0, .ref ab), (1, .ref al), (2, .ref am), (3, .int (ht σ t)), (4, .int (σ 2 t)), (5, .int s9)]) hx hb dL_force_32 hl (by decide) rfl (fun ls hl => ?_)
      refine lv_aload_n hx hb dL_force_34 rfl (lv_at hl 3 rfl) ?_
      refine lv_aload_n hx hb dL_force_35 rfl (lv_at hl 4 rfl) ?_
      refine lv_iload hx hb dL_force_36 (lv_at hl 1 rfl) ?_
      refine lv_iload_n hx hb dL_force_38 rfl (lv_at hl 6 rfl) ?_
      refine lv_iload hx hb dL_force_39 (lv_at hl 8 rfl) ?_
      refine ro_callS 5 hx hb hml hown hts hl.1 hP hK (As := [.ref ab, .ref al, .int (nI k), .int (ht σ t), .int s9]) (rest := []) (c_L_tension l D cI ab al am bf lf mf H σ hI hR k t hk1 ht48 s9 hs9) gL_force_L_tension rfl rfl rfl (by decide +kernel) ⟨Nat.le_of_ble_eq_true rfl, Nat.le_of_ble_eq_true rfl⟩ rfl rfl (Nat.le_of_ble_eq_true rfl) dL_force_41 ⟨Nat.zero_le _, Nat.zero_le _⟩ (fun r2 hr2 => ?_)
      subst hr2
      refine lv_i2l hx hb dL_force_44 rfl ?_
      refine lv_aload_n hx hb dL_force_45 rfl (lv_at hl 3 rfl) ?_
      refine lv_aload_n hx hb dL_force_46 rfl (lv_at hl 4 rfl) ?_
      refine lv_iload hx hb dL_force_47 (lv_at hl 1 rfl) ?_
      refine lv_iload hx hb dL_force_49 (lv_at hl 8 rfl) ?_
      refine ro_callS 4 hx hb hml hown hts hl.1 hP hK (As := [.ref ab, .ref al, .int (nI k), .int s9]) (rest := [.long (tn_ σ k t s9).toInt64]) (c_L_awy l D cI ab al am bf lf mf H σ hI hR k hk1 s9) gL_force_L_away rfl rfl rfl (by decide +kernel) ⟨Nat.le_of_ble_eq_true rfl, Nat.le_of_ble_eq_true rfl⟩ rfl rfl (Nat.le_of_ble_eq_true rfl) dL_force_51 ⟨Nat.zero_le _, Nat.zero_le _⟩ (fun r3 hr3 => ?_)
      subst hr3
      refine lv_i2l hx hb dL_force_54 rfl ?_
      refine lv_lmul hx hb dL_force_55 ?_
      have mb : -10428480000 ≤ (tn_ σ k t s9).toInt * (σ 9 k - s9).toInt ∧ (tn_ σ k t s9).toInt * (σ 9 k - s9).toInt ≤ 10428480000 := by
        have b1 := Int.mul_nonneg t1 (show 0 ≤ 10200 - (σ 9 k - s9).toInt by omega)
        have b2 := Int.mul_nonneg t1 (show 0 ≤ 10200 + (σ 9 k - s9).toInt by omega)
        rw [Int.mul_sub] at b1
        rw [Int.mul_add] at b2
        omega
      have em : ((tn_ σ k t s9).toInt64 * (σ 9 k - s9).toInt64).toInt = (tn_ σ k t s9).toInt * (σ 9 k - s9).toInt := by rw [Jvm.Kit.i64_mul (by rw [Int32.toInt_toInt64, Int32.toInt_toInt64]; omega) (by rw [Int32.toInt_toInt64, Int32.toInt_toInt64]; omega), Int32.toInt_toInt64, Int32.toInt_toInt64]
      have es : ((len_ σ k t s9).toInt64).toInt = (n9 : Int) := by rw [Int32.toInt_toInt64, en9, nI_ti (by omega)]
      obtain ⟨mm, hmm⟩ : ∃ z : Int64, z = ((tn_ σ k t s9).toInt64 * (σ 9 k - s9).toInt64) := ⟨_, rfl⟩
      rw [← hmm] at em ⊢
      obtain ⟨ss, hss⟩ : ∃ z : Int64, z = (len_ σ k t s9).toInt64 := ⟨_, rfl⟩
      rw [← hss] at es hl
      have hs : ∀ (d : Int64) (ls : Array Slot), d.toInt32 = pull_ σ k t s9 → lv_has ls 15 [(6, .long (w + d)), (8, .int (nI k)), (0, .ref ab), (1, .ref al), (2, .ref am), (3, .int (ht σ t)), (4, .int (σ 2 t)), (5, .int s9)] → W p l e ({ frames := 3, cells := 0, slots := 0, locals := 76 }) s m args below meth c H [] 0 0 (roQ below H (fun r => r = frc σ t s9) args s) (F0 m 109 ls []) := by
        intro d ls hd hl
        refine lv_iinc (v := (nI (k + 1))) (lv' := [(8, .int (nI (k + 1))), (6, .long (w + d)), (0, .ref ab), (1, .ref al), (2, .ref am), (3, .int (ht σ t)), (4, .int (σ 2 t)), (5, .int s9)]) hx hb dL_force_109 hl (k := 1) rfl (by exact nI_add _ 1) (by decide) rfl (fun ls hl => ?_)
        refine lv_goto (tgt := 13) hx hb dL_force_112 (by decide) ?_
        exact ih (k + 1) (w + d) ls (by omega) (by rw [Int64.toInt32_add, hw, hd]; rfl) (lv_sub hl [0, 1, 2, 3, 4, 5, 6, 7] rfl)
      refine lv_lstore (lv' := [(11, .long mm), (9, .long ss), (8, .int (nI k)), (6, .long w), (0, .ref ab), (1, .ref al), (2, .ref am), (3, .int (ht σ t)), (4, .int (σ 2 t)), (5, .int s9)]) hx hb dL_force_56 hl (by decide) rfl (fun ls hl => ?_)
      refine lv_lload hx hb dL_force_58 (lv_at hl 1 rfl) ?_
      refine lv_lconst (v := 0) hx hb dL_force_60 (by decide) ?_
      refine W.lcmp hx hb dL_force_61 ?_
      refine lv_if_ne (tgt := 69) hx hb dL_force_62 (by decide) (fun c62 => ?_) (fun c62 => ?_)
      · have c62 : ¬ ss = 0 := fun u => c62 ((lg_cmp_eq _ _).mpr u)
        have hn0 : ¬ len_ σ k t s9 ≤ 0 := fun u => c62 (by have u2 := i_le.mp u; have u0 : (0 : Int32).toInt = 0 := rfl; rw [en9, nI_ti (by omega), u0] at u2; exact Int64.toInt_inj.mp (by rw [es, i64_0]; omega))
        have hn1 : 0 < ss.toInt := by have u1 : ¬ n9 = 0 := fun u => c62 (Int64.toInt_inj.mp (by rw [es, i64_0, u]; rfl)); omega
        have hpull : (mm / ss).toInt32 = pull_ σ k t s9 := by unfold pull_; rw [if_neg hn0, hmm, hss]
        refine lv_lload hx hb dL_force_69 (lv_at hl 0 rfl) ?_
        refine lv_lconst (v := 0) hx hb dL_force_71 (by decide) ?_
        refine W.lcmp hx hb dL_force_72 ?_
        refine lv_if_ge (tgt := 82) hx hb dL_force_73 (by decide) (fun c73 => ?_) (fun c73 => ?_)
        · have cm : ¬ mm < 0 := Int64.not_lt.mpr ((lg_cmp_ge _ _).mp c73)
          refine lv_lload hx hb dL_force_82 (lv_at hl 0 rfl) ?_
          refine lv_lload hx hb dL_force_84 (lv_at hl 1 rfl) ?_
          refine lv_ldiv hx hb dL_force_86 c62 ?_
          refine lv_lstore (lv' := [(13, .long (mm / ss)), (11, .long mm), (9, .long ss), (8, .int (nI k)), (6, .long w), (0, .ref ab), (1, .ref al), (2, .ref am), (3, .int (ht σ t)), (4, .int (σ 2 t)), (5, .int s9)]) hx hb dL_force_87 hl (by decide) rfl (fun ls hl => ?_)
          refine lv_lload hx hb dL_force_89 (lv_at hl 4 rfl) ?_
          refine lv_lload hx hb dL_force_91 (lv_at hl 1 rfl) ?_
          refine lv_lconst (v := 0) hx hb dL_force_93 (by decide) ?_
          refine W.lcmp hx hb dL_force_94 ?_
          refine lv_if_ge (tgt := 104) hx hb dL_force_95 (by decide) (fun c95 => ?_) (fun c95 => ?_)
          · refine lv_lload hx hb dL_force_104 (lv_at hl 0 rfl) ?_
            refine lv_ladd hx hb dL_force_106 ?_
            refine lv_lstore (lv' := [(6, .long (w + (mm / ss))), (13, .long (mm / ss)), (11, .long mm), (9, .long ss), (8, .int (nI k)), (0, .ref ab), (1, .ref al), (2, .ref am), (3, .int (ht σ t)), (4, .int (σ 2 t)), (5, .int s9)]) hx hb dL_force_107 hl (by decide) rfl (fun ls hl => ?_)
            exact hs (mm / ss) ls hpull (lv_sub hl [0, 4, 5, 6, 7, 8, 9, 10] rfl)
          · exact absurd ((lg_cmp_lt _ _).mp (Int32.not_le.mp c95)) cm
        · have cm : mm < 0 := (lg_cmp_lt _ _).mp (Int32.not_le.mp c73)
          refine lv_lload hx hb dL_force_76 (lv_at hl 0 rfl) ?_
          refine lv_lneg hx hb dL_force_78 ?_
          refine lv_goto (tgt := 84) hx hb dL_force_79 (by decide) ?_
          refine lv_lload hx hb dL_force_84 (lv_at hl 1 rfl) ?_
          refine lv_ldiv hx hb dL_force_86 c62 ?_
          refine lv_lstore (lv' := [(13, .long ((-mm) / ss)), (11, .long mm), (9, .long ss), (8, .int (nI k)), (6, .long w), (0, .ref ab), (1, .ref al), (2, .ref am), (3, .int (ht σ t)), (4, .int (σ 2 t)), (5, .int s9)]) hx hb dL_force_87 hl (by decide) rfl (fun ls hl => ?_)
          refine lv_lload hx hb dL_force_89 (lv_at hl 4 rfl) ?_
          refine lv_lload hx hb dL_force_91 (lv_at hl 1 rfl) ?_
          refine lv_lconst (v := 0) hx hb dL_force_93 (by decide) ?_
          refine W.lcmp hx hb dL_force_94 ?_
          refine lv_if_ge (tgt := 104) hx hb dL_force_95 (by decide) (fun c95 => ?_) (fun c95 => ?_)
          · exact absurd cm (Int64.not_lt.mpr ((lg_cmp_ge _ _).mp c95))
          · refine lv_lload hx hb dL_force_98 (lv_at hl 0 rfl) ?_
            refine lv_lneg hx hb dL_force_100 ?_
            refine lv_goto (tgt := 106) hx hb dL_force_101 (by decide) ?_
            refine lv_ladd hx hb dL_force_106 ?_
            refine lv_lstore (lv' := [(6, .long (w + (-((-mm) / ss)))), (13, .long ((-mm) / ss)), (11, .long mm), (9, .long ss), (8, .int (nI k)), (0, .ref ab), (1, .ref al), (2, .ref am), (3, .int (ht σ t)), (4, .int (σ 2 t)), (5, .int s9)]) hx hb dL_force_107 hl (by decide) rfl (fun ls hl => ?_)
            exact hs (-(-mm / ss)) ls (by rw [abs_div (by omega) (by omega) cm hn1]; exact hpull) (lv_sub hl [0, 4, 5, 6, 7, 8, 9, 10] rfl)
      · have c62 : ss = 0 := (lg_cmp_eq _ _).mp c62
        have hn0 : len_ σ k t s9 ≤ 0 := by rw [c62, i64_0] at es; rw [en9]; exact i_le.mpr (by rw [nI_ti (by omega)]; have u0 : (0 : Int32).toInt = 0 := rfl; omega)
        have hpull : (0 : Int32) = pull_ σ k t s9 := by unfold pull_; rw [if_pos hn0]
        refine lv_lconst (v := 0) hx hb dL_force_65 (by decide) ?_
        refine lv_goto (tgt := 87) hx hb dL_force_66 (by decide) ?_
        refine lv_lstore (lv' := [(13, .long 0), (11, .long mm), (9, .long ss), (8, .int (nI k)), (6, .long w), (0, .ref ab), (1, .ref al), (2, .ref am), (3, .int (ht σ t)), (4, .int (σ 2 t)), (5, .int s9)]) hx hb dL_force_87 hl (by decide) rfl (fun ls hl => ?_)
        refine lv_lload hx hb dL_force_89 (lv_at hl 4 rfl) ?_
        refine lv_lload hx hb dL_force_91 (lv_at hl 1 rfl) ?_
        refine lv_lconst (v := 0) hx hb dL_force_93 (by decide) ?_
        refine W.lcmp hx hb dL_force_94 ?_
        refine lv_if_ge (tgt := 104) hx hb dL_force_95 (by decide) (fun c95 => ?_) (fun c95 => ?_)
        · refine lv_lload hx hb dL_force_104 (lv_at hl 0 rfl) ?_
          refine lv_ladd hx hb dL_force_106 ?_
          refine lv_lstore (lv' := [(6, .long (w + 0)), (13, .long 0), (11, .long mm), (9, .long ss), (8, .int (nI k)), (0, .ref ab), (1, .ref al), (2, .ref am), (3, .int (ht σ t)), (4, .int (σ 2 t)), (5, .int s9)]) hx hb dL_force_107 hl (by decide) rfl (fun ls hl => ?_)
          exact hs 0 ls (by rw [← hpull]; decide) (lv_sub hl [0, 4, 5, 6, 7, 8, 9, 10] rfl)
        · refine lv_lload hx hb dL_force_98 (lv_at hl 0 rfl) ?_
          refine lv_lneg hx hb dL_force_100 ?_
          refine lv_goto (tgt := 106) hx hb dL_force_101 (by decide) ?_
          refine lv_ladd hx hb dL_force_106 ?_
          refine lv_lstore (lv' := [(6, .long (w + (-0))), (13, .long 0), (11, .long mm), (9, .long ss), (8, .int (nI k)), (0, .ref ab), (1, .ref al), (2, .ref am), (3, .int (ht σ t)), (4, .int (σ 2 t)), (5, .int s9)]) hx hb dL_force_107 hl (by decide) rfl (fun ls hl => ?_)
          exact hs (-0) ls (by rw [← hpull]; decide) (lv_sub hl [0, 4, 5, 6, 7, 8, 9, 10] rfl)
