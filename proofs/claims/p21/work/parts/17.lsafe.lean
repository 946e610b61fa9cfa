/-! The law: shift, isAdrift, onBollard, isSafe. -/
set_option maxHeartbeats 4000000 in
set_option maxRecDepth 100000 in
theorem c_L_shift (l : Launch) (D : va_G) (cI : ClassId) (ab al am : Nat) (bf lf mf : Nat → Int32) (H : Heap) (σ : St) {nL nB : Nat} (hI : inv σ nL nB) (hR : lrel σ nL nB bf lf mf) (t : Nat) (ht48 : t < 48) : roM l yL_shift wsL_shift ({ frames := 4, cells := 0, slots := 0, locals := 110 }) [.ref ab, .ref al, .ref am, .int (ht σ t), .int (σ 2 t)] D (lw3 cI ab al am bf lf mf) (tyI cI) H (fun r => r = bal σ t) := by
  refine ro_of (cc := cL_shift) (maxL := 9) (ret := some .int) (by decide) rfl (Nat.le_of_ble_eq_true rfl) ?_
  intro p e s m args below meth c he hH hP hK ls hl
  obtain ⟨hx, hb, hr, hml, hown, hts, hlocks⟩ := he
  have hown : s.vm.findClass RL = some m.cls := hown
  obtain ⟨⟨hL6, hB4⟩, ⟨hm0, hm1, hm2⟩, hRb, hRl⟩ := id hR
  have hl : lv_has ls 9 [(0, .ref ab), (1, .ref al), (2, .ref am), (3, .int (ht σ t)), (4, .int (σ 2 t))] := hl
  refine lv_sipush (v := (-200)) hx hb dL_shift_0 (by decide) ?_
  refine lv_istore (lv' := [(5, .int (-200)), (0, .ref ab), (1, .ref al), (2, .ref am), (3, .int (ht σ t)), (4, .int (σ 2 t))]) hx hb dL_shift_3 hl (by decide) rfl (fun ls hl => ?_)
  refine lv_sipush (v := 200) hx hb dL_shift_5 (by decide) ?_
  refine lv_istore (lv' := [(6, .int 200), (5, .int (-200)), (0, .ref ab), (1, .ref al), (2, .ref am), (3, .int (ht σ t)), (4, .int (σ 2 t))]) hx hb dL_shift_8 hl (by decide) rfl (fun ls hl => ?_)
  suffices K : ∀ (n : Nat) (lo hi : Int) (ls : Array Slot), -200 ≤ lo → lo ≤ hi → hi ≤ 200 → (hi - lo).toNat ≤ n → bis (fun z => decide (0 < frc σ t (zI z))) n lo hi = balZ σ t → lv_has ls 9 [(6, .int (zI hi)), (5, .int (zI lo)), (0, .ref ab), (1, .ref al), (2, .ref am), (3, .int (ht σ t)), (4, .int (σ 2 t))] → W p l e _ s m args below meth c H [] 0 0 (roQ below H (fun r => r = bal σ t) args s) (F0 m 10 ls []) by
    exact K 401 (-200) 200 ls (by decide) (by decide) (by decide) (by decide) rfl (lv_sub hl [0, 1, 2, 3, 4, 5, 6] rfl)
  intro n
  induction n with
  | zero =>
    intro lo hi ls h1 h2 h3 h4 h5 hl
    refine lv_iload hx hb dL_shift_10 (lv_at hl 1 rfl) ?_
    refine lv_iload hx hb dL_shift_12 (lv_at hl 0 rfl) ?_
    refine lv_icmp_ge (tgt := 80) hx hb dL_shift_14 (by decide) (fun c14 => ?_) (fun c14 => ?_)
    · have hge : ¬ lo < hi := fun w => absurd ((zI_le (by omega) (by omega) (by omega) (by omega)).mp c14) (by omega)
      rw [bis_end hge] at h5
      refine lv_iload hx hb dL_shift_80 (lv_at hl 1 rfl) ?_
      exact ro_ret (v := (zI lo)) hx hb hr hlocks hH (by rw [h5]; rfl) dL_shift_82
    · have hlt : lo < hi := Int.not_le.mp (fun w => c14 ((zI_le (a := hi) (b := lo) (by omega) (by omega) (by omega) (by omega)).mpr w))
      exact absurd hlt (by omega)
  | succ n ih =>
    intro lo hi ls h1 h2 h3 h4 h5 hl
    refine lv_iload hx hb dL_shift_10 (lv_at hl 1 rfl) ?_
    refine lv_iload hx hb dL_shift_12 (lv_at hl 0 rfl) ?_
    refine lv_icmp_ge (tgt := 80) hx hb dL_shift_14 (by decide) (fun c14 => ?_) (fun c14 => ?_)
    · have hge : ¬ lo < hi := fun w => absurd ((zI_le (by omega) (by omega) (by omega) (by omega)).mp c14) (by omega)
      rw [bis_end hge] at h5
      refine lv_iload hx hb dL_shift_80 (lv_at hl 1 rfl) ?_
      exact ro_ret (v := (zI lo)) hx hb hr hlocks hH (by rw [h5]; rfl) dL_shift_82
    · have hlt : lo < hi := Int.not_le.mp (fun w => c14 ((zI_le (a := hi) (b := lo) (by omega) (by omega) (by omega) (by omega)).mpr w))
      refine lv_iload hx hb dL_shift_17 (lv_at hl 1 rfl) ?_
      refine lv_iload hx hb dL_shift_19 (lv_at hl 0 rfl) ?_
      refine lv_iadd hx hb dL_shift_21 ?_
      refine lv_topi (fun y9 e9 => ?_)
      rw [show y9 = (zI (lo + hi)) from e9.trans (zI_add lo hi)]
      refine lv_iconst (v := 1) hx hb dL_shift_22 (by decide) ?_
      refine lv_ishr hx hb dL_shift_23 ?_
      refine lv_topi (fun y9 e9 => ?_)
      rw [show y9 = (zI ((lo + hi) / 2)) from e9.trans (zI_shr (z := lo + hi) (by omega) (by omega))]
      have hm1 : lo ≤ (lo + hi) / 2 := by omega
      have hm2 : (lo + hi) / 2 < hi := by omega
      have hsm : inS (zI ((lo + hi) / 2)) := by unfold inS; rw [zI_ti (by omega) (by omega)]; omega
      refine lv_istore (lv' := [(7, .int (zI ((lo + hi) / 2))), (6, .int (zI hi)), (5, .int (zI lo)), (0, .ref ab), (1, .ref al), (2, .ref am), (3, .int (ht σ t)), (4, .int (σ 2 t))]) hx hb dL_shift_24 hl (by decide) rfl (fun ls hl => ?_)
      refine lv_aload_n hx hb dL_shift_26 rfl (lv_at hl 3 rfl) ?_
      refine lv_aload_n hx hb dL_shift_27 rfl (lv_at hl 4 rfl) ?_
      refine lv_aload_n hx hb dL_shift_28 rfl (lv_at hl 5 rfl) ?_
      refine lv_iload_n hx hb dL_shift_29 rfl (lv_at hl 6 rfl) ?_
      refine lv_iload hx hb dL_shift_30 (lv_at hl 7 rfl) ?_
      refine lv_iload hx hb dL_shift_32 (lv_at hl 0 rfl) ?_
      refine ro_callS 6 hx hb hml hown hts hl.1 hP hK (As := [.ref ab, .ref al, .ref am, .int (ht σ t), .int (σ 2 t), .int (zI ((lo + hi) / 2))]) (rest := []) (c_L_force l D cI ab al am bf lf mf H σ hI hR t ht48 (zI ((lo + hi) / 2)) hsm) gL_shift_L_force rfl rfl rfl (by decide +kernel) ⟨Nat.le_of_ble_eq_true rfl, Nat.le_of_ble_eq_true rfl⟩ rfl rfl (Nat.le_of_ble_eq_true rfl) dL_shift_34 ⟨Nat.zero_le _, Nat.zero_le _⟩ (fun r1 hr1 => ?_)
      subst hr1
      refine lv_if_le (tgt := 44) hx hb dL_shift_37 (by decide) (fun c37 => ?_) (fun c37 => ?_)
      · have hn : ¬ (fun z => decide (0 < frc σ t (zI z))) ((lo + hi) / 2) = true := fun v => absurd c37 (Int32.not_le.mpr (of_decide_eq_true v))
        refine lv_iconst (v := 0) hx hb dL_shift_44 (by decide) ?_
        refine lv_istore (lv' := [(8, .int 0), (7, .int (zI ((lo + hi) / 2))), (6, .int (zI hi)), (5, .int (zI lo)), (0, .ref ab), (1, .ref al), (2, .ref am), (3, .int (ht σ t)), (4, .int (σ 2 t))]) hx hb dL_shift_45 hl (by decide) rfl (fun ls hl => ?_)
        refine lv_iload hx hb dL_shift_47 (lv_at hl 0 rfl) ?_
        refine lv_if_eq (tgt := 59) hx hb dL_shift_49 (by decide) (fun c49 => ?_) (fun c49 => ?_)
        · refine lv_iload hx hb dL_shift_59 (lv_at hl 3 rfl) ?_
          refine lv_istore (lv' := [(5, .int (zI lo)), (8, .int 0), (7, .int (zI ((lo + hi) / 2))), (6, .int (zI hi)), (0, .ref ab), (1, .ref al), (2, .ref am), (3, .int (ht σ t)), (4, .int (σ 2 t))]) hx hb dL_shift_61 hl (by decide) rfl (fun ls hl => ?_)
          refine lv_iload hx hb dL_shift_63 (lv_at hl 1 rfl) ?_
          refine lv_if_eq (tgt := 73) hx hb dL_shift_65 (by decide) (fun c65 => ?_) (fun c65 => ?_)
          · refine lv_iload hx hb dL_shift_73 (lv_at hl 2 rfl) ?_
            refine lv_istore (lv' := [(6, .int (zI ((lo + hi) / 2))), (5, .int (zI lo)), (8, .int 0), (7, .int (zI ((lo + hi) / 2))), (0, .ref ab), (1, .ref al), (2, .ref am), (3, .int (ht σ t)), (4, .int (σ 2 t))]) hx hb dL_shift_75 hl (by decide) rfl (fun ls hl => ?_)
            refine lv_goto (tgt := 10) hx hb dL_shift_77 (by decide) ?_
            exact ih lo ((lo + hi) / 2) ls h1 hm1 (by omega) (by omega) (by rw [← h5]; exact (bis_dn hlt hn).symm) (lv_sub hl [0, 1, 4, 5, 6, 7, 8] rfl)
          · exact absurd rfl c65
        · exact absurd rfl c49
      · have hn : (fun z => decide (0 < frc σ t (zI z))) ((lo + hi) / 2) = true := decide_eq_true (Int32.not_le.mp c37)
        refine lv_iconst (v := 1) hx hb dL_shift_40 (by decide) ?_
        refine lv_goto (tgt := 45) hx hb dL_shift_41 (by decide) ?_
        refine lv_istore (lv' := [(8, .int 1), (7, .int (zI ((lo + hi) / 2))), (6, .int (zI hi)), (5, .int (zI lo)), (0, .ref ab), (1, .ref al), (2, .ref am), (3, .int (ht σ t)), (4, .int (σ 2 t))]) hx hb dL_shift_45 hl (by decide) rfl (fun ls hl => ?_)
        refine lv_iload hx hb dL_shift_47 (lv_at hl 0 rfl) ?_
        refine lv_if_eq (tgt := 59) hx hb dL_shift_49 (by decide) (fun c49 => ?_) (fun c49 => ?_)
        · exact absurd c49 (by decide)
        · refine lv_iload hx hb dL_shift_52 (lv_at hl 1 rfl) ?_
          refine lv_iconst (v := 1) hx hb dL_shift_54 (by decide) ?_
          refine lv_iadd hx hb dL_shift_55 ?_
          refine lv_topi (fun y9 e9 => ?_)
          rw [show y9 = (zI ((lo + hi) / 2 + 1)) from e9.trans (zI_add _ 1)]
          refine lv_goto (tgt := 61) hx hb dL_shift_56 (by decide) ?_
          refine lv_istore (lv' := [(5, .int (zI ((lo + hi) / 2 + 1))), (8, .int 1), (7, .int (zI ((lo + hi) / 2))), (6, .int (zI hi)), (0, .ref ab), (1, .ref al), (2, .ref am), (3, .int (ht σ t)), (4, .int (σ 2 t))]) hx hb dL_shift_61 hl (by decide) rfl (fun ls hl => ?_)
          refine lv_iload hx hb dL_shift_63 (lv_at hl 1 rfl) ?_
          refine lv_if_eq (tgt := 73) hx hb dL_shift_65 (by decide) (fun c65 => ?_) (fun c65 => ?_)
          · exact absurd c65 (by decide)
          · refine lv_iload hx hb dL_shift_68 (lv_at hl 3 rfl) ?_
            refine lv_goto (tgt := 75) hx hb dL_shift_70 (by decide) ?_
            refine lv_istore (lv' := [(6, .int (zI hi)), (5, .int (zI ((lo + hi) / 2 + 1))), (8, .int 1), (7, .int (zI ((lo + hi) / 2))), (0, .ref ab), (1, .ref al), (2, .ref am), (3, .int (ht σ t)), (4, .int (σ 2 t))]) hx hb dL_shift_75 hl (by decide) rfl (fun ls hl => ?_)
            refine lv_goto (tgt := 10) hx hb dL_shift_77 (by decide) ?_
            exact ih ((lo + hi) / 2 + 1) hi ls (by omega) (by omega) h3 (by omega) (by rw [← h5]; exact (bis_up hlt hn).symm) (lv_sub hl [0, 1, 4, 5, 6, 7, 8] rfl)
set_option maxHeartbeats 4000000 in
set_option maxRecDepth 100000 in
theorem c_L_isAdrift (l : Launch) (D : va_G) (cI : ClassId) (ab al am : Nat) (bf lf mf : Nat → Int32) (H : Heap) (σ : St) {nL nB : Nat} (hI : inv σ nL nB) (hR : lrel σ nL nB bf lf mf) (t : Nat) (ht48 : t < 48) : roM l yL_isAdrift wsL_isAdrift ({ frames := 5, cells := 0, slots := 0, locals := 138 }) [.ref ab, .ref al, .ref am, .int (ht σ t), .int (σ 2 t)] D (lw3 cI ab al am bf lf mf) (tyI cI) H (fun r => r = bI (drfW σ t (bal σ t))) := by
  refine ro_of (cc := cL_isAdrift) (maxL := 7) (ret := some .boolean) (by decide) rfl (Nat.le_of_ble_eq_true rfl) ?_
  intro p e s m args below meth c he hH hP hK ls hl
  obtain ⟨hx, hb, hr, hml, hown, hts, hlocks⟩ := he
  have hown : s.vm.findClass RL = some m.cls := hown
  obtain ⟨⟨hL6, hB4⟩, ⟨hm0, hm1, hm2⟩, hRb, hRl⟩ := id hR
  have hl : lv_has ls 7 [(0, .ref ab), (1, .ref al), (2, .ref am), (3, .int (ht σ t)), (4, .int (σ 2 t))] := hl
  refine lv_aload_n hx hb dL_isAdrift_0 rfl (lv_at hl 0 rfl) ?_
  refine lv_aload_n hx hb dL_isAdrift_1 rfl (lv_at hl 1 rfl) ?_
  refine lv_aload_n hx hb dL_isAdrift_2 rfl (lv_at hl 2 rfl) ?_
  refine lv_iload_n hx hb dL_isAdrift_3 rfl (lv_at hl 3 rfl) ?_
  refine lv_iload hx hb dL_isAdrift_4 (lv_at hl 4 rfl) ?_
  refine ro_callS 5 hx hb hml hown hts hl.1 hP hK (As := [.ref ab, .ref al, .ref am, .int (ht σ t), .int (σ 2 t)]) (rest := []) (c_L_shift l D cI ab al am bf lf mf H σ hI hR t ht48) gL_isAdrift_L_shift rfl rfl rfl (by decide +kernel) ⟨Nat.le_of_ble_eq_true rfl, Nat.le_of_ble_eq_true rfl⟩ rfl rfl (Nat.le_of_ble_eq_true rfl) dL_isAdrift_6 ⟨Nat.zero_le _, Nat.zero_le _⟩ (fun r1 hr1 => ?_)
  subst hr1
  refine lv_istore (lv' := [(5, .int (bal σ t)), (0, .ref ab), (1, .ref al), (2, .ref am), (3, .int (ht σ t)), (4, .int (σ 2 t))]) hx hb dL_isAdrift_9 hl (by decide) rfl (fun ls hl => ?_)
  refine lv_aload_n hx hb dL_isAdrift_11 rfl (lv_at hl 1 rfl) ?_
  refine lv_aload_n hx hb dL_isAdrift_12 rfl (lv_at hl 2 rfl) ?_
  refine lv_aload_n hx hb dL_isAdrift_13 rfl (lv_at hl 3 rfl) ?_
  refine lv_iload_n hx hb dL_isAdrift_14 rfl (lv_at hl 4 rfl) ?_
  refine lv_iload hx hb dL_isAdrift_15 (lv_at hl 5 rfl) ?_
  refine lv_iload hx hb dL_isAdrift_17 (lv_at hl 0 rfl) ?_
  refine ro_callS 6 hx hb hml hown hts hl.1 hP hK (As := [.ref ab, .ref al, .ref am, .int (ht σ t), .int (σ 2 t), .int (bal σ t)]) (rest := []) (c_L_force l D cI ab al am bf lf mf H σ hI hR t ht48 (bal σ t) (bal_inS σ t)) gL_isAdrift_L_force rfl rfl rfl (by decide +kernel) ⟨Nat.le_of_ble_eq_true rfl, Nat.le_of_ble_eq_true rfl⟩ rfl rfl (Nat.le_of_ble_eq_true rfl) dL_isAdrift_19 ⟨Nat.zero_le _, Nat.zero_le _⟩ (fun r2 hr2 => ?_)
  subst hr2
  refine lv_istore (lv' := [(6, .int (frc σ t (bal σ t))), (5, .int (bal σ t)), (0, .ref ab), (1, .ref al), (2, .ref am), (3, .int (ht σ t)), (4, .int (σ 2 t))]) hx hb dL_isAdrift_22 hl (by decide) rfl (fun ls hl => ?_)
  refine lv_iload hx hb dL_isAdrift_24 (lv_at hl 1 rfl) ?_
  refine lv_sipush (v := 200) hx hb dL_isAdrift_26 (by decide) ?_
  refine lv_icmp_ne (tgt := 45) hx hb dL_isAdrift_29 (by decide) (fun c29 => ?_) (fun c29 => ?_)
  · refine lv_iload hx hb dL_isAdrift_45 (lv_at hl 1 rfl) ?_
    refine lv_sipush (v := (-200)) hx hb dL_isAdrift_47 (by decide) ?_
    refine lv_icmp_ne (tgt := 62) hx hb dL_isAdrift_50 (by decide) (fun c50 => ?_) (fun c50 => ?_)
    · refine lv_iconst (v := 0) hx hb dL_isAdrift_62 (by decide) ?_
      exact ro_zret (v := 0) hx hb hr hlocks hH ⟨false, rfl⟩ (by show _ = bI (drfW σ t (bal σ t)); unfold drfW; rw [decide_eq_false c29, decide_eq_false c50]; rfl) dL_isAdrift_63
    · refine lv_iload hx hb dL_isAdrift_53 (lv_at hl 0 rfl) ?_
      refine lv_if_ge (tgt := 62) hx hb dL_isAdrift_55 (by decide) (fun c55 => ?_) (fun c55 => ?_)
      · refine lv_iconst (v := 0) hx hb dL_isAdrift_62 (by decide) ?_
        exact ro_zret (v := 0) hx hb hr hlocks hH ⟨false, rfl⟩ (by show _ = bI (drfW σ t (bal σ t)); unfold drfW; rw [decide_eq_false c29, decide_eq_true c50, decide_eq_false (Int32.not_lt.mpr c55)]; rfl) dL_isAdrift_63
      · refine lv_iconst (v := 1) hx hb dL_isAdrift_58 (by decide) ?_
        refine lv_goto (tgt := 63) hx hb dL_isAdrift_59 (by decide) ?_
        exact ro_zret (v := 1) hx hb hr hlocks hH ⟨true, rfl⟩ (by show _ = bI (drfW σ t (bal σ t)); unfold drfW; rw [decide_eq_false c29, decide_eq_true c50, decide_eq_true (Int32.not_le.mp c55)]; rfl) dL_isAdrift_63
  · have hne : ¬ bal σ t = -200 := fun q => absurd (c29.symm.trans q) (by decide)
    refine lv_iload hx hb dL_isAdrift_32 (lv_at hl 0 rfl) ?_
    refine lv_if_le (tgt := 41) hx hb dL_isAdrift_34 (by decide) (fun c34 => ?_) (fun c34 => ?_)
    · refine lv_iconst (v := 0) hx hb dL_isAdrift_41 (by decide) ?_
      refine lv_goto (tgt := 63) hx hb dL_isAdrift_42 (by decide) ?_
      exact ro_zret (v := 0) hx hb hr hlocks hH ⟨false, rfl⟩ (by show _ = bI (drfW σ t (bal σ t)); unfold drfW; rw [decide_eq_true c29, decide_eq_false (Int32.not_lt.mpr c34), decide_eq_false hne]; rfl) dL_isAdrift_63
    · refine lv_iconst (v := 1) hx hb dL_isAdrift_37 (by decide) ?_
      refine lv_goto (tgt := 63) hx hb dL_isAdrift_38 (by decide) ?_
      exact ro_zret (v := 1) hx hb hr hlocks hH ⟨true, rfl⟩ (by show _ = bI (drfW σ t (bal σ t)); unfold drfW; rw [decide_eq_true c29, decide_eq_true (Int32.not_le.mp c34)]; rfl) dL_isAdrift_63
set_option maxHeartbeats 4000000 in
set_option maxRecDepth 100000 in
theorem c_L_onBollard (l : Launch) (D : va_G) (cI : ClassId) (ab al am : Nat) (bf lf mf : Nat → Int32) (H : Heap) (σ : St) {nL nB : Nat} (hI : inv σ nL nB) (hR : lrel σ nL nB bf lf mf) (t : Nat) (ht48 : t < 48) (s9 : Int32) (hs9 : inS s9) (b9 : Int32) : roM l yL_onBollard wsL_onBollard ({ frames := 3, cells := 0, slots := 0, locals := 76 }) [.ref ab, .ref al, .ref am, .int (ht σ t), .int s9, .int b9] D (lw3 cI ab al am bf lf mf) (tyI cI) H (fun r => r = sumOn_ σ b9 t s9) := by
  refine ro_of (cc := cL_onBollard) (maxL := 8) (ret := some .int) (by decide) rfl (Nat.le_of_ble_eq_true rfl) ?_
  intro p e s m args below meth c he hH hP hK ls hl
  obtain ⟨hx, hb, hr, hml, hown, hts, hlocks⟩ := he
  have hown : s.vm.findClass RL = some m.cls := hown
  obtain ⟨⟨hL6, hB4⟩, ⟨hm0, hm1, hm2⟩, hRb, hRl⟩ := id hR
  have hl : lv_has ls 8 [(0, .ref ab), (1, .ref al), (2, .ref am), (3, .int (ht σ t)), (4, .int s9), (5, .int b9)] := hl
  refine lv_iconst (v := 0) hx hb dL_onBollard_0 (by decide) ?_
  refine lv_istore (lv' := [(6, .int 0), (0, .ref ab), (1, .ref al), (2, .ref am), (3, .int (ht σ t)), (4, .int s9), (5, .int b9)]) hx hb dL_onBollard_1 hl (by decide) rfl (fun ls hl => ?_)
  refine lv_iconst (v := 0) hx hb dL_onBollard_3 (by decide) ?_
  refine lv_istore (lv' := [(7, .int 0), (6, .int 0), (0, .ref ab), (1, .ref al), (2, .ref am), (3, .int (ht σ t)), (4, .int s9), (5, .int b9)]) hx hb dL_onBollard_4 hl (by decide) rfl (fun ls hl => ?_)
  suffices K : ∀ (n k : Nat) (ls : Array Slot), k + n = nL → lv_has ls 8 [(7, .int (nI k)), (6, .int (acc (fun j => if σ 8 j = b9 then tn_ σ j t s9 else 0) 0 k)), (0, .ref ab), (1, .ref al), (2, .ref am), (3, .int (ht σ t)), (4, .int s9), (5, .int b9)] → W p l e _ s m args below meth c H [] 0 0 (roQ below H (fun r => r = sumOn_ σ b9 t s9) args s) (F0 m 6 ls []) by
    exact K nL 0 ls (by omega) (lv_sub hl [0, 1, 2, 3, 4, 5, 6, 7] rfl)
  intro n
  induction n with
  | zero =>
    intro k ls hk hl
    refine lv_iload hx hb dL_onBollard_6 (lv_at hl 0 rfl) ?_
    refine lv_aload_n hx hb dL_onBollard_8 rfl (lv_at hl 4 rfl) ?_
    refine lv_iconst (v := 1) hx hb dL_onBollard_9 (by decide) ?_
    refine xa_ld hx hb hK hP 2 0 rfl rfl (j := 1) (by omega) (by decide) dL_onBollard_10 ?_
    rw [show (mf 1) = (nI nL) from hm1]
    refine lv_icmp_ge (tgt := 53) hx hb dL_onBollard_11 (by decide) (fun c11 => ?_) (fun c11 => ?_)
    · refine lv_iload hx hb dL_onBollard_53 (lv_at hl 1 rfl) ?_
      exact ro_ret (v := (acc (fun j => if σ 8 j = b9 then tn_ σ j t s9 else 0) 0 k)) hx hb hr hlocks hH (by show acc _ _ k = sumOn_ σ b9 t s9; unfold sumOn_; rw [inv_nL hI, show k = nL by omega]) dL_onBollard_55
    · exact absurd (nI_le (a := nL) (b := k) (by omega) (by omega)) c11
  | succ n ih =>
    intro k ls hk hl
    refine lv_iload hx hb dL_onBollard_6 (lv_at hl 0 rfl) ?_
    refine lv_aload_n hx hb dL_onBollard_8 rfl (lv_at hl 4 rfl) ?_
    refine lv_iconst (v := 1) hx hb dL_onBollard_9 (by decide) ?_
    refine xa_ld hx hb hK hP 2 0 rfl rfl (j := 1) (by omega) (by decide) dL_onBollard_10 ?_
    rw [show (mf 1) = (nI nL) from hm1]
    refine lv_icmp_ge (tgt := 53) hx hb dL_onBollard_11 (by decide) (fun c11 => ?_) (fun c11 => ?_)
    · exact absurd c11 (nI_ge (a := k) (b := nL) (by omega) (by omega))
    · have hk1 : k < nL := by omega
      obtain ⟨⟨k9, hk9, ek1, ek2, -⟩, -⟩ := hRl k hk1
      refine lv_iload hx hb dL_onBollard_14 (lv_at hl 1 rfl) ?_
      refine lv_aload_n hx hb dL_onBollard_16 rfl (lv_at hl 3 rfl) ?_
      refine lv_bipush (v := 6) hx hb dL_onBollard_17 (by decide) ?_
      refine lv_iload hx hb dL_onBollard_19 (lv_at hl 0 rfl) ?_
      refine lv_imul hx hb dL_onBollard_21 ?_
      refine lv_topi (fun y9 e9 => ?_)
      rw [show y9 = (nI (6 * k)) from e9.trans (pk_mul 6 k)]
      refine lv_iconst (v := 1) hx hb dL_onBollard_22 (by decide) ?_
      refine lv_iadd hx hb dL_onBollard_23 ?_
      refine lv_topi (fun y9 e9 => ?_)
      rw [show y9 = (nI (6 * k + 1)) from e9.trans (nI_add (6 * k) 1)]
      refine xa_ld hx hb hK hP 1 0 rfl rfl (j := (6 * k + 1)) (by omega) (by decide) dL_onBollard_24 ?_
      rw [show (lf (6 * k + 1)) = (σ 8 k) from (ek1.trans ek2.symm)]
      refine lv_iload hx hb dL_onBollard_25 (lv_at hl 7 rfl) ?_
      refine lv_icmp_ne (tgt := 43) hx hb dL_onBollard_27 (by decide) (fun c27 => ?_) (fun c27 => ?_)
      · refine lv_iconst (v := 0) hx hb dL_onBollard_43 (by decide) ?_
        refine lv_iadd hx hb dL_onBollard_44 ?_
        refine lv_istore (lv' := [(6, .int ((acc (fun j => if σ 8 j = b9 then tn_ σ j t s9 else 0) 0 k) + 0)), (7, .int (nI k)), (0, .ref ab), (1, .ref al), (2, .ref am), (3, .int (ht σ t)), (4, .int s9), (5, .int b9)]) hx hb dL_onBollard_45 hl (by decide) rfl (fun ls hl => ?_)
        refine lv_iinc (v := (nI (k + 1))) (lv' := [(7, .int (nI (k + 1))), (6, .int ((acc (fun j => if σ 8 j = b9 then tn_ σ j t s9 else 0) 0 k) + 0)), (0, .ref ab), (1, .ref al), (2, .ref am), (3, .int (ht σ t)), (4, .int s9), (5, .int b9)]) hx hb dL_onBollard_47 hl (k := 1) rfl (by exact nI_add _ 1) (by decide) rfl (fun ls hl => ?_)
        refine lv_goto (tgt := 6) hx hb dL_onBollard_50 (by decide) ?_
        refine ih (k + 1) ls (by omega) (lv_sub hl [0, 1, 2, 3, 4, 5, 6, 7] ?_)
        have e9 : acc (fun j => if σ 8 j = b9 then tn_ σ j t s9 else 0) 0 (k + 1) = acc (fun j => if σ 8 j = b9 then tn_ σ j t s9 else 0) 0 k + 0 := by show acc (fun j => if σ 8 j = b9 then tn_ σ j t s9 else 0) 0 k + (if σ 8 k = b9 then tn_ σ k t s9 else 0) = _; rw [if_neg c27]
        rw [e9]; rfl
      · refine lv_aload_n hx hb dL_onBollard_30 rfl (lv_at hl 2 rfl) ?_
        refine lv_aload_n hx hb dL_onBollard_31 rfl (lv_at hl 3 rfl) ?_
        refine lv_iload hx hb dL_onBollard_32 (lv_at hl 0 rfl) ?_
        refine lv_iload_n hx hb dL_onBollard_34 rfl (lv_at hl 5 rfl) ?_
        refine lv_iload hx hb dL_onBollard_35 (lv_at hl 6 rfl) ?_
        refine ro_callS 5 hx hb hml hown hts hl.1 hP hK (As := [.ref ab, .ref al, .int (nI k), .int (ht σ t), .int s9]) (rest := [.int (acc (fun j => if σ 8 j = b9 then tn_ σ j t s9 else 0) 0 k)]) (c_L_tension l D cI ab al am bf lf mf H σ hI hR k t hk1 ht48 s9 hs9) gL_onBollard_L_tension rfl rfl rfl (by decide +kernel) ⟨Nat.le_of_ble_eq_true rfl, Nat.le_of_ble_eq_true rfl⟩ rfl rfl (Nat.le_of_ble_eq_true rfl) dL_onBollard_37 ⟨Nat.zero_le _, Nat.zero_le _⟩ (fun r1 hr1 => ?_)
        subst hr1
        refine lv_goto (tgt := 44) hx hb dL_onBollard_40 (by decide) ?_
        refine lv_iadd hx hb dL_onBollard_44 ?_
        refine lv_istore (lv' := [(6, .int ((acc (fun j => if σ 8 j = b9 then tn_ σ j t s9 else 0) 0 k) + (tn_ σ k t s9))), (7, .int (nI k)), (0, .ref ab), (1, .ref al), (2, .ref am), (3, .int (ht σ t)), (4, .int s9), (5, .int b9)]) hx hb dL_onBollard_45 hl (by decide) rfl (fun ls hl => ?_)
        refine lv_iinc (v := (nI (k + 1))) (lv' := [(7, .int (nI (k + 1))), (6, .int ((acc (fun j => if σ 8 j = b9 then tn_ σ j t s9 else 0) 0 k) + (tn_ σ k t s9))), (0, .ref ab), (1, .ref al), (2, .ref am), (3, .int (ht σ t)), (4, .int s9), (5, .int b9)]) hx hb dL_onBollard_47 hl (k := 1) rfl (by exact nI_add _ 1) (by decide) rfl (fun ls hl => ?_)
        refine lv_goto (tgt := 6) hx hb dL_onBollard_50 (by decide) ?_
        refine ih (k + 1) ls (by omega) (lv_sub hl [0, 1, 2, 3, 4, 5, 6, 7] ?_)
        have e9 : acc (fun j => if σ 8 j = b9 then tn_ σ j t s9 else 0) 0 (k + 1) = acc (fun j => if σ 8 j = b9 then tn_ σ j t s9 else 0) 0 k + tn_ σ k t s9 := by show acc (fun j => if σ 8 j = b9 then tn_ σ j t s9 else 0) 0 k + (if σ 8 k = b9 then tn_ σ k t s9 else 0) = _; rw [if_pos c27]
        rw [e9]; rfl
set_option maxHeartbeats 4000000 in
set_option maxRecDepth 100000 in
theorem c_L_isSafe (l : Launch) (D : va_G) (cI : ClassId) (ab al am : Nat) (bf lf mf : Nat → Int32) (H : Heap) (σ : St) {nL nB : Nat} (hI : inv σ nL nB) (hR : lrel σ nL nB bf lf mf) (t : Nat) (ht48 : t < 48) : roM l yL_isSafe wsL_isSafe ({ frames := 6, cells := 0, slots := 0, locals := 164 }) [.ref ab, .ref al, .ref am, .int (ht σ t), .int (σ 2 t)] D (lw3 cI ab al am bf lf mf) (tyI cI) H (fun r => r = bI (safe_ σ t)) := by
  refine ro_of (cc := cL_isSafe) (maxL := 8) (ret := some .boolean) (by decide) rfl (Nat.le_of_ble_eq_true rfl) ?_
  intro p e s m args below meth c he hH hP hK ls hl
  obtain ⟨hx, hb, hr, hml, hown, hts, hlocks⟩ := he
  have hown : s.vm.findClass RL = some m.cls := hown
  obtain ⟨⟨hL6, hB4⟩, ⟨hm0, hm1, hm2⟩, hRb, hRl⟩ := id hR
  have hl : lv_has ls 8 [(0, .ref ab), (1, .ref al), (2, .ref am), (3, .int (ht σ t)), (4, .int (σ 2 t))] := hl
  refine lv_aload_n hx hb dL_isSafe_0 rfl (lv_at hl 0 rfl) ?_
  refine lv_aload_n hx hb dL_isSafe_1 rfl (lv_at hl 1 rfl) ?_
  refine lv_aload_n hx hb dL_isSafe_2 rfl (lv_at hl 2 rfl) ?_
  refine lv_iload_n hx hb dL_isSafe_3 rfl (lv_at hl 3 rfl) ?_
  refine lv_iload hx hb dL_isSafe_4 (lv_at hl 4 rfl) ?_
  refine ro_callS 5 hx hb hml hown hts hl.1 hP hK (As := [.ref ab, .ref al, .ref am, .int (ht σ t), .int (σ 2 t)]) (rest := []) (c_L_shift l D cI ab al am bf lf mf H σ hI hR t ht48) gL_isSafe_L_shift rfl rfl rfl (by decide +kernel) ⟨Nat.le_of_ble_eq_true rfl, Nat.le_of_ble_eq_true rfl⟩ rfl rfl (Nat.le_of_ble_eq_true rfl) dL_isSafe_6 ⟨Nat.zero_le _, Nat.zero_le _⟩ (fun r1 hr1 => ?_)
  subst hr1
  refine lv_istore (lv' := [(5, .int (bal σ t)), (0, .ref ab), (1, .ref al), (2, .ref am), (3, .int (ht σ t)), (4, .int (σ 2 t))]) hx hb dL_isSafe_9 hl (by decide) rfl (fun ls hl => ?_)
  refine lv_aload_n hx hb dL_isSafe_11 rfl (lv_at hl 1 rfl) ?_
  refine lv_aload_n hx hb dL_isSafe_12 rfl (lv_at hl 2 rfl) ?_
  refine lv_aload_n hx hb dL_isSafe_13 rfl (lv_at hl 3 rfl) ?_
  refine lv_iload_n hx hb dL_isSafe_14 rfl (lv_at hl 4 rfl) ?_
  refine lv_iload hx hb dL_isSafe_15 (lv_at hl 5 rfl) ?_
  refine ro_callS 5 hx hb hml hown hts hl.1 hP hK (As := [.ref ab, .ref al, .ref am, .int (ht σ t), .int (σ 2 t)]) (rest := []) (c_L_isAdrift l D cI ab al am bf lf mf H σ hI hR t ht48) gL_isSafe_L_isAdrift rfl rfl rfl (by decide +kernel) ⟨Nat.le_of_ble_eq_true rfl, Nat.le_of_ble_eq_true rfl⟩ rfl rfl (Nat.le_of_ble_eq_true rfl) dL_isSafe_17 ⟨Nat.zero_le _, Nat.zero_le _⟩ (fun r2 hr2 => ?_)
  subst hr2
  have hs : safe_ σ t = (!drfW σ t (bal σ t) && (allB (fun j => decide (tn_ σ j t (bal σ t) * 100 ≤ σ 11 j * 55)) nL && allB (fun k => decide (sumOn_ σ (nI k) t (bal σ t) ≤ σ 6 k)) nB)) := by unfold safe_ safeW lnH blH; rw [inv_nL hI, inv_nB hI]
  rw [hs]
  suffices K2 : ∀ (n k : Nat) (x : Bool) (ls : Array Slot), k + n = nB → (x && true) = ((!drfW σ t (bal σ t) && allB (fun j => decide (tn_ σ j t (bal σ t) * 100 ≤ σ 11 j * 55)) nL) && allB (fun k => decide (sumOn_ σ (nI k) t (bal σ t) ≤ σ 6 k)) k) → lv_has ls 8 [(7, .int (nI k)), (6, .int (bI x)), (0, .ref ab), (1, .ref al), (2, .ref am), (3, .int (ht σ t)), (4, .int (σ 2 t)), (5, .int (bal σ t))] → W p l e _ s m args below meth c H [] 0 0 (roQ below H (fun r => r = bI (!drfW σ t (bal σ t) && (allB (fun j => decide (tn_ σ j t (bal σ t) * 100 ≤ σ 11 j * 55)) nL && allB (fun k => decide (sumOn_ σ (nI k) t (bal σ t) ≤ σ 6 k)) nB))) args s) (F0 m 95 ls []) by
    suffices K1 : ∀ (n k : Nat) (x : Bool) (ls : Array Slot), k + n = nL → x = (!drfW σ t (bal σ t) && allB (fun j => decide (tn_ σ j t (bal σ t) * 100 ≤ σ 11 j * 55)) k) → lv_has ls 8 [(7, .int (nI k)), (6, .int (bI x)), (0, .ref ab), (1, .ref al), (2, .ref am), (3, .int (ht σ t)), (4, .int (σ 2 t)), (5, .int (bal σ t))] → W p l e _ s m args below meth c H [] 0 0 (roQ below H (fun r => r = bI (!drfW σ t (bal σ t) && (allB (fun j => decide (tn_ σ j t (bal σ t) * 100 ≤ σ 11 j * 55)) nL && allB (fun k => decide (sumOn_ σ (nI k) t (bal σ t) ≤ σ 6 k)) nB))) args s) (F0 m 33 ls []) by
      refine lv_if_ne (tgt := 27) hx hb dL_isSafe_20 (by decide) (fun c20 => ?_) (fun c20 => ?_)
      · refine lv_iconst (v := 0) hx hb dL_isSafe_27 (by decide) ?_
        refine lv_istore (lv' := [(6, .int 0), (5, .int (bal σ t)), (0, .ref ab), (1, .ref al), (2, .ref am), (3, .int (ht σ t)), (4, .int (σ 2 t))]) hx hb dL_isSafe_28 hl (by decide) rfl (fun ls hl => ?_)
        refine lv_iconst (v := 0) hx hb dL_isSafe_30 (by decide) ?_
        refine lv_istore (lv' := [(7, .int 0), (6, .int 0), (5, .int (bal σ t)), (0, .ref ab), (1, .ref al), (2, .ref am), (3, .int (ht σ t)), (4, .int (σ 2 t))]) hx hb dL_isSafe_31 hl (by decide) rfl (fun ls hl => ?_)
        exact K1 nL 0 false ls (by omega) (by rw [bI_t c20]; rfl) (lv_sub hl [0, 1, 3, 4, 5, 6, 7, 2] rfl)
      · refine lv_iconst (v := 1) hx hb dL_isSafe_23 (by decide) ?_
        refine lv_goto (tgt := 28) hx hb dL_isSafe_24 (by decide) ?_
        refine lv_istore (lv' := [(6, .int 1), (5, .int (bal σ t)), (0, .ref ab), (1, .ref al), (2, .ref am), (3, .int (ht σ t)), (4, .int (σ 2 t))]) hx hb dL_isSafe_28 hl (by decide) rfl (fun ls hl => ?_)
        refine lv_iconst (v := 0) hx hb dL_isSafe_30 (by decide) ?_
        refine lv_istore (lv' := [(7, .int 0), (6, .int 1), (5, .int (bal σ t)), (0, .ref ab), (1, .ref al), (2, .ref am), (3, .int (ht σ t)), (4, .int (σ 2 t))]) hx hb dL_isSafe_31 hl (by decide) rfl (fun ls hl => ?_)
        exact K1 nL 0 true ls (by omega) (by rw [bI_f c20]; rfl) (lv_sub hl [0, 1, 3, 4, 5, 6, 7, 2] rfl)
    intro n
    induction n with
    | zero =>
        intro k x ls hk hx9 hl
        refine lv_iload hx hb dL_isSafe_33 (lv_at hl 0 rfl) ?_
        refine lv_aload_n hx hb dL_isSafe_35 rfl (lv_at hl 4 rfl) ?_
        refine lv_iconst (v := 1) hx hb dL_isSafe_36 (by decide) ?_
        refine xa_ld hx hb hK hP 2 0 rfl rfl (j := 1) (by omega) (by decide) dL_isSafe_37 ?_
        rw [show (mf 1) = (nI nL) from hm1]
        refine lv_icmp_ge (tgt := 92) hx hb dL_isSafe_38 (by decide) (fun c38 => ?_) (fun c38 => ?_)
        · refine lv_iconst (v := 0) hx hb dL_isSafe_92 (by decide) ?_
          refine lv_istore (lv' := [(7, .int 0), (6, .int (bI x)), (0, .ref ab), (1, .ref al), (2, .ref am), (3, .int (ht σ t)), (4, .int (σ 2 t)), (5, .int (bal σ t))]) hx hb dL_isSafe_93 hl (by decide) rfl (fun ls hl => ?_)
          exact K2 nB 0 x ls (by omega) (by rw [hx9, show k = nL by omega]; show _ = (_ && true); rfl) (lv_sub hl [0, 1, 2, 3, 4, 5, 6, 7] rfl)
        · exact absurd (nI_le (a := nL) (b := k) (by omega) (by omega)) c38
    | succ n ih =>
        intro k x ls hk hx9 hl
        refine lv_iload hx hb dL_isSafe_33 (lv_at hl 0 rfl) ?_
        refine lv_aload_n hx hb dL_isSafe_35 rfl (lv_at hl 4 rfl) ?_
        refine lv_iconst (v := 1) hx hb dL_isSafe_36 (by decide) ?_
        refine xa_ld hx hb hK hP 2 0 rfl rfl (j := 1) (by omega) (by decide) dL_isSafe_37 ?_
        rw [show (mf 1) = (nI nL) from hm1]
        refine lv_icmp_ge (tgt := 92) hx hb dL_isSafe_38 (by decide) (fun c38 => ?_) (fun c38 => ?_)
        · exact absurd c38 (nI_ge (a := k) (b := nL) (by omega) (by omega))
        · have hk1 : k < nL := by omega
          refine lv_iload hx hb dL_isSafe_41 (lv_at hl 1 rfl) ?_
          refine lv_if_eq (tgt := 92) hx hb dL_isSafe_43 (by decide) (fun c43 => ?_) (fun c43 => ?_)
          · have hf := bI_f c43
            refine lv_iconst (v := 0) hx hb dL_isSafe_92 (by decide) ?_
            refine lv_istore (lv' := [(7, .int 0), (6, .int (bI x)), (0, .ref ab), (1, .ref al), (2, .ref am), (3, .int (ht σ t)), (4, .int (σ 2 t)), (5, .int (bal σ t))]) hx hb dL_isSafe_93 hl (by decide) rfl (fun ls hl => ?_)
            exact K2 nB 0 x ls (by omega) (by rw [hf] at hx9 ⊢; exact (Bool.and_eq_false_iff.mp hx9.symm).elim (fun u => by rw [u]; rfl) (fun u => by rw [allB_mono u (by omega), Bool.and_false]; rfl)) (lv_sub hl [0, 1, 2, 3, 4, 5, 6, 7] rfl)
          · have hT := bI_t c43
            obtain ⟨-, e2, e3, e4, e5⟩ := hRl k hk1
            obtain ⟨-, -, -, ⟨y1, y2⟩, -, -⟩ := hI.2.2.2.2.2.2 k hk1
            obtain ⟨t1, t2⟩ := inv_tn hI hk1 ht48 (bal_inS σ t)
            refine lv_ldc2 (v := (20)) hx hb hown (hts (.constantLong RL 42 (20)) (by decide +kernel)) dL_isSafe_46 ?_
            refine lv_aload_n hx hb dL_isSafe_49 rfl (lv_at hl 2 rfl) ?_
            refine lv_aload_n hx hb dL_isSafe_50 rfl (lv_at hl 3 rfl) ?_
            refine lv_iload hx hb dL_isSafe_51 (lv_at hl 0 rfl) ?_
            refine lv_iload_n hx hb dL_isSafe_53 rfl (lv_at hl 5 rfl) ?_
            refine lv_iload hx hb dL_isSafe_54 (lv_at hl 7 rfl) ?_
            refine ro_callS 5 hx hb hml hown hts hl.1 hP hK (As := [.ref ab, .ref al, .int (nI k), .int (ht σ t), .int (bal σ t)]) (rest := [.long 20]) (c_L_tension l D cI ab al am bf lf mf H σ hI hR k t hk1 ht48 (bal σ t) (bal_inS σ t)) gL_isSafe_L_tension rfl rfl rfl (by decide +kernel) ⟨Nat.le_of_ble_eq_true rfl, Nat.le_of_ble_eq_true rfl⟩ rfl rfl (Nat.le_of_ble_eq_true rfl) dL_isSafe_56 ⟨Nat.zero_le _, Nat.zero_le _⟩ (fun r3 hr3 => ?_)
            subst hr3
            refine lv_i2l hx hb dL_isSafe_59 rfl ?_
            refine lv_lmul hx hb dL_isSafe_60 ?_
            refine lv_ldc2 (v := (11)) hx hb hown (hts (.constantLong RL 44 (11)) (by decide +kernel)) dL_isSafe_61 ?_
            refine lv_aload_n hx hb dL_isSafe_64 rfl (lv_at hl 3 rfl) ?_
            refine lv_bipush (v := 6) hx hb dL_isSafe_65 (by decide) ?_
            refine lv_iload hx hb dL_isSafe_67 (lv_at hl 0 rfl) ?_
            refine lv_imul hx hb dL_isSafe_69 ?_
            refine lv_topi (fun y9 e9 => ?_)
            rw [show y9 = (nI (6 * k)) from e9.trans (pk_mul 6 k)]
            refine lv_iconst (v := 3) hx hb dL_isSafe_70 (by decide) ?_
            refine lv_iadd hx hb dL_isSafe_71 ?_
            refine lv_topi (fun y9 e9 => ?_)
            rw [show y9 = (nI (6 * k + 3)) from e9.trans (nI_add (6 * k) 3)]
            refine xa_ld hx hb hK hP 1 0 rfl rfl (j := (6 * k + 3)) (by omega) (by decide) dL_isSafe_72 ?_
            rw [show (lf (6 * k + 3)) = (σ 11 k) from e3]
            refine lv_i2l hx hb dL_isSafe_73 rfl ?_
            refine lv_lmul hx hb dL_isSafe_74 ?_
            refine W.lcmp hx hb dL_isSafe_75 ?_
            have hcmp := long_lq (x := tn_ σ k t (bal σ t)) (y := σ 11 k) ⟨t1, t2⟩ ⟨y1, y2⟩
            refine lv_if_gt (tgt := 83) hx hb dL_isSafe_76 (by decide) (fun c76 => ?_) (fun c76 => ?_)
            · refine lv_iconst (v := 0) hx hb dL_isSafe_83 (by decide) ?_
              refine lv_istore (lv' := [(6, .int 0), (7, .int (nI k)), (0, .ref ab), (1, .ref al), (2, .ref am), (3, .int (ht σ t)), (4, .int (σ 2 t)), (5, .int (bal σ t))]) hx hb dL_isSafe_84 hl (by decide) rfl (fun ls hl => ?_)
              refine lv_iinc (v := (nI (k + 1))) (lv' := [(7, .int (nI (k + 1))), (6, .int 0), (0, .ref ab), (1, .ref al), (2, .ref am), (3, .int (ht σ t)), (4, .int (σ 2 t)), (5, .int (bal σ t))]) hx hb dL_isSafe_86 hl (k := 1) rfl (by exact nI_add _ 1) (by decide) rfl (fun ls hl => ?_)
              refine lv_goto (tgt := 33) hx hb dL_isSafe_89 (by decide) ?_
              exact ih (k + 1) false ls (by omega) (by show false = (_ && (allB (fun j => decide (tn_ σ j t (bal σ t) * 100 ≤ σ 11 j * 55)) k && decide (tn_ σ k t (bal σ t) * 100 ≤ σ 11 k * 55))); rw [decide_eq_false (hcmp.mp ((lg_cmp_gt _ _).mp c76)), Bool.and_false, Bool.and_false]) (lv_sub hl [0, 1, 2, 3, 4, 5, 6, 7] rfl)
            · refine lv_iconst (v := 1) hx hb dL_isSafe_79 (by decide) ?_
              refine lv_goto (tgt := 84) hx hb dL_isSafe_80 (by decide) ?_
              refine lv_istore (lv' := [(6, .int 1), (7, .int (nI k)), (0, .ref ab), (1, .ref al), (2, .ref am), (3, .int (ht σ t)), (4, .int (σ 2 t)), (5, .int (bal σ t))]) hx hb dL_isSafe_84 hl (by decide) rfl (fun ls hl => ?_)
              refine lv_iinc (v := (nI (k + 1))) (lv' := [(7, .int (nI (k + 1))), (6, .int 1), (0, .ref ab), (1, .ref al), (2, .ref am), (3, .int (ht σ t)), (4, .int (σ 2 t)), (5, .int (bal σ t))]) hx hb dL_isSafe_86 hl (k := 1) rfl (by exact nI_add _ 1) (by decide) rfl (fun ls hl => ?_)
              refine lv_goto (tgt := 33) hx hb dL_isSafe_89 (by decide) ?_
              exact ih (k + 1) true ls (by omega) (by show true = (_ && (allB (fun j => decide (tn_ σ j t (bal σ t) * 100 ≤ σ 11 j * 55)) k && decide (tn_ σ k t (bal σ t) * 100 ≤ σ 11 k * 55))); rw [decide_eq_true (Classical.not_not.mp (fun v => c76 ((lg_cmp_gt _ _).mpr (hcmp.mpr v)))), Bool.and_true, ← hx9, hT]) (lv_sub hl [0, 1, 2, 3, 4, 5, 6, 7] rfl)
  intro n
  induction n with
  | zero =>
    intro k x ls hk hx9 hl
    rw [Bool.and_true] at hx9
    refine lv_iload hx hb dL_isSafe_95 (lv_at hl 0 rfl) ?_
    refine lv_aload_n hx hb dL_isSafe_97 rfl (lv_at hl 4 rfl) ?_
    refine lv_iconst (v := 0) hx hb dL_isSafe_98 (by decide) ?_
    refine xa_ld hx hb hK hP 2 0 rfl rfl (j := 0) (by omega) (by decide) dL_isSafe_99 ?_
    rw [show (mf 0) = (nI nB) from hm0]
    refine lv_icmp_ge (tgt := 143) hx hb dL_isSafe_100 (by decide) (fun c100 => ?_) (fun c100 => ?_)
    · refine lv_iload hx hb dL_isSafe_143 (lv_at hl 1 rfl) ?_
      exact ro_zret (v := (bI x)) hx hb hr hlocks hH ⟨_, rfl⟩ (by rw [hx9, show k = nB by omega, Bool.and_assoc]) dL_isSafe_145
    · exact absurd (nI_le (a := nB) (b := k) (by omega) (by omega)) c100
  | succ n ih =>
    intro k x ls hk hx9 hl
    rw [Bool.and_true] at hx9
    refine lv_iload hx hb dL_isSafe_95 (lv_at hl 0 rfl) ?_
    refine lv_aload_n hx hb dL_isSafe_97 rfl (lv_at hl 4 rfl) ?_
    refine lv_iconst (v := 0) hx hb dL_isSafe_98 (by decide) ?_
    refine xa_ld hx hb hK hP 2 0 rfl rfl (j := 0) (by omega) (by decide) dL_isSafe_99 ?_
    rw [show (mf 0) = (nI nB) from hm0]
    refine lv_icmp_ge (tgt := 143) hx hb dL_isSafe_100 (by decide) (fun c100 => ?_) (fun c100 => ?_)
    · exact absurd c100 (nI_ge (a := k) (b := nB) (by omega) (by omega))
    · have hk1 : k < nB := by omega
      refine lv_iload hx hb dL_isSafe_103 (lv_at hl 1 rfl) ?_
      refine lv_if_eq (tgt := 143) hx hb dL_isSafe_105 (by decide) (fun c105 => ?_) (fun c105 => ?_)
      · have hf := bI_f c105
        refine lv_iload hx hb dL_isSafe_143 (lv_at hl 1 rfl) ?_
        exact ro_zret (v := (bI x)) hx hb hr hlocks hH ⟨_, rfl⟩ (by rw [hf] at hx9 ⊢; rw [← Bool.and_assoc]; exact (Bool.and_eq_false_iff.mp hx9.symm).elim (fun u => by rw [u]; rfl) (fun u => by rw [allB_mono u (by omega), Bool.and_false])) dL_isSafe_145
      · have hT := bI_t c105
        obtain ⟨b1, b2⟩ := hRb k hk1
        refine lv_aload_n hx hb dL_isSafe_108 rfl (lv_at hl 2 rfl) ?_
        refine lv_aload_n hx hb dL_isSafe_109 rfl (lv_at hl 3 rfl) ?_
        refine lv_aload_n hx hb dL_isSafe_110 rfl (lv_at hl 4 rfl) ?_
        refine lv_iload_n hx hb dL_isSafe_111 rfl (lv_at hl 5 rfl) ?_
        refine lv_iload hx hb dL_isSafe_112 (lv_at hl 7 rfl) ?_
        refine lv_iload hx hb dL_isSafe_114 (lv_at hl 0 rfl) ?_
        refine ro_callS 6 hx hb hml hown hts hl.1 hP hK (As := [.ref ab, .ref al, .ref am, .int (ht σ t), .int (bal σ t), .int (nI k)]) (rest := []) (c_L_onBollard l D cI ab al am bf lf mf H σ hI hR t ht48 (bal σ t) (bal_inS σ t) (nI k)) gL_isSafe_L_onBollard rfl rfl rfl (by decide +kernel) ⟨Nat.le_of_ble_eq_true rfl, Nat.le_of_ble_eq_true rfl⟩ rfl rfl (Nat.le_of_ble_eq_true rfl) dL_isSafe_116 ⟨Nat.zero_le _, Nat.zero_le _⟩ (fun r3 hr3 => ?_)
        subst hr3
        refine lv_aload_n hx hb dL_isSafe_119 rfl (lv_at hl 2 rfl) ?_
        refine lv_iconst (v := 2) hx hb dL_isSafe_120 (by decide) ?_
        refine lv_iload hx hb dL_isSafe_121 (lv_at hl 0 rfl) ?_
        refine lv_imul hx hb dL_isSafe_123 ?_
        refine lv_topi (fun y9 e9 => ?_)
        rw [show y9 = (nI (2 * k)) from e9.trans (pk_mul 2 k)]
        refine lv_iconst (v := 1) hx hb dL_isSafe_124 (by decide) ?_
        refine lv_iadd hx hb dL_isSafe_125 ?_
        refine lv_topi (fun y9 e9 => ?_)
        rw [show y9 = (nI (2 * k + 1)) from e9.trans (nI_add (2 * k) 1)]
        refine xa_ld hx hb hK hP 0 0 rfl rfl (j := (2 * k + 1)) (by omega) (by decide) dL_isSafe_126 ?_
        rw [show (bf (2 * k + 1)) = (σ 6 k) from b2]
        refine lv_icmp_gt (tgt := 134) hx hb dL_isSafe_127 (by decide) (fun c127 => ?_) (fun c127 => ?_)
        · refine lv_iconst (v := 0) hx hb dL_isSafe_134 (by decide) ?_
          refine lv_istore (lv' := [(6, .int 0), (7, .int (nI k)), (0, .ref ab), (1, .ref al), (2, .ref am), (3, .int (ht σ t)), (4, .int (σ 2 t)), (5, .int (bal σ t))]) hx hb dL_isSafe_135 hl (by decide) rfl (fun ls hl => ?_)
          refine lv_iinc (v := (nI (k + 1))) (lv' := [(7, .int (nI (k + 1))), (6, .int 0), (0, .ref ab), (1, .ref al), (2, .ref am), (3, .int (ht σ t)), (4, .int (σ 2 t)), (5, .int (bal σ t))]) hx hb dL_isSafe_137 hl (k := 1) rfl (by exact nI_add _ 1) (by decide) rfl (fun ls hl => ?_)
          refine lv_goto (tgt := 95) hx hb dL_isSafe_140 (by decide) ?_
          exact ih (k + 1) false ls (by omega) (by show false = (_ && (allB (fun k => decide (sumOn_ σ (nI k) t (bal σ t) ≤ σ 6 k)) k && decide (sumOn_ σ (nI k) t (bal σ t) ≤ σ 6 k))); rw [decide_eq_false (Int32.not_le.mpr c127), Bool.and_false, Bool.and_false]) (lv_sub hl [0, 1, 2, 3, 4, 5, 6, 7] rfl)
        · refine lv_iconst (v := 1) hx hb dL_isSafe_130 (by decide) ?_
          refine lv_goto (tgt := 135) hx hb dL_isSafe_131 (by decide) ?_
          refine lv_istore (lv' := [(6, .int 1), (7, .int (nI k)), (0, .ref ab), (1, .ref al), (2, .ref am), (3, .int (ht σ t)), (4, .int (σ 2 t)), (5, .int (bal σ t))]) hx hb dL_isSafe_135 hl (by decide) rfl (fun ls hl => ?_)
          refine lv_iinc (v := (nI (k + 1))) (lv' := [(7, .int (nI (k + 1))), (6, .int 1), (0, .ref ab), (1, .ref al), (2, .ref am), (3, .int (ht σ t)), (4, .int (σ 2 t)), (5, .int (bal σ t))]) hx hb dL_isSafe_137 hl (k := 1) rfl (by exact nI_add _ 1) (by decide) rfl (fun ls hl => ?_)
          refine lv_goto (tgt := 95) hx hb dL_isSafe_140 (by decide) ?_
          exact ih (k + 1) true ls (by omega) (by show true = (_ && (allB (fun k => decide (sumOn_ σ (nI k) t (bal σ t) ≤ σ 6 k)) k && decide (sumOn_ σ (nI k) t (bal σ t) ≤ σ 6 k))); rw [decide_eq_true (Int32.not_lt.mp c127), Bool.and_true, ← hx9, hT]) (lv_sub hl [0, 1, 2, 3, 4, 5, 6, 7] rfl)
