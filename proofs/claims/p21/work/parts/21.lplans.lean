/-! The law: arePlans. -/
theorem fuR_14 {σ : St} {g : Nat → Int32} : ∀ (n t : Nat), fuR n (st σ 14 g) t = fuR n σ t := by
  intro n
  induction n with
  | zero => intro t; rfl
  | succ n ih =>
    intro t
    show (if safe_ σ t = true then fuR n (st σ 14 g) (t + 1) else nI t) = (if safe_ σ t = true then fuR n σ (t + 1) else nI t)
    rw [ih]
theorem hour_nI {t : Nat} (h : t < 48) : inR (nI t) 0 47 = true := hour_in (nI_pos (by omega)) (nI_lt (a := t) (b := 48) h (by omega))
theorem m1_lt {n : Nat} (h : n < 1000) : nI n + (-1) < nI n := by
  have e1 : (nI n).toInt = (n : Int) := nI_ti (by omega)
  have e2 : (-1 : Int32).toInt = -1 := rfl
  rw [i_lt, Jvm.Kit.i32_add (by rw [e1, e2]; omega) (by rw [e1, e2]; omega), e1, e2]
  omega
set_option maxHeartbeats 4000000 in
set_option maxRecDepth 100000 in
theorem c_L_arePlans (l : Launch) (hfl : l.stackTraces = false) (D : va_G) (cI cZ : ClassId) (h : Nat) (a : Nat → Nat) (ab al at9 aw ap am : Nat) (bf lf mf : Nat → Int32) (Hi : Heap) (A : Nat → Prop) (σ : St) {nL nB : Nat} (hI : inv σ nL nB) (hR : lrel σ nL nB bf lf mf) (hD : va_D A (fw cI cZ h a σ ab al at9 aw ap am bf lf mf)) (hA : ∀ q, Hi.size ≤ q → A q) (z : Nat) (hz8 : z < 100000000) : hgM l yL_arePlans wsL_arePlans ({ frames := 8, cells := 50, slots := 330, locals := 222 }) [.ref h, .ref ab, .ref al, .ref at9, .ref aw, .ref ap, .ref am, .int (nI z)] D (fw cI cZ h a σ ab al at9 aw ap am bf lf mf) (tyX cI cZ) Hi (S := Nat → Int32) (fun g => (fw cI cZ h a (st σ 14 g) ab al at9 aw ap am bf lf mf)) (fun r _ => r = 1) A 50 330 := by
  refine hg_of (cc := cL_arePlans) (maxL := 12) (ret := some .boolean) (by decide) rfl (Nat.le_of_ble_eq_true rfl) ?_
  intro p e s m args below meth c he hH hP hK hT ls hl
  obtain ⟨hx, hb, hr, hml, hown, hts, hlocks⟩ := he
  have hown : s.vm.findClass RL = some m.cls := hown
  have hS : va_S A Hi Hi [] := va_S.rf
  have hL10 : nL ≤ 10 := hI.2.1
  have hPx := va_P_l hP
  have hPl := va_P_r hP
  have hP3 : va_P D vwCl (lw3 cI ab al am bf lf mf) Hi := hPl.sub [0, 1, 5] rfl
  have hK1 : va_K D vwCl (tyI cI) s := hK.sub [0] rfl
  have hKx := hK
  have hl : lv_has ls 12 [(0, .ref h), (1, .ref ab), (2, .ref al), (3, .ref at9), (4, .ref aw), (5, .ref ap), (6, .ref am), (7, .int (nI z))] := hl
  refine lv_iload hx hb dL_arePlans_0 (lv_at hl 7 rfl) ?_
  refine lv_bipush (v := 48) hx hb dL_arePlans_2 (by decide) ?_
  refine lv_irem hx hb dL_arePlans_4 (by decide) ?_
  refine lv_topi (fun y9 e9 => ?_)
  rw [show y9 = (nI (z % 48)) from e9.trans (pk_rem (a := z) (d := 48) (by omega) (by omega) (by omega))]
  obtain ⟨f, hfz⟩ : ∃ y : Nat, y = z % 48 := ⟨_, rfl⟩
  rw [← hfz]
  have hf48 : f < 48 := by omega
  refine lv_istore (lv' := [(8, .int (nI f)), (0, .ref h), (1, .ref ab), (2, .ref al), (3, .ref at9), (4, .ref aw), (5, .ref ap), (6, .ref am), (7, .int (nI z))]) hx hb dL_arePlans_5 hl (by decide) rfl (fun ls hl => ?_)
  refine lv_iload hx hb dL_arePlans_7 (lv_at hl 0 rfl) ?_
  refine lv_iload hx hb dL_arePlans_9 (lv_at hl 8 rfl) ?_
  refine lv_bipush (v := 48) hx hb dL_arePlans_11 (by decide) ?_
  refine lv_idiv hx hb dL_arePlans_13 (by decide) ?_
  refine lv_topi (fun y9 e9 => ?_)
  rw [show y9 = (nI (z / 48)) from e9.trans (pk_div (a := z) (d := 48) (by omega) (by omega) (by omega))]
  refine lv_bipush (v := 48) hx hb dL_arePlans_14 (by decide) ?_
  refine lv_iload hx hb dL_arePlans_16 (lv_at hl 0 rfl) ?_
  refine lv_isub hx hb dL_arePlans_18 ?_
  refine lv_topi (fun y9 e9 => ?_)
  rw [show y9 = (nI (48 - f)) from e9.trans (pk_sub (a := 48) (b := f) (by omega))]
  refine lv_irem hx hb dL_arePlans_19 (nI_ne0 (by omega) (by omega)) ?_
  refine lv_topi (fun y9 e9 => ?_)
  rw [show y9 = (nI ((z / 48) % (48 - f))) from e9.trans (pk_rem (a := (z / 48)) (d := (48 - f)) (by omega) (by omega) (by omega))]
  refine lv_iadd hx hb dL_arePlans_20 ?_
  refine lv_topi (fun y9 e9 => ?_)
  rw [show y9 = (nI (f + ((z / 48) % (48 - f)))) from e9.trans (nI_add f ((z / 48) % (48 - f)))]
  obtain ⟨u, huz⟩ : ∃ y : Nat, y = f + z / 48 % (48 - f) := ⟨_, rfl⟩
  have hm : z / 48 % (48 - f) < 48 - f := Nat.mod_lt _ (by omega)
  have hfu : f ≤ u := by rw [huz]; exact Nat.le_add_right _ _
  have hu48 : u < 48 := by rw [huz]; omega
  refine lv_topi (fun y9 e9 => ?_)
  rw [show y9 = (nI u) from e9.trans (by rw [huz])]
  refine lv_istore (lv' := [(9, .int (nI u)), (8, .int (nI f)), (0, .ref h), (1, .ref ab), (2, .ref al), (3, .ref at9), (4, .ref aw), (5, .ref ap), (6, .ref am), (7, .int (nI z))]) hx hb dL_arePlans_21 hl (by decide) rfl (fun ls hl => ?_)
  refine lv_iconst (v := (-1)) hx hb dL_arePlans_23 (by decide) ?_
  refine lv_istore (lv' := [(10, .int (-1)), (9, .int (nI u)), (8, .int (nI f)), (0, .ref h), (1, .ref ab), (2, .ref al), (3, .ref at9), (4, .ref aw), (5, .ref ap), (6, .ref am), (7, .int (nI z))]) hx hb dL_arePlans_24 hl (by decide) rfl (fun ls hl => ?_)
  refine lv_bipush (v := 47) hx hb dL_arePlans_26 (by decide) ?_
  refine lv_topi (fun y9 e9 => ?_)
  rw [show y9 = (nI 48 + (-1)) from e9.trans (by decide)]
  refine lv_istore (lv' := [(11, .int (nI 48 + (-1))), (10, .int (-1)), (9, .int (nI u)), (8, .int (nI f)), (0, .ref h), (1, .ref ab), (2, .ref al), (3, .ref at9), (4, .ref aw), (5, .ref ap), (6, .ref am), (7, .int (nI z))]) hx hb dL_arePlans_28 hl (by decide) rfl (fun ls hl => ?_)
  suffices K : ∀ (n k : Nat) (ls : Array Slot), k = f + n → k ≤ 48 → lv_has ls 12 [(11, .int (nI k + (-1))), (10, .int (fuR (48 - k) σ k)), (9, .int (nI u)), (8, .int (nI f)), (0, .ref h), (1, .ref ab), (2, .ref al), (3, .ref at9), (4, .ref aw), (5, .ref ap), (6, .ref am), (7, .int (nI z))] → W p l e ({ frames := 8, cells := 50, slots := 330, locals := 222 }) s m args below meth c Hi [] 0 0 (gQ below D (S := Nat → Int32) (fun g => (fw cI cZ h a (st σ 14 g) ab al at9 aw ap am bf lf mf)) (fun r _ => r = 1) A 50 330 args s) (F0 m 30 ls []) by
    exact K (48 - f) 48 ls (by omega) (by omega) (lv_sub hl [0, 1, 2, 3, 4, 5, 6, 7, 8, 9, 10, 11] rfl)
  intro n
  induction n with
  | zero =>
    intro k ls hk hk8 hl
    obtain rfl : k = f := hk
    refine lv_iload hx hb dL_arePlans_30 (lv_at hl 0 rfl) ?_
    refine lv_iload hx hb dL_arePlans_32 (lv_at hl 3 rfl) ?_
    refine lv_icmp_lt (tgt := 81) hx hb dL_arePlans_34 (by decide) (fun c34 => ?_) (fun c34 => ?_)
    · refine lv_aload_n hx hb dL_arePlans_81 rfl (lv_at hl 4 rfl) ?_
      refine lv_iload hx hb dL_arePlans_82 (lv_at hl 3 rfl) ?_
      refine lv_iload hx hb dL_arePlans_84 (lv_at hl 2 rfl) ?_
      have hDx := va_D_l hD
      have hTx := tpA_nar hT (B := fun q => A q ∧ notin (lw6 cI ab al at9 aw ap am bf lf (σ 0) (σ 1) (σ 2) mf) q) (fun q h => h.1)
      have hg0 : goK (inR (nI k) 0 47 && inR (nI u) 0 47) (decide (nI k ≤ nI u)) true = 0 := gk0 (ant (hour_nI hf48) (hour_nI hu48)) (decide_eq_true (nI_le hfu (by omega))) rfl
      refine ok_callV 2 hx hb hml hown hts hl.1 hPx hKx hTx hS (fun q h => h.1) 0 0 rfl rfl (As := [.int (nI k), .int (nI u)]) (rest := []) (c_X0_plan l hfl D cI cZ h a σ Hi _ hDx hI (nI k) (nI u)) (xcp_no hg0) gL_arePlans_X0_plan rfl rfl rfl (by decide +kernel) ⟨Nat.le_of_ble_eq_true rfl, Nat.le_of_ble_eq_true rfl⟩ rfl rfl (Nat.le_of_ble_eq_true rfl) dL_arePlans_86 ⟨Nat.le_of_ble_eq_true rfl, Nat.le_of_ble_eq_true rfl⟩ (fun r1 ρ H locs hp1 hPx hS hk1 => ?_)
      obtain ⟨-, hr1, g9, rfl⟩ := hp1
      rw [tN_nI (by omega), tN_nI (by omega)] at hr1
      subst hr1
      have hP : va_P D vwCl (fw cI cZ h a (st σ 14 g9) ab al at9 aw ap am bf lf mf) H := va_P.app hPx (keepW hPl hk1)
      have hD : va_D A (fw cI cZ h a (st σ 14 g9) ab al at9 aw ap am bf lf mf) := va_D_ad (W := (fw cI cZ h a σ ab al at9 aw ap am bf lf mf)) (W' := (fw cI cZ h a (st σ 14 g9) ab al at9 aw ap am bf lf mf)) rfl hD
      have hPl : va_P D vwCl (lw6 cI ab al at9 aw ap am bf lf (σ 0) (σ 1) (σ 2) mf) H := va_P_r hP
      have hD6 : va_D A (lw6 cI ab al at9 aw ap am bf lf (σ 0) (σ 1) (σ 2) mf) := hD.sub [13, 14, 15, 16, 17, 18] (by decide) rfl
      have hF6 : ∀ q, va_A (lw6 cI ab al at9 aw ap am bf lf (σ 0) (σ 1) (σ 2) mf) H.size q → A q := va_free hD hS hA [13, 14, 15, 16, 17, 18] rfl
      refine lv_aload_n hx hb dL_arePlans_89 rfl (lv_at hl 5 rfl) ?_
      refine lv_aload_n hx hb dL_arePlans_90 rfl (lv_at hl 6 rfl) ?_
      refine lv_aload_n hx hb dL_arePlans_91 rfl (lv_at hl 7 rfl) ?_
      refine lv_aload hx hb dL_arePlans_92 (lv_at hl 8 rfl) ?_
      refine lv_aload hx hb dL_arePlans_94 (lv_at hl 9 rfl) ?_
      refine lv_aload hx hb dL_arePlans_96 (lv_at hl 10 rfl) ?_
      refine lv_iload hx hb dL_arePlans_98 (lv_at hl 3 rfl) ?_
      refine lv_iload hx hb dL_arePlans_100 (lv_at hl 2 rfl) ?_
      refine g_callS 8 hx hb hml hown hts hl.1 hPl hK1 hS hF6 (As := [.ref ab, .ref al, .ref at9, .ref aw, .ref ap, .ref am, .int (nI k), .int (nI u)]) (rest := [.int (plR (u + 1 - k) σ k 0)]) (c_L_plan l D cI ab al at9 aw ap am bf lf mf H (va_A (lw6 cI ab al at9 aw ap am bf lf (σ 0) (σ 1) (σ 2) mf) H.size) σ hI hR k u hfu hu48 hD6.self (fun q hq => Or.inr hq)) gL_arePlans_L_plan rfl rfl rfl (by decide +kernel) ⟨Nat.le_of_ble_eq_true rfl, Nat.le_of_ble_eq_true rfl⟩ rfl rfl (Nat.le_of_ble_eq_true rfl) dL_arePlans_102 ⟨Nat.le_of_ble_eq_true rfl, Nat.le_of_ble_eq_true rfl⟩ (fun r2 _ H1 locs1 hp2 hP4 hS hz2 hk2 => ?_)
      subst hp2
      have hj := va_join hP hD [13, 14, 15, 16, 17, 18] [0, 1, 2, 3, 4, 5, 6, 7, 8, 9, 10, 11, 12] (wc := lw6 cI ab al at9 aw ap am bf lf (σ 0) (σ 1) (σ 2) mf) (wr := xw cI cZ h a (st σ 14 g9)) rfl rfl (by decide) (by decide) hk2 hF6 hP4 hD6.self
      have hP : va_P D vwCl (fw cI cZ h a (st σ 14 g9) ab al at9 aw ap am bf lf mf) H1 := hj.1
      have hPx := va_P_l hP
      refine lv_icmp_ne (tgt := 123) hx hb dL_arePlans_105 (by decide) (fun c105 => ?_) (fun c105 => ?_)
      · exact absurd rfl c105
      · refine lv_aload_n hx hb dL_arePlans_108 rfl (lv_at hl 4 rfl) ?_
        refine lv_iload hx hb dL_arePlans_109 (lv_at hl 3 rfl) ?_
        refine ro_callV 1 hx hb hml hown hts hl.1 hPx hKx 0 0 rfl rfl (As := [.int (nI k)]) (rest := []) (r_X0_firstUnsafe l D cI cZ h a (st σ 14 g9) H1 (nL := nL) (nB := nB) hI k hf48) gL_arePlans_X0_firstUnsafe rfl rfl rfl (by decide +kernel) ⟨Nat.le_of_ble_eq_true rfl, Nat.le_of_ble_eq_true rfl⟩ rfl rfl (Nat.le_of_ble_eq_true rfl) dL_arePlans_111 ⟨Nat.le_of_ble_eq_true rfl, Nat.le_of_ble_eq_true rfl⟩ (fun r3 hr3 => ?_)
        subst hr3
        rw [fuR_14]
        refine lv_iload hx hb dL_arePlans_114 (lv_at hl 1 rfl) ?_
        refine lv_icmp_ne (tgt := 123) hx hb dL_arePlans_116 (by decide) (fun c116 => ?_) (fun c116 => ?_)
        · exact absurd rfl c116
        · refine lv_iconst (v := 1) hx hb dL_arePlans_119 (by decide) ?_
          refine lv_goto (tgt := 124) hx hb dL_arePlans_120 (by decide) ?_
          exact g_zret (v := 1) g9 hx hb hr hlocks hH hS hP ⟨true, rfl⟩ rfl dL_arePlans_124 (Nat.le_of_ble_eq_true rfl) (Nat.le_of_ble_eq_true rfl)
    · exact absurd (m1_lt (by omega)) c34
  | succ n ih =>
    intro k ls hk hk8 hl
    obtain ⟨j, rfl⟩ : ∃ j : Nat, k = j + 1 := ⟨f + n, by omega⟩
    have hj : f ≤ j ∧ j < 48 := by omega
    rw [pk_m1 j] at hl
    refine lv_iload hx hb dL_arePlans_30 (lv_at hl 0 rfl) ?_
    refine lv_iload hx hb dL_arePlans_32 (lv_at hl 3 rfl) ?_
    refine lv_icmp_lt (tgt := 81) hx hb dL_arePlans_34 (by decide) (fun c34 => ?_) (fun c34 => ?_)
    · exact absurd c34 (nI_nlt (by omega) (by omega))
    · refine lv_aload_n hx hb dL_arePlans_37 rfl (lv_at hl 5 rfl) ?_
      refine lv_aload_n hx hb dL_arePlans_38 rfl (lv_at hl 6 rfl) ?_
      refine lv_aload hx hb dL_arePlans_39 (lv_at hl 10 rfl) ?_
      refine lv_sipush (v := 300) hx hb dL_arePlans_41 (by decide) ?_
      refine lv_aload_n hx hb dL_arePlans_44 rfl (lv_at hl 7 rfl) ?_
      refine lv_iload hx hb dL_arePlans_45 (lv_at hl 0 rfl) ?_
      refine xa_ld hx hb hK hPl 2 0 rfl rfl (j := j) (by omega) (by decide) dL_arePlans_47 ?_
      refine lv_iadd hx hb dL_arePlans_48 ?_
      refine lv_aload hx hb dL_arePlans_49 (lv_at hl 8 rfl) ?_
      refine lv_iload hx hb dL_arePlans_51 (lv_at hl 0 rfl) ?_
      refine xa_ld hx hb hK hPl 3 0 rfl rfl (j := j) (by omega) (by decide) dL_arePlans_53 ?_
      refine lv_iadd hx hb dL_arePlans_54 ?_
      refine lv_topi (fun y9 e9 => ?_)
      rw [show y9 = (ht σ j) from e9.trans (rfl)]
      refine lv_aload hx hb dL_arePlans_55 (lv_at hl 9 rfl) ?_
      refine lv_iload hx hb dL_arePlans_57 (lv_at hl 0 rfl) ?_
      refine xa_ld hx hb hK hPl 4 0 rfl rfl (j := j) (by omega) (by decide) dL_arePlans_59 ?_
      refine ro_callS 5 hx hb hml hown hts hl.1 hP3 hK1 (As := [.ref ab, .ref al, .ref am, .int (ht σ j), .int ((σ 2) j)]) (rest := []) (c_L_isSafe l D cI ab al am bf lf mf Hi σ hI hR j hj.2) gL_arePlans_L_isSafe rfl rfl rfl (by decide +kernel) ⟨Nat.le_of_ble_eq_true rfl, Nat.le_of_ble_eq_true rfl⟩ rfl rfl (Nat.le_of_ble_eq_true rfl) dL_arePlans_60 ⟨Nat.zero_le _, Nat.zero_le _⟩ (fun r1 hr1 => ?_)
      subst hr1
      have efu : fuR (48 - j) σ j = (if safe_ σ j = true then fuR (48 - (j + 1)) σ (j + 1) else nI j) := by rw [show 48 - j = (48 - (j + 1)) + 1 by omega]; rfl
      refine lv_if_eq (tgt := 71) hx hb dL_arePlans_63 (by decide) (fun c63 => ?_) (fun c63 => ?_)
      · rw [if_neg (by rw [bI_f c63]; decide)] at efu
        refine lv_iload hx hb dL_arePlans_71 (lv_at hl 0 rfl) ?_
        refine lv_istore (lv' := [(10, .int (nI j)), (11, .int (nI j)), (9, .int (nI u)), (8, .int (nI f)), (0, .ref h), (1, .ref ab), (2, .ref al), (3, .ref at9), (4, .ref aw), (5, .ref ap), (6, .ref am), (7, .int (nI z))]) hx hb dL_arePlans_73 hl (by decide) rfl (fun ls hl => ?_)
        refine lv_iinc (v := ((nI j) + (-1))) (lv' := [(11, .int ((nI j) + (-1))), (10, .int (nI j)), (9, .int (nI u)), (8, .int (nI f)), (0, .ref h), (1, .ref ab), (2, .ref al), (3, .ref at9), (4, .ref aw), (5, .ref ap), (6, .ref am), (7, .int (nI z))]) hx hb dL_arePlans_75 hl (k := 1) rfl rfl (by decide) rfl (fun ls hl => ?_)
        refine lv_goto (tgt := 30) hx hb dL_arePlans_78 (by decide) ?_
        exact ih j ls (by omega) (by omega) (lv_sub hl [0, 1, 2, 3, 4, 5, 6, 7, 8, 9, 10, 11] (by rw [efu]; rfl))
      · rw [if_pos (bI_t c63)] at efu
        refine lv_iload hx hb dL_arePlans_66 (lv_at hl 1 rfl) ?_
        refine lv_goto (tgt := 73) hx hb dL_arePlans_68 (by decide) ?_
        refine lv_istore (lv' := [(10, .int (fuR (48 - (j + 1)) σ (j + 1))), (11, .int (nI j)), (9, .int (nI u)), (8, .int (nI f)), (0, .ref h), (1, .ref ab), (2, .ref al), (3, .ref at9), (4, .ref aw), (5, .ref ap), (6, .ref am), (7, .int (nI z))]) hx hb dL_arePlans_73 hl (by decide) rfl (fun ls hl => ?_)
        refine lv_iinc (v := ((nI j) + (-1))) (lv' := [(11, .int ((nI j) + (-1))), (10, .int (fuR (48 - (j + 1)) σ (j + 1))), (9, .int (nI u)), (8, .int (nI f)), (0, .ref h), (1, .ref ab), (2, .ref al), (3, .ref at9), (4, .ref aw), (5, .ref ap), (6, .ref am), (7, .int (nI z))]) hx hb dL_arePlans_75 hl (k := 1) rfl rfl (by decide) rfl (fun ls hl => ?_)
        refine lv_goto (tgt := 30) hx hb dL_arePlans_78 (by decide) ?_
        exact ih j ls (by omega) (by omega) (lv_sub hl [0, 1, 2, 3, 4, 5, 6, 7, 8, 9, 10, 11] (by rw [efu]; rfl))
