/-! The law: isTold. -/
abbrev fw (cI cZ : ClassId) (h : Nat) (a : Nat → Nat) (σ : St) (ab al at9 aw ap am : Nat) (bf lf mf : Nat → Int32) : va_W := xw cI cZ h a σ ++ lw6 cI ab al at9 aw ap am bf lf (σ 0) (σ 1) (σ 2) mf
set_option maxHeartbeats 4000000 in
set_option maxRecDepth 100000 in
theorem c_L_isTold (l : Launch) (D : va_G) (cI cZ : ClassId) (h : Nat) (a : Nat → Nat) (ab al at9 aw ap am : Nat) (bf lf mf : Nat → Int32) (H : Heap) (σ : St) {nL nB : Nat} (hI : inv σ nL nB) (hR : lrel σ nL nB bf lf mf) (t z : Nat) (ht48 : t < 48) (hz8 : z < 100000000) : roM l yL_isTold wsL_isTold ({ frames := 7, cells := 0, slots := 0, locals := 191 }) [.ref h, .ref ab, .ref al, .ref at9, .ref aw, .ref ap, .ref am, .int (nI t), .int (nI z)] D (fw cI cZ h a σ ab al at9 aw ap am bf lf mf) (tyX cI cZ) H (fun r => r = 1) := by
  refine ro_of (cc := cL_isTold) (maxL := 14) (ret := some .boolean) (by decide) rfl (Nat.le_of_ble_eq_true rfl) ?_
  intro p e s m args below meth c he hH hP hK ls hl
  obtain ⟨hx, hb, hr, hml, hown, hts, hlocks⟩ := he
  have hown : s.vm.findClass RL = some m.cls := hown
  obtain ⟨⟨hL6, hB4⟩, ⟨hm0, hm1, hm2⟩, hRb, hRl⟩ := id hR
  have hPx := va_P_l hP
  have hPl := va_P_r hP
  have hP3 : va_P D vwCl (lw3 cI ab al am bf lf mf) H := hPl.sub [0, 1, 5] rfl
  have hK1 : va_K D vwCl (tyI cI) s := hK.sub [0] rfl
  have hKx := hK
  have hl : lv_has ls 14 [(0, .ref h), (1, .ref ab), (2, .ref al), (3, .ref at9), (4, .ref aw), (5, .ref ap), (6, .ref am), (7, .int (nI t)), (8, .int (nI z))] := hl
  refine lv_sipush (v := 300) hx hb dL_isTold_0 (by decide) ?_
  refine lv_aload_n hx hb dL_isTold_3 rfl (lv_at hl 3 rfl) ?_
  refine lv_iload hx hb dL_isTold_4 (lv_at hl 7 rfl) ?_
  refine xa_ld hx hb hK hPl 2 0 rfl rfl (j := t) (by omega) (by decide) dL_isTold_6 ?_
  refine lv_iadd hx hb dL_isTold_7 ?_
  refine lv_aload hx hb dL_isTold_8 (lv_at hl 4 rfl) ?_
  refine lv_iload hx hb dL_isTold_10 (lv_at hl 7 rfl) ?_
  refine xa_ld hx hb hK hPl 3 0 rfl rfl (j := t) (by omega) (by decide) dL_isTold_12 ?_
  refine lv_iadd hx hb dL_isTold_13 ?_
  refine lv_topi (fun y9 e9 => ?_)
  rw [show y9 = (ht σ t) from e9.trans (rfl)]
  refine lv_istore (lv' := [(9, .int (ht σ t)), (0, .ref h), (1, .ref ab), (2, .ref al), (3, .ref at9), (4, .ref aw), (5, .ref ap), (6, .ref am), (7, .int (nI t)), (8, .int (nI z))]) hx hb dL_isTold_14 hl (by decide) rfl (fun ls hl => ?_)
  refine lv_aload_n hx hb dL_isTold_16 rfl (lv_at hl 2 rfl) ?_
  refine lv_aload_n hx hb dL_isTold_17 rfl (lv_at hl 3 rfl) ?_
  refine lv_aload hx hb dL_isTold_18 (lv_at hl 7 rfl) ?_
  refine lv_iload hx hb dL_isTold_20 (lv_at hl 0 rfl) ?_
  refine lv_aload hx hb dL_isTold_22 (lv_at hl 6 rfl) ?_
  refine lv_iload hx hb dL_isTold_24 (lv_at hl 8 rfl) ?_
  refine xa_ld hx hb hK hPl 4 0 rfl rfl (j := t) (by omega) (by decide) dL_isTold_26 ?_
  refine ro_callS 5 hx hb hml hown hts hl.1 hP3 hK1 (As := [.ref ab, .ref al, .ref am, .int (ht σ t), .int ((σ 2) t)]) (rest := []) (c_L_shift l D cI ab al am bf lf mf H σ hI hR t ht48) gL_isTold_L_shift rfl rfl rfl (by decide +kernel) ⟨Nat.le_of_ble_eq_true rfl, Nat.le_of_ble_eq_true rfl⟩ rfl rfl (Nat.le_of_ble_eq_true rfl) dL_isTold_27 ⟨Nat.zero_le _, Nat.zero_le _⟩ (fun r1 hr1 => ?_)
  subst hr1
  refine lv_istore (lv' := [(10, .int (bal σ t)), (9, .int (ht σ t)), (0, .ref h), (1, .ref ab), (2, .ref al), (3, .ref at9), (4, .ref aw), (5, .ref ap), (6, .ref am), (7, .int (nI t)), (8, .int (nI z))]) hx hb dL_isTold_30 hl (by decide) rfl (fun ls hl => ?_)
  refine lv_iload hx hb dL_isTold_32 (lv_at hl 10 rfl) ?_
  refine lv_sipush (v := 401) hx hb dL_isTold_34 (by decide) ?_
  refine lv_irem hx hb dL_isTold_37 (by decide) ?_
  refine lv_topi (fun y9 e9 => ?_)
  rw [show y9 = (nI (z % 401)) from e9.trans (pk_rem (a := z) (d := 401) (by omega) (by omega) (by omega))]
  refine lv_sipush (v := 200) hx hb dL_isTold_38 (by decide) ?_
  refine lv_isub hx hb dL_isTold_41 ?_
  have hat : inS (nI (z % 401) - 200) := by
    have e1 : (nI (z % 401)).toInt = ((z % 401 : Nat) : Int) := nI_ti (by omega)
    have e2 : (200 : Int32).toInt = 200 := rfl
    unfold inS
    rw [Jvm.Kit.i32_sub (by rw [e1, e2]; omega) (by rw [e1, e2]; omega), e1, e2]
    omega
  refine lv_istore (lv' := [(11, .int ((nI (z % 401)) - 200)), (10, .int (bal σ t)), (9, .int (ht σ t)), (0, .ref h), (1, .ref ab), (2, .ref al), (3, .ref at9), (4, .ref aw), (5, .ref ap), (6, .ref am), (7, .int (nI t)), (8, .int (nI z))]) hx hb dL_isTold_42 hl (by decide) rfl (fun ls hl => ?_)
  refine lv_aload_n hx hb dL_isTold_44 rfl (lv_at hl 3 rfl) ?_
  refine lv_iload hx hb dL_isTold_45 (lv_at hl 10 rfl) ?_
  refine ro_callV 1 hx hb hml hown hts hl.1 hPx hKx 0 0 rfl rfl (As := [.int (nI t)]) (rest := []) (r_X0_shift l D cI cZ h a σ H hI t ht48) gL_isTold_X0_shift rfl rfl rfl (by decide +kernel) ⟨Nat.le_of_ble_eq_true rfl, Nat.le_of_ble_eq_true rfl⟩ rfl rfl (Nat.le_of_ble_eq_true rfl) dL_isTold_47 ⟨Nat.zero_le _, Nat.zero_le _⟩ (fun r2 hr2 => ?_)
  subst hr2
  refine lv_iload hx hb dL_isTold_50 (lv_at hl 1 rfl) ?_
  refine lv_icmp_ne (tgt := 159) hx hb dL_isTold_52 (by decide) (fun c52 => ?_) (fun c52 => ?_)
  · exact absurd rfl c52
  · refine lv_aload_n hx hb dL_isTold_55 rfl (lv_at hl 3 rfl) ?_
    refine lv_iload hx hb dL_isTold_56 (lv_at hl 10 rfl) ?_
    refine ro_callV 1 hx hb hml hown hts hl.1 hPx hKx 0 0 rfl rfl (As := [.int (nI t)]) (rest := []) (r_X0_isAdrift l D cI cZ h a σ H hI t ht48) gL_isTold_X0_isAdrift rfl rfl rfl (by decide +kernel) ⟨Nat.le_of_ble_eq_true rfl, Nat.le_of_ble_eq_true rfl⟩ rfl rfl (Nat.le_of_ble_eq_true rfl) dL_isTold_58 ⟨Nat.zero_le _, Nat.zero_le _⟩ (fun r3 hr3 => ?_)
    subst hr3
    refine lv_aload_n hx hb dL_isTold_61 rfl (lv_at hl 4 rfl) ?_
    refine lv_aload_n hx hb dL_isTold_62 rfl (lv_at hl 5 rfl) ?_
    refine lv_aload hx hb dL_isTold_63 (lv_at hl 9 rfl) ?_
    refine lv_iload hx hb dL_isTold_65 (lv_at hl 2 rfl) ?_
    refine lv_aload hx hb dL_isTold_67 (lv_at hl 8 rfl) ?_
    refine lv_iload hx hb dL_isTold_69 (lv_at hl 10 rfl) ?_
    refine xa_ld hx hb hK hPl 4 0 rfl rfl (j := t) (by omega) (by decide) dL_isTold_71 ?_
    refine ro_callS 5 hx hb hml hown hts hl.1 hP3 hK1 (As := [.ref ab, .ref al, .ref am, .int (ht σ t), .int ((σ 2) t)]) (rest := [.int (bI (drfW σ t (bal σ t)))]) (c_L_isAdrift l D cI ab al am bf lf mf H σ hI hR t ht48) gL_isTold_L_isAdrift rfl rfl rfl (by decide +kernel) ⟨Nat.le_of_ble_eq_true rfl, Nat.le_of_ble_eq_true rfl⟩ rfl rfl (Nat.le_of_ble_eq_true rfl) dL_isTold_72 ⟨Nat.zero_le _, Nat.zero_le _⟩ (fun r4 hr4 => ?_)
    subst hr4
    refine lv_icmp_ne (tgt := 159) hx hb dL_isTold_75 (by decide) (fun c75 => ?_) (fun c75 => ?_)
    · exact absurd rfl c75
    · refine lv_aload_n hx hb dL_isTold_78 rfl (lv_at hl 3 rfl) ?_
      refine lv_iload hx hb dL_isTold_79 (lv_at hl 10 rfl) ?_
      refine ro_callV 1 hx hb hml hown hts hl.1 hPx hKx 0 0 rfl rfl (As := [.int (nI t)]) (rest := []) (r_X0_isSafe l D cI cZ h a σ H hI t ht48) gL_isTold_X0_isSafe rfl rfl rfl (by decide +kernel) ⟨Nat.le_of_ble_eq_true rfl, Nat.le_of_ble_eq_true rfl⟩ rfl rfl (Nat.le_of_ble_eq_true rfl) dL_isTold_81 ⟨Nat.zero_le _, Nat.zero_le _⟩ (fun r5 hr5 => ?_)
      subst hr5
      refine lv_aload_n hx hb dL_isTold_84 rfl (lv_at hl 4 rfl) ?_
      refine lv_aload_n hx hb dL_isTold_85 rfl (lv_at hl 5 rfl) ?_
      refine lv_aload hx hb dL_isTold_86 (lv_at hl 9 rfl) ?_
      refine lv_iload hx hb dL_isTold_88 (lv_at hl 2 rfl) ?_
      refine lv_aload hx hb dL_isTold_90 (lv_at hl 8 rfl) ?_
      refine lv_iload hx hb dL_isTold_92 (lv_at hl 10 rfl) ?_
      refine xa_ld hx hb hK hPl 4 0 rfl rfl (j := t) (by omega) (by decide) dL_isTold_94 ?_
      refine ro_callS 5 hx hb hml hown hts hl.1 hP3 hK1 (As := [.ref ab, .ref al, .ref am, .int (ht σ t), .int ((σ 2) t)]) (rest := [.int (bI (safe_ σ t))]) (c_L_isSafe l D cI ab al am bf lf mf H σ hI hR t ht48) gL_isTold_L_isSafe rfl rfl rfl (by decide +kernel) ⟨Nat.le_of_ble_eq_true rfl, Nat.le_of_ble_eq_true rfl⟩ rfl rfl (Nat.le_of_ble_eq_true rfl) dL_isTold_95 ⟨Nat.zero_le _, Nat.zero_le _⟩ (fun r6 hr6 => ?_)
      subst hr6
      refine lv_icmp_ne (tgt := 159) hx hb dL_isTold_98 (by decide) (fun c98 => ?_) (fun c98 => ?_)
      · exact absurd rfl c98
      · refine lv_aload_n hx hb dL_isTold_101 rfl (lv_at hl 3 rfl) ?_
        refine lv_iload hx hb dL_isTold_102 (lv_at hl 10 rfl) ?_
        refine lv_iload hx hb dL_isTold_104 (lv_at hl 0 rfl) ?_
        refine ro_callV 2 hx hb hml hown hts hl.1 hPx hKx 0 0 rfl rfl (As := [.int (nI t), .int ((nI (z % 401)) - 200)]) (rest := []) (r_X0_force l D cI cZ h a σ H hI t ht48 (nI (z % 401) - 200) hat) gL_isTold_X0_force rfl rfl rfl (by decide +kernel) ⟨Nat.le_of_ble_eq_true rfl, Nat.le_of_ble_eq_true rfl⟩ rfl rfl (Nat.le_of_ble_eq_true rfl) dL_isTold_106 ⟨Nat.zero_le _, Nat.zero_le _⟩ (fun r7 hr7 => ?_)
        subst hr7
        refine lv_aload_n hx hb dL_isTold_109 rfl (lv_at hl 4 rfl) ?_
        refine lv_aload_n hx hb dL_isTold_110 rfl (lv_at hl 5 rfl) ?_
        refine lv_aload hx hb dL_isTold_111 (lv_at hl 9 rfl) ?_
        refine lv_iload hx hb dL_isTold_113 (lv_at hl 2 rfl) ?_
        refine lv_aload hx hb dL_isTold_115 (lv_at hl 8 rfl) ?_
        refine lv_iload hx hb dL_isTold_117 (lv_at hl 10 rfl) ?_
        refine xa_ld hx hb hK hPl 4 0 rfl rfl (j := t) (by omega) (by decide) dL_isTold_119 ?_
        refine lv_iload hx hb dL_isTold_120 (lv_at hl 0 rfl) ?_
        refine ro_callS 6 hx hb hml hown hts hl.1 hP3 hK1 (As := [.ref ab, .ref al, .ref am, .int (ht σ t), .int ((σ 2) t), .int ((nI (z % 401)) - 200)]) (rest := [.int (frc σ t (nI (z % 401) - 200))]) (c_L_force l D cI ab al am bf lf mf H σ hI hR t ht48 (nI (z % 401) - 200) hat) gL_isTold_L_force rfl rfl rfl (by decide +kernel) ⟨Nat.le_of_ble_eq_true rfl, Nat.le_of_ble_eq_true rfl⟩ rfl rfl (Nat.le_of_ble_eq_true rfl) dL_isTold_122 ⟨Nat.zero_le _, Nat.zero_le _⟩ (fun r8 hr8 => ?_)
        subst hr8
        refine lv_icmp_ne (tgt := 159) hx hb dL_isTold_125 (by decide) (fun c125 => ?_) (fun c125 => ?_)
        · exact absurd rfl c125
        · refine lv_aload_n hx hb dL_isTold_128 rfl (lv_at hl 3 rfl) ?_
          refine lv_iload hx hb dL_isTold_129 (lv_at hl 10 rfl) ?_
          refine lv_iload hx hb dL_isTold_131 (lv_at hl 1 rfl) ?_
          refine ro_callV 2 hx hb hml hown hts hl.1 hPx hKx 0 0 rfl rfl (As := [.int (nI t), .int (bal σ t)]) (rest := []) (r_X0_force l D cI cZ h a σ H hI t ht48 (bal σ t) (bal_inS σ t)) gL_isTold_X0_force rfl rfl rfl (by decide +kernel) ⟨Nat.le_of_ble_eq_true rfl, Nat.le_of_ble_eq_true rfl⟩ rfl rfl (Nat.le_of_ble_eq_true rfl) dL_isTold_133 ⟨Nat.zero_le _, Nat.zero_le _⟩ (fun r9 hr9 => ?_)
          subst hr9
          refine lv_aload_n hx hb dL_isTold_136 rfl (lv_at hl 4 rfl) ?_
          refine lv_aload_n hx hb dL_isTold_137 rfl (lv_at hl 5 rfl) ?_
          refine lv_aload hx hb dL_isTold_138 (lv_at hl 9 rfl) ?_
          refine lv_iload hx hb dL_isTold_140 (lv_at hl 2 rfl) ?_
          refine lv_aload hx hb dL_isTold_142 (lv_at hl 8 rfl) ?_
          refine lv_iload hx hb dL_isTold_144 (lv_at hl 10 rfl) ?_
          refine xa_ld hx hb hK hPl 4 0 rfl rfl (j := t) (by omega) (by decide) dL_isTold_146 ?_
          refine lv_iload hx hb dL_isTold_147 (lv_at hl 1 rfl) ?_
          refine ro_callS 6 hx hb hml hown hts hl.1 hP3 hK1 (As := [.ref ab, .ref al, .ref am, .int (ht σ t), .int ((σ 2) t), .int (bal σ t)]) (rest := [.int (frc σ t (bal σ t))]) (c_L_force l D cI ab al am bf lf mf H σ hI hR t ht48 (bal σ t) (bal_inS σ t)) gL_isTold_L_force rfl rfl rfl (by decide +kernel) ⟨Nat.le_of_ble_eq_true rfl, Nat.le_of_ble_eq_true rfl⟩ rfl rfl (Nat.le_of_ble_eq_true rfl) dL_isTold_149 ⟨Nat.zero_le _, Nat.zero_le _⟩ (fun r10 hr10 => ?_)
          subst hr10
          refine lv_icmp_ne (tgt := 159) hx hb dL_isTold_152 (by decide) (fun c152 => ?_) (fun c152 => ?_)
          · exact absurd rfl c152
          · refine lv_iconst (v := 1) hx hb dL_isTold_155 (by decide) ?_
            refine lv_goto (tgt := 160) hx hb dL_isTold_156 (by decide) ?_
            refine lv_istore (lv' := [(12, .int 1), (11, .int ((nI (z % 401)) - 200)), (10, .int (bal σ t)), (9, .int (ht σ t)), (0, .ref h), (1, .ref ab), (2, .ref al), (3, .ref at9), (4, .ref aw), (5, .ref ap), (6, .ref am), (7, .int (nI t)), (8, .int (nI z))]) hx hb dL_isTold_160 hl (by decide) rfl (fun ls hl => ?_)
            refine lv_iconst (v := 0) hx hb dL_isTold_162 (by decide) ?_
            refine lv_istore (lv' := [(13, .int 0), (12, .int 1), (11, .int ((nI (z % 401)) - 200)), (10, .int (bal σ t)), (9, .int (ht σ t)), (0, .ref h), (1, .ref ab), (2, .ref al), (3, .ref at9), (4, .ref aw), (5, .ref ap), (6, .ref am), (7, .int (nI t)), (8, .int (nI z))]) hx hb dL_isTold_163 hl (by decide) rfl (fun ls hl => ?_)
            have K2 : ∀ (n k : Nat) (ls : Array Slot), k + n = nB → lv_has ls 14 [(13, .int (nI k)), (12, .int 1), (11, .int (nI (z % 401) - 200)), (10, .int (bal σ t)), (9, .int (ht σ t)), (0, .ref h), (1, .ref ab), (2, .ref al), (3, .ref at9), (4, .ref aw), (5, .ref ap), (6, .ref am), (7, .int (nI t)), (8, .int (nI z))] → W p l e ({ frames := 7, cells := 0, slots := 0, locals := 191 }) s m args below meth c H [] 0 0 (roQ below H (fun r => r = 1) args s) (F0 m 239 ls []) := by
              intro n
              induction n with
              | zero =>
                intro k ls hk hl
                refine lv_iload hx hb dL_isTold_239 (lv_at hl 0 rfl) ?_
                refine lv_aload hx hb dL_isTold_241 (lv_at hl 11 rfl) ?_
                refine lv_iconst (v := 0) hx hb dL_isTold_243 (by decide) ?_
                refine xa_ld hx hb hK hPl 5 0 rfl rfl (j := 0) (by omega) (by decide) dL_isTold_244 ?_
                rw [show (mf 0) = (nI nB) from hm0]
                refine lv_icmp_ge (tgt := 290) hx hb dL_isTold_245 (by decide) (fun c245 => ?_) (fun c245 => ?_)
                · refine lv_iload hx hb dL_isTold_290 (lv_at hl 1 rfl) ?_
                  exact ro_zret (v := 1) hx hb hr hlocks hH ⟨true, rfl⟩ rfl dL_isTold_292
                · exact absurd (nI_le (a := nB) (b := k) (by omega) (by omega)) c245
              | succ n ih =>
                intro k ls hk hl
                refine lv_iload hx hb dL_isTold_239 (lv_at hl 0 rfl) ?_
                refine lv_aload hx hb dL_isTold_241 (lv_at hl 11 rfl) ?_
                refine lv_iconst (v := 0) hx hb dL_isTold_243 (by decide) ?_
                refine xa_ld hx hb hK hPl 5 0 rfl rfl (j := 0) (by omega) (by decide) dL_isTold_244 ?_
                rw [show (mf 0) = (nI nB) from hm0]
                refine lv_icmp_ge (tgt := 290) hx hb dL_isTold_245 (by decide) (fun c245 => ?_) (fun c245 => ?_)
                · exact absurd c245 (nI_ge (a := k) (b := nB) (by omega) (by omega))
                · have hk1 : k < nB := by omega
                  refine lv_iload hx hb dL_isTold_248 (lv_at hl 1 rfl) ?_
                  refine lv_if_eq (tgt := 290) hx hb dL_isTold_250 (by decide) (fun c250 => ?_) (fun c250 => ?_)
                  · exact absurd c250 (by decide)
                  · refine lv_aload_n hx hb dL_isTold_253 rfl (lv_at hl 5 rfl) ?_
                    refine lv_iload hx hb dL_isTold_254 (lv_at hl 0 rfl) ?_
                    refine lv_iload hx hb dL_isTold_256 (lv_at hl 12 rfl) ?_
                    refine ro_callV 2 hx hb hml hown hts hl.1 hPx hKx 0 0 rfl rfl (As := [.int (nI k), .int (nI t)]) (rest := []) (r_X0_onBollard l D cI cZ h a σ H hI k t hk1 ht48) gL_isTold_X0_onBollard rfl rfl rfl (by decide +kernel) ⟨Nat.le_of_ble_eq_true rfl, Nat.le_of_ble_eq_true rfl⟩ rfl rfl (Nat.le_of_ble_eq_true rfl) dL_isTold_258 ⟨Nat.zero_le _, Nat.zero_le _⟩ (fun r11 hr11 => ?_)
                    subst hr11
                    refine lv_aload_n hx hb dL_isTold_261 rfl (lv_at hl 6 rfl) ?_
                    refine lv_aload_n hx hb dL_isTold_262 rfl (lv_at hl 7 rfl) ?_
                    refine lv_aload hx hb dL_isTold_263 (lv_at hl 11 rfl) ?_
                    refine lv_iload hx hb dL_isTold_265 (lv_at hl 4 rfl) ?_
                    refine lv_iload hx hb dL_isTold_267 (lv_at hl 3 rfl) ?_
                    refine lv_iload hx hb dL_isTold_269 (lv_at hl 0 rfl) ?_
                    refine ro_callS 6 hx hb hml hown hts hl.1 hP3 hK1 (As := [.ref ab, .ref al, .ref am, .int (ht σ t), .int (bal σ t), .int (nI k)]) (rest := [.int (sumOn_ σ (nI k) t (bal σ t))]) (c_L_onBollard l D cI ab al am bf lf mf H σ hI hR t ht48 (bal σ t) (bal_inS σ t) (nI k)) gL_isTold_L_onBollard rfl rfl rfl (by decide +kernel) ⟨Nat.le_of_ble_eq_true rfl, Nat.le_of_ble_eq_true rfl⟩ rfl rfl (Nat.le_of_ble_eq_true rfl) dL_isTold_271 ⟨Nat.zero_le _, Nat.zero_le _⟩ (fun r12 hr12 => ?_)
                    subst hr12
                    refine lv_icmp_ne (tgt := 281) hx hb dL_isTold_274 (by decide) (fun c274 => ?_) (fun c274 => ?_)
                    · exact absurd rfl c274
                    · refine lv_iconst (v := 1) hx hb dL_isTold_277 (by decide) ?_
                      refine lv_goto (tgt := 282) hx hb dL_isTold_278 (by decide) ?_
                      refine lv_istore (lv' := [(12, .int 1), (13, .int (nI k)), (11, .int (nI (z % 401) - 200)), (10, .int (bal σ t)), (9, .int (ht σ t)), (0, .ref h), (1, .ref ab), (2, .ref al), (3, .ref at9), (4, .ref aw), (5, .ref ap), (6, .ref am), (7, .int (nI t)), (8, .int (nI z))]) hx hb dL_isTold_282 hl (by decide) rfl (fun ls hl => ?_)
                      refine lv_iinc (v := (nI (k + 1))) (lv' := [(13, .int (nI (k + 1))), (12, .int 1), (11, .int (nI (z % 401) - 200)), (10, .int (bal σ t)), (9, .int (ht σ t)), (0, .ref h), (1, .ref ab), (2, .ref al), (3, .ref at9), (4, .ref aw), (5, .ref ap), (6, .ref am), (7, .int (nI t)), (8, .int (nI z))]) hx hb dL_isTold_284 hl (k := 1) rfl (by exact nI_add _ 1) (by decide) rfl (fun ls hl => ?_)
                      refine lv_goto (tgt := 239) hx hb dL_isTold_287 (by decide) ?_
                      exact ih (k + 1) ls (by omega) (lv_sub hl [0, 1, 2, 3, 4, 5, 6, 7, 8, 9, 10, 11, 12, 13] rfl)
            have K1 : ∀ (n k : Nat) (ls : Array Slot), k + n = nL → lv_has ls 14 [(13, .int (nI k)), (12, .int 1), (11, .int (nI (z % 401) - 200)), (10, .int (bal σ t)), (9, .int (ht σ t)), (0, .ref h), (1, .ref ab), (2, .ref al), (3, .ref at9), (4, .ref aw), (5, .ref ap), (6, .ref am), (7, .int (nI t)), (8, .int (nI z))] → W p l e ({ frames := 7, cells := 0, slots := 0, locals := 191 }) s m args below meth c H [] 0 0 (roQ below H (fun r => r = 1) args s) (F0 m 165 ls []) := by
              intro n
              induction n with
              | zero =>
                intro k ls hk hl
                refine lv_iload hx hb dL_isTold_165 (lv_at hl 0 rfl) ?_
                refine lv_aload hx hb dL_isTold_167 (lv_at hl 11 rfl) ?_
                refine lv_iconst (v := 1) hx hb dL_isTold_169 (by decide) ?_
                refine xa_ld hx hb hK hPl 5 0 rfl rfl (j := 1) (by omega) (by decide) dL_isTold_170 ?_
                rw [show (mf 1) = (nI nL) from hm1]
                refine lv_icmp_ge (tgt := 236) hx hb dL_isTold_171 (by decide) (fun c171 => ?_) (fun c171 => ?_)
                · refine lv_iconst (v := 0) hx hb dL_isTold_236 (by decide) ?_
                  refine lv_istore (lv' := [(13, .int 0), (12, .int 1), (11, .int (nI (z % 401) - 200)), (10, .int (bal σ t)), (9, .int (ht σ t)), (0, .ref h), (1, .ref ab), (2, .ref al), (3, .ref at9), (4, .ref aw), (5, .ref ap), (6, .ref am), (7, .int (nI t)), (8, .int (nI z))]) hx hb dL_isTold_237 hl (by decide) rfl (fun ls hl => ?_)
                  exact K2 nB 0 ls (by omega) (lv_sub hl [0, 1, 2, 3, 4, 5, 6, 7, 8, 9, 10, 11, 12, 13] rfl)
                · exact absurd (nI_le (a := nL) (b := k) (by omega) (by omega)) c171
              | succ n ih =>
                intro k ls hk hl
                refine lv_iload hx hb dL_isTold_165 (lv_at hl 0 rfl) ?_
                refine lv_aload hx hb dL_isTold_167 (lv_at hl 11 rfl) ?_
                refine lv_iconst (v := 1) hx hb dL_isTold_169 (by decide) ?_
                refine xa_ld hx hb hK hPl 5 0 rfl rfl (j := 1) (by omega) (by decide) dL_isTold_170 ?_
                rw [show (mf 1) = (nI nL) from hm1]
                refine lv_icmp_ge (tgt := 236) hx hb dL_isTold_171 (by decide) (fun c171 => ?_) (fun c171 => ?_)
                · exact absurd c171 (nI_ge (a := k) (b := nL) (by omega) (by omega))
                · have hk1 : k < nL := by omega
                  refine lv_iload hx hb dL_isTold_174 (lv_at hl 1 rfl) ?_
                  refine lv_if_eq (tgt := 236) hx hb dL_isTold_176 (by decide) (fun c176 => ?_) (fun c176 => ?_)
                  · exact absurd c176 (by decide)
                  · refine lv_aload_n hx hb dL_isTold_179 rfl (lv_at hl 5 rfl) ?_
                    refine lv_iload hx hb dL_isTold_180 (lv_at hl 0 rfl) ?_
                    refine lv_iload hx hb dL_isTold_182 (lv_at hl 12 rfl) ?_
                    refine ro_callV 2 hx hb hml hown hts hl.1 hPx hKx 0 0 rfl rfl (As := [.int (nI k), .int (nI t)]) (rest := []) (r_X0_length l D cI cZ h a σ H hI k t hk1 ht48) gL_isTold_X0_length rfl rfl rfl (by decide +kernel) ⟨Nat.le_of_ble_eq_true rfl, Nat.le_of_ble_eq_true rfl⟩ rfl rfl (Nat.le_of_ble_eq_true rfl) dL_isTold_184 ⟨Nat.zero_le _, Nat.zero_le _⟩ (fun r13 hr13 => ?_)
                    subst hr13
                    refine lv_aload_n hx hb dL_isTold_187 rfl (lv_at hl 6 rfl) ?_
                    refine lv_aload_n hx hb dL_isTold_188 rfl (lv_at hl 7 rfl) ?_
                    refine lv_iload hx hb dL_isTold_189 (lv_at hl 0 rfl) ?_
                    refine lv_iload hx hb dL_isTold_191 (lv_at hl 4 rfl) ?_
                    refine lv_iload hx hb dL_isTold_193 (lv_at hl 3 rfl) ?_
                    refine ro_callS 5 hx hb hml hown hts hl.1 hP3 hK1 (As := [.ref ab, .ref al, .int (nI k), .int (ht σ t), .int (bal σ t)]) (rest := [.int (len_ σ k t (bal σ t))]) (c_L_len l D cI ab al am bf lf mf H σ hI hR k t hk1 ht48 (bal σ t) (bal_inS σ t)) gL_isTold_L_length rfl rfl rfl (by decide +kernel) ⟨Nat.le_of_ble_eq_true rfl, Nat.le_of_ble_eq_true rfl⟩ rfl rfl (Nat.le_of_ble_eq_true rfl) dL_isTold_195 ⟨Nat.zero_le _, Nat.zero_le _⟩ (fun r14 hr14 => ?_)
                    subst hr14
                    refine lv_icmp_ne (tgt := 227) hx hb dL_isTold_198 (by decide) (fun c198 => ?_) (fun c198 => ?_)
                    · exact absurd rfl c198
                    · refine lv_aload_n hx hb dL_isTold_201 rfl (lv_at hl 5 rfl) ?_
                      refine lv_iload hx hb dL_isTold_202 (lv_at hl 0 rfl) ?_
                      refine lv_iload hx hb dL_isTold_204 (lv_at hl 12 rfl) ?_
                      refine ro_callV 2 hx hb hml hown hts hl.1 hPx hKx 0 0 rfl rfl (As := [.int (nI k), .int (nI t)]) (rest := []) (r_X0_tension l D cI cZ h a σ H hI k t hk1 ht48) gL_isTold_X0_tension rfl rfl rfl (by decide +kernel) ⟨Nat.le_of_ble_eq_true rfl, Nat.le_of_ble_eq_true rfl⟩ rfl rfl (Nat.le_of_ble_eq_true rfl) dL_isTold_206 ⟨Nat.zero_le _, Nat.zero_le _⟩ (fun r15 hr15 => ?_)
                      subst hr15
                      refine lv_aload_n hx hb dL_isTold_209 rfl (lv_at hl 6 rfl) ?_
                      refine lv_aload_n hx hb dL_isTold_210 rfl (lv_at hl 7 rfl) ?_
                      refine lv_iload hx hb dL_isTold_211 (lv_at hl 0 rfl) ?_
                      refine lv_iload hx hb dL_isTold_213 (lv_at hl 4 rfl) ?_
                      refine lv_iload hx hb dL_isTold_215 (lv_at hl 3 rfl) ?_
                      refine ro_callS 5 hx hb hml hown hts hl.1 hP3 hK1 (As := [.ref ab, .ref al, .int (nI k), .int (ht σ t), .int (bal σ t)]) (rest := [.int (tn_ σ k t (bal σ t))]) (c_L_tension l D cI ab al am bf lf mf H σ hI hR k t hk1 ht48 (bal σ t) (bal_inS σ t)) gL_isTold_L_tension rfl rfl rfl (by decide +kernel) ⟨Nat.le_of_ble_eq_true rfl, Nat.le_of_ble_eq_true rfl⟩ rfl rfl (Nat.le_of_ble_eq_true rfl) dL_isTold_217 ⟨Nat.zero_le _, Nat.zero_le _⟩ (fun r16 hr16 => ?_)
                      subst hr16
                      refine lv_icmp_ne (tgt := 227) hx hb dL_isTold_220 (by decide) (fun c220 => ?_) (fun c220 => ?_)
                      · exact absurd rfl c220
                      · refine lv_iconst (v := 1) hx hb dL_isTold_223 (by decide) ?_
                        refine lv_goto (tgt := 228) hx hb dL_isTold_224 (by decide) ?_
                        refine lv_istore (lv' := [(12, .int 1), (13, .int (nI k)), (11, .int (nI (z % 401) - 200)), (10, .int (bal σ t)), (9, .int (ht σ t)), (0, .ref h), (1, .ref ab), (2, .ref al), (3, .ref at9), (4, .ref aw), (5, .ref ap), (6, .ref am), (7, .int (nI t)), (8, .int (nI z))]) hx hb dL_isTold_228 hl (by decide) rfl (fun ls hl => ?_)
                        refine lv_iinc (v := (nI (k + 1))) (lv' := [(13, .int (nI (k + 1))), (12, .int 1), (11, .int (nI (z % 401) - 200)), (10, .int (bal σ t)), (9, .int (ht σ t)), (0, .ref h), (1, .ref ab), (2, .ref al), (3, .ref at9), (4, .ref aw), (5, .ref ap), (6, .ref am), (7, .int (nI t)), (8, .int (nI z))]) hx hb dL_isTold_230 hl (k := 1) rfl (by exact nI_add _ 1) (by decide) rfl (fun ls hl => ?_)
                        refine lv_goto (tgt := 165) hx hb dL_isTold_233 (by decide) ?_
                        exact ih (k + 1) ls (by omega) (lv_sub hl [0, 1, 2, 3, 4, 5, 6, 7, 8, 9, 10, 11, 12, 13] rfl)
            exact K1 nL 0 ls (by omega) (lv_sub hl [0, 1, 2, 3, 4, 5, 6, 7, 8, 9, 10, 11, 12, 13] rfl)
