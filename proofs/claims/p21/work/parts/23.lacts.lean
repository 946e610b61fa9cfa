/-! The law: acts: a bollard, a line. -/
set_option maxHeartbeats 4000000 in
set_option maxRecDepth 100000 in
theorem ac_addBollard {p : Program} {l : Launch} {e : Env} {s : State} {m : MethodId} {args : Array Value} {below : List Frame} {meth : Method} {c : Code} (hfl : l.stackTraces = false) {D : va_G} {cI cZ : ClassId} {h : Nat} {a : Nat → Nat} {ab al at9 aw ap am : Nat} {bf lf mf : Nat → Int32} {H : Heap} {A : Nat → Prop} {σ : St} {nL nB : Nat} (he : roE p s m meth c args yL_acts cL_acts 15 (some .boolean) wsL_acts) (hH : s.heap = H) (hP : va_P D vwCl (fw cI cZ h a σ ab al at9 aw ap am bf lf mf) H) (hK : va_K D vwCl (tyX cI cZ) s) (hT : tpA A H s) (hD : va_D A (fw cI cZ h a σ ab al at9 aw ap am bf lf mf)) (hA : ∀ q, H.size ≤ q → A q) (hI : inv σ nL nB) (hR : lrel σ nL nB bf lf mf) {way z t : Nat} (hz : z < 100000000) (ht48 : t < 48) {ls : Array Slot} (hlt : nB < 4) (hl : lv_has ls 15 [(9, .int (nI t)), (0, .ref h), (1, .ref ab), (2, .ref al), (3, .ref at9), (4, .ref aw), (5, .ref ap), (6, .ref am), (7, .int (nI way)), (8, .int (nI z))]) : W p l e ({ frames := 9, cells := 2, slots := 12, locals := 167 }) s m args below meth c H [] 0 0 (gQ below D (S := St × (Nat → Int32) × (Nat → Int32) × (Nat → Int32)) (fun u => fw cI cZ h a u.1 ab al at9 aw ap am u.2.1 u.2.2.1 u.2.2.2) (fun r u => r = 1 ∧ ∃ nL9 nB9 : Nat, inv u.1 nL9 nB9 ∧ lrel u.1 nL9 nB9 u.2.1 u.2.2.1 u.2.2.2 ∧ 1 ≤ nB9) A 2 12 args s) (F0 m 38 ls []) := by
  obtain ⟨hx, hb, hr, hml, hown, hts, hlocks⟩ := he
  have hown : s.vm.findClass RL = some m.cls := hown
  have hS : va_S A H H [] := va_S.rf
  have hS0 : va_S A H H [] := va_S.rf
  have hL10 : nL ≤ 10 := hI.2.1
  obtain ⟨⟨hL6, hB4⟩, ⟨hm0, hm1, hm2⟩, hRb, hRl⟩ := id hR
  have et : tN (nI t) = t := tN_nI (by omega)
  have hP : va_P D vwCl (xw cI cZ h a σ ++ lw6 cI ab al at9 aw ap am bf lf (σ 0) (σ 1) (σ 2) mf) H := hP
  refine lv_aload_n hx hb dL_acts_38 rfl (lv_at hl 2 rfl) ?_
  refine lv_iconst (v := 2) hx hb dL_acts_39 (by decide) ?_
  refine lv_aload hx hb dL_acts_40 (lv_at hl 7 rfl) ?_
  refine lv_iconst (v := 0) hx hb dL_acts_42 (by decide) ?_
  refine xa_ld hx hb hK hP 18 0 rfl rfl (j := 0) (by omega) (by decide) dL_acts_43 ?_
  rw [show (mf 0) = (nI nB) from hm0]
  refine lv_imul hx hb dL_acts_44 ?_
  refine lv_topi (fun y9 e9 => ?_)
  rw [show y9 = (nI (2 * nB)) from e9.trans (pk_mul 2 nB)]
  refine lv_iload hx hb dL_acts_45 (lv_at hl 9 rfl) ?_
  refine lv_sipush (v := 6001) hx hb dL_acts_47 (by decide) ?_
  refine lv_irem hx hb dL_acts_50 (by decide) ?_
  refine lv_topi (fun y9 e9 => ?_)
  rw [show y9 = (nI (z % 6001)) from e9.trans (pk_rem (a := z) (d := 6001) (by omega) (by omega) (by omega))]
  refine lv_sipush (v := 3000) hx hb dL_acts_51 (by decide) ?_
  refine lv_isub hx hb dL_acts_54 ?_
  obtain ⟨pl, hpl⟩ : ∃ y : Int32, y = (nI (z % 6001) - 3000) := ⟨_, rfl⟩
  rw [← hpl]
  have ipl : inR pl (-5000) 5000 = true := by rw [hpl]; exact inR_sub (k := 3000) (x := -5000) (y := 5000) rfl rfl rfl (by omega) (by omega) (by omega) (by omega) (by omega)
  refine xa_st hx hb hK hP hD hS 13 0 rfl rfl (j := (2 * nB)) (by omega) (by decide) dL_acts_55 (fun H locs hP hD hS => ?_)
  have hP : va_P D vwCl (xw cI cZ h a σ ++ lw6 cI ab al at9 aw ap am (upd bf (2 * nB) pl) lf (σ 0) (σ 1) (σ 2) mf) H := hP
  have hD : va_D A (xw cI cZ h a σ ++ lw6 cI ab al at9 aw ap am (upd bf (2 * nB) pl) lf (σ 0) (σ 1) (σ 2) mf) := hD
  refine lv_aload_n hx hb dL_acts_56 rfl (lv_at hl 2 rfl) ?_
  refine lv_iconst (v := 2) hx hb dL_acts_57 (by decide) ?_
  refine lv_aload hx hb dL_acts_58 (lv_at hl 7 rfl) ?_
  refine lv_iconst (v := 0) hx hb dL_acts_60 (by decide) ?_
  refine xa_ld hx hb hK hP 18 0 rfl rfl (j := 0) (by omega) (by decide) dL_acts_61 ?_
  rw [show (mf 0) = (nI nB) from hm0]
  refine lv_imul hx hb dL_acts_62 ?_
  refine lv_topi (fun y9 e9 => ?_)
  rw [show y9 = (nI (2 * nB)) from e9.trans (pk_mul 2 nB)]
  refine lv_iconst (v := 1) hx hb dL_acts_63 (by decide) ?_
  refine lv_iadd hx hb dL_acts_64 ?_
  refine lv_topi (fun y9 e9 => ?_)
  rw [show y9 = (nI (2 * nB + 1)) from e9.trans (nI_add (2 * nB) 1)]
  refine lv_iconst (v := 1) hx hb dL_acts_65 (by decide) ?_
  refine lv_iload hx hb dL_acts_66 (lv_at hl 9 rfl) ?_
  refine lv_bipush (v := 7) hx hb dL_acts_68 (by decide) ?_
  refine lv_idiv hx hb dL_acts_70 (by decide) ?_
  refine lv_topi (fun y9 e9 => ?_)
  rw [show y9 = (nI (z / 7)) from e9.trans (pk_div (a := z) (d := 7) (by omega) (by omega) (by omega))]
  refine lv_iload hx hb dL_acts_71 (lv_at hl 9 rfl) ?_
  refine lv_iconst (v := 5) hx hb dL_acts_73 (by decide) ?_
  refine lv_irem hx hb dL_acts_74 (by decide) ?_
  refine lv_topi (fun y9 e9 => ?_)
  rw [show y9 = (nI (z % 5)) from e9.trans (pk_rem (a := z) (d := 5) (by omega) (by omega) (by omega))]
  have hs : ∀ (v : Nat) (ls : Array Slot), 1 ≤ v → v ≤ 1000000 → lv_has ls 15 [(9, .int (nI t)), (0, .ref h), (1, .ref ab), (2, .ref al), (3, .ref at9), (4, .ref aw), (5, .ref ap), (6, .ref am), (7, .int (nI way)), (8, .int (nI z))] → W p l e ({ frames := 9, cells := 2, slots := 12, locals := 167 }) s m args below meth c H locs 0 0 (gQ below D (S := St × (Nat → Int32) × (Nat → Int32) × (Nat → Int32)) (fun u => fw cI cZ h a u.1 ab al at9 aw ap am u.2.1 u.2.2.1 u.2.2.2) (fun r u => r = 1 ∧ ∃ nL9 nB9 : Nat, inv u.1 nL9 nB9 ∧ lrel u.1 nL9 nB9 u.2.1 u.2.2.1 u.2.2.2 ∧ 1 ≤ nB9) A 2 12 args s) (F0 m 88 ls [.int (nI v), .int (nI (2 * nB + 1)), .ref ab]) := by
    intro v ls hv1 hv2 hl
    have iv : inR (nI v) 1 1000000 = true := inR_nI (x := 1) (y := 1000000) rfl rfl (by omega) (by omega) (by omega)
    refine xa_st hx hb hK hP hD hS 13 0 rfl rfl (j := (2 * nB + 1)) (by omega) (by decide) dL_acts_88 (fun H locs hP hD hS => ?_)
    have hP : va_P D vwCl (xw cI cZ h a σ ++ lw6 cI ab al at9 aw ap am (upd (upd bf (2 * nB) pl) (2 * nB + 1) (nI v)) lf (σ 0) (σ 1) (σ 2) mf) H := hP
    have hD : va_D A (xw cI cZ h a σ ++ lw6 cI ab al at9 aw ap am (upd (upd bf (2 * nB) pl) (2 * nB + 1) (nI v)) lf (σ 0) (σ 1) (σ 2) mf) := hD
    refine lv_aload hx hb dL_acts_89 (lv_at hl 7 rfl) ?_
    refine lv_iconst (v := 0) hx hb dL_acts_91 (by decide) ?_
    refine lv_dup2_11 hx hb dL_acts_92 rfl rfl ?_
    refine xa_ld hx hb hK hP 18 0 rfl rfl (j := 0) (by omega) (by decide) dL_acts_93 ?_
    rw [show (mf 0) = (nI nB) from hm0]
    refine lv_iconst (v := 1) hx hb dL_acts_94 (by decide) ?_
    refine lv_iadd hx hb dL_acts_95 ?_
    refine lv_topi (fun y9 e9 => ?_)
    rw [show y9 = (nI (nB + 1)) from e9.trans (nI_add nB 1)]
    refine xa_st hx hb hK hP hD hS 18 0 rfl rfl (j := 0) (by omega) (by decide) dL_acts_96 (fun H locs hP hD hS => ?_)
    have hP : va_P D vwCl (xw cI cZ h a σ ++ lw6 cI ab al at9 aw ap am (upd (upd bf (2 * nB) pl) (2 * nB + 1) (nI v)) lf (σ 0) (σ 1) (σ 2) (upd mf 0 (nI (nB + 1)))) H := hP
    have hD : va_D A (xw cI cZ h a σ ++ lw6 cI ab al at9 aw ap am (upd (upd bf (2 * nB) pl) (2 * nB + 1) (nI v)) lf (σ 0) (σ 1) (σ 2) (upd mf 0 (nI (nB + 1)))) := hD
    refine lv_aload_n hx hb dL_acts_97 rfl (lv_at hl 1 rfl) ?_
    refine lv_aload_n hx hb dL_acts_98 rfl (lv_at hl 2 rfl) ?_
    refine lv_iconst (v := 2) hx hb dL_acts_99 (by decide) ?_
    refine lv_aload hx hb dL_acts_100 (lv_at hl 7 rfl) ?_
    refine lv_iconst (v := 0) hx hb dL_acts_102 (by decide) ?_
    refine xa_ld hx hb hK hP 18 0 rfl rfl (j := 0) (by omega) (by decide) dL_acts_103 ?_
    rw [show ((upd mf 0 (nI (nB + 1))) 0) = (nI (nB + 1)) from pk_us]
    refine lv_imul hx hb dL_acts_104 ?_
    refine lv_topi (fun y9 e9 => ?_)
    rw [show y9 = (nI (2 * (nB + 1))) from e9.trans (pk_mul 2 (nB + 1))]
    refine lv_iconst (v := 2) hx hb dL_acts_105 (by decide) ?_
    refine lv_isub hx hb dL_acts_106 ?_
    refine lv_topi (fun y9 e9 => ?_)
    rw [show y9 = (nI ((2 * (nB + 1)) - 2)) from e9.trans (pk_sub (a := (2 * (nB + 1))) (b := 2) (by omega))]
    refine xa_ld hx hb hK hP 13 0 rfl rfl (j := ((2 * (nB + 1)) - 2)) (by omega) (by decide) dL_acts_107 ?_
    rw [show ((upd (upd bf (2 * nB) pl) (2 * nB + 1) (nI v)) ((2 * (nB + 1)) - 2)) = pl from (by rw [show 2 * (nB + 1) - 2 = 2 * nB by omega, pk_un (by omega), pk_us] : upd (upd bf (2 * nB) pl) (2 * nB + 1) (nI v) (2 * (nB + 1) - 2) = pl)]
    refine lv_aload_n hx hb dL_acts_108 rfl (lv_at hl 2 rfl) ?_
    refine lv_iconst (v := 2) hx hb dL_acts_109 (by decide) ?_
    refine lv_aload hx hb dL_acts_110 (lv_at hl 7 rfl) ?_
    refine lv_iconst (v := 0) hx hb dL_acts_112 (by decide) ?_
    refine xa_ld hx hb hK hP 18 0 rfl rfl (j := 0) (by omega) (by decide) dL_acts_113 ?_
    rw [show ((upd mf 0 (nI (nB + 1))) 0) = (nI (nB + 1)) from pk_us]
    refine lv_imul hx hb dL_acts_114 ?_
    refine lv_topi (fun y9 e9 => ?_)
    rw [show y9 = (nI (2 * (nB + 1))) from e9.trans (pk_mul 2 (nB + 1))]
    refine lv_iconst (v := 1) hx hb dL_acts_115 (by decide) ?_
    refine lv_isub hx hb dL_acts_116 ?_
    refine lv_topi (fun y9 e9 => ?_)
    rw [show y9 = (nI ((2 * (nB + 1)) - 1)) from e9.trans (pk_sub (a := (2 * (nB + 1))) (b := 1) (by omega))]
    refine xa_ld hx hb hK hP 13 0 rfl rfl (j := ((2 * (nB + 1)) - 1)) (by omega) (by decide) dL_acts_117 ?_
    rw [show ((upd (upd bf (2 * nB) pl) (2 * nB + 1) (nI v)) ((2 * (nB + 1)) - 1)) = (nI v) from (by rw [show 2 * (nB + 1) - 1 = 2 * nB + 1 by omega, pk_us] : upd (upd bf (2 * nB) pl) (2 * nB + 1) (nI v) (2 * (nB + 1) - 1) = nI v)]
    have hg0 : goK (inR pl (-5000) 5000 && inR (nI v) 1 1000000) (decide (nB < 6)) true = 0 := gk0 (ant ipl iv) (decide_eq_true (by omega)) rfl
    have hPx := va_P_l hP
    have hPl := va_P_r hP
    have hDx := va_D_l hD
    have hTx := tpA_nar (tpA_kept hT hS) (B := fun q => A q ∧ notin (lw6 cI ab al at9 aw ap am (upd (upd bf (2 * nB) pl) (2 * nB + 1) (nI v)) lf (σ 0) (σ 1) (σ 2) (upd mf 0 (nI (nB + 1)))) q) (fun q h => h.1)
    refine ok_callV 2 hx hb hml hown hts hl.1 hPx hK hTx hS (fun q h => h.1) 0 0 rfl rfl (As := [.int pl, .int (nI v)]) (rest := []) (c_X0_addBollard l hfl D cI cZ h a σ _ _ hDx hI pl (nI v)) (xcp_no hg0) gL_acts_X0_addBollard rfl rfl rfl (by decide +kernel) ⟨Nat.le_of_ble_eq_true rfl, Nat.le_of_ble_eq_true rfl⟩ rfl rfl (Nat.le_of_ble_eq_true rfl) dL_acts_118 ⟨Nat.le_of_ble_eq_true rfl, Nat.le_of_ble_eq_true rfl⟩ (fun r1 ρ H locs hp1 hPx hS hk1 => ?_)
    obtain ⟨-, hr1, hρ⟩ := hp1
    subst hr1
    subst hρ
    have hP : va_P D vwCl (xw cI cZ h a (abS σ nB pl (nI v)) ++ lw6 cI ab al at9 aw ap am (upd (upd bf (2 * nB) pl) (2 * nB + 1) (nI v)) lf (σ 0) (σ 1) (σ 2) (upd mf 0 (nI (nB + 1)))) H := va_P.app hPx (keepW hPl hk1)
    have hD : va_D A (xw cI cZ h a (abS σ nB pl (nI v)) ++ lw6 cI ab al at9 aw ap am (upd (upd bf (2 * nB) pl) (2 * nB + 1) (nI v)) lf (σ 0) (σ 1) (σ 2) (upd mf 0 (nI (nB + 1)))) := va_D_ad (W := (xw cI cZ h a σ ++ lw6 cI ab al at9 aw ap am (upd (upd bf (2 * nB) pl) (2 * nB + 1) (nI v)) lf (σ 0) (σ 1) (σ 2) (upd mf 0 (nI (nB + 1))))) (W' := (xw cI cZ h a (abS σ nB pl (nI v)) ++ lw6 cI ab al at9 aw ap am (upd (upd bf (2 * nB) pl) (2 * nB + 1) (nI v)) lf (σ 0) (σ 1) (σ 2) (upd mf 0 (nI (nB + 1))))) rfl hD
    refine lv_aload hx hb dL_acts_121 (lv_at hl 7 rfl) ?_
    refine lv_iconst (v := 0) hx hb dL_acts_123 (by decide) ?_
    refine xa_ld hx hb hK hP 18 0 rfl rfl (j := 0) (by omega) (by decide) dL_acts_124 ?_
    rw [show ((upd mf 0 (nI (nB + 1))) 0) = (nI (nB + 1)) from pk_us]
    refine lv_iconst (v := 1) hx hb dL_acts_125 (by decide) ?_
    refine lv_isub hx hb dL_acts_126 ?_
    refine lv_topi (fun y9 e9 => ?_)
    rw [show y9 = (nI ((nB + 1) - 1)) from e9.trans (pk_sub (a := (nB + 1)) (b := 1) (by omega))]
    refine lv_icmp_ne (tgt := 134) hx hb dL_acts_127 (by decide) (fun c127 => ?_) (fun c127 => ?_)
    · exact absurd (by rw [Nat.add_sub_cancel]) c127
    · refine lv_iconst (v := 1) hx hb dL_acts_130 (by decide) ?_
      refine lv_goto (tgt := 135) hx hb dL_acts_131 (by decide) ?_
      exact g_zret (v := 1) ((abS σ nB pl (nI v)), (upd (upd bf (2 * nB) pl) (2 * nB + 1) (nI v)), lf, (upd mf 0 (nI (nB + 1)))) hx hb hr hlocks hH hS hP ⟨true, rfl⟩ ⟨rfl, nL, nB + 1, inv_ab hI ipl (by omega), lrel_ab hI hR hlt pl (nI v), by omega⟩ dL_acts_135 (Nat.le_of_ble_eq_true rfl) (Nat.le_of_ble_eq_true rfl)
  refine lv_if_ne (tgt := 84) hx hb dL_acts_75 (by decide) (fun c75 => ?_) (fun c75 => ?_)
  · refine lv_ldc (v := (200000)) hx hb hown (hts (.constant RL 89 (200000)) (by decide +kernel)) dL_acts_84 ?_
    refine lv_irem hx hb dL_acts_86 (by decide) ?_
    refine lv_topi (fun y9 e9 => ?_)
    rw [show y9 = (nI ((z / 7) % 200000)) from e9.trans (pk_rem (a := (z / 7)) (d := 200000) (by omega) (by omega) (by omega))]
    refine lv_iadd hx hb dL_acts_87 ?_
    refine lv_topi (fun y9 e9 => ?_)
    rw [show y9 = (nI (1 + ((z / 7) % 200000))) from e9.trans (nI_add 1 ((z / 7) % 200000))]
    exact hs _ ls (by omega) (by omega) hl
  · refine lv_sipush (v := 900) hx hb dL_acts_78 (by decide) ?_
    refine lv_goto (tgt := 86) hx hb dL_acts_81 (by decide) ?_
    refine lv_irem hx hb dL_acts_86 (by decide) ?_
    refine lv_topi (fun y9 e9 => ?_)
    rw [show y9 = (nI ((z / 7) % 900)) from e9.trans (pk_rem (a := (z / 7)) (d := 900) (by omega) (by omega) (by omega))]
    refine lv_iadd hx hb dL_acts_87 ?_
    refine lv_topi (fun y9 e9 => ?_)
    rw [show y9 = (nI (1 + ((z / 7) % 900))) from e9.trans (nI_add 1 ((z / 7) % 900))]
    exact hs _ ls (by omega) (by omega) hl
set_option maxHeartbeats 4000000 in
set_option maxRecDepth 100000 in
theorem ac_addLine {p : Program} {l : Launch} {e : Env} {s : State} {m : MethodId} {args : Array Value} {below : List Frame} {meth : Method} {c : Code} (hfl : l.stackTraces = false) {D : va_G} {cI cZ : ClassId} {h : Nat} {a : Nat → Nat} {ab al at9 aw ap am : Nat} {bf lf mf : Nat → Int32} {H : Heap} {A : Nat → Prop} {σ : St} {nL nB : Nat} (he : roE p s m meth c args yL_acts cL_acts 15 (some .boolean) wsL_acts) (hH : s.heap = H) (hP : va_P D vwCl (fw cI cZ h a σ ab al at9 aw ap am bf lf mf) H) (hK : va_K D vwCl (tyX cI cZ) s) (hT : tpA A H s) (hD : va_D A (fw cI cZ h a σ ab al at9 aw ap am bf lf mf)) (hA : ∀ q, H.size ≤ q → A q) (hI : inv σ nL nB) (hR : lrel σ nL nB bf lf mf) {way z t : Nat} (hz : z < 100000000) (ht48 : t < 48) {ls : Array Slot} (hlt : nL < 6) (hB1 : 1 ≤ nB) (hl : lv_has ls 15 [(9, .int (nI t)), (0, .ref h), (1, .ref ab), (2, .ref al), (3, .ref at9), (4, .ref aw), (5, .ref ap), (6, .ref am), (7, .int (nI way)), (8, .int (nI z))]) : W p l e ({ frames := 9, cells := 2, slots := 12, locals := 167 }) s m args below meth c H [] 0 0 (gQ below D (S := St × (Nat → Int32) × (Nat → Int32) × (Nat → Int32)) (fun u => fw cI cZ h a u.1 ab al at9 aw ap am u.2.1 u.2.2.1 u.2.2.2) (fun r u => r = 1 ∧ ∃ nL9 nB9 : Nat, inv u.1 nL9 nB9 ∧ lrel u.1 nL9 nB9 u.2.1 u.2.2.1 u.2.2.2 ∧ 1 ≤ nB9) A 2 12 args s) (F0 m 151 ls []) := by
  obtain ⟨hx, hb, hr, hml, hown, hts, hlocks⟩ := he
  have hown : s.vm.findClass RL = some m.cls := hown
  have hS : va_S A H H [] := va_S.rf
  have hS0 : va_S A H H [] := va_S.rf
  have hL10 : nL ≤ 10 := hI.2.1
  obtain ⟨⟨hL6, hB4⟩, ⟨hm0, hm1, hm2⟩, hRb, hRl⟩ := id hR
  have et : tN (nI t) = t := tN_nI (by omega)
  have hP : va_P D vwCl (xw cI cZ h a σ ++ lw6 cI ab al at9 aw ap am bf lf (σ 0) (σ 1) (σ 2) mf) H := hP
  refine lv_bipush (v := 6) hx hb dL_acts_151 (by decide) ?_
  refine lv_aload hx hb dL_acts_153 (lv_at hl 7 rfl) ?_
  refine lv_iconst (v := 1) hx hb dL_acts_155 (by decide) ?_
  refine xa_ld hx hb hK hP 18 0 rfl rfl (j := 1) (by omega) (by decide) dL_acts_156 ?_
  rw [show (mf 1) = (nI nL) from hm1]
  refine lv_imul hx hb dL_acts_157 ?_
  refine lv_topi (fun y9 e9 => ?_)
  rw [show y9 = (nI (6 * nL)) from e9.trans (pk_mul 6 nL)]
  refine lv_istore (lv' := [(10, .int (nI (6 * nL))), (9, .int (nI t)), (0, .ref h), (1, .ref ab), (2, .ref al), (3, .ref at9), (4, .ref aw), (5, .ref ap), (6, .ref am), (7, .int (nI way)), (8, .int (nI z))]) hx hb dL_acts_158 hl (by decide) rfl (fun ls hl => ?_)
  refine lv_aload_n hx hb dL_acts_160 rfl (lv_at hl 4 rfl) ?_
  refine lv_iload hx hb dL_acts_161 (lv_at hl 0 rfl) ?_
  refine lv_iload hx hb dL_acts_163 (lv_at hl 10 rfl) ?_
  refine lv_sipush (v := 4001) hx hb dL_acts_165 (by decide) ?_
  refine lv_irem hx hb dL_acts_168 (by decide) ?_
  refine lv_topi (fun y9 e9 => ?_)
  rw [show y9 = (nI (z % 4001)) from e9.trans (pk_rem (a := z) (d := 4001) (by omega) (by omega) (by omega))]
  refine lv_sipush (v := 2000) hx hb dL_acts_169 (by decide) ?_
  refine lv_isub hx hb dL_acts_172 ?_
  obtain ⟨pt, hpt⟩ : ∃ y : Int32, y = nI (z % 4001) - 2000 := ⟨_, rfl⟩
  rw [← hpt]
  have ipt : inR pt (-5000) 5000 = true := by rw [hpt]; exact inR_sub (k := 2000) (x := -5000) (y := 5000) rfl rfl rfl (by omega) (by omega) (by omega) (by omega) (by omega)
  refine xa_st hx hb hK hP hD hS 14 0 rfl rfl (j := (6 * nL)) (by omega) (by decide) dL_acts_173 (fun H locs hP hD hS => ?_)
  have hP : va_P D vwCl (xw cI cZ h a σ ++ lw6 cI ab al at9 aw ap am bf (upd lf (6 * nL) pt) (σ 0) (σ 1) (σ 2) mf) H := hP
  have hD : va_D A (xw cI cZ h a σ ++ lw6 cI ab al at9 aw ap am bf (upd lf (6 * nL) pt) (σ 0) (σ 1) (σ 2) mf) := hD
  refine lv_aload_n hx hb dL_acts_174 rfl (lv_at hl 4 rfl) ?_
  refine lv_iload hx hb dL_acts_175 (lv_at hl 0 rfl) ?_
  refine lv_iconst (v := 1) hx hb dL_acts_177 (by decide) ?_
  refine lv_iadd hx hb dL_acts_178 ?_
  refine lv_topi (fun y9 e9 => ?_)
  rw [show y9 = (nI (6 * nL + 1)) from e9.trans (nI_add (6 * nL) 1)]
  refine lv_iload hx hb dL_acts_179 (lv_at hl 10 rfl) ?_
  refine lv_bipush (v := 11) hx hb dL_acts_181 (by decide) ?_
  refine lv_idiv hx hb dL_acts_183 (by decide) ?_
  refine lv_topi (fun y9 e9 => ?_)
  rw [show y9 = (nI (z / 11)) from e9.trans (pk_div (a := z) (d := 11) (by omega) (by omega) (by omega))]
  refine lv_aload hx hb dL_acts_184 (lv_at hl 8 rfl) ?_
  refine lv_iconst (v := 0) hx hb dL_acts_186 (by decide) ?_
  refine xa_ld hx hb hK hP 18 0 rfl rfl (j := 0) (by omega) (by decide) dL_acts_187 ?_
  rw [show (mf 0) = (nI nB) from hm0]
  refine lv_irem hx hb dL_acts_188 (nI_ne0 (by omega) (by omega)) ?_
  refine lv_topi (fun y9 e9 => ?_)
  rw [show y9 = (nI ((z / 11) % nB)) from e9.trans (pk_rem (a := (z / 11)) (d := nB) (by omega) (by omega) (by omega))]
  obtain ⟨bo, hbo⟩ : ∃ y : Nat, y = z / 11 % nB := ⟨_, rfl⟩
  rw [← hbo]
  have hbo1 : bo < nB := by rw [hbo]; exact Nat.mod_lt _ (by omega)
  refine xa_st hx hb hK hP hD hS 14 0 rfl rfl (j := (6 * nL + 1)) (by omega) (by decide) dL_acts_189 (fun H locs hP hD hS => ?_)
  have hP : va_P D vwCl (xw cI cZ h a σ ++ lw6 cI ab al at9 aw ap am bf (upd (upd lf (6 * nL) pt) (6 * nL + 1) (nI bo)) (σ 0) (σ 1) (σ 2) mf) H := hP
  have hD : va_D A (xw cI cZ h a σ ++ lw6 cI ab al at9 aw ap am bf (upd (upd lf (6 * nL) pt) (6 * nL + 1) (nI bo)) (σ 0) (σ 1) (σ 2) mf) := hD
  refine lv_aload_n hx hb dL_acts_190 rfl (lv_at hl 4 rfl) ?_
  refine lv_iload hx hb dL_acts_191 (lv_at hl 0 rfl) ?_
  refine lv_iconst (v := 2) hx hb dL_acts_193 (by decide) ?_
  refine lv_iadd hx hb dL_acts_194 ?_
  refine lv_topi (fun y9 e9 => ?_)
  rw [show y9 = (nI (6 * nL + 2)) from e9.trans (nI_add (6 * nL) 2)]
  refine lv_iconst (v := 1) hx hb dL_acts_195 (by decide) ?_
  refine lv_iload hx hb dL_acts_196 (lv_at hl 10 rfl) ?_
  refine lv_bipush (v := 44) hx hb dL_acts_198 (by decide) ?_
  refine lv_idiv hx hb dL_acts_200 (by decide) ?_
  refine lv_topi (fun y9 e9 => ?_)
  rw [show y9 = (nI (z / 44)) from e9.trans (pk_div (a := z) (d := 44) (by omega) (by omega) (by omega))]
  refine lv_bipush (v := 100) hx hb dL_acts_201 (by decide) ?_
  refine lv_irem hx hb dL_acts_203 (by decide) ?_
  refine lv_topi (fun y9 e9 => ?_)
  rw [show y9 = (nI ((z / 44) % 100)) from e9.trans (pk_rem (a := (z / 44)) (d := 100) (by omega) (by omega) (by omega))]
  refine lv_iadd hx hb dL_acts_204 ?_
  refine lv_topi (fun y9 e9 => ?_)
  rw [show y9 = (nI (1 + ((z / 44) % 100))) from e9.trans (nI_add 1 ((z / 44) % 100))]
  obtain ⟨sf, hsf⟩ : ∃ y : Nat, y = 1 + z / 44 % 100 := ⟨_, rfl⟩
  rw [← hsf]
  have isf : inR (nI sf) 1 100 = true := inR_nI (x := 1) (y := 100) rfl rfl (by omega) (by omega) (by omega)
  refine xa_st hx hb hK hP hD hS 14 0 rfl rfl (j := (6 * nL + 2)) (by omega) (by decide) dL_acts_205 (fun H locs hP hD hS => ?_)
  have hP : va_P D vwCl (xw cI cZ h a σ ++ lw6 cI ab al at9 aw ap am bf (upd (upd (upd lf (6 * nL) pt) (6 * nL + 1) (nI bo)) (6 * nL + 2) (nI sf)) (σ 0) (σ 1) (σ 2) mf) H := hP
  have hD : va_D A (xw cI cZ h a σ ++ lw6 cI ab al at9 aw ap am bf (upd (upd (upd lf (6 * nL) pt) (6 * nL + 1) (nI bo)) (6 * nL + 2) (nI sf)) (σ 0) (σ 1) (σ 2) mf) := hD
  refine lv_aload_n hx hb dL_acts_206 rfl (lv_at hl 4 rfl) ?_
  refine lv_iload hx hb dL_acts_207 (lv_at hl 0 rfl) ?_
  refine lv_iconst (v := 3) hx hb dL_acts_209 (by decide) ?_
  refine lv_iadd hx hb dL_acts_210 ?_
  refine lv_topi (fun y9 e9 => ?_)
  rw [show y9 = (nI (6 * nL + 3)) from e9.trans (nI_add (6 * nL) 3)]
  refine lv_iconst (v := 1) hx hb dL_acts_211 (by decide) ?_
  refine lv_iload hx hb dL_acts_212 (lv_at hl 10 rfl) ?_
  refine lv_bipush (v := 13) hx hb dL_acts_214 (by decide) ?_
  refine lv_idiv hx hb dL_acts_216 (by decide) ?_
  refine lv_topi (fun y9 e9 => ?_)
  rw [show y9 = (nI (z / 13)) from e9.trans (pk_div (a := z) (d := 13) (by omega) (by omega) (by omega))]
  refine lv_iload hx hb dL_acts_217 (lv_at hl 10 rfl) ?_
  refine lv_iconst (v := 4) hx hb dL_acts_219 (by decide) ?_
  refine lv_irem hx hb dL_acts_220 (by decide) ?_
  refine lv_topi (fun y9 e9 => ?_)
  rw [show y9 = (nI (z % 4)) from e9.trans (pk_rem (a := z) (d := 4) (by omega) (by omega) (by omega))]
  have hs : ∀ (sr : Nat) (ls : Array Slot), 1 ≤ sr → sr ≤ 1000000 → lv_has ls 15 [(10, .int (nI (6 * nL))), (9, .int (nI t)), (0, .ref h), (1, .ref ab), (2, .ref al), (3, .ref at9), (4, .ref aw), (5, .ref ap), (6, .ref am), (7, .int (nI way)), (8, .int (nI z))] → W p l e ({ frames := 9, cells := 2, slots := 12, locals := 167 }) s m args below meth c H locs 0 0 (gQ below D (S := St × (Nat → Int32) × (Nat → Int32) × (Nat → Int32)) (fun u => fw cI cZ h a u.1 ab al at9 aw ap am u.2.1 u.2.2.1 u.2.2.2) (fun r u => r = 1 ∧ ∃ nL9 nB9 : Nat, inv u.1 nL9 nB9 ∧ lrel u.1 nL9 nB9 u.2.1 u.2.2.1 u.2.2.2 ∧ 1 ≤ nB9) A 2 12 args s) (F0 m 234 ls [.int (nI sr), .int (nI (6 * nL + 3)), .ref al]) := by
    intro sr ls hv1 hv2 hl
    have isr : inR (nI sr) 1 1000000 = true := inR_nI (x := 1) (y := 1000000) rfl rfl (by omega) (by omega) (by omega)
    refine xa_st hx hb hK hP hD hS 14 0 rfl rfl (j := (6 * nL + 3)) (by omega) (by decide) dL_acts_234 (fun H locs hP hD hS => ?_)
    have hP : va_P D vwCl (xw cI cZ h a σ ++ lw6 cI ab al at9 aw ap am bf (upd (upd (upd (upd lf (6 * nL) pt) (6 * nL + 1) (nI bo)) (6 * nL + 2) (nI sf)) (6 * nL + 3) (nI sr)) (σ 0) (σ 1) (σ 2) mf) H := hP
    have hD : va_D A (xw cI cZ h a σ ++ lw6 cI ab al at9 aw ap am bf (upd (upd (upd (upd lf (6 * nL) pt) (6 * nL + 1) (nI bo)) (6 * nL + 2) (nI sf)) (6 * nL + 3) (nI sr)) (σ 0) (σ 1) (σ 2) mf) := hD
    obtain ⟨l4, hl4⟩ : ∃ y : Nat → Int32, y = (upd (upd (upd (upd lf (6 * nL) pt) (6 * nL + 1) (nI bo)) (6 * nL + 2) (nI sf)) (6 * nL + 3) (nI sr)) := ⟨_, rfl⟩
    rw [← hl4] at hP hD
    have v0 : l4 (6 * nL) = pt := by rw [hl4, pk_un (by omega), pk_un (by omega), pk_un (by omega), pk_us]
    have v1 : l4 (6 * nL + 1) = nI bo := by rw [hl4, pk_un (by omega), pk_un (by omega), pk_us]
    have v2 : l4 (6 * nL + 2) = nI sf := by rw [hl4, pk_un (by omega), pk_us]
    have v3 : l4 (6 * nL + 3) = nI sr := by rw [hl4, pk_us]
    have v9 : ∀ i, i < 6 * nL → l4 i = lf i := fun i hi => by rw [hl4, pk_un (by omega), pk_un (by omega), pk_un (by omega), pk_un (by omega)]
    refine lv_aload_n hx hb dL_acts_235 rfl (lv_at hl 4 rfl) ?_
    refine lv_iload hx hb dL_acts_236 (lv_at hl 0 rfl) ?_
    refine lv_iconst (v := 4) hx hb dL_acts_238 (by decide) ?_
    refine lv_iadd hx hb dL_acts_239 ?_
    refine lv_topi (fun y9 e9 => ?_)
    rw [show y9 = (nI (6 * nL + 4)) from e9.trans (nI_add (6 * nL) 4)]
    refine lv_aload_n hx hb dL_acts_240 rfl (lv_at hl 3 rfl) ?_
    refine lv_aload_n hx hb dL_acts_241 rfl (lv_at hl 4 rfl) ?_
    refine lv_aload hx hb dL_acts_242 (lv_at hl 8 rfl) ?_
    refine lv_iconst (v := 1) hx hb dL_acts_244 (by decide) ?_
    refine xa_ld hx hb hK hP 18 0 rfl rfl (j := 1) (by omega) (by decide) dL_acts_245 ?_
    rw [show (mf 1) = (nI nL) from hm1]
    refine lv_sipush (v := 300) hx hb dL_acts_246 (by decide) ?_
    refine lv_iconst (v := 0) hx hb dL_acts_249 (by decide) ?_
    obtain ⟨p1, p2⟩ := hI.2.2.2.2.2.1 bo hbo1
    obtain ⟨w1, w2⟩ := inR_b ipt (x := -5000) (y := 5000) rfl rfl
    have e8 : bf (2 * bo) = σ 5 bo := (hRb bo hbo1).1
    have es : bf (2 * bo) - l4 (6 * nL) - 0 = σ 5 bo - pt := by rw [e8, v0, Int32.sub_zero]
    have hA9 : inA (bf (2 * bo) - l4 (6 * nL) - 0) := by rw [es]; unfold inA; rw [Jvm.Kit.i32_sub (by omega) (by omega)]; omega
    have hP3 : va_P D vwCl (lw3 cI ab al am bf l4 mf) H := hP.sub [13, 14, 18] rfl
    have hK1 : va_K D vwCl (tyI cI) s := hK.sub [0] rfl
    refine ro_callS 5 hx hb hml hown hts hl.1 hP3 hK1 (As := [.ref ab, .ref al, .int (nI nL), .int 300, .int 0]) (rest := [.int (nI (6 * nL + 4)), .ref al]) (c_L_length l D cI ab al am bf l4 mf H nL bo hlt (by omega) v1 300 0 hA9 ⟨by decide, by decide⟩) gL_acts_L_length rfl rfl rfl (by decide +kernel) ⟨Nat.le_of_ble_eq_true rfl, Nat.le_of_ble_eq_true rfl⟩ rfl rfl (Nat.le_of_ble_eq_true rfl) dL_acts_250 ⟨Nat.zero_le _, Nat.zero_le _⟩ (fun r9 hr9 => ?_)
    subst hr9
    rw [es]
    refine xa_st hx hb hK hP hD hS 14 0 rfl rfl (j := (6 * nL + 4)) (by omega) (by decide) dL_acts_253 (fun H locs hP hD hS => ?_)
    have hP : va_P D vwCl (xw cI cZ h a σ ++ lw6 cI ab al at9 aw ap am bf (upd l4 (6 * nL + 4) (LENs (σ 5 bo - pt) 300)) (σ 0) (σ 1) (σ 2) mf) H := hP
    have hD : va_D A (xw cI cZ h a σ ++ lw6 cI ab al at9 aw ap am bf (upd l4 (6 * nL + 4) (LENs (σ 5 bo - pt) 300)) (σ 0) (σ 1) (σ 2) mf) := hD
    refine lv_aload_n hx hb dL_acts_254 rfl (lv_at hl 4 rfl) ?_
    refine lv_iload hx hb dL_acts_255 (lv_at hl 0 rfl) ?_
    refine lv_iconst (v := 5) hx hb dL_acts_257 (by decide) ?_
    refine lv_iadd hx hb dL_acts_258 ?_
    refine lv_topi (fun y9 e9 => ?_)
    rw [show y9 = (nI (6 * nL + 5)) from e9.trans (nI_add (6 * nL) 5)]
    refine lv_iconst (v := 0) hx hb dL_acts_259 (by decide) ?_
    refine xa_st hx hb hK hP hD hS 14 0 rfl rfl (j := (6 * nL + 5)) (by omega) (by decide) dL_acts_260 (fun H locs hP hD hS => ?_)
    have hP : va_P D vwCl (xw cI cZ h a σ ++ lw6 cI ab al at9 aw ap am bf (upd (upd l4 (6 * nL + 4) (LENs (σ 5 bo - pt) 300)) (6 * nL + 5) 0) (σ 0) (σ 1) (σ 2) mf) H := hP
    have hD : va_D A (xw cI cZ h a σ ++ lw6 cI ab al at9 aw ap am bf (upd (upd l4 (6 * nL + 4) (LENs (σ 5 bo - pt) 300)) (6 * nL + 5) 0) (σ 0) (σ 1) (σ 2) mf) := hD
    refine lv_aload hx hb dL_acts_261 (lv_at hl 8 rfl) ?_
    refine lv_iconst (v := 1) hx hb dL_acts_263 (by decide) ?_
    refine lv_dup2_11 hx hb dL_acts_264 rfl rfl ?_
    refine xa_ld hx hb hK hP 18 0 rfl rfl (j := 1) (by omega) (by decide) dL_acts_265 ?_
    rw [show (mf 1) = (nI nL) from hm1]
    refine lv_iconst (v := 1) hx hb dL_acts_266 (by decide) ?_
    refine lv_iadd hx hb dL_acts_267 ?_
    refine lv_topi (fun y9 e9 => ?_)
    rw [show y9 = (nI (nL + 1)) from e9.trans (nI_add nL 1)]
    refine xa_st hx hb hK hP hD hS 18 0 rfl rfl (j := 1) (by omega) (by decide) dL_acts_268 (fun H locs hP hD hS => ?_)
    have hP : va_P D vwCl (xw cI cZ h a σ ++ lw6 cI ab al at9 aw ap am bf (upd (upd l4 (6 * nL + 4) (LENs (σ 5 bo - pt) 300)) (6 * nL + 5) 0) (σ 0) (σ 1) (σ 2) (upd mf 1 (nI (nL + 1)))) H := hP
    have hD : va_D A (xw cI cZ h a σ ++ lw6 cI ab al at9 aw ap am bf (upd (upd l4 (6 * nL + 4) (LENs (σ 5 bo - pt) 300)) (6 * nL + 5) 0) (σ 0) (σ 1) (σ 2) (upd mf 1 (nI (nL + 1)))) := hD
    obtain ⟨l6, hl6⟩ : ∃ y : Nat → Int32, y = (upd (upd l4 (6 * nL + 4) (LENs (σ 5 bo - pt) 300)) (6 * nL + 5) 0) := ⟨_, rfl⟩
    rw [← hl6] at hP hD
    have w10 : l6 (6 * nL) = pt := by rw [hl6, pk_un (by omega), pk_un (by omega)]; exact v0
    have w11 : l6 (6 * nL + 1) = nI bo := by rw [hl6, pk_un (by omega), pk_un (by omega)]; exact v1
    have w12 : l6 (6 * nL + 2) = nI sf := by rw [hl6, pk_un (by omega), pk_un (by omega)]; exact v2
    have w13 : l6 (6 * nL + 3) = nI sr := by rw [hl6, pk_un (by omega), pk_un (by omega)]; exact v3
    have w14 : l6 (6 * nL + 4) = LENs (σ 5 bo - pt) 300 := by rw [hl6, pk_un (by omega), pk_us]
    have w15 : l6 (6 * nL + 5) = 0 := by rw [hl6, pk_us]
    have w19 : ∀ i, i < 6 * nL → l6 i = lf i := fun i hi => by rw [hl6, pk_un (by omega), pk_un (by omega)]; exact v9 i hi
    refine lv_aload_n hx hb dL_acts_269 rfl (lv_at hl 2 rfl) ?_
    refine lv_aload_n hx hb dL_acts_270 rfl (lv_at hl 4 rfl) ?_
    refine lv_iload hx hb dL_acts_271 (lv_at hl 0 rfl) ?_
    refine xa_ld hx hb hK hP 14 0 rfl rfl (j := (6 * nL)) (by omega) (by decide) dL_acts_273 ?_
    rw [show (l6 (6 * nL)) = pt from w10]
    refine lv_aload_n hx hb dL_acts_274 rfl (lv_at hl 4 rfl) ?_
    refine lv_iload hx hb dL_acts_275 (lv_at hl 0 rfl) ?_
    refine lv_iconst (v := 1) hx hb dL_acts_277 (by decide) ?_
    refine lv_iadd hx hb dL_acts_278 ?_
    refine lv_topi (fun y9 e9 => ?_)
    rw [show y9 = (nI (6 * nL + 1)) from e9.trans (nI_add (6 * nL) 1)]
    refine xa_ld hx hb hK hP 14 0 rfl rfl (j := (6 * nL + 1)) (by omega) (by decide) dL_acts_279 ?_
    rw [show (l6 (6 * nL + 1)) = (nI bo) from w11]
    refine lv_aload_n hx hb dL_acts_280 rfl (lv_at hl 4 rfl) ?_
    refine lv_iload hx hb dL_acts_281 (lv_at hl 0 rfl) ?_
    refine lv_iconst (v := 2) hx hb dL_acts_283 (by decide) ?_
    refine lv_iadd hx hb dL_acts_284 ?_
    refine lv_topi (fun y9 e9 => ?_)
    rw [show y9 = (nI (6 * nL + 2)) from e9.trans (nI_add (6 * nL) 2)]
    refine xa_ld hx hb hK hP 14 0 rfl rfl (j := (6 * nL + 2)) (by omega) (by decide) dL_acts_285 ?_
    rw [show (l6 (6 * nL + 2)) = (nI sf) from w12]
    refine lv_aload_n hx hb dL_acts_286 rfl (lv_at hl 4 rfl) ?_
    refine lv_iload hx hb dL_acts_287 (lv_at hl 0 rfl) ?_
    refine lv_iconst (v := 3) hx hb dL_acts_289 (by decide) ?_
    refine lv_iadd hx hb dL_acts_290 ?_
    refine lv_topi (fun y9 e9 => ?_)
    rw [show y9 = (nI (6 * nL + 3)) from e9.trans (nI_add (6 * nL) 3)]
    refine xa_ld hx hb hK hP 14 0 rfl rfl (j := (6 * nL + 3)) (by omega) (by decide) dL_acts_291 ?_
    rw [show (l6 (6 * nL + 3)) = (nI sr) from w13]
    have hg0 : goK (inR (nI bo) 0 (nI nB - 1)) (inR pt (-5000) 5000 && (inR (nI sf) 1 100 && inR (nI sr) 1 1000000)) (decide (nL < 10)) = 0 := gk0 (line_nI hbo1 (by omega)) (ant ipt (ant isf isr)) (decide_eq_true (by omega))
    have hPx := va_P_l hP
    have hPl := va_P_r hP
    have hDx := va_D_l hD
    have hTx := tpA_nar (tpA_kept hT hS) (B := fun q => A q ∧ notin (lw6 cI ab al at9 aw ap am bf l6 (σ 0) (σ 1) (σ 2) (upd mf 1 (nI (nL + 1)))) q) (fun q h => h.1)
    refine ok_callV 4 hx hb hml hown hts hl.1 hPx hK hTx hS (fun q h => h.1) 0 0 rfl rfl (As := [.int pt, .int (nI bo), .int (nI sf), .int (nI sr)]) (rest := []) (c_X0_addLine l hfl D cI cZ h a σ _ _ hDx hI pt (nI bo) (nI sf) (nI sr)) (xcp_no hg0) gL_acts_X0_addLine rfl rfl rfl (by decide +kernel) ⟨Nat.le_of_ble_eq_true rfl, Nat.le_of_ble_eq_true rfl⟩ rfl rfl (Nat.le_of_ble_eq_true rfl) dL_acts_292 ⟨Nat.le_of_ble_eq_true rfl, Nat.le_of_ble_eq_true rfl⟩ (fun r1 ρ H locs hp1 hPx hS hk1 => ?_)
    obtain ⟨-, hr1, hρ⟩ := hp1
    subst hr1
    subst hρ
    have hP : va_P D vwCl (xw cI cZ h a (alS σ nL pt (nI bo) (nI sf) (nI sr)) ++ lw6 cI ab al at9 aw ap am bf l6 (σ 0) (σ 1) (σ 2) (upd mf 1 (nI (nL + 1)))) H := va_P.app hPx (keepW hPl hk1)
    have hD : va_D A (xw cI cZ h a (alS σ nL pt (nI bo) (nI sf) (nI sr)) ++ lw6 cI ab al at9 aw ap am bf l6 (σ 0) (σ 1) (σ 2) (upd mf 1 (nI (nL + 1)))) := va_D_ad (W := (xw cI cZ h a σ ++ lw6 cI ab al at9 aw ap am bf l6 (σ 0) (σ 1) (σ 2) (upd mf 1 (nI (nL + 1))))) (W' := (xw cI cZ h a (alS σ nL pt (nI bo) (nI sf) (nI sr)) ++ lw6 cI ab al at9 aw ap am bf l6 (σ 0) (σ 1) (σ 2) (upd mf 1 (nI (nL + 1))))) rfl hD
    refine lv_aload hx hb dL_acts_295 (lv_at hl 8 rfl) ?_
    refine lv_iconst (v := 1) hx hb dL_acts_297 (by decide) ?_
    refine xa_ld hx hb hK hP 18 0 rfl rfl (j := 1) (by omega) (by decide) dL_acts_298 ?_
    rw [show ((upd mf 1 (nI (nL + 1))) 1) = (nI (nL + 1)) from pk_us]
    refine lv_iconst (v := 1) hx hb dL_acts_299 (by decide) ?_
    refine lv_isub hx hb dL_acts_300 ?_
    refine lv_topi (fun y9 e9 => ?_)
    rw [show y9 = (nI ((nL + 1) - 1)) from e9.trans (pk_sub (a := (nL + 1)) (b := 1) (by omega))]
    refine lv_icmp_ne (tgt := 308) hx hb dL_acts_301 (by decide) (fun c301 => ?_) (fun c301 => ?_)
    · exact absurd (by rw [Nat.add_sub_cancel]) c301
    · refine lv_iconst (v := 1) hx hb dL_acts_304 (by decide) ?_
      refine lv_goto (tgt := 309) hx hb dL_acts_305 (by decide) ?_
      exact g_zret (v := 1) ((alS σ nL pt (nI bo) (nI sf) (nI sr)), bf, l6, (upd mf 1 (nI (nL + 1)))) hx hb hr hlocks hH hS hP ⟨true, rfl⟩ ⟨rfl, nL + 1, nB, inv_al' hI (line_nI hbo1 (by omega)) ipt isf isr (by omega), lrel_al hI hR hlt hbo1 w10 w11 w12 w13 w14 w15 w19 rfl rfl rfl, hB1⟩ dL_acts_309 (Nat.le_of_ble_eq_true rfl) (Nat.le_of_ble_eq_true rfl)
  refine lv_if_ne (tgt := 230) hx hb dL_acts_221 (by decide) (fun c221 => ?_) (fun c221 => ?_)
  · refine lv_ldc (v := (300000)) hx hb hown (hts (.constant RL 93 (300000)) (by decide +kernel)) dL_acts_230 ?_
    refine lv_irem hx hb dL_acts_232 (by decide) ?_
    refine lv_topi (fun y9 e9 => ?_)
    rw [show y9 = (nI ((z / 13) % 300000)) from e9.trans (pk_rem (a := (z / 13)) (d := 300000) (by omega) (by omega) (by omega))]
    refine lv_iadd hx hb dL_acts_233 ?_
    refine lv_topi (fun y9 e9 => ?_)
    rw [show y9 = (nI (1 + ((z / 13) % 300000))) from e9.trans (nI_add 1 ((z / 13) % 300000))]
    exact hs _ ls (by omega) (by omega) (lv_sub hl [0, 1, 2, 3, 4, 5, 6, 7, 8, 9, 10] rfl)
  · refine lv_sipush (v := 2000) hx hb dL_acts_224 (by decide) ?_
    refine lv_goto (tgt := 232) hx hb dL_acts_227 (by decide) ?_
    refine lv_irem hx hb dL_acts_232 (by decide) ?_
    refine lv_topi (fun y9 e9 => ?_)
    rw [show y9 = (nI ((z / 13) % 2000)) from e9.trans (pk_rem (a := (z / 13)) (d := 2000) (by omega) (by omega) (by omega))]
    refine lv_iadd hx hb dL_acts_233 ?_
    refine lv_topi (fun y9 e9 => ?_)
    rw [show y9 = (nI (1 + ((z / 13) % 2000))) from e9.trans (nI_add 1 ((z / 13) % 2000))]
    exact hs _ ls (by omega) (by omega) (lv_sub hl [0, 1, 2, 3, 4, 5, 6, 7, 8, 9, 10] rfl)
