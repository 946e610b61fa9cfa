/-! The law: acts. -/
set_option maxHeartbeats 4000000 in
set_option maxRecDepth 100000 in
theorem c_L_acts (l : Launch) (hfl : l.stackTraces = false) (D : va_G) (cI cZ : ClassId) (h : Nat) (a : Nat → Nat) (ab al at9 aw ap am : Nat) (bf lf mf : Nat → Int32) (Hi : Heap) (A : Nat → Prop) (σ : St) {nL nB : Nat} (hI : inv σ nL nB) (hR : lrel σ nL nB bf lf mf) (hD : va_D A (fw cI cZ h a σ ab al at9 aw ap am bf lf mf)) (hA : ∀ q, Hi.size ≤ q → A q) (way z : Nat) (hw : way < 14) (hz : z < 100000000) (hB : (way = 0 ∧ nB < 4) ∨ 1 ≤ nB) : hgM l yL_acts wsL_acts ({ frames := 9, cells := 2, slots := 12, locals := 167 }) [.ref h, .ref ab, .ref al, .ref at9, .ref aw, .ref ap, .ref am, .int (nI way), .int (nI z)] D (fw cI cZ h a σ ab al at9 aw ap am bf lf mf) (tyX cI cZ) Hi (S := St × (Nat → Int32) × (Nat → Int32) × (Nat → Int32)) (fun u => fw cI cZ h a u.1 ab al at9 aw ap am u.2.1 u.2.2.1 u.2.2.2) (fun r u => r = 1 ∧ ∃ nL9 nB9 : Nat, inv u.1 nL9 nB9 ∧ lrel u.1 nL9 nB9 u.2.1 u.2.2.1 u.2.2.2 ∧ 1 ≤ nB9) A 2 12 := by
  refine hg_of (cc := cL_acts) (maxL := 15) (ret := some .boolean) (by decide) rfl (Nat.le_of_ble_eq_true rfl) ?_
  intro p e s m args below meth c he0 hH hP hK hT ls hl
  obtain ⟨hx, hb, hr, hml, hown, hts, hlocks⟩ := id he0
  have hown : s.vm.findClass RL = some m.cls := hown
  have hS : va_S A Hi Hi [] := va_S.rf
  have hL10 : nL ≤ 10 := hI.2.1
  obtain ⟨⟨hL6, hB4⟩, ⟨hm0, hm1, hm2⟩, hRb, hRl⟩ := id hR
  have hl : lv_has ls 15 [(0, .ref h), (1, .ref ab), (2, .ref al), (3, .ref at9), (4, .ref aw), (5, .ref ap), (6, .ref am), (7, .int (nI way)), (8, .int (nI z))] := hl
  have K583 : ∀ (t : Nat) (ls : Array Slot), t < 48 → 1 ≤ nB → lv_has ls 15 [(9, .int (nI t)), (0, .ref h), (1, .ref ab), (2, .ref al), (3, .ref at9), (4, .ref aw), (5, .ref ap), (6, .ref am), (7, .int (nI way)), (8, .int (nI z))] → W p l e ({ frames := 9, cells := 2, slots := 12, locals := 167 }) s m args below meth c Hi [] 0 0 (gQ below D (S := St × (Nat → Int32) × (Nat → Int32) × (Nat → Int32)) (fun u => fw cI cZ h a u.1 ab al at9 aw ap am u.2.1 u.2.2.1 u.2.2.2) (fun r u => r = 1 ∧ ∃ nL9 nB9 : Nat, inv u.1 nL9 nB9 ∧ lrel u.1 nL9 nB9 u.2.1 u.2.2.1 u.2.2.2 ∧ 1 ≤ nB9) A 2 12 args s) (F0 m 583 ls []) := by
    intro t ls ht48 hB1 hl
    refine lv_sipush (v := 300) hx hb dL_acts_583 (by decide) ?_
    refine lv_aload_n hx hb dL_acts_586 rfl (lv_at hl 4 rfl) ?_
    refine lv_iload hx hb dL_acts_587 (lv_at hl 0 rfl) ?_
    refine xa_ld hx hb hK hP 15 0 rfl rfl (j := t) (by omega) (by decide) dL_acts_589 ?_
    refine lv_iadd hx hb dL_acts_590 ?_
    refine lv_aload hx hb dL_acts_591 (lv_at hl 5 rfl) ?_
    refine lv_iload hx hb dL_acts_593 (lv_at hl 0 rfl) ?_
    refine xa_ld hx hb hK hP 16 0 rfl rfl (j := t) (by omega) (by decide) dL_acts_595 ?_
    refine lv_iadd hx hb dL_acts_596 ?_
    refine lv_topi (fun y9 e9 => ?_)
    rw [show y9 = (ht σ t) from e9.trans (rfl)]
    refine lv_istore (lv' := [(10, .int (ht σ t)), (9, .int (nI t)), (0, .ref h), (1, .ref ab), (2, .ref al), (3, .ref at9), (4, .ref aw), (5, .ref ap), (6, .ref am), (7, .int (nI way)), (8, .int (nI z))]) hx hb dL_acts_597 hl (by decide) rfl (fun ls hl => ?_)
    refine lv_iload hx hb dL_acts_599 (lv_at hl 9 rfl) ?_
    refine lv_bipush (v := 10) hx hb dL_acts_601 (by decide) ?_
    refine lv_icmp_ne (tgt := 635) hx hb dL_acts_603 (by decide) (fun c603 => ?_) (fun c603 => ?_)
    · refine lv_aload hx hb dL_acts_635 (lv_at hl 8 rfl) ?_
      refine lv_iconst (v := 1) hx hb dL_acts_637 (by decide) ?_
      refine xa_ld hx hb hK hP 18 0 rfl rfl (j := 1) (by omega) (by decide) dL_acts_638 ?_
      rw [show (mf 1) = (nI nL) from hm1]
      refine lv_if_ne (tgt := 644) hx hb dL_acts_639 (by decide) (fun c639 => ?_) (fun c639 => ?_)
      · have hn : 0 < nL := Nat.pos_of_ne_zero (fun u => c639 (by rw [u]; rfl))
        refine lv_iload hx hb dL_acts_644 (lv_at hl 10 rfl) ?_
        refine lv_sipush (v := 150) hx hb dL_acts_646 (by decide) ?_
        refine lv_idiv hx hb dL_acts_649 (by decide) ?_
        refine lv_topi (fun y9 e9 => ?_)
        rw [show y9 = (nI (z / 150)) from e9.trans (pk_div (a := z) (d := 150) (by omega) (by omega) (by omega))]
        refine lv_aload hx hb dL_acts_650 (lv_at hl 8 rfl) ?_
        refine lv_iconst (v := 1) hx hb dL_acts_652 (by decide) ?_
        refine xa_ld hx hb hK hP 18 0 rfl rfl (j := 1) (by omega) (by decide) dL_acts_653 ?_
        rw [show (mf 1) = (nI nL) from hm1]
        refine lv_irem hx hb dL_acts_654 (nI_ne0 (by omega) (by omega)) ?_
        refine lv_topi (fun y9 e9 => ?_)
        rw [show y9 = (nI ((z / 150) % nL)) from e9.trans (pk_rem (a := (z / 150)) (d := nL) (by omega) (by omega) (by omega))]
        obtain ⟨j, hjz⟩ : ∃ y : Nat, y = z / 150 % nL := ⟨_, rfl⟩
        rw [← hjz]
        have hj : j < nL := by rw [hjz]; exact Nat.mod_lt _ hn
        refine lv_istore (lv' := [(11, .int (nI j)), (10, .int (ht σ t)), (9, .int (nI t)), (0, .ref h), (1, .ref ab), (2, .ref al), (3, .ref at9), (4, .ref aw), (5, .ref ap), (6, .ref am), (7, .int (nI way)), (8, .int (nI z))]) hx hb dL_acts_655 hl (by decide) rfl (fun ls hl => ?_)
        refine lv_iload hx hb dL_acts_657 (lv_at hl 10 rfl) ?_
        refine lv_bipush (v := 11) hx hb dL_acts_659 (by decide) ?_
        refine lv_icmp_ne (tgt := 716) hx hb dL_acts_661 (by decide) (fun c661 => ?_) (fun c661 => ?_)
        · exact ac_tend hfl he0 hH hP hK hT hD hA hI hR hz ht48 hj hB1 (lv_sub hl [0, 1, 2, 3, 4, 5, 6, 7, 8, 9, 10, 11] rfl)
        · exact ac_toggle hfl he0 hH hP hK hT hD hA hI hR hz ht48 hj hB1 (lv_sub hl [0, 1, 2, 3, 4, 5, 6, 7, 8, 9, 10, 11] rfl)
      · refine lv_iconst (v := 1) hx hb dL_acts_642 (by decide) ?_
        exact g_zret (v := 1) (σ, bf, lf, mf) hx hb hr hlocks hH hS hP ⟨true, rfl⟩ ⟨rfl, nL, nB, hI, hR, hB1⟩ dL_acts_643 (Nat.le_of_ble_eq_true rfl) (Nat.le_of_ble_eq_true rfl)
    · exact ac_tendAll hfl he0 hH hP hK hT hD hA hI hR hz ht48 hB1 (lv_sub hl [0, 1, 2, 3, 4, 5, 6, 7, 8, 9, 10] rfl)
  have K310 : ∀ (t : Nat) (ls : Array Slot), t < 48 → 1 ≤ nB → lv_has ls 15 [(9, .int (nI t)), (0, .ref h), (1, .ref ab), (2, .ref al), (3, .ref at9), (4, .ref aw), (5, .ref ap), (6, .ref am), (7, .int (nI way)), (8, .int (nI z))] → W p l e ({ frames := 9, cells := 2, slots := 12, locals := 167 }) s m args below meth c Hi [] 0 0 (gQ below D (S := St × (Nat → Int32) × (Nat → Int32) × (Nat → Int32)) (fun u => fw cI cZ h a u.1 ab al at9 aw ap am u.2.1 u.2.2.1 u.2.2.2) (fun r u => r = 1 ∧ ∃ nL9 nB9 : Nat, inv u.1 nL9 nB9 ∧ lrel u.1 nL9 nB9 u.2.1 u.2.2.1 u.2.2.2 ∧ 1 ≤ nB9) A 2 12 args s) (F0 m 310 ls []) := by
    intro t ls ht48 hB1 hl
    refine lv_iload hx hb dL_acts_310 (lv_at hl 8 rfl) ?_
    refine lv_iconst (v := 5) hx hb dL_acts_312 (by decide) ?_
    refine lv_icmp_ge (tgt := 361) hx hb dL_acts_313 (by decide) (fun c313 => ?_) (fun c313 => ?_)
    · refine lv_iload hx hb dL_acts_361 (lv_at hl 8 rfl) ?_
      refine lv_bipush (v := 7) hx hb dL_acts_363 (by decide) ?_
      refine lv_icmp_ge (tgt := 434) hx hb dL_acts_365 (by decide) (fun c365 => ?_) (fun c365 => ?_)
      · refine lv_iload hx hb dL_acts_434 (lv_at hl 8 rfl) ?_
        refine lv_bipush (v := 7) hx hb dL_acts_436 (by decide) ?_
        refine lv_icmp_ne (tgt := 502) hx hb dL_acts_438 (by decide) (fun c438 => ?_) (fun c438 => ?_)
        · refine lv_iload hx hb dL_acts_502 (lv_at hl 8 rfl) ?_
          refine lv_bipush (v := 10) hx hb dL_acts_504 (by decide) ?_
          refine lv_icmp_ge (tgt := 583) hx hb dL_acts_506 (by decide) (fun c506 => ?_) (fun c506 => ?_)
          · exact K583 t ls ht48 hB1 hl
          · exact ac_setPassing hfl he0 hH hP hK hT hD hA hI hR hz ht48 hB1 (lv_sub hl [0, 1, 2, 3, 4, 5, 6, 7, 8, 9] rfl)
        · exact ac_setWind hfl he0 hH hP hK hT hD hA hI hR hz ht48 hB1 (lv_sub hl [0, 1, 2, 3, 4, 5, 6, 7, 8, 9] rfl)
      · exact ac_setLoad hfl he0 hH hP hK hT hD hA hI hR hz ht48 hB1 (lv_sub hl [0, 1, 2, 3, 4, 5, 6, 7, 8, 9] rfl)
    · exact ac_setTide hfl he0 hH hP hK hT hD hA hI hR hz ht48 hB1 (lv_sub hl [0, 1, 2, 3, 4, 5, 6, 7, 8, 9] rfl)
  have K136 : ∀ (t : Nat) (ls : Array Slot), t < 48 → 1 ≤ nB → lv_has ls 15 [(9, .int (nI t)), (0, .ref h), (1, .ref ab), (2, .ref al), (3, .ref at9), (4, .ref aw), (5, .ref ap), (6, .ref am), (7, .int (nI way)), (8, .int (nI z))] → W p l e ({ frames := 9, cells := 2, slots := 12, locals := 167 }) s m args below meth c Hi [] 0 0 (gQ below D (S := St × (Nat → Int32) × (Nat → Int32) × (Nat → Int32)) (fun u => fw cI cZ h a u.1 ab al at9 aw ap am u.2.1 u.2.2.1 u.2.2.2) (fun r u => r = 1 ∧ ∃ nL9 nB9 : Nat, inv u.1 nL9 nB9 ∧ lrel u.1 nL9 nB9 u.2.1 u.2.2.1 u.2.2.2 ∧ 1 ≤ nB9) A 2 12 args s) (F0 m 136 ls []) := by
    intro t ls ht48 hB1 hl
    refine lv_iload hx hb dL_acts_136 (lv_at hl 8 rfl) ?_
    refine lv_iconst (v := 3) hx hb dL_acts_138 (by decide) ?_
    refine lv_icmp_ge (tgt := 310) hx hb dL_acts_139 (by decide) (fun c139 => ?_) (fun c139 => ?_)
    · exact K310 t ls ht48 hB1 hl
    · refine lv_aload hx hb dL_acts_142 (lv_at hl 7 rfl) ?_
      refine lv_iconst (v := 1) hx hb dL_acts_144 (by decide) ?_
      refine xa_ld hx hb hK hP 18 0 rfl rfl (j := 1) (by omega) (by decide) dL_acts_145 ?_
      rw [show (mf 1) = (nI nL) from hm1]
      refine lv_bipush (v := 6) hx hb dL_acts_146 (by decide) ?_
      refine lv_icmp_ge (tgt := 310) hx hb dL_acts_148 (by decide) (fun c148 => ?_) (fun c148 => ?_)
      · exact K310 t ls ht48 hB1 hl
      · have hlt : nL < 6 := Nat.not_le.mp (fun q => c148 ((nI_leI (a := 6) (b := nL) (by omega) (by omega)).mpr q))
        exact ac_addLine hfl he0 hH hP hK hT hD hA hI hR hz ht48 hlt hB1 (lv_sub hl [0, 1, 2, 3, 4, 5, 6, 7, 8, 9] rfl)
  have K25 : ∀ (t : Nat) (ls : Array Slot), t < 48 → lv_has ls 15 [(9, .int (nI t)), (0, .ref h), (1, .ref ab), (2, .ref al), (3, .ref at9), (4, .ref aw), (5, .ref ap), (6, .ref am), (7, .int (nI way)), (8, .int (nI z))] → W p l e ({ frames := 9, cells := 2, slots := 12, locals := 167 }) s m args below meth c Hi [] 0 0 (gQ below D (S := St × (Nat → Int32) × (Nat → Int32) × (Nat → Int32)) (fun u => fw cI cZ h a u.1 ab al at9 aw ap am u.2.1 u.2.2.1 u.2.2.2) (fun r u => r = 1 ∧ ∃ nL9 nB9 : Nat, inv u.1 nL9 nB9 ∧ lrel u.1 nL9 nB9 u.2.1 u.2.2.1 u.2.2.2 ∧ 1 ≤ nB9) A 2 12 args s) (F0 m 25 ls []) := by
    intro t ls ht48 hl
    refine lv_iload hx hb dL_acts_25 (lv_at hl 8 rfl) ?_
    refine lv_if_ne (tgt := 136) hx hb dL_acts_27 (by decide) (fun c27 => ?_) (fun c27 => ?_)
    · exact K136 t ls ht48 (by rcases hB with ⟨u, -⟩ | u; exact absurd (by rw [u]; rfl) c27; exact u) hl
    · refine lv_aload hx hb dL_acts_30 (lv_at hl 7 rfl) ?_
      refine lv_iconst (v := 0) hx hb dL_acts_32 (by decide) ?_
      refine xa_ld hx hb hK hP 18 0 rfl rfl (j := 0) (by omega) (by decide) dL_acts_33 ?_
      rw [show (mf 0) = (nI nB) from hm0]
      refine lv_iconst (v := 4) hx hb dL_acts_34 (by decide) ?_
      refine lv_icmp_ge (tgt := 136) hx hb dL_acts_35 (by decide) (fun c35 => ?_) (fun c35 => ?_)
      · have hB1 : 1 ≤ nB := by have := (nI_leI (a := 4) (b := nB) (by omega) (by omega)).mp c35; omega
        exact K136 t ls ht48 hB1 hl
      · have hlt : nB < 4 := Nat.not_le.mp (fun q => c35 ((nI_leI (a := 4) (b := nB) (by omega) (by omega)).mpr q))
        exact ac_addBollard hfl he0 hH hP hK hT hD hA hI hR hz ht48 hlt (lv_sub hl [0, 1, 2, 3, 4, 5, 6, 7, 8, 9] rfl)
  refine lv_iload hx hb dL_acts_0 (lv_at hl 8 rfl) ?_
  refine lv_iconst (v := 3) hx hb dL_acts_2 (by decide) ?_
  refine lv_irem hx hb dL_acts_3 (by decide) ?_
  refine lv_topi (fun y9 e9 => ?_)
  rw [show y9 = (nI (z % 3)) from e9.trans (pk_rem (a := z) (d := 3) (by omega) (by omega) (by omega))]
  refine lv_if_ne (tgt := 17) hx hb dL_acts_4 (by decide) (fun c4 => ?_) (fun c4 => ?_)
  · refine lv_iload hx hb dL_acts_17 (lv_at hl 8 rfl) ?_
    refine lv_iconst (v := 3) hx hb dL_acts_19 (by decide) ?_
    refine lv_idiv hx hb dL_acts_20 (by decide) ?_
    refine lv_topi (fun y9 e9 => ?_)
    rw [show y9 = (nI (z / 3)) from e9.trans (pk_div (a := z) (d := 3) (by omega) (by omega) (by omega))]
    refine lv_iconst (v := 4) hx hb dL_acts_21 (by decide) ?_
    refine lv_irem hx hb dL_acts_22 (by decide) ?_
    refine lv_topi (fun y9 e9 => ?_)
    rw [show y9 = (nI ((z / 3) % 4)) from e9.trans (pk_rem (a := (z / 3)) (d := 4) (by omega) (by omega) (by omega))]
    refine lv_istore (lv' := [(9, .int (nI ((z / 3) % 4))), (0, .ref h), (1, .ref ab), (2, .ref al), (3, .ref at9), (4, .ref aw), (5, .ref ap), (6, .ref am), (7, .int (nI way)), (8, .int (nI z))]) hx hb dL_acts_23 hl (by decide) rfl (fun ls hl => ?_)
    exact K25 (z / 3 % 4) ls (by omega) (lv_sub hl [0, 1, 2, 3, 4, 5, 6, 7, 8, 9] rfl)
  · refine lv_iload hx hb dL_acts_7 (lv_at hl 8 rfl) ?_
    refine lv_iconst (v := 3) hx hb dL_acts_9 (by decide) ?_
    refine lv_idiv hx hb dL_acts_10 (by decide) ?_
    refine lv_topi (fun y9 e9 => ?_)
    rw [show y9 = (nI (z / 3)) from e9.trans (pk_div (a := z) (d := 3) (by omega) (by omega) (by omega))]
    refine lv_bipush (v := 48) hx hb dL_acts_11 (by decide) ?_
    refine lv_irem hx hb dL_acts_13 (by decide) ?_
    refine lv_topi (fun y9 e9 => ?_)
    rw [show y9 = (nI ((z / 3) % 48)) from e9.trans (pk_rem (a := (z / 3)) (d := 48) (by omega) (by omega) (by omega))]
    refine lv_goto (tgt := 23) hx hb dL_acts_14 (by decide) ?_
    refine lv_istore (lv' := [(9, .int (nI ((z / 3) % 48))), (0, .ref h), (1, .ref ab), (2, .ref al), (3, .ref at9), (4, .ref aw), (5, .ref ap), (6, .ref am), (7, .int (nI way)), (8, .int (nI z))]) hx hb dL_acts_23 hl (by decide) rfl (fun ls hl => ?_)
    exact K25 (z / 3 % 48) ls (by omega) (lv_sub hl [0, 1, 2, 3, 4, 5, 6, 7, 8, 9] rfl)
