/-! The law: plan. -/
abbrev lw6 (cI : ClassId) (ab al at9 aw ap am : Nat) (bf lf tf wf pf mf : Nat → Int32) : va_W := [(ab, .inl (cI, 8, .inl bf)), (al, .inl (cI, 36, .inl lf)), (at9, .inl (cI, 48, .inl tf)), (aw, .inl (cI, 48, .inl wf)), (ap, .inl (cI, 48, .inl pf)), (am, .inl (cI, 3, .inl mf))]
set_option maxHeartbeats 4000000 in
set_option maxRecDepth 100000 in
theorem c_L_plan (l : Launch) (D : va_G) (cI : ClassId) (ab al at9 aw ap am : Nat) (bf lf mf : Nat → Int32) (Hi : Heap) (A : Nat → Prop) (σ : St) {nL nB : Nat} (hI : inv σ nL nB) (hR : lrel σ nL nB bf lf mf) (f u : Nat) (hf : f ≤ u) (hu : u < 48) (hD : va_D A (lw6 cI ab al at9 aw ap am bf lf (σ 0) (σ 1) (σ 2) mf)) (hA : ∀ q, Hi.size ≤ q → A q) : gM l yL_plan wsL_plan ({ frames := 7, cells := 49, slots := 324, locals := 191 }) [.ref ab, .ref al, .ref at9, .ref aw, .ref ap, .ref am, .int (nI f), .int (nI u)] D (lw6 cI ab al at9 aw ap am bf lf (σ 0) (σ 1) (σ 2) mf) (tyI cI) Hi (S := Unit) (fun _ => (lw6 cI ab al at9 aw ap am bf lf (σ 0) (σ 1) (σ 2) mf)) (fun r _ => r = plR (u + 1 - f) σ f 0) A 49 324 := by
  refine g_of (cc := cL_plan) (maxL := 12) (ret := some .int) (by decide) rfl (Nat.le_of_ble_eq_true rfl) ?_
  intro p e s m args below meth c he hH hP hK ls hl
  obtain ⟨hx, hb, hr, hml, hown, hts, hlocks⟩ := he
  have hown : s.vm.findClass RL = some m.cls := hown
  have hS : va_S A Hi Hi [] := va_S.rf
  have hl : lv_has ls 12 [(0, .ref ab), (1, .ref al), (2, .ref at9), (3, .ref aw), (4, .ref ap), (5, .ref am), (6, .int (nI f)), (7, .int (nI u))] := hl
  refine lv_bipush (v := 36) hx hb dL_plan_0 (by decide) ?_
  refine va_newa (atype := .int) (ty := .int) (N' := 36) (a0 := (36, .inl (fun _ => 0))) hx hb (hts (.arrayClass .int) (by decide +kernel)) rfl hK hP hD hS hA (fun _ => rfl) (by decide) (by decide) (by decide) (Nat.le_of_ble_eq_true rfl) (Nat.le_of_ble_eq_true rfl) dL_plan_2 (fun ac cJ H hK2 hP hD hS => ?_)
  obtain rfl : cI = cJ := va_sameI hK2 0 1 rfl rfl
  refine lv_astore (lv' := [(8, .ref ac), (0, .ref ab), (1, .ref al), (2, .ref at9), (3, .ref aw), (4, .ref ap), (5, .ref am), (6, .int (nI f)), (7, .int (nI u))]) hx hb dL_plan_4 hl (by decide) rfl (fun ls hl => ?_)
  refine lv_iconst (v := 0) hx hb dL_plan_6 (by decide) ?_
  refine lv_istore (lv' := [(9, .int 0), (8, .ref ac), (0, .ref ab), (1, .ref al), (2, .ref at9), (3, .ref aw), (4, .ref ap), (5, .ref am), (6, .int (nI f)), (7, .int (nI u))]) hx hb dL_plan_7 hl (by decide) rfl (fun ls hl => ?_)
  refine lv_iconst (v := 0) hx hb dL_plan_9 (by decide) ?_
  refine lv_istore (lv' := [(10, .int 0), (9, .int 0), (8, .ref ac), (0, .ref ab), (1, .ref al), (2, .ref at9), (3, .ref aw), (4, .ref ap), (5, .ref am), (6, .int (nI f)), (7, .int (nI u))]) hx hb dL_plan_10 hl (by decide) rfl (fun ls hl => ?_)
  suffices K2 : ∀ (n k c9 : Nat) (σ' : St) (cf : Nat → Int32) (H : Heap) (locs : List Loc) (ls : Array Slot), k + n = u + 1 → f ≤ k → c9 ≤ k → inv σ' nL nB → lrel σ' nL nB bf cf mf → (σ' 0 = σ 0 ∧ σ' 1 = σ 1 ∧ σ' 2 = σ 2) → plR n σ' k c9 = plR (u + 1 - f) σ f 0 → va_P D vwCl (lw6 cI ab al at9 aw ap am bf lf (σ 0) (σ 1) (σ 2) mf ++ [(ac, .inl (cI, 36, .inl cf))]) H → va_D A (lw6 cI ab al at9 aw ap am bf lf (σ 0) (σ 1) (σ 2) mf ++ [(ac, .inl (cI, 36, .inl cf))]) → va_S A Hi H locs → lv_has ls 12 [(10, .int (nI k)), (9, .int (nI c9)), (8, .ref ac), (0, .ref ab), (1, .ref al), (2, .ref at9), (3, .ref aw), (4, .ref ap), (5, .ref am), (6, .int (nI f)), (7, .int (nI u))] → W p l e ({ frames := 7, cells := 49, slots := 324, locals := 191 }) s m args below meth c H locs (1 + (k - f)) (36 + 6 * (k - f)) (gQ below D (S := Unit) (fun _ => (lw6 cI ab al at9 aw ap am bf lf (σ 0) (σ 1) (σ 2) mf)) (fun r _ => r = plR (u + 1 - f) σ f 0) A 49 324 args s) (F0 m 38 ls []) by
    suffices K1 : ∀ (n k : Nat) (cf : Nat → Int32) (H : Heap) (locs : List Loc) (ls : Array Slot), k + n = 36 → (∀ i, i < k → cf i = lf i) → va_P D vwCl (lw6 cI ab al at9 aw ap am bf lf (σ 0) (σ 1) (σ 2) mf ++ [(ac, .inl (cI, 36, .inl cf))]) H → va_D A (lw6 cI ab al at9 aw ap am bf lf (σ 0) (σ 1) (σ 2) mf ++ [(ac, .inl (cI, 36, .inl cf))]) → va_S A Hi H locs → lv_has ls 12 [(10, .int (nI k)), (9, .int 0), (8, .ref ac), (0, .ref ab), (1, .ref al), (2, .ref at9), (3, .ref aw), (4, .ref ap), (5, .ref am), (6, .int (nI f)), (7, .int (nI u))] → W p l e ({ frames := 7, cells := 49, slots := 324, locals := 191 }) s m args below meth c H locs 1 36 (gQ below D (S := Unit) (fun _ => (lw6 cI ab al at9 aw ap am bf lf (σ 0) (σ 1) (σ 2) mf)) (fun r _ => r = plR (u + 1 - f) σ f 0) A 49 324 args s) (F0 m 12 ls []) by
      exact K1 36 0 _ H _ ls (by omega) (fun j hj => absurd hj (Nat.not_lt_zero j)) hP hD hS (lv_sub hl [0, 1, 2, 3, 4, 5, 6, 7, 8, 9, 10] rfl)
    intro n
    induction n with
    | zero =>
        intro k cf H locs ls hk hz hP hD hS hl
        refine lv_iload hx hb dL_plan_12 (lv_at hl 0 rfl) ?_
        refine lv_bipush (v := 36) hx hb dL_plan_14 (by decide) ?_
        refine lv_icmp_ge (tgt := 34) hx hb dL_plan_16 (by decide) (fun c16 => ?_) (fun c16 => ?_)
        · refine lv_iload hx hb dL_plan_34 (lv_at hl 9 rfl) ?_
          refine lv_istore (lv' := [(10, .int (nI f)), (9, .int 0), (8, .ref ac), (0, .ref ab), (1, .ref al), (2, .ref at9), (3, .ref aw), (4, .ref ap), (5, .ref am), (6, .int (nI f)), (7, .int (nI u))]) hx hb dL_plan_36 hl (by decide) rfl (fun ls hl => ?_)
          have K3 := K2 (u + 1 - f) f 0 σ cf H locs _ (by omega) (Nat.le_refl f) (Nat.zero_le f) hI (lrel_cp hR (fun i hi => hz i (by omega))) ⟨rfl, rfl, rfl⟩ rfl hP hD hS (lv_sub hl [0, 1, 2, 3, 4, 5, 6, 7, 8, 9, 10] rfl)
          rw [Nat.sub_self] at K3
          exact K3
        · exact absurd (nI_le (a := 36) (b := k) (by omega) (by omega)) c16
    | succ n ih =>
        intro k cf H locs ls hk hz hP hD hS hl
        refine lv_iload hx hb dL_plan_12 (lv_at hl 0 rfl) ?_
        refine lv_bipush (v := 36) hx hb dL_plan_14 (by decide) ?_
        refine lv_icmp_ge (tgt := 34) hx hb dL_plan_16 (by decide) (fun c16 => ?_) (fun c16 => ?_)
        · exact absurd c16 (nI_ge (a := k) (b := 36) (by omega) (by omega))
        · refine lv_aload hx hb dL_plan_19 (lv_at hl 2 rfl) ?_
          refine lv_iload hx hb dL_plan_21 (lv_at hl 0 rfl) ?_
          refine lv_aload_n hx hb dL_plan_23 rfl (lv_at hl 4 rfl) ?_
          refine lv_iload hx hb dL_plan_24 (lv_at hl 0 rfl) ?_
          refine xa_ld hx hb hK hP 1 0 rfl rfl (j := k) (by omega) (by decide) dL_plan_26 ?_
          refine xa_st hx hb hK hP hD hS 6 0 rfl rfl (j := k) (by omega) (by decide) dL_plan_27 (fun H locs hP hD hS => ?_)
          have hP : va_P D vwCl (lw6 cI ab al at9 aw ap am bf lf (σ 0) (σ 1) (σ 2) mf ++ [(ac, .inl (cI, 36, .inl (upd cf k (lf k))))]) H := hP
          have hD : va_D A (lw6 cI ab al at9 aw ap am bf lf (σ 0) (σ 1) (σ 2) mf ++ [(ac, .inl (cI, 36, .inl (upd cf k (lf k))))]) := hD
          refine lv_iinc (v := (nI (k + 1))) (lv' := [(10, .int (nI (k + 1))), (9, .int 0), (8, .ref ac), (0, .ref ab), (1, .ref al), (2, .ref at9), (3, .ref aw), (4, .ref ap), (5, .ref am), (6, .int (nI f)), (7, .int (nI u))]) hx hb dL_plan_28 hl (k := 0) rfl (by exact nI_add _ 1) (by decide) rfl (fun ls hl => ?_)
          refine lv_goto (tgt := 12) hx hb dL_plan_31 (by decide) ?_
          exact ih (k + 1) (upd cf k (lf k)) H locs ls (by omega) (fun i hi => by by_cases q : i = k; rw [q, pk_us]; rw [pk_un q]; exact hz i (by omega)) hP hD hS (lv_sub hl [0, 1, 2, 3, 4, 5, 6, 7, 8, 9, 10] rfl)
  intro n
  induction n with
  | zero =>
    intro k c9 σ' cf H locs ls hk hfk hck hI' hR' h0 hpl hP hD hS hl
    refine lv_iload hx hb dL_plan_38 (lv_at hl 0 rfl) ?_
    refine lv_iload hx hb dL_plan_40 (lv_at hl 10 rfl) ?_
    refine lv_icmp_gt (tgt := 123) hx hb dL_plan_42 (by decide) (fun c42 => ?_) (fun c42 => ?_)
    · have hP6 : va_P D vwCl (lw6 cI ab al at9 aw ap am bf lf (σ 0) (σ 1) (σ 2) mf) H := hP.sub [0, 1, 2, 3, 4, 5] rfl
      refine lv_iload hx hb dL_plan_123 (lv_at hl 1 rfl) ?_
      exact g_ret (v := (nI c9)) () hx hb hr hlocks hH hS hP6 (by rw [← hpl]; rfl) dL_plan_125 (by omega) (by omega)
    · exact absurd (nI_lt (a := u) (b := k) (by omega) (by omega)) c42
  | succ n ih =>
    intro k c9 σ' cf H locs ls hk hfk hck hI' hR' h0 hpl hP hD hS hl
    refine lv_iload hx hb dL_plan_38 (lv_at hl 0 rfl) ?_
    refine lv_iload hx hb dL_plan_40 (lv_at hl 10 rfl) ?_
    refine lv_icmp_gt (tgt := 123) hx hb dL_plan_42 (by decide) (fun c42 => ?_) (fun c42 => ?_)
    · exact absurd c42 (nI_nlt (by omega) (by omega))
    · have hk48 : k < 48 := by omega
      obtain ⟨h00, h01, h02⟩ := id h0
      have hP3 : va_P D vwCl (lw3 cI ab ac am bf cf mf) H := hP.sub [0, 6, 5] rfl
      refine lv_sipush (v := 300) hx hb dL_plan_45 (by decide) ?_
      refine lv_aload_n hx hb dL_plan_48 rfl (lv_at hl 5 rfl) ?_
      refine lv_iload hx hb dL_plan_49 (lv_at hl 0 rfl) ?_
      refine xa_ld hx hb hK hP 2 0 rfl rfl (j := k) (by omega) (by decide) dL_plan_51 ?_
      rw [show ((σ 0) k) = (σ' 0 k) from (congrFun h00 k).symm]
      refine lv_iadd hx hb dL_plan_52 ?_
      refine lv_aload_n hx hb dL_plan_53 rfl (lv_at hl 6 rfl) ?_
      refine lv_iload hx hb dL_plan_54 (lv_at hl 0 rfl) ?_
      refine xa_ld hx hb hK hP 3 0 rfl rfl (j := k) (by omega) (by decide) dL_plan_56 ?_
      rw [show ((σ 1) k) = (σ' 1 k) from (congrFun h01 k).symm]
      refine lv_iadd hx hb dL_plan_57 ?_
      refine lv_topi (fun y9 e9 => ?_)
      rw [show y9 = (ht σ' k) from e9.trans (rfl)]
      refine lv_istore (lv' := [(11, .int (ht σ' k)), (10, .int (nI k)), (9, .int (nI c9)), (8, .ref ac), (0, .ref ab), (1, .ref al), (2, .ref at9), (3, .ref aw), (4, .ref ap), (5, .ref am), (6, .int (nI f)), (7, .int (nI u))]) hx hb dL_plan_58 hl (by decide) rfl (fun ls hl => ?_)
      refine lv_aload_n hx hb dL_plan_60 rfl (lv_at hl 4 rfl) ?_
      refine lv_aload hx hb dL_plan_61 (lv_at hl 3 rfl) ?_
      refine lv_aload hx hb dL_plan_63 (lv_at hl 9 rfl) ?_
      refine lv_iload hx hb dL_plan_65 (lv_at hl 0 rfl) ?_
      refine lv_aload hx hb dL_plan_67 (lv_at hl 8 rfl) ?_
      refine lv_iload hx hb dL_plan_69 (lv_at hl 1 rfl) ?_
      refine xa_ld hx hb hK hP 4 0 rfl rfl (j := k) (by omega) (by decide) dL_plan_71 ?_
      rw [show ((σ 2) k) = (σ' 2 k) from (congrFun h02 k).symm]
      refine ro_callS 5 hx hb hml hown hts hl.1 hP3 hK (As := [.ref ab, .ref ac, .ref am, .int (ht σ' k), .int (σ' 2 k)]) (rest := []) (c_L_isSafe l D cI ab ac am bf cf mf H σ' hI' hR' k hk48) gL_plan_L_isSafe rfl rfl rfl (by decide +kernel) ⟨Nat.le_of_ble_eq_true rfl, Nat.le_of_ble_eq_true rfl⟩ rfl rfl (Nat.le_of_ble_eq_true rfl) dL_plan_72 ⟨by show 1 + (k - f) ≤ 49; omega, by show 36 + 6 * (k - f) ≤ 324; omega⟩ (fun r1 hr1 => ?_)
      subst hr1
      refine lv_if_ne (tgt := 117) hx hb dL_plan_75 (by decide) (fun c75 => ?_) (fun c75 => ?_)
      · refine lv_iinc (v := (nI (k + 1))) (lv' := [(10, .int (nI (k + 1))), (11, .int (ht σ' k)), (9, .int (nI c9)), (8, .ref ac), (0, .ref ab), (1, .ref al), (2, .ref at9), (3, .ref aw), (4, .ref ap), (5, .ref am), (6, .int (nI f)), (7, .int (nI u))]) hx hb dL_plan_117 hl (k := 1) rfl (by exact nI_add _ 1) (by decide) rfl (fun ls hl => ?_)
        refine lv_goto (tgt := 38) hx hb dL_plan_120 (by decide) ?_
        refine W.widen (k := 1 + (k + 1 - f)) (n := 36 + 6 * (k + 1 - f)) (by omega) (by omega) ?_
        exact ih (k + 1) c9 σ' cf H locs ls (by omega) (by omega) (by omega) hI' hR' h0 (by rw [← hpl]; show _ = (if safe_ σ' k = true then plR n σ' (k + 1) c9 else _); rw [if_pos (bI_t c75)]) hP hD hS (lv_sub hl [0, 2, 3, 4, 5, 6, 7, 8, 9, 10, 11] rfl)
      · have hns : ¬ safe_ σ' k = true := by rw [bI_f c75]; decide
        refine lv_aload_n hx hb dL_plan_78 rfl (lv_at hl 4 rfl) ?_
        refine lv_aload hx hb dL_plan_79 (lv_at hl 3 rfl) ?_
        refine lv_aload hx hb dL_plan_81 (lv_at hl 9 rfl) ?_
        refine lv_iload hx hb dL_plan_83 (lv_at hl 0 rfl) ?_
        refine lv_aload hx hb dL_plan_85 (lv_at hl 8 rfl) ?_
        refine lv_iload hx hb dL_plan_87 (lv_at hl 1 rfl) ?_
        refine xa_ld hx hb hK hP 4 0 rfl rfl (j := k) (by omega) (by decide) dL_plan_89 ?_
        rw [show ((σ 2) k) = (σ' 2 k) from (congrFun h02 k).symm]
        have hD3 : va_D A (lw3 cI ab ac am bf cf mf) := hD.sub [0, 6, 5] (by decide) rfl
        have hF3 : ∀ q, va_A (lw3 cI ab ac am bf cf mf) H.size q → A q := va_free hD hS hA [0, 6, 5] rfl
        refine g_callS 5 hx hb hml hown hts hl.1 hP3 hK hS hF3 (As := [.ref ab, .ref ac, .ref am, .int (ht σ' k), .int (σ' 2 k)]) (rest := []) (c_L_tended l D cI ab ac am bf cf mf H (va_A (lw3 cI ab ac am bf cf mf) H.size) hD3.self (fun q hq => Or.inr hq) σ' hI' hR' k hk48) gL_plan_L_tended rfl rfl rfl (by decide +kernel) ⟨Nat.le_of_ble_eq_true rfl, Nat.le_of_ble_eq_true rfl⟩ rfl rfl (Nat.le_of_ble_eq_true rfl) dL_plan_90 ⟨by show 1 + (k - f) + 1 ≤ 49; omega, by show 36 + 6 * (k - f) + 6 ≤ 324; omega⟩ (fun r2 cg H1 locs1 hp2 hP4 hS hz2 hk2 => ?_)
        obtain ⟨-, hR2⟩ := hp2
        have hD4 : va_D (va_A (lw3 cI ab ac am bf cf mf) H.size) (lw3 cI ab ac am bf cg mf) := va_D_ad (W := lw3 cI ab ac am bf cf mf) rfl hD3.self
        have hj := va_join hP hD [0, 6, 5] [1, 2, 3, 4] (wc := lw3 cI ab ac am bf cf mf) (wr := [(al, .inl (cI, 36, .inl lf)), (at9, .inl (cI, 48, .inl (σ 0))), (aw, .inl (cI, 48, .inl (σ 1))), (ap, .inl (cI, 48, .inl (σ 2)))]) rfl rfl (by decide) (by decide) hk2 hF3 hP4 hD4
        have hP : va_P D vwCl (lw6 cI ab al at9 aw ap am bf lf (σ 0) (σ 1) (σ 2) mf ++ [(ac, .inl (cI, 36, .inl cg))]) H1 := hj.1.sub [4, 0, 1, 2, 3, 6, 5] rfl
        have hD : va_D A (lw6 cI ab al at9 aw ap am bf lf (σ 0) (σ 1) (σ 2) mf ++ [(ac, .inl (cI, 36, .inl cg))]) := hj.2.sub [4, 0, 1, 2, 3, 6, 5] (by decide) rfl
        have hI2 : inv (tnd σ' k) nL nB := inv_tnd hI' hk48
        have hP3 : va_P D vwCl (lw3 cI ab ac am bf cg mf) H1 := hP.sub [0, 6, 5] rfl
        refine lv_pop hx hb dL_plan_93 rfl ?_
        refine lv_iinc (v := (nI (c9 + 1))) (lv' := [(9, .int (nI (c9 + 1))), (11, .int (ht σ' k)), (10, .int (nI k)), (8, .ref ac), (0, .ref ab), (1, .ref al), (2, .ref at9), (3, .ref aw), (4, .ref ap), (5, .ref am), (6, .int (nI f)), (7, .int (nI u))]) hx hb dL_plan_94 hl (k := 2) rfl (by exact nI_add _ 1) (by decide) rfl (fun ls hl => ?_)
        refine lv_aload_n hx hb dL_plan_97 rfl (lv_at hl 4 rfl) ?_
        refine lv_aload hx hb dL_plan_98 (lv_at hl 3 rfl) ?_
        refine lv_aload hx hb dL_plan_100 (lv_at hl 9 rfl) ?_
        refine lv_iload hx hb dL_plan_102 (lv_at hl 1 rfl) ?_
        refine lv_aload hx hb dL_plan_104 (lv_at hl 8 rfl) ?_
        refine lv_iload hx hb dL_plan_106 (lv_at hl 2 rfl) ?_
        refine xa_ld hx hb hK hP 4 0 rfl rfl (j := k) (by omega) (by decide) dL_plan_108 ?_
        rw [show ((σ 2) k) = (σ' 2 k) from (congrFun h02 k).symm]
        refine ro_callS 5 hx hb hml hown hts hl.1 hP3 hK (As := [.ref ab, .ref ac, .ref am, .int (ht σ' k), .int (σ' 2 k)]) (rest := []) (c_L_isSafe l D cI ab ac am bf cg mf H1 (tnd σ' k) hI2 hR2 k hk48) gL_plan_L_isSafe rfl rfl rfl (by decide +kernel) ⟨Nat.le_of_ble_eq_true rfl, Nat.le_of_ble_eq_true rfl⟩ rfl rfl (Nat.le_of_ble_eq_true rfl) dL_plan_109 ⟨by show 1 + (k - f) + 1 ≤ 49; omega, by show 36 + 6 * (k - f) + 6 ≤ 324; omega⟩ (fun r3 hr3 => ?_)
        subst hr3
        refine lv_if_ne (tgt := 117) hx hb dL_plan_112 (by decide) (fun c112 => ?_) (fun c112 => ?_)
        · refine lv_iinc (v := (nI (k + 1))) (lv' := [(10, .int (nI (k + 1))), (9, .int (nI (c9 + 1))), (11, .int (ht σ' k)), (8, .ref ac), (0, .ref ab), (1, .ref al), (2, .ref at9), (3, .ref aw), (4, .ref ap), (5, .ref am), (6, .int (nI f)), (7, .int (nI u))]) hx hb dL_plan_117 hl (k := 2) rfl (by exact nI_add _ 1) (by decide) rfl (fun ls hl => ?_)
          refine lv_goto (tgt := 38) hx hb dL_plan_120 (by decide) ?_
          refine W.widen (k := 1 + (k + 1 - f)) (n := 36 + 6 * (k + 1 - f)) (by omega) (by omega) ?_
          exact ih (k + 1) (c9 + 1) (tnd σ' k) cg H1 locs1 ls (by omega) (by omega) (by omega) hI2 hR2 h0 (by rw [← hpl]; show _ = (if safe_ σ' k = true then _ else if safe_ (tnd σ' k) k = true then plR n (tnd σ' k) (k + 1) (c9 + 1) else -1); rw [if_neg hns, if_pos (bI_t c112)]) hP hD hS (lv_sub hl [0, 1, 3, 4, 5, 6, 7, 8, 9, 10, 11] rfl)
        · have hP6 : va_P D vwCl (lw6 cI ab al at9 aw ap am bf lf (σ 0) (σ 1) (σ 2) mf) H1 := hP.sub [0, 1, 2, 3, 4, 5] rfl
          refine lv_iconst (v := (-1)) hx hb dL_plan_115 (by decide) ?_
          exact g_ret (v := (-1)) () hx hb hr hlocks hH hS hP6 (by rw [← hpl]; show _ = (if safe_ σ' k = true then _ else if safe_ (tnd σ' k) k = true then plR n (tnd σ' k) (k + 1) (c9 + 1) else -1); rw [if_neg hns, if_neg (by rw [bI_f c112]; decide)]) dL_plan_116 (by omega) (by omega)
