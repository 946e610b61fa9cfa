/-! The law: tended. -/
theorem tl_step {σ : St} {t : Nat} {s9 : Int32} {k nL : Nat} {lf lg : Nat → Int32} {v : Int32} (h1 : ∀ i, i % 6 ≠ 4 → lg i = lf i) (h2 : ∀ j, j < nL → lg (6 * j + 4) = tdS σ t s9 k j) (hv : v = tdS σ t s9 (k + 1) k) : (∀ i, i % 6 ≠ 4 → upd lg (6 * k + 4) v i = lf i) ∧ ∀ j, j < nL → upd lg (6 * k + 4) v (6 * j + 4) = tdS σ t s9 (k + 1) j := by
  refine ⟨fun i hi => ?_, fun j hj => ?_⟩
  · rw [pk_un (by omega)]; exact h1 i hi
  · by_cases e : j = k
    · subst e; rw [pk_us]; exact hv
    · rw [pk_un (by omega), h2 j hj]
      show _ = (if σ 13 k = 0 then tdS σ t s9 k else upd (tdS σ t s9 k) k (len_ σ k t s9)) j
      by_cases q : σ 13 k = 0
      · rw [if_pos q]
      · rw [if_neg q, pk_un e]
theorem td_at {σ : St} {t : Nat} {s9 : Int32} (k : Nat) : tdS σ t s9 (k + 1) k = if σ 13 k = 0 then σ 12 k else len_ σ k t s9 := tdS_lo (k + 1) k (by omega)
theorem tl_end {σ : St} {t nL nB : Nat} {bf lf lg mf : Nat → Int32} (hI : inv σ nL nB) (hR : lrel σ nL nB bf lf mf) (h1 : ∀ i, i % 6 ≠ 4 → lg i = lf i) (h2 : ∀ j, j < nL → lg (6 * j + 4) = tdS σ t (bal σ t) nL j) : lrel (tnd σ t) nL nB bf lg mf := by
  obtain ⟨a1, a2, a3, a4⟩ := hR
  refine ⟨a1, a2, a3, fun j hj => ?_⟩
  obtain ⟨⟨k, hk, e1, e2, e3⟩, e4, e5, e6, e7⟩ := a4 j hj
  refine ⟨⟨k, hk, (h1 _ (by omega)).trans e1, e2, by rw [h1 _ (by omega)]; exact e3⟩, (h1 _ (by omega)).trans e4, (h1 _ (by omega)).trans e5, ?_, by rw [h1 _ (by omega)]; exact e7⟩
  rw [h2 j hj]
  show tdS σ t (bal σ t) nL j = tdS σ t (bal σ t) (nL_ σ) j
  rw [inv_nL hI]
theorem lrel_cp {σ : St} {nL nB : Nat} {bf lf cf mf : Nat → Int32} (hR : lrel σ nL nB bf lf mf) (h : ∀ i, i < 36 → cf i = lf i) : lrel σ nL nB bf cf mf := by
  obtain ⟨a1, a2, a3, a4⟩ := hR
  refine ⟨a1, a2, a3, fun j hj => ?_⟩
  have hj6 : j < 6 := by omega
  obtain ⟨⟨k, hk, e1, e2, e3⟩, e4, e5, e6, e7⟩ := a4 j hj
  exact ⟨⟨k, hk, (h _ (by omega)).trans e1, e2, by rw [h _ (by omega)]; exact e3⟩, (h _ (by omega)).trans e4, (h _ (by omega)).trans e5, (h _ (by omega)).trans e6, by rw [h _ (by omega)]; exact e7⟩
set_option maxHeartbeats 4000000 in
set_option maxRecDepth 100000 in
theorem c_L_tended (l : Launch) (D : va_G) (cI : ClassId) (ab al am : Nat) (bf lf mf : Nat → Int32) (Hi : Heap) (A : Nat → Prop) (hD : va_D A (lw3 cI ab al am bf lf mf)) (hA : ∀ q, Hi.size ≤ q → A q) (σ : St) {nL nB : Nat} (hI : inv σ nL nB) (hR : lrel σ nL nB bf lf mf) (t : Nat) (ht48 : t < 48) : gM l yL_tended wsL_tended ({ frames := 5, cells := 1, slots := 6, locals := 138 }) [.ref ab, .ref al, .ref am, .int (ht σ t), .int (σ 2 t)] D (lw3 cI ab al am bf lf mf) (tyI cI) Hi (S := Nat → Int32) (fun u => lw3 cI ab al am bf u mf) (fun r u => r = tdC σ t (bal σ t) nL ∧ lrel (tnd σ t) nL nB bf u mf) A 1 6 := by
  refine g_of (cc := cL_tended) (maxL := 10) (ret := some .int) (by decide) rfl (Nat.le_of_ble_eq_true rfl) ?_
  intro p e s m args below meth c he hH hP hK ls hl
  obtain ⟨hx, hb, hr, hml, hown, hts, hlocks⟩ := he
  have hown : s.vm.findClass RL = some m.cls := hown
  have hS : va_S A Hi Hi [] := va_S.rf
  obtain ⟨⟨hL6, hB4⟩, ⟨hm0, hm1, hm2⟩, hRb, hRl⟩ := id hR
  have hl : lv_has ls 10 [(0, .ref ab), (1, .ref al), (2, .ref am), (3, .int (ht σ t)), (4, .int (σ 2 t))] := hl
  refine lv_iconst (v := 0) hx hb dL_tended_0 (by decide) ?_
  refine lv_istore (lv' := [(5, .int 0), (0, .ref ab), (1, .ref al), (2, .ref am), (3, .int (ht σ t)), (4, .int (σ 2 t))]) hx hb dL_tended_1 hl (by decide) rfl (fun ls hl => ?_)
  refine lv_aload_n hx hb dL_tended_3 rfl (lv_at hl 1 rfl) ?_
  refine lv_aload_n hx hb dL_tended_4 rfl (lv_at hl 2 rfl) ?_
  refine lv_aload_n hx hb dL_tended_5 rfl (lv_at hl 3 rfl) ?_
  refine lv_iload_n hx hb dL_tended_6 rfl (lv_at hl 4 rfl) ?_
  refine lv_iload hx hb dL_tended_7 (lv_at hl 5 rfl) ?_
  refine ro_callS 5 hx hb hml hown hts hl.1 hP hK (As := [.ref ab, .ref al, .ref am, .int (ht σ t), .int (σ 2 t)]) (rest := []) (c_L_shift l D cI ab al am bf lf mf Hi σ hI hR t ht48) gL_tended_L_shift rfl rfl rfl (by decide +kernel) ⟨Nat.le_of_ble_eq_true rfl, Nat.le_of_ble_eq_true rfl⟩ rfl rfl (Nat.le_of_ble_eq_true rfl) dL_tended_9 ⟨Nat.zero_le _, Nat.zero_le _⟩ (fun r1 hr1 => ?_)
  subst hr1
  refine lv_istore (lv' := [(6, .int (bal σ t)), (5, .int 0), (0, .ref ab), (1, .ref al), (2, .ref am), (3, .int (ht σ t)), (4, .int (σ 2 t))]) hx hb dL_tended_12 hl (by decide) rfl (fun ls hl => ?_)
  refine lv_bipush (v := 6) hx hb dL_tended_14 (by decide) ?_
  refine va_newa (atype := .int) (ty := .int) (N' := 6) (a0 := (6, .inl (fun _ => 0))) hx hb (hts (.arrayClass .int) (by decide +kernel)) rfl hK hP hD hS hA (fun _ => rfl) (by decide) (by decide) (by decide) (Nat.le_of_ble_eq_true rfl) (Nat.le_of_ble_eq_true rfl) dL_tended_16 (fun ao cJ H hK2 hP hD hS => ?_)
  obtain rfl : cI = cJ := va_sameI hK2 0 1 rfl rfl
  refine lv_astore (lv' := [(7, .ref ao), (6, .int (bal σ t)), (5, .int 0), (0, .ref ab), (1, .ref al), (2, .ref am), (3, .int (ht σ t)), (4, .int (σ 2 t))]) hx hb dL_tended_18 hl (by decide) rfl (fun ls hl => ?_)
  refine lv_iconst (v := 0) hx hb dL_tended_20 (by decide) ?_
  refine lv_istore (lv' := [(8, .int 0), (7, .ref ao), (6, .int (bal σ t)), (5, .int 0), (0, .ref ab), (1, .ref al), (2, .ref am), (3, .int (ht σ t)), (4, .int (σ 2 t))]) hx hb dL_tended_21 hl (by decide) rfl (fun ls hl => ?_)
  suffices K2 : ∀ (n k : Nat) (zf lg : Nat → Int32) (H : Heap) (locs : List Loc) (ls : Array Slot), k + n = nL → (∀ j, j < nL → zf j = len_ σ j t (bal σ t)) → (∀ i, i % 6 ≠ 4 → lg i = lf i) → (∀ j, j < nL → lg (6 * j + 4) = tdS σ t (bal σ t) k j) → va_P D vwCl (lw3 cI ab al am bf lg mf ++ [(ao, .inl (cI, 6, .inl zf))]) H → va_D A (lw3 cI ab al am bf lg mf ++ [(ao, .inl (cI, 6, .inl zf))]) → va_S A Hi H locs → lv_has ls 10 [(8, .int (nI k)), (7, .ref ao), (6, .int (bal σ t)), (5, .int (tdC σ t (bal σ t) k)), (0, .ref ab), (1, .ref al), (2, .ref am), (3, .int (ht σ t)), (4, .int (σ 2 t))] → W p l e ({ frames := 5, cells := 1, slots := 6, locals := 138 }) s m args below meth c H locs 1 6 (gQ below D (S := Nat → Int32) (fun u => lw3 cI ab al am bf u mf) (fun r u => r = tdC σ t (bal σ t) nL ∧ lrel (tnd σ t) nL nB bf u mf) A 1 6 args s) (F0 m 55 ls []) by
    suffices K1 : ∀ (n k : Nat) (zf : Nat → Int32) (H : Heap) (locs : List Loc) (ls : Array Slot), k + n = nL → (∀ j, j < k → zf j = len_ σ j t (bal σ t)) → va_P D vwCl (lw3 cI ab al am bf lf mf ++ [(ao, .inl (cI, 6, .inl zf))]) H → va_D A (lw3 cI ab al am bf lf mf ++ [(ao, .inl (cI, 6, .inl zf))]) → va_S A Hi H locs → lv_has ls 10 [(8, .int (nI k)), (7, .ref ao), (6, .int (bal σ t)), (5, .int 0), (0, .ref ab), (1, .ref al), (2, .ref am), (3, .int (ht σ t)), (4, .int (σ 2 t))] → W p l e ({ frames := 5, cells := 1, slots := 6, locals := 138 }) s m args below meth c H locs 1 6 (gQ below D (S := Nat → Int32) (fun u => lw3 cI ab al am bf u mf) (fun r u => r = tdC σ t (bal σ t) nL ∧ lrel (tnd σ t) nL nB bf u mf) A 1 6 args s) (F0 m 23 ls []) by
      exact K1 nL 0 _ H _ ls (by omega) (fun j hj => absurd hj (Nat.not_lt_zero j)) hP hD hS (lv_sub hl [0, 1, 2, 3, 4, 5, 6, 7, 8] rfl)
    intro n
    induction n with
    | zero =>
        intro k zf H locs ls hk hz hP hD hS hl
        refine lv_iload hx hb dL_tended_23 (lv_at hl 0 rfl) ?_
        refine lv_aload_n hx hb dL_tended_25 rfl (lv_at hl 6 rfl) ?_
        refine lv_iconst (v := 1) hx hb dL_tended_26 (by decide) ?_
        refine xa_ld hx hb hK hP 2 0 rfl rfl (j := 1) (by omega) (by decide) dL_tended_27 ?_
        rw [show (mf 1) = (nI nL) from hm1]
        refine lv_icmp_ge (tgt := 52) hx hb dL_tended_28 (by decide) (fun c28 => ?_) (fun c28 => ?_)
        · refine lv_iconst (v := 0) hx hb dL_tended_52 (by decide) ?_
          refine lv_istore (lv' := [(8, .int 0), (7, .ref ao), (6, .int (bal σ t)), (5, .int 0), (0, .ref ab), (1, .ref al), (2, .ref am), (3, .int (ht σ t)), (4, .int (σ 2 t))]) hx hb dL_tended_53 hl (by decide) rfl (fun ls hl => ?_)
          exact K2 nL 0 zf lf H locs ls (by omega) (fun j hj => hz j (by omega)) (fun _ _ => rfl) (fun j hj => by obtain ⟨-, -, -, e4, -⟩ := hRl j hj; exact e4) hP hD hS (lv_sub hl [0, 1, 2, 3, 4, 5, 6, 7, 8] rfl)
        · exact absurd (nI_le (a := nL) (b := k) (by omega) (by omega)) c28
    | succ n ih =>
        intro k zf H locs ls hk hz hP hD hS hl
        refine lv_iload hx hb dL_tended_23 (lv_at hl 0 rfl) ?_
        refine lv_aload_n hx hb dL_tended_25 rfl (lv_at hl 6 rfl) ?_
        refine lv_iconst (v := 1) hx hb dL_tended_26 (by decide) ?_
        refine xa_ld hx hb hK hP 2 0 rfl rfl (j := 1) (by omega) (by decide) dL_tended_27 ?_
        rw [show (mf 1) = (nI nL) from hm1]
        refine lv_icmp_ge (tgt := 52) hx hb dL_tended_28 (by decide) (fun c28 => ?_) (fun c28 => ?_)
        · exact absurd c28 (nI_ge (a := k) (b := nL) (by omega) (by omega))
        · have hk1 : k < nL := by omega
          have hP3 : va_P D vwCl (lw3 cI ab al am bf lf mf) H := hP.sub [0, 1, 2] rfl
          refine lv_aload hx hb dL_tended_31 (lv_at hl 1 rfl) ?_
          refine lv_iload hx hb dL_tended_33 (lv_at hl 0 rfl) ?_
          refine lv_aload_n hx hb dL_tended_35 rfl (lv_at hl 4 rfl) ?_
          refine lv_aload_n hx hb dL_tended_36 rfl (lv_at hl 5 rfl) ?_
          refine lv_iload hx hb dL_tended_37 (lv_at hl 0 rfl) ?_
          refine lv_iload_n hx hb dL_tended_39 rfl (lv_at hl 7 rfl) ?_
          refine lv_iload hx hb dL_tended_40 (lv_at hl 2 rfl) ?_
          refine ro_callS 5 hx hb hml hown hts hl.1 hP3 hK (As := [.ref ab, .ref al, .int (nI k), .int (ht σ t), .int (bal σ t)]) (rest := [.int (nI k), .ref ao]) (c_L_len l D cI ab al am bf lf mf H σ hI hR k t hk1 ht48 (bal σ t) (bal_inS σ t)) gL_tended_L_length rfl rfl rfl (by decide +kernel) ⟨Nat.le_of_ble_eq_true rfl, Nat.le_of_ble_eq_true rfl⟩ rfl rfl (Nat.le_of_ble_eq_true rfl) dL_tended_42 ⟨Nat.le_of_ble_eq_true rfl, Nat.le_of_ble_eq_true rfl⟩ (fun r2 hr2 => ?_)
          subst hr2
          refine xa_st hx hb hK hP hD hS 3 0 rfl rfl (j := k) (by omega) (by decide) dL_tended_45 (fun H locs hP hD hS => ?_)
          have hP : va_P D vwCl (lw3 cI ab al am bf lf mf ++ [(ao, .inl (cI, 6, .inl (upd zf k (len_ σ k t (bal σ t)))))]) H := hP
          have hD : va_D A (lw3 cI ab al am bf lf mf ++ [(ao, .inl (cI, 6, .inl (upd zf k (len_ σ k t (bal σ t)))))]) := hD
          refine lv_iinc (v := (nI (k + 1))) (lv' := [(8, .int (nI (k + 1))), (7, .ref ao), (6, .int (bal σ t)), (5, .int 0), (0, .ref ab), (1, .ref al), (2, .ref am), (3, .int (ht σ t)), (4, .int (σ 2 t))]) hx hb dL_tended_46 hl (k := 0) rfl (by exact nI_add _ 1) (by decide) rfl (fun ls hl => ?_)
          refine lv_goto (tgt := 23) hx hb dL_tended_49 (by decide) ?_
          exact ih (k + 1) (upd zf k (len_ σ k t (bal σ t))) H locs ls (by omega) (fun j hj => by by_cases q : j = k; rw [q, pk_us]; rw [pk_un q]; exact hz j (by omega)) hP hD hS (lv_sub hl [0, 1, 2, 3, 4, 5, 6, 7, 8] rfl)
  intro n
  induction n with
  | zero =>
    intro k zf lg H locs ls hk hz h1 h2 hP hD hS hl
    refine lv_iload hx hb dL_tended_55 (lv_at hl 0 rfl) ?_
    refine lv_aload_n hx hb dL_tended_57 rfl (lv_at hl 6 rfl) ?_
    refine lv_iconst (v := 1) hx hb dL_tended_58 (by decide) ?_
    refine xa_ld hx hb hK hP 2 0 rfl rfl (j := 1) (by omega) (by decide) dL_tended_59 ?_
    rw [show (mf 1) = (nI nL) from hm1]
    refine lv_icmp_ge (tgt := 151) hx hb dL_tended_60 (by decide) (fun c60 => ?_) (fun c60 => ?_)
    · obtain rfl : k = nL := by omega
      have hP3 : va_P D vwCl (lw3 cI ab al am bf lg mf) H := hP.sub [0, 1, 2] rfl
      refine lv_iload hx hb dL_tended_151 (lv_at hl 3 rfl) ?_
      exact g_ret (v := (tdC σ t (bal σ t) k)) lg hx hb hr hlocks hH hS hP3 ⟨rfl, tl_end hI hR h1 h2⟩ dL_tended_153 (Nat.le_of_ble_eq_true rfl) (Nat.le_of_ble_eq_true rfl)
    · exact absurd (nI_le (a := nL) (b := k) (by omega) (by omega)) c60
  | succ n ih =>
    intro k zf lg H locs ls hk hz h1 h2 hP hD hS hl
    refine lv_iload hx hb dL_tended_55 (lv_at hl 0 rfl) ?_
    refine lv_aload_n hx hb dL_tended_57 rfl (lv_at hl 6 rfl) ?_
    refine lv_iconst (v := 1) hx hb dL_tended_58 (by decide) ?_
    refine xa_ld hx hb hK hP 2 0 rfl rfl (j := 1) (by omega) (by decide) dL_tended_59 ?_
    rw [show (mf 1) = (nI nL) from hm1]
    refine lv_icmp_ge (tgt := 151) hx hb dL_tended_60 (by decide) (fun c60 => ?_) (fun c60 => ?_)
    · exact absurd c60 (nI_ge (a := k) (b := nL) (by omega) (by omega))
    · have hk1 : k < nL := by omega
      obtain ⟨-, e2, e3, e4, e5⟩ := hRl k hk1
      have q12 : tdS σ t (bal σ t) k k = σ 12 k := tdS_hi k k (Nat.le_refl k)
      refine lv_aload_n hx hb dL_tended_63 rfl (lv_at hl 5 rfl) ?_
      refine lv_bipush (v := 6) hx hb dL_tended_64 (by decide) ?_
      refine lv_iload hx hb dL_tended_66 (lv_at hl 0 rfl) ?_
      refine lv_imul hx hb dL_tended_68 ?_
      refine lv_topi (fun y9 e9 => ?_)
      rw [show y9 = (nI (6 * k)) from e9.trans (pk_mul 6 k)]
      refine lv_iconst (v := 5) hx hb dL_tended_69 (by decide) ?_
      refine lv_iadd hx hb dL_tended_70 ?_
      refine lv_topi (fun y9 e9 => ?_)
      rw [show y9 = (nI (6 * k + 5)) from e9.trans (nI_add (6 * k) 5)]
      refine xa_ld hx hb hK hP 1 0 rfl rfl (j := (6 * k + 5)) (by omega) (by decide) dL_tended_71 ?_
      rw [show (lg (6 * k + 5)) = (lf (6 * k + 5)) from h1 _ (by omega)]
      refine lv_if_ne (tgt := 96) hx hb dL_tended_72 (by decide) (fun c72 => ?_) (fun c72 => ?_)
      · have q0 : σ 13 k = 0 := e5.elim (fun q => absurd q.1 c72) (fun q => q.2)
        refine lv_iconst (v := 0) hx hb dL_tended_96 (by decide) ?_
        refine lv_istore (lv' := [(9, .int 0), (8, .int (nI k)), (7, .ref ao), (6, .int (bal σ t)), (5, .int (tdC σ t (bal σ t) k)), (0, .ref ab), (1, .ref al), (2, .ref am), (3, .int (ht σ t)), (4, .int (σ 2 t))]) hx hb dL_tended_97 hl (by decide) rfl (fun ls hl => ?_)
        refine lv_aload_n hx hb dL_tended_99 rfl (lv_at hl 6 rfl) ?_
        refine lv_bipush (v := 6) hx hb dL_tended_100 (by decide) ?_
        refine lv_iload hx hb dL_tended_102 (lv_at hl 1 rfl) ?_
        refine lv_imul hx hb dL_tended_104 ?_
        refine lv_topi (fun y9 e9 => ?_)
        rw [show y9 = (nI (6 * k)) from e9.trans (pk_mul 6 k)]
        refine lv_iconst (v := 4) hx hb dL_tended_105 (by decide) ?_
        refine lv_iadd hx hb dL_tended_106 ?_
        refine lv_topi (fun y9 e9 => ?_)
        rw [show y9 = (nI (6 * k + 4)) from e9.trans (nI_add (6 * k) 4)]
        refine lv_iload hx hb dL_tended_107 (lv_at hl 0 rfl) ?_
        refine lv_if_eq (tgt := 120) hx hb dL_tended_109 (by decide) (fun c109 => ?_) (fun c109 => ?_)
        · refine lv_aload_n hx hb dL_tended_120 rfl (lv_at hl 6 rfl) ?_
          refine lv_bipush (v := 6) hx hb dL_tended_121 (by decide) ?_
          refine lv_iload hx hb dL_tended_123 (lv_at hl 1 rfl) ?_
          refine lv_imul hx hb dL_tended_125 ?_
          refine lv_topi (fun y9 e9 => ?_)
          rw [show y9 = (nI (6 * k)) from e9.trans (pk_mul 6 k)]
          refine lv_iconst (v := 4) hx hb dL_tended_126 (by decide) ?_
          refine lv_iadd hx hb dL_tended_127 ?_
          refine lv_topi (fun y9 e9 => ?_)
          rw [show y9 = (nI (6 * k + 4)) from e9.trans (nI_add (6 * k) 4)]
          refine xa_ld hx hb hK hP 1 0 rfl rfl (j := (6 * k + 4)) (by omega) (by decide) dL_tended_128 ?_
          rw [show (lg (6 * k + 4)) = (σ 12 k) from (h2 k hk1).trans q12]
          refine xa_st hx hb hK hP hD hS 1 0 rfl rfl (j := (6 * k + 4)) (by omega) (by decide) dL_tended_129 (fun H locs hP hD hS => ?_)
          have hP : va_P D vwCl (lw3 cI ab al am bf (upd lg (6 * k + 4) (σ 12 k)) mf ++ [(ao, .inl (cI, 6, .inl zf))]) H := hP
          have hD : va_D A (lw3 cI ab al am bf (upd lg (6 * k + 4) (σ 12 k)) mf ++ [(ao, .inl (cI, 6, .inl zf))]) := hD
          refine lv_iload hx hb dL_tended_130 (lv_at hl 4 rfl) ?_
          refine lv_iload hx hb dL_tended_132 (lv_at hl 0 rfl) ?_
          refine lv_if_eq (tgt := 141) hx hb dL_tended_134 (by decide) (fun c134 => ?_) (fun c134 => ?_)
          · refine lv_iconst (v := 0) hx hb dL_tended_141 (by decide) ?_
            refine lv_iadd hx hb dL_tended_142 ?_
            refine lv_istore (lv' := [(5, .int ((tdC σ t (bal σ t) k) + 0)), (9, .int 0), (8, .int (nI k)), (7, .ref ao), (6, .int (bal σ t)), (0, .ref ab), (1, .ref al), (2, .ref am), (3, .int (ht σ t)), (4, .int (σ 2 t))]) hx hb dL_tended_143 hl (by decide) rfl (fun ls hl => ?_)
            refine lv_iinc (v := (nI (k + 1))) (lv' := [(8, .int (nI (k + 1))), (5, .int ((tdC σ t (bal σ t) k) + 0)), (9, .int 0), (7, .ref ao), (6, .int (bal σ t)), (0, .ref ab), (1, .ref al), (2, .ref am), (3, .int (ht σ t)), (4, .int (σ 2 t))]) hx hb dL_tended_145 hl (k := 2) rfl (by exact nI_add _ 1) (by decide) rfl (fun ls hl => ?_)
            refine lv_goto (tgt := 55) hx hb dL_tended_148 (by decide) ?_
            have hst := tl_step (v := (σ 12 k)) h1 h2 (by rw [td_at, if_pos q0])
            have hct : tdC σ t (bal σ t) (k + 1) = tdC σ t (bal σ t) k + 0 := by show acc _ 0 k + (if σ 13 k = 0 then 0 else if len_ σ k t (bal σ t) = σ 12 k then 0 else 1) = _; rw [if_pos q0]; rfl
            refine ih (k + 1) zf (upd lg (6 * k + 4) (σ 12 k)) H locs ls (by omega) hz hst.1 hst.2 hP hD hS (lv_sub hl [0, 3, 4, 1, 5, 6, 7, 8, 9] ?_)
            rw [hct]; rfl
          · exact absurd rfl c134
        · exact absurd rfl c109
      · have q1 : ¬ σ 13 k = 0 := e5.elim (fun q => by rw [q.2]; decide) (fun q => absurd (q.1.symm.trans c72) (by decide))
        refine lv_aload_n hx hb dL_tended_75 rfl (lv_at hl 5 rfl) ?_
        refine lv_bipush (v := 6) hx hb dL_tended_76 (by decide) ?_
        refine lv_iload hx hb dL_tended_78 (lv_at hl 0 rfl) ?_
        refine lv_imul hx hb dL_tended_80 ?_
        refine lv_topi (fun y9 e9 => ?_)
        rw [show y9 = (nI (6 * k)) from e9.trans (pk_mul 6 k)]
        refine lv_iconst (v := 4) hx hb dL_tended_81 (by decide) ?_
        refine lv_iadd hx hb dL_tended_82 ?_
        refine lv_topi (fun y9 e9 => ?_)
        rw [show y9 = (nI (6 * k + 4)) from e9.trans (nI_add (6 * k) 4)]
        refine xa_ld hx hb hK hP 1 0 rfl rfl (j := (6 * k + 4)) (by omega) (by decide) dL_tended_83 ?_
        rw [show (lg (6 * k + 4)) = (σ 12 k) from (h2 k hk1).trans q12]
        refine lv_aload hx hb dL_tended_84 (lv_at hl 1 rfl) ?_
        refine lv_iload hx hb dL_tended_86 (lv_at hl 0 rfl) ?_
        refine xa_ld hx hb hK hP 3 0 rfl rfl (j := k) (by omega) (by decide) dL_tended_88 ?_
        rw [show (zf k) = (len_ σ k t (bal σ t)) from hz k hk1]
        refine lv_icmp_eq (tgt := 96) hx hb dL_tended_89 (by decide) (fun c89 => ?_) (fun c89 => ?_)
        · have qe : len_ σ k t (bal σ t) = σ 12 k := c89.symm
          refine lv_iconst (v := 0) hx hb dL_tended_96 (by decide) ?_
          refine lv_istore (lv' := [(9, .int 0), (8, .int (nI k)), (7, .ref ao), (6, .int (bal σ t)), (5, .int (tdC σ t (bal σ t) k)), (0, .ref ab), (1, .ref al), (2, .ref am), (3, .int (ht σ t)), (4, .int (σ 2 t))]) hx hb dL_tended_97 hl (by decide) rfl (fun ls hl => ?_)
          refine lv_aload_n hx hb dL_tended_99 rfl (lv_at hl 6 rfl) ?_
          refine lv_bipush (v := 6) hx hb dL_tended_100 (by decide) ?_
          refine lv_iload hx hb dL_tended_102 (lv_at hl 1 rfl) ?_
          refine lv_imul hx hb dL_tended_104 ?_
          refine lv_topi (fun y9 e9 => ?_)
          rw [show y9 = (nI (6 * k)) from e9.trans (pk_mul 6 k)]
          refine lv_iconst (v := 4) hx hb dL_tended_105 (by decide) ?_
          refine lv_iadd hx hb dL_tended_106 ?_
          refine lv_topi (fun y9 e9 => ?_)
          rw [show y9 = (nI (6 * k + 4)) from e9.trans (nI_add (6 * k) 4)]
          refine lv_iload hx hb dL_tended_107 (lv_at hl 0 rfl) ?_
          refine lv_if_eq (tgt := 120) hx hb dL_tended_109 (by decide) (fun c109 => ?_) (fun c109 => ?_)
          · refine lv_aload_n hx hb dL_tended_120 rfl (lv_at hl 6 rfl) ?_
            refine lv_bipush (v := 6) hx hb dL_tended_121 (by decide) ?_
            refine lv_iload hx hb dL_tended_123 (lv_at hl 1 rfl) ?_
            refine lv_imul hx hb dL_tended_125 ?_
            refine lv_topi (fun y9 e9 => ?_)
            rw [show y9 = (nI (6 * k)) from e9.trans (pk_mul 6 k)]
            refine lv_iconst (v := 4) hx hb dL_tended_126 (by decide) ?_
            refine lv_iadd hx hb dL_tended_127 ?_
            refine lv_topi (fun y9 e9 => ?_)
            rw [show y9 = (nI (6 * k + 4)) from e9.trans (nI_add (6 * k) 4)]
            refine xa_ld hx hb hK hP 1 0 rfl rfl (j := (6 * k + 4)) (by omega) (by decide) dL_tended_128 ?_
            rw [show (lg (6 * k + 4)) = (σ 12 k) from (h2 k hk1).trans q12]
            refine xa_st hx hb hK hP hD hS 1 0 rfl rfl (j := (6 * k + 4)) (by omega) (by decide) dL_tended_129 (fun H locs hP hD hS => ?_)
            have hP : va_P D vwCl (lw3 cI ab al am bf (upd lg (6 * k + 4) (σ 12 k)) mf ++ [(ao, .inl (cI, 6, .inl zf))]) H := hP
            have hD : va_D A (lw3 cI ab al am bf (upd lg (6 * k + 4) (σ 12 k)) mf ++ [(ao, .inl (cI, 6, .inl zf))]) := hD
            refine lv_iload hx hb dL_tended_130 (lv_at hl 4 rfl) ?_
            refine lv_iload hx hb dL_tended_132 (lv_at hl 0 rfl) ?_
            refine lv_if_eq (tgt := 141) hx hb dL_tended_134 (by decide) (fun c134 => ?_) (fun c134 => ?_)
            · refine lv_iconst (v := 0) hx hb dL_tended_141 (by decide) ?_
              refine lv_iadd hx hb dL_tended_142 ?_
              refine lv_istore (lv' := [(5, .int ((tdC σ t (bal σ t) k) + 0)), (9, .int 0), (8, .int (nI k)), (7, .ref ao), (6, .int (bal σ t)), (0, .ref ab), (1, .ref al), (2, .ref am), (3, .int (ht σ t)), (4, .int (σ 2 t))]) hx hb dL_tended_143 hl (by decide) rfl (fun ls hl => ?_)
              refine lv_iinc (v := (nI (k + 1))) (lv' := [(8, .int (nI (k + 1))), (5, .int ((tdC σ t (bal σ t) k) + 0)), (9, .int 0), (7, .ref ao), (6, .int (bal σ t)), (0, .ref ab), (1, .ref al), (2, .ref am), (3, .int (ht σ t)), (4, .int (σ 2 t))]) hx hb dL_tended_145 hl (k := 2) rfl (by exact nI_add _ 1) (by decide) rfl (fun ls hl => ?_)
              refine lv_goto (tgt := 55) hx hb dL_tended_148 (by decide) ?_
              have hst := tl_step (v := (σ 12 k)) h1 h2 (by rw [td_at, if_neg q1, qe])
              have hct : tdC σ t (bal σ t) (k + 1) = tdC σ t (bal σ t) k + 0 := by show acc _ 0 k + (if σ 13 k = 0 then 0 else if len_ σ k t (bal σ t) = σ 12 k then 0 else 1) = _; rw [if_neg q1, if_pos qe]; rfl
              refine ih (k + 1) zf (upd lg (6 * k + 4) (σ 12 k)) H locs ls (by omega) hz hst.1 hst.2 hP hD hS (lv_sub hl [0, 3, 4, 1, 5, 6, 7, 8, 9] ?_)
              rw [hct]; rfl
            · exact absurd rfl c134
          · exact absurd rfl c109
        · have qn : ¬ len_ σ k t (bal σ t) = σ 12 k := fun q => c89 q.symm
          refine lv_iconst (v := 1) hx hb dL_tended_92 (by decide) ?_
          refine lv_goto (tgt := 97) hx hb dL_tended_93 (by decide) ?_
          refine lv_istore (lv' := [(9, .int 1), (8, .int (nI k)), (7, .ref ao), (6, .int (bal σ t)), (5, .int (tdC σ t (bal σ t) k)), (0, .ref ab), (1, .ref al), (2, .ref am), (3, .int (ht σ t)), (4, .int (σ 2 t))]) hx hb dL_tended_97 hl (by decide) rfl (fun ls hl => ?_)
          refine lv_aload_n hx hb dL_tended_99 rfl (lv_at hl 6 rfl) ?_
          refine lv_bipush (v := 6) hx hb dL_tended_100 (by decide) ?_
          refine lv_iload hx hb dL_tended_102 (lv_at hl 1 rfl) ?_
          refine lv_imul hx hb dL_tended_104 ?_
          refine lv_topi (fun y9 e9 => ?_)
          rw [show y9 = (nI (6 * k)) from e9.trans (pk_mul 6 k)]
          refine lv_iconst (v := 4) hx hb dL_tended_105 (by decide) ?_
          refine lv_iadd hx hb dL_tended_106 ?_
          refine lv_topi (fun y9 e9 => ?_)
          rw [show y9 = (nI (6 * k + 4)) from e9.trans (nI_add (6 * k) 4)]
          refine lv_iload hx hb dL_tended_107 (lv_at hl 0 rfl) ?_
          refine lv_if_eq (tgt := 120) hx hb dL_tended_109 (by decide) (fun c109 => ?_) (fun c109 => ?_)
          · exact absurd c109 (by decide)
          · refine lv_aload hx hb dL_tended_112 (lv_at hl 2 rfl) ?_
            refine lv_iload hx hb dL_tended_114 (lv_at hl 1 rfl) ?_
            refine xa_ld hx hb hK hP 3 0 rfl rfl (j := k) (by omega) (by decide) dL_tended_116 ?_
            rw [show (zf k) = (len_ σ k t (bal σ t)) from hz k hk1]
            refine lv_goto (tgt := 129) hx hb dL_tended_117 (by decide) ?_
            refine xa_st hx hb hK hP hD hS 1 0 rfl rfl (j := (6 * k + 4)) (by omega) (by decide) dL_tended_129 (fun H locs hP hD hS => ?_)
            have hP : va_P D vwCl (lw3 cI ab al am bf (upd lg (6 * k + 4) (len_ σ k t (bal σ t))) mf ++ [(ao, .inl (cI, 6, .inl zf))]) H := hP
            have hD : va_D A (lw3 cI ab al am bf (upd lg (6 * k + 4) (len_ σ k t (bal σ t))) mf ++ [(ao, .inl (cI, 6, .inl zf))]) := hD
            refine lv_iload hx hb dL_tended_130 (lv_at hl 4 rfl) ?_
            refine lv_iload hx hb dL_tended_132 (lv_at hl 0 rfl) ?_
            refine lv_if_eq (tgt := 141) hx hb dL_tended_134 (by decide) (fun c134 => ?_) (fun c134 => ?_)
            · exact absurd c134 (by decide)
            · refine lv_iconst (v := 1) hx hb dL_tended_137 (by decide) ?_
              refine lv_goto (tgt := 142) hx hb dL_tended_138 (by decide) ?_
              refine lv_iadd hx hb dL_tended_142 ?_
              refine lv_istore (lv' := [(5, .int ((tdC σ t (bal σ t) k) + 1)), (9, .int 1), (8, .int (nI k)), (7, .ref ao), (6, .int (bal σ t)), (0, .ref ab), (1, .ref al), (2, .ref am), (3, .int (ht σ t)), (4, .int (σ 2 t))]) hx hb dL_tended_143 hl (by decide) rfl (fun ls hl => ?_)
              refine lv_iinc (v := (nI (k + 1))) (lv' := [(8, .int (nI (k + 1))), (5, .int ((tdC σ t (bal σ t) k) + 1)), (9, .int 1), (7, .ref ao), (6, .int (bal σ t)), (0, .ref ab), (1, .ref al), (2, .ref am), (3, .int (ht σ t)), (4, .int (σ 2 t))]) hx hb dL_tended_145 hl (k := 2) rfl (by exact nI_add _ 1) (by decide) rfl (fun ls hl => ?_)
              refine lv_goto (tgt := 55) hx hb dL_tended_148 (by decide) ?_
              have hst := tl_step (v := (len_ σ k t (bal σ t))) h1 h2 (by rw [td_at, if_neg q1])
              have hct : tdC σ t (bal σ t) (k + 1) = tdC σ t (bal σ t) k + 1 := by show acc _ 0 k + (if σ 13 k = 0 then 0 else if len_ σ k t (bal σ t) = σ 12 k then 0 else 1) = _; rw [if_neg q1, if_neg qn]; rfl
              refine ih (k + 1) zf (upd lg (6 * k + 4) (len_ σ k t (bal σ t))) H locs ls (by omega) hz hst.1 hst.2 hP hD hS (lv_sub hl [0, 3, 4, 1, 5, 6, 7, 8, 9] ?_)
              rw [hct]; rfl
