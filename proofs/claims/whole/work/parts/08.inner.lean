/-! What writes inside: tending; the reference's goes() and its holds(). -/
theorem va_D_ad {A : Nat → Prop} {W W' : va_W} (h : W.map (fun q => q.1) = W'.map (fun q => q.1)) (hD : va_D A W) : va_D A W' := by
  have key : ∀ (i : Nat) (p : Nat × va_E), W'[i]? = some p → ∃ q, W[i]? = some q ∧ q.1 = p.1 := by
    intro i p hp
    have e := congrArg (fun L => L[i]?) h
    simp only [List.getElem?_map, hp, Option.map_some] at e
    cases hw : W[i]? with
    | none => rw [hw] at e; cases e
    | some q => rw [hw] at e; exact ⟨q, rfl, Option.some.inj e⟩
  refine ⟨fun i j p q hp hq e => ?_, fun k q hk => ?_⟩
  · obtain ⟨p', h1, e1⟩ := key i p hp
    obtain ⟨q', h2, e2⟩ := key j q hq
    exact hD.1 i j p' q' h1 h2 (by rw [e1, e2, e])
  · obtain ⟨q', h1, e1⟩ := key k q hk
    rw [← e1]
    exact hD.2 k q' h1
theorem xD {A : Nat → Prop} {cI cZ : ClassId} {h : Nat} {a : Nat → Nat} {σ σ' : St} (hD : va_D A (xw cI cZ h a σ)) : va_D A (xw cI cZ h a σ') := va_D_ad (W := xw cI cZ h a σ) (W' := xw cI cZ h a σ') rfl hD
theorem mD {A : Nat → Prop} {cI cZ : ClassId} {h : Nat} {a : Nat → Nat} {σ σ' : St} (hD : va_D A (mw cI cZ h a σ)) : va_D A (mw cI cZ h a σ') := va_D_ad (W := mw cI cZ h a σ) (W' := mw cI cZ h a σ') rfl hD
theorem inv_st12 {σ : St} {nL nB : Nat} {f : Nat → Int32} (h : inv σ nL nB) (hf : ∀ j, j < nL → 0 ≤ (f j).toInt ∧ (f j).toInt ≤ 20000) : inv (st σ 12 f) nL nB := by
  obtain ⟨h1, h2, h3, h4, h5, h6, h7⟩ := h
  refine ⟨h1, h2, h3, h4, h5, h6, fun j hj => ?_⟩
  obtain ⟨a1, a2, a3, a4, a5, a6⟩ := h7 j hj
  exact ⟨a1, a2, a3, a4, hf j hj, a6⟩
theorem td_in {σ : St} {nL nB : Nat} (h : inv σ nL nB) {t : Nat} (ht48 : t < 48) {s : Int32} (hs : inS s) (n : Nat) : ∀ j, j < nL → 0 ≤ (tdS σ t s n j).toInt ∧ (tdS σ t s n j).toInt ≤ 20000 := by
  intro j hj
  obtain ⟨-, -, -, -, ⟨z1, z2⟩, -⟩ := h.2.2.2.2.2.2 j hj
  rcases Nat.lt_or_ge j n with q | q
  · rw [tdS_lo n j q]
    by_cases w : σ 13 j = 0
    · rw [if_pos w]; exact ⟨z1, z2⟩
    · rw [if_neg w]
      obtain ⟨k, ek, hk⟩ := inv_len h hj ht48 hs
      rw [ek, nI_ti (by omega)]
      omega
  · rw [tdS_hi n j q]; exact ⟨z1, z2⟩
theorem inv_td {σ : St} {nL nB : Nat} (h : inv σ nL nB) {t : Nat} (ht48 : t < 48) {s : Int32} (hs : inS s) (n : Nat) : inv (st σ 12 (tdS σ t s n)) nL nB := inv_st12 h (td_in h ht48 hs n)
theorem inv_tnd {σ : St} {nL nB : Nat} (h : inv σ nL nB) {t : Nat} (ht48 : t < 48) : inv (tnd σ t) nL nB := inv_td h ht48 (bal_inS σ t) _
theorem rel_st12 {σ τ : St} {nL : Nat} (f : Nat → Int32) (h : rel σ τ nL) : rel (st σ 12 f) (st τ 7 f) nL := by
  obtain ⟨h1, ⟨r4, r5, r6, r7⟩, r3, r8, r8z⟩ := h
  exact ⟨h1, ⟨r4, r5, r6, rfl⟩, r3, r8, r8z⟩
theorem rel_15 {σ τ : St} {nL : Nat} (f : Nat → Int32) (h : rel σ τ nL) : rel σ (st τ 15 f) nL := h
theorem long_le {x y : Int32} (h1 : 0 ≤ x.toInt ∧ x.toInt ≤ 1022400) (h2 : 1 ≤ y.toInt ∧ y.toInt ≤ 1000000) : ((55 : Int64) * y.toInt64 < (100 : Int64) * x.toInt64) ↔ ¬ x * 100 ≤ y * 55 := by
  have e1 : (55 : Int64).toInt = 55 := rfl
  have e2 : (100 : Int64).toInt = 100 := rfl
  have e3 : (55 : Int32).toInt = 55 := rfl
  have e4 : (100 : Int32).toInt = 100 := rfl
  have a1 : ((55 : Int64) * y.toInt64).toInt = 55 * y.toInt := by rw [Jvm.Kit.i64_mul (by rw [e1, Int32.toInt_toInt64]; omega) (by rw [e1, Int32.toInt_toInt64]; omega), e1, Int32.toInt_toInt64]
  have a2 : ((100 : Int64) * x.toInt64).toInt = 100 * x.toInt := by rw [Jvm.Kit.i64_mul (by rw [e2, Int32.toInt_toInt64]; omega) (by rw [e2, Int32.toInt_toInt64]; omega), e2, Int32.toInt_toInt64]
  have a3 : (y * 55).toInt = y.toInt * 55 := by rw [Jvm.Kit.i32_mul (by rw [e3]; omega) (by rw [e3]; omega), e3]
  have a4 : (x * 100).toInt = x.toInt * 100 := by rw [Jvm.Kit.i32_mul (by rw [e4]; omega) (by rw [e4]; omega), e4]
  rw [Int64.lt_iff_toInt_lt, i_le, a1, a2, a3, a4]
  omega
set_option maxHeartbeats 4000000 in
set_option maxRecDepth 100000 in
/-- holds -/
theorem c_X1_holds (l : Launch) (D : va_G) (cI cZ : ClassId) (h : Nat) (a : Nat → Nat) (σ τ : St) (H : Heap) {nL nB : Nat} (hI : inv σ nL nB) (hR : rel σ τ nL) (t : Nat) (ht48 : t < 48) : roM l yX1_holds wsX1_holds ({ frames := 6, cells := 0, slots := 0, locals := 146 }) [.ref h, .int (nI t)] D (mw cI cZ h a τ) (tyX cI cZ) H (fun r => r = bI (safe_ σ t)) := by
  refine ro_of (cc := cX1_holds) (maxL := 5) (ret := some .boolean) (by decide) rfl (Nat.le_of_ble_eq_true rfl) ?_
  intro p e s m args below meth c he hH hP hK ls hl
  obtain ⟨hx, hb, hr, hml, hown, hts, hlocks⟩ := he
  have hown : s.vm.findClass RX1 = some m.cls := hown
  obtain ⟨⟨r10, r11, r12, r13, r2, r0, r1, r9⟩, ⟨r4, r5, r6, r7⟩, r3, r8, r8z⟩ := id hR
  have hL : σ 7 0 = nI nL := hI.1
  have hL10 : nL ≤ 10 := hI.2.1
  have hl : lv_has ls 5 [(0, .ref h), (1, .int (nI t))] := hl
  have hin : ∀ w ∈ u_ws RX1 TX1 16, w ∈ wsX1_holds := by decide +kernel
  have hs9 := bal_inS σ t
  have hB6 : nB ≤ 6 := hI.2.2.2.1
  refine lv_aload_n hx hb dX1_holds_0 rfl (lv_at hl 0 rfl) ?_
  refine lv_iload_n hx hb dX1_holds_1 rfl (lv_at hl 1 rfl) ?_
  refine ro_callV 1 hx hb hml hown hts hl.1 hP hK 0 1 rfl rfl (As := [.int (nI t)]) (rest := []) (c_X1_shiftAt l D cI cZ h a σ τ H hI hR t ht48) gX1_holds_X1_shiftAt rfl rfl rfl (by decide +kernel) ⟨Nat.le_of_ble_eq_true rfl, Nat.le_of_ble_eq_true rfl⟩ rfl rfl (Nat.le_of_ble_eq_true rfl) dX1_holds_2 ⟨Nat.zero_le _, Nat.zero_le _⟩ (fun r1 hr1 => ?_)
  subst hr1
  refine lv_istore_n (lv' := [(2, .int (bal σ t)), (0, .ref h), (1, .int (nI t))]) hx hb dX1_holds_5 rfl hl (by decide) rfl (fun ls hl => ?_)
  refine lv_aload_n hx hb dX1_holds_6 rfl (lv_at hl 1 rfl) ?_
  refine lv_iload_n hx hb dX1_holds_7 rfl (lv_at hl 2 rfl) ?_
  refine ro_callV 1 hx hb hml hown hts hl.1 hP hK 0 1 rfl rfl (As := [.int (nI t)]) (rest := []) (c_X1_drifts l D cI cZ h a σ τ H hI hR t ht48) gX1_holds_X1_drifts rfl rfl rfl (by decide +kernel) ⟨Nat.le_of_ble_eq_true rfl, Nat.le_of_ble_eq_true rfl⟩ rfl rfl (Nat.le_of_ble_eq_true rfl) dX1_holds_8 ⟨Nat.zero_le _, Nat.zero_le _⟩ (fun r2 hr2 => ?_)
  subst hr2
  have K2 : ∀ (n k : Nat) (ls : Array Slot), k + n = nB → lv_has ls 5 [(4, .int (nI k)), (3, .int (bI (!drfW σ t (bal σ t) && (allB (fun j => decide (tn_ σ j t (bal σ t) * 100 ≤ σ 11 j * 55)) nL && allB (fun k => decide (sumOn_ σ (nI k) t (bal σ t) ≤ σ 6 k)) k)))), (2, .int (bal σ t)), (0, .ref h), (1, .int (nI t))] → W p l e ({ frames := 6, cells := 0, slots := 0, locals := 146 } : Room) s m args below meth c H [] 0 0 (roQ below H (fun r => r = bI (safe_ σ t)) args s) (F0 m 80 ls []) := by
    intro n
    induction n with
    | zero =>
      intro k ls hk hl
      refine lv_iload hx hb dX1_holds_80 (lv_at hl 0 rfl) ?_
      refine lv_aload_n hx hb dX1_holds_82 rfl (lv_at hl 3 rfl) ?_
      refine m_get hin hx hb hts hown hK hP rfl 2 (by decide) (v := .int (nI nB)) (congrArg (fun z => some (Value.int z)) (r2.trans hI.2.2.1)) (by decide +kernel) dX1_holds_83 ?_
      refine lv_icmp_ge (tgt := 123) hx hb dX1_holds_86 (by decide) (fun c86 => ?_) (fun c86 => ?_)
      · refine lv_iload_n hx hb dX1_holds_123 rfl (lv_at hl 1 rfl) ?_
        exact ro_zret (v := (bI (!drfW σ t (bal σ t) && (allB (fun j => decide (tn_ σ j t (bal σ t) * 100 ≤ σ 11 j * 55)) nL && allB (fun k => decide (sumOn_ σ (nI k) t (bal σ t) ≤ σ 6 k)) k)))) hx hb hr hlocks hH ⟨_, rfl⟩ (by show _ = bI (safe_ σ t); unfold safe_ safeW lnH blH; rw [inv_nL hI, inv_nB hI, show k = nB by omega]) dX1_holds_124
      · exact absurd (nI_le (by omega) (by omega)) c86
    | succ n ih =>
      intro k ls hk hl
      refine lv_iload hx hb dX1_holds_80 (lv_at hl 0 rfl) ?_
      refine lv_aload_n hx hb dX1_holds_82 rfl (lv_at hl 3 rfl) ?_
      refine m_get hin hx hb hts hown hK hP rfl 2 (by decide) (v := .int (nI nB)) (congrArg (fun z => some (Value.int z)) (r2.trans hI.2.2.1)) (by decide +kernel) dX1_holds_83 ?_
      refine lv_icmp_ge (tgt := 123) hx hb dX1_holds_86 (by decide) (fun c86 => ?_) (fun c86 => ?_)
      · exact absurd c86 (nI_ge (by omega) (by omega))
      · refine lv_iload_n hx hb dX1_holds_89 rfl (lv_at hl 1 rfl) ?_
        refine lv_if_eq (tgt := 115) hx hb dX1_holds_90 (by decide) (fun c90 => ?_) (fun c90 => ?_)
        · refine lv_iconst (v := 0) hx hb dX1_holds_115 (by decide) ?_
          rw [show (0 : Int32) = bI (!drfW σ t (bal σ t) && (allB (fun j => decide (tn_ σ j t (bal σ t) * 100 ≤ σ 11 j * 55)) nL && allB (fun k => decide (sumOn_ σ (nI k) t (bal σ t) ≤ σ 6 k)) (k + 1))) by
            show _ = bI (!drfW σ t (bal σ t) && (allB (fun j => decide (tn_ σ j t (bal σ t) * 100 ≤ σ 11 j * 55)) nL && (allB (fun k => decide (sumOn_ σ (nI k) t (bal σ t) ≤ σ 6 k)) k && decide (sumOn_ σ (nI k) t (bal σ t) ≤ σ 6 k))))
            rw [← Bool.and_assoc (allB _ _) (allB _ _), ← Bool.and_assoc, bI_f c90]; rfl]
          refine lv_istore_n (lv' := [(3, .int (bI (!drfW σ t (bal σ t) && (allB (fun j => decide (tn_ σ j t (bal σ t) * 100 ≤ σ 11 j * 55)) nL && allB (fun k => decide (sumOn_ σ (nI k) t (bal σ t) ≤ σ 6 k)) (k + 1))))), (4, .int (nI k)), (2, .int (bal σ t)), (0, .ref h), (1, .int (nI t))]) hx hb dX1_holds_116 rfl hl (by decide) rfl (fun ls hl => ?_)
          refine lv_iinc (v := (nI (k + 1))) (lv' := [(4, .int (nI (k + 1))), (3, .int (bI (!drfW σ t (bal σ t) && (allB (fun j => decide (tn_ σ j t (bal σ t) * 100 ≤ σ 11 j * 55)) nL && allB (fun k => decide (sumOn_ σ (nI k) t (bal σ t) ≤ σ 6 k)) (k + 1))))), (2, .int (bal σ t)), (0, .ref h), (1, .int (nI t))]) hx hb dX1_holds_117 hl (k := 1) rfl (by exact nI_add _ 1) (by decide) rfl (fun ls hl => ?_)
          refine lv_goto (tgt := 80) hx hb dX1_holds_120 (by decide) ?_
          exact ih (k + 1) ls (by omega) (lv_sub hl [0, 1, 2, 3, 4] rfl)
        · refine lv_aload_n hx hb dX1_holds_93 rfl (lv_at hl 3 rfl) ?_
          refine lv_iload hx hb dX1_holds_94 (lv_at hl 0 rfl) ?_
          refine lv_iload_n hx hb dX1_holds_96 rfl (lv_at hl 4 rfl) ?_
          refine lv_iload_n hx hb dX1_holds_97 rfl (lv_at hl 2 rfl) ?_
          refine ro_callV 3 hx hb hml hown hts hl.1 hP hK 0 1 rfl rfl (As := [.int (nI k), .int (nI t), .int (bal σ t)]) (rest := []) (c_X1_sumOn l D cI cZ h a σ τ H hI hR (nI k) t ht48 (bal σ t) hs9) gX1_holds_X1_sumOn rfl rfl rfl (by decide +kernel) ⟨Nat.le_of_ble_eq_true rfl, Nat.le_of_ble_eq_true rfl⟩ rfl rfl (Nat.le_of_ble_eq_true rfl) dX1_holds_98 ⟨Nat.zero_le _, Nat.zero_le _⟩ (fun r3 hr3 => ?_)
          subst hr3
          refine lv_aload_n hx hb dX1_holds_101 rfl (lv_at hl 3 rfl) ?_
          refine m_get hin hx hb hts hown hK hP rfl 1 (by decide) (v := .ref (a 1)) rfl (by decide +kernel) dX1_holds_102 ?_
          refine lv_iload hx hb dX1_holds_105 (lv_at hl 0 rfl) ?_
          refine xa_ld hx hb hK hP 2 0 rfl rfl (j := k) (by omega) (by decide) dX1_holds_107 ?_
          rw [show τ 1 k = (σ 6 k) from congrFun r1 k]
          refine lv_icmp_gt (tgt := 115) hx hb dX1_holds_108 (by decide) (fun c108 => ?_) (fun c108 => ?_)
          · refine lv_iconst (v := 0) hx hb dX1_holds_115 (by decide) ?_
            rw [show (0 : Int32) = bI (!drfW σ t (bal σ t) && (allB (fun j => decide (tn_ σ j t (bal σ t) * 100 ≤ σ 11 j * 55)) nL && allB (fun k => decide (sumOn_ σ (nI k) t (bal σ t) ≤ σ 6 k)) (k + 1))) by
              show _ = bI (!drfW σ t (bal σ t) && (allB (fun j => decide (tn_ σ j t (bal σ t) * 100 ≤ σ 11 j * 55)) nL && (allB (fun k => decide (sumOn_ σ (nI k) t (bal σ t) ≤ σ 6 k)) k && decide (sumOn_ σ (nI k) t (bal σ t) ≤ σ 6 k))))
              rw [decide_eq_false (Int32.not_le.mpr c108), Bool.and_false, Bool.and_false, Bool.and_false]; rfl]
            refine lv_istore_n (lv' := [(3, .int (bI (!drfW σ t (bal σ t) && (allB (fun j => decide (tn_ σ j t (bal σ t) * 100 ≤ σ 11 j * 55)) nL && allB (fun k => decide (sumOn_ σ (nI k) t (bal σ t) ≤ σ 6 k)) (k + 1))))), (4, .int (nI k)), (2, .int (bal σ t)), (0, .ref h), (1, .int (nI t))]) hx hb dX1_holds_116 rfl hl (by decide) rfl (fun ls hl => ?_)
            refine lv_iinc (v := (nI (k + 1))) (lv' := [(4, .int (nI (k + 1))), (3, .int (bI (!drfW σ t (bal σ t) && (allB (fun j => decide (tn_ σ j t (bal σ t) * 100 ≤ σ 11 j * 55)) nL && allB (fun k => decide (sumOn_ σ (nI k) t (bal σ t) ≤ σ 6 k)) (k + 1))))), (2, .int (bal σ t)), (0, .ref h), (1, .int (nI t))]) hx hb dX1_holds_117 hl (k := 1) rfl (by exact nI_add _ 1) (by decide) rfl (fun ls hl => ?_)
            refine lv_goto (tgt := 80) hx hb dX1_holds_120 (by decide) ?_
            exact ih (k + 1) ls (by omega) (lv_sub hl [0, 1, 2, 3, 4] rfl)
          · refine lv_iconst (v := 1) hx hb dX1_holds_111 (by decide) ?_
            refine lv_goto (tgt := 116) hx hb dX1_holds_112 (by decide) ?_
            rw [show (1 : Int32) = bI (!drfW σ t (bal σ t) && (allB (fun j => decide (tn_ σ j t (bal σ t) * 100 ≤ σ 11 j * 55)) nL && allB (fun k => decide (sumOn_ σ (nI k) t (bal σ t) ≤ σ 6 k)) (k + 1))) by
              show _ = bI (!drfW σ t (bal σ t) && (allB (fun j => decide (tn_ σ j t (bal σ t) * 100 ≤ σ 11 j * 55)) nL && (allB (fun k => decide (sumOn_ σ (nI k) t (bal σ t) ≤ σ 6 k)) k && decide (sumOn_ σ (nI k) t (bal σ t) ≤ σ 6 k))))
              rw [← Bool.and_assoc (allB _ _) (allB _ _), ← Bool.and_assoc, bI_t c90, decide_eq_true (Int32.not_lt.mp c108)]; rfl]
            refine lv_istore_n (lv' := [(3, .int (bI (!drfW σ t (bal σ t) && (allB (fun j => decide (tn_ σ j t (bal σ t) * 100 ≤ σ 11 j * 55)) nL && allB (fun k => decide (sumOn_ σ (nI k) t (bal σ t) ≤ σ 6 k)) (k + 1))))), (4, .int (nI k)), (2, .int (bal σ t)), (0, .ref h), (1, .int (nI t))]) hx hb dX1_holds_116 rfl hl (by decide) rfl (fun ls hl => ?_)
            refine lv_iinc (v := (nI (k + 1))) (lv' := [(4, .int (nI (k + 1))), (3, .int (bI (!drfW σ t (bal σ t) && (allB (fun j => decide (tn_ σ j t (bal σ t) * 100 ≤ σ 11 j * 55)) nL && allB (fun k => decide (sumOn_ σ (nI k) t (bal σ t) ≤ σ 6 k)) (k + 1))))), (2, .int (bal σ t)), (0, .ref h), (1, .int (nI t))]) hx hb dX1_holds_117 hl (k := 1) rfl (by exact nI_add _ 1) (by decide) rfl (fun ls hl => ?_)
            refine lv_goto (tgt := 80) hx hb dX1_holds_120 (by decide) ?_
            exact ih (k + 1) ls (by omega) (lv_sub hl [0, 1, 2, 3, 4] rfl)
  have K1 : ∀ (n k : Nat) (ls : Array Slot), k + n = nL → lv_has ls 5 [(4, .int (nI k)), (3, .int (bI (!drfW σ t (bal σ t) && allB (fun j => decide (tn_ σ j t (bal σ t) * 100 ≤ σ 11 j * 55)) k))), (2, .int (bal σ t)), (0, .ref h), (1, .int (nI t))] → W p l e ({ frames := 6, cells := 0, slots := 0, locals := 146 } : Room) s m args below meth c H [] 0 0 (roQ below H (fun r => r = bI (safe_ σ t)) args s) (F0 m 23 ls []) := by
    intro n
    induction n with
    | zero =>
      intro k ls hk hl
      refine lv_iload hx hb dX1_holds_23 (lv_at hl 0 rfl) ?_
      refine lv_aload_n hx hb dX1_holds_25 rfl (lv_at hl 3 rfl) ?_
      refine m_get hin hx hb hts hown hK hP rfl 9 (by decide) (v := .int (nI nL)) (congrArg (fun z => some (Value.int z)) (r9.trans hL)) (by decide +kernel) dX1_holds_26 ?_
      refine lv_icmp_ge (tgt := 77) hx hb dX1_holds_29 (by decide) (fun c29 => ?_) (fun c29 => ?_)
      · rw [show k = nL by omega] at hl
        refine lv_iconst (v := 0) hx hb dX1_holds_77 (by decide) ?_
        refine lv_istore (lv' := [(4, .int 0), (3, .int (bI (!drfW σ t (bal σ t) && allB (fun j => decide (tn_ σ j t (bal σ t) * 100 ≤ σ 11 j * 55)) nL))), (2, .int (bal σ t)), (0, .ref h), (1, .int (nI t))]) hx hb dX1_holds_78 hl (by decide) rfl (fun ls hl => ?_)
        exact K2 nB 0 ls (by omega) (lv_sub hl [0, 1, 2, 3, 4] (by show _ = [(4, Value.int (nI 0)), (3, Value.int (bI (!drfW σ t (bal σ t) && (allB (fun j => decide (tn_ σ j t (bal σ t) * 100 ≤ σ 11 j * 55)) nL && true)))), (2, .int (bal σ t)), (0, .ref h), (1, .int (nI t))]; rw [Bool.and_true]; rfl))
      · exact absurd (nI_le (by omega) (by omega)) c29
    | succ n ih =>
      intro k ls hk hl
      refine lv_iload hx hb dX1_holds_23 (lv_at hl 0 rfl) ?_
      refine lv_aload_n hx hb dX1_holds_25 rfl (lv_at hl 3 rfl) ?_
      refine m_get hin hx hb hts hown hK hP rfl 9 (by decide) (v := .int (nI nL)) (congrArg (fun z => some (Value.int z)) (r9.trans hL)) (by decide +kernel) dX1_holds_26 ?_
      refine lv_icmp_ge (tgt := 77) hx hb dX1_holds_29 (by decide) (fun c29 => ?_) (fun c29 => ?_)
      · exact absurd c29 (nI_ge (by omega) (by omega))
      · refine lv_iload_n hx hb dX1_holds_32 rfl (lv_at hl 1 rfl) ?_
        refine lv_if_eq (tgt := 69) hx hb dX1_holds_33 (by decide) (fun c33 => ?_) (fun c33 => ?_)
        · refine lv_iconst (v := 0) hx hb dX1_holds_69 (by decide) ?_
          rw [show (0 : Int32) = bI (!drfW σ t (bal σ t) && allB (fun j => decide (tn_ σ j t (bal σ t) * 100 ≤ σ 11 j * 55)) (k + 1)) by
            show _ = bI (!drfW σ t (bal σ t) && (allB (fun j => decide (tn_ σ j t (bal σ t) * 100 ≤ σ 11 j * 55)) k && decide (tn_ σ k t (bal σ t) * 100 ≤ σ 11 k * 55)))
            rw [← Bool.and_assoc, bI_f c33]; rfl]
          refine lv_istore_n (lv' := [(3, .int (bI (!drfW σ t (bal σ t) && allB (fun j => decide (tn_ σ j t (bal σ t) * 100 ≤ σ 11 j * 55)) (k + 1)))), (4, .int (nI k)), (2, .int (bal σ t)), (0, .ref h), (1, .int (nI t))]) hx hb dX1_holds_70 rfl hl (by decide) rfl (fun ls hl => ?_)
          refine lv_iinc (v := (nI (k + 1))) (lv' := [(4, .int (nI (k + 1))), (3, .int (bI (!drfW σ t (bal σ t) && allB (fun j => decide (tn_ σ j t (bal σ t) * 100 ≤ σ 11 j * 55)) (k + 1)))), (2, .int (bal σ t)), (0, .ref h), (1, .int (nI t))]) hx hb dX1_holds_71 hl (k := 1) rfl (by exact nI_add _ 1) (by decide) rfl (fun ls hl => ?_)
          refine lv_goto (tgt := 23) hx hb dX1_holds_74 (by decide) ?_
          exact ih (k + 1) ls (by omega) (lv_sub hl [0, 1, 2, 3, 4] rfl)
        · have hk1 : k < nL := by omega
          have hcmp := long_le (inv_tn hI hk1 ht48 hs9) (hI.2.2.2.2.2.2 k hk1).2.2.2.1
          refine lv_ldc2 (v := (100)) hx hb hown (hts (.constantLong RX1 104 (100)) (by decide +kernel)) dX1_holds_36 ?_
          refine lv_aload_n hx hb dX1_holds_39 rfl (lv_at hl 3 rfl) ?_
          refine lv_iload hx hb dX1_holds_40 (lv_at hl 0 rfl) ?_
          refine lv_iload_n hx hb dX1_holds_42 rfl (lv_at hl 4 rfl) ?_
          refine lv_iload_n hx hb dX1_holds_43 rfl (lv_at hl 2 rfl) ?_
          refine ro_callV 3 hx hb hml hown hts hl.1 hP hK 0 1 rfl rfl (As := [.int (nI k), .int (nI t), .int (bal σ t)]) (rest := [.long 100]) (c_X1_tensionAt l D cI cZ h a σ τ H hI hR k t hk1 ht48 (bal σ t) hs9) gX1_holds_X1_tensionAt rfl rfl rfl (by decide +kernel) ⟨Nat.le_of_ble_eq_true rfl, Nat.le_of_ble_eq_true rfl⟩ rfl rfl (Nat.le_of_ble_eq_true rfl) dX1_holds_44 ⟨Nat.zero_le _, Nat.zero_le _⟩ (fun r3 hr3 => ?_)
          subst hr3
          refine lv_i2l hx hb dX1_holds_47 rfl ?_
          refine lv_lmul hx hb dX1_holds_48 ?_
          refine lv_ldc2 (v := (55)) hx hb hown (hts (.constantLong RX1 106 (55)) (by decide +kernel)) dX1_holds_49 ?_
          refine lv_aload_n hx hb dX1_holds_52 rfl (lv_at hl 3 rfl) ?_
          refine m_get hin hx hb hts hown hK hP rfl 6 (by decide) (v := .ref (a 6)) rfl (by decide +kernel) dX1_holds_53 ?_
          refine lv_iload hx hb dX1_holds_56 (lv_at hl 0 rfl) ?_
          refine xa_ld hx hb hK hP 6 0 rfl rfl (j := k) (by omega) (by decide) dX1_holds_58 ?_
          rw [show τ 6 k = (σ 11 k) from congrFun r6 k]
          refine lv_i2l hx hb dX1_holds_59 rfl ?_
          refine lv_lmul hx hb dX1_holds_60 ?_
          refine W.lcmp hx hb dX1_holds_61 ?_
          refine lv_if_gt (tgt := 69) hx hb dX1_holds_62 (by decide) (fun c62 => ?_) (fun c62 => ?_)
          · refine lv_iconst (v := 0) hx hb dX1_holds_69 (by decide) ?_
            rw [show (0 : Int32) = bI (!drfW σ t (bal σ t) && allB (fun j => decide (tn_ σ j t (bal σ t) * 100 ≤ σ 11 j * 55)) (k + 1)) by
              show _ = bI (!drfW σ t (bal σ t) && (allB (fun j => decide (tn_ σ j t (bal σ t) * 100 ≤ σ 11 j * 55)) k && decide (tn_ σ k t (bal σ t) * 100 ≤ σ 11 k * 55)))
              rw [decide_eq_false (hcmp.mp ((lg_cmp_gt _ _).mp c62)), Bool.and_false, Bool.and_false]; rfl]
            refine lv_istore_n (lv' := [(3, .int (bI (!drfW σ t (bal σ t) && allB (fun j => decide (tn_ σ j t (bal σ t) * 100 ≤ σ 11 j * 55)) (k + 1)))), (4, .int (nI k)), (2, .int (bal σ t)), (0, .ref h), (1, .int (nI t))]) hx hb dX1_holds_70 rfl hl (by decide) rfl (fun ls hl => ?_)
            refine lv_iinc (v := (nI (k + 1))) (lv' := [(4, .int (nI (k + 1))), (3, .int (bI (!drfW σ t (bal σ t) && allB (fun j => decide (tn_ σ j t (bal σ t) * 100 ≤ σ 11 j * 55)) (k + 1)))), (2, .int (bal σ t)), (0, .ref h), (1, .int (nI t))]) hx hb dX1_holds_71 hl (k := 1) rfl (by exact nI_add _ 1) (by decide) rfl (fun ls hl => ?_)
            refine lv_goto (tgt := 23) hx hb dX1_holds_74 (by decide) ?_
            exact ih (k + 1) ls (by omega) (lv_sub hl [0, 1, 2, 3, 4] rfl)
          · refine lv_iconst (v := 1) hx hb dX1_holds_65 (by decide) ?_
            refine lv_goto (tgt := 70) hx hb dX1_holds_66 (by decide) ?_
            rw [show (1 : Int32) = bI (!drfW σ t (bal σ t) && allB (fun j => decide (tn_ σ j t (bal σ t) * 100 ≤ σ 11 j * 55)) (k + 1)) by
              show _ = bI (!drfW σ t (bal σ t) && (allB (fun j => decide (tn_ σ j t (bal σ t) * 100 ≤ σ 11 j * 55)) k && decide (tn_ σ k t (bal σ t) * 100 ≤ σ 11 k * 55)))
              rw [← Bool.and_assoc, bI_t c33, decide_eq_true (Classical.not_not.mp (fun v => c62 ((lg_cmp_gt _ _).mpr (hcmp.mpr v))))]; rfl]
            refine lv_istore_n (lv' := [(3, .int (bI (!drfW σ t (bal σ t) && allB (fun j => decide (tn_ σ j t (bal σ t) * 100 ≤ σ 11 j * 55)) (k + 1)))), (4, .int (nI k)), (2, .int (bal σ t)), (0, .ref h), (1, .int (nI t))]) hx hb dX1_holds_70 rfl hl (by decide) rfl (fun ls hl => ?_)
            refine lv_iinc (v := (nI (k + 1))) (lv' := [(4, .int (nI (k + 1))), (3, .int (bI (!drfW σ t (bal σ t) && allB (fun j => decide (tn_ σ j t (bal σ t) * 100 ≤ σ 11 j * 55)) (k + 1)))), (2, .int (bal σ t)), (0, .ref h), (1, .int (nI t))]) hx hb dX1_holds_71 hl (k := 1) rfl (by exact nI_add _ 1) (by decide) rfl (fun ls hl => ?_)
            refine lv_goto (tgt := 23) hx hb dX1_holds_74 (by decide) ?_
            exact ih (k + 1) ls (by omega) (lv_sub hl [0, 1, 2, 3, 4] rfl)
  refine lv_if_ne (tgt := 18) hx hb dX1_holds_11 (by decide) (fun c11 => ?_) (fun c11 => ?_)
  · refine lv_iconst (v := 0) hx hb dX1_holds_18 (by decide) ?_
    rw [show (0 : Int32) = bI (!drfW σ t (bal σ t) && allB (fun j => decide (tn_ σ j t (bal σ t) * 100 ≤ σ 11 j * 55)) 0) by rw [bI_t c11]; rfl]
    refine lv_istore_n (lv' := [(3, .int (bI (!drfW σ t (bal σ t) && allB (fun j => decide (tn_ σ j t (bal σ t) * 100 ≤ σ 11 j * 55)) 0))), (2, .int (bal σ t)), (0, .ref h), (1, .int (nI t))]) hx hb dX1_holds_19 rfl hl (by decide) rfl (fun ls hl => ?_)
    refine lv_iconst (v := 0) hx hb dX1_holds_20 (by decide) ?_
    refine lv_istore (lv' := [(4, .int 0), (3, .int (bI (!drfW σ t (bal σ t) && allB (fun j => decide (tn_ σ j t (bal σ t) * 100 ≤ σ 11 j * 55)) 0))), (2, .int (bal σ t)), (0, .ref h), (1, .int (nI t))]) hx hb dX1_holds_21 hl (by decide) rfl (fun ls hl => ?_)
    exact K1 nL 0 ls (by omega) (lv_sub hl [0, 1, 2, 3, 4] rfl)
  · refine lv_iconst (v := 1) hx hb dX1_holds_14 (by decide) ?_
    refine lv_goto (tgt := 19) hx hb dX1_holds_15 (by decide) ?_
    rw [show (1 : Int32) = bI (!drfW σ t (bal σ t) && allB (fun j => decide (tn_ σ j t (bal σ t) * 100 ≤ σ 11 j * 55)) 0) by rw [bI_f c11]; rfl]
    refine lv_istore_n (lv' := [(3, .int (bI (!drfW σ t (bal σ t) && allB (fun j => decide (tn_ σ j t (bal σ t) * 100 ≤ σ 11 j * 55)) 0))), (2, .int (bal σ t)), (0, .ref h), (1, .int (nI t))]) hx hb dX1_holds_19 rfl hl (by decide) rfl (fun ls hl => ?_)
    refine lv_iconst (v := 0) hx hb dX1_holds_20 (by decide) ?_
    refine lv_istore (lv' := [(4, .int 0), (3, .int (bI (!drfW σ t (bal σ t) && allB (fun j => decide (tn_ σ j t (bal σ t) * 100 ≤ σ 11 j * 55)) 0))), (2, .int (bal σ t)), (0, .ref h), (1, .int (nI t))]) hx hb dX1_holds_21 hl (by decide) rfl (fun ls hl => ?_)
    exact K1 nL 0 ls (by omega) (lv_sub hl [0, 1, 2, 3, 4] rfl)
set_option maxHeartbeats 4000000 in
set_option maxRecDepth 100000 in
/-- goes -/
theorem c_X1_goes (l : Launch) (D : va_G) (cI cZ : ClassId) (h : Nat) (a : Nat → Nat) (σ τ : St) (Hi : Heap) (A : Nat → Prop) (hD : va_D A (mw cI cZ h a τ)) (b1 b2 b3 : Bool) : wrM l yX1_goes wsX1_goes ({ frames := 0, cells := 0, slots := 0, locals := 0 }) [.ref h, .int (bI b1), .int (bI b2), .int (bI b3)] D (mw cI cZ h a τ) (tyX cI cZ) Hi (S := Unit) (fun _ => mw cI cZ h a (st τ 15 (fun _ => goK b1 b2 b3))) (fun r _ => r = bI (b1 && (b2 && b3))) A := by
  refine wr_of (cc := cX1_goes) (maxL := 4) (ret := some .boolean) (by decide) rfl (Nat.le_of_ble_eq_true rfl) ?_
  intro p e s m args below meth c he hH hP hK ls hl
  obtain ⟨hx, hb, hr, hml, hown, hts, hlocks⟩ := he
  have hown : s.vm.findClass RX1 = some m.cls := hown
  have hS : va_S A Hi Hi [] := va_S.rf
  have hl : lv_has ls 4 [(0, .ref h), (1, .int (bI b1)), (2, .int (bI b2)), (3, .int (bI b3))] := hl
  have hin : ∀ w ∈ u_ws RX1 TX1 16, w ∈ wsX1_goes := by decide +kernel
  refine lv_aload_n hx hb dX1_goes_0 rfl (lv_at hl 0 rfl) ?_
  refine lv_iload_n hx hb dX1_goes_1 rfl (lv_at hl 1 rfl) ?_
  refine lv_if_ne (tgt := 9) hx hb dX1_goes_2 (by decide) (fun c2 => ?_) (fun c2 => ?_)
  · refine lv_iload_n hx hb dX1_goes_9 rfl (lv_at hl 2 rfl) ?_
    refine lv_if_ne (tgt := 17) hx hb dX1_goes_10 (by decide) (fun c10 => ?_) (fun c10 => ?_)
    · refine lv_iload_n hx hb dX1_goes_17 rfl (lv_at hl 3 rfl) ?_
      refine lv_if_eq (tgt := 25) hx hb dX1_goes_18 (by decide) (fun c18 => ?_) (fun c18 => ?_)
      · refine lv_iconst (v := 3) hx hb dX1_goes_25 (by decide) ?_
        rw [show (3 : Int32) = goK b1 b2 b3 by rw [bI_t c2, bI_t c10, bI_f c18]; rfl]
        refine m_put hin hx hb hts hown hK hP hD hS rfl 15 (by decide) (by decide +kernel) rfl (by decide +kernel) (Nat.le_of_ble_eq_true rfl) dX1_goes_26 (fun H locs hP hD hS => ?_)
        have hP : va_P D vwCl (mw cI cZ h a (st τ 15 (fun _ => (goK b1 b2 b3)))) H := hP
        have hD : va_D A (mw cI cZ h a (st τ 15 (fun _ => (goK b1 b2 b3)))) := hD
        refine lv_aload_n hx hb dX1_goes_29 rfl (lv_at hl 0 rfl) ?_
        refine m_get hin hx hb hts hown hK hP rfl 15 (by decide) (v := .int (goK b1 b2 b3)) rfl (by decide +kernel) dX1_goes_30 ?_
        refine lv_if_ne (tgt := 40) hx hb dX1_goes_33 (by decide) (fun c33 => ?_) (fun c33 => ?_)
        · refine lv_iconst (v := 0) hx hb dX1_goes_40 (by decide) ?_
          exact wr_zret (v := 0) () hx hb hr hlocks hH hS hP ⟨false, rfl⟩ (by show _ = bI (b1 && (b2 && b3)); rw [bI_t c2, bI_t c10, bI_f c18]; rfl) dX1_goes_41
        · exact absurd c33 (by rw [bI_t c2, bI_t c10, bI_f c18]; exact (by decide : ¬ (3 : Int32) = 0))
      · refine lv_iconst (v := 0) hx hb dX1_goes_21 (by decide) ?_
        refine lv_goto (tgt := 26) hx hb dX1_goes_22 (by decide) ?_
        rw [show (0 : Int32) = goK b1 b2 b3 by rw [bI_t c2, bI_t c10, bI_t c18]; rfl]
        refine m_put hin hx hb hts hown hK hP hD hS rfl 15 (by decide) (by decide +kernel) rfl (by decide +kernel) (Nat.le_of_ble_eq_true rfl) dX1_goes_26 (fun H locs hP hD hS => ?_)
        have hP : va_P D vwCl (mw cI cZ h a (st τ 15 (fun _ => (goK b1 b2 b3)))) H := hP
        have hD : va_D A (mw cI cZ h a (st τ 15 (fun _ => (goK b1 b2 b3)))) := hD
        refine lv_aload_n hx hb dX1_goes_29 rfl (lv_at hl 0 rfl) ?_
        refine m_get hin hx hb hts hown hK hP rfl 15 (by decide) (v := .int (goK b1 b2 b3)) rfl (by decide +kernel) dX1_goes_30 ?_
        refine lv_if_ne (tgt := 40) hx hb dX1_goes_33 (by decide) (fun c33 => ?_) (fun c33 => ?_)
        · refine lv_iconst (v := 0) hx hb dX1_goes_40 (by decide) ?_
          exact absurd (show goK b1 b2 b3 = 0 by rw [bI_t c2, bI_t c10, bI_t c18]; rfl) c33
        · refine lv_iconst (v := 1) hx hb dX1_goes_36 (by decide) ?_
          refine lv_goto (tgt := 41) hx hb dX1_goes_37 (by decide) ?_
          exact wr_zret (v := 1) () hx hb hr hlocks hH hS hP ⟨true, rfl⟩ (by show _ = bI (b1 && (b2 && b3)); rw [bI_t c2, bI_t c10, bI_t c18]; rfl) dX1_goes_41
    · refine lv_iconst (v := 2) hx hb dX1_goes_13 (by decide) ?_
      refine lv_goto (tgt := 26) hx hb dX1_goes_14 (by decide) ?_
      rw [show (2 : Int32) = goK b1 b2 b3 by rw [bI_t c2, bI_f c10]; rfl]
      refine m_put hin hx hb hts hown hK hP hD hS rfl 15 (by decide) (by decide +kernel) rfl (by decide +kernel) (Nat.le_of_ble_eq_true rfl) dX1_goes_26 (fun H locs hP hD hS => ?_)
      have hP : va_P D vwCl (mw cI cZ h a (st τ 15 (fun _ => (goK b1 b2 b3)))) H := hP
      have hD : va_D A (mw cI cZ h a (st τ 15 (fun _ => (goK b1 b2 b3)))) := hD
      refine lv_aload_n hx hb dX1_goes_29 rfl (lv_at hl 0 rfl) ?_
      refine m_get hin hx hb hts hown hK hP rfl 15 (by decide) (v := .int (goK b1 b2 b3)) rfl (by decide +kernel) dX1_goes_30 ?_
      refine lv_if_ne (tgt := 40) hx hb dX1_goes_33 (by decide) (fun c33 => ?_) (fun c33 => ?_)
      · refine lv_iconst (v := 0) hx hb dX1_goes_40 (by decide) ?_
        exact wr_zret (v := 0) () hx hb hr hlocks hH hS hP ⟨false, rfl⟩ (by show _ = bI (b1 && (b2 && b3)); rw [bI_t c2, bI_f c10]; rfl) dX1_goes_41
      · exact absurd c33 (by rw [bI_t c2, bI_f c10]; exact (by decide : ¬ (2 : Int32) = 0))
  · refine lv_iconst (v := 1) hx hb dX1_goes_5 (by decide) ?_
    refine lv_goto (tgt := 26) hx hb dX1_goes_6 (by decide) ?_
    rw [show (1 : Int32) = goK b1 b2 b3 by rw [bI_f c2]; rfl]
    refine m_put hin hx hb hts hown hK hP hD hS rfl 15 (by decide) (by decide +kernel) rfl (by decide +kernel) (Nat.le_of_ble_eq_true rfl) dX1_goes_26 (fun H locs hP hD hS => ?_)
    have hP : va_P D vwCl (mw cI cZ h a (st τ 15 (fun _ => (goK b1 b2 b3)))) H := hP
    have hD : va_D A (mw cI cZ h a (st τ 15 (fun _ => (goK b1 b2 b3)))) := hD
    refine lv_aload_n hx hb dX1_goes_29 rfl (lv_at hl 0 rfl) ?_
    refine m_get hin hx hb hts hown hK hP rfl 15 (by decide) (v := .int (goK b1 b2 b3)) rfl (by decide +kernel) dX1_goes_30 ?_
    refine lv_if_ne (tgt := 40) hx hb dX1_goes_33 (by decide) (fun c33 => ?_) (fun c33 => ?_)
    · refine lv_iconst (v := 0) hx hb dX1_goes_40 (by decide) ?_
      exact wr_zret (v := 0) () hx hb hr hlocks hH hS hP ⟨false, rfl⟩ (by show _ = bI (b1 && (b2 && b3)); rw [bI_f c2]; rfl) dX1_goes_41
    · exact absurd c33 (by rw [bI_f c2]; exact (by decide : ¬ (1 : Int32) = 0))
set_option maxHeartbeats 4000000 in
set_option maxRecDepth 100000 in
/-- tendFastLines -/
theorem c_X0_tendFastLines (l : Launch) (D : va_G) (cI cZ : ClassId) (h : Nat) (a : Nat → Nat) (σ : St) (Hi : Heap) (A : Nat → Prop) (hD : va_D A (xw cI cZ h a σ)) {nL nB : Nat} (hI : inv σ nL nB) (t : Nat) (ht48 : t < 48) : wrM l yX0_tendFastLines wsX0_tendFastLines ({ frames := 5, cells := 0, slots := 0, locals := 118 }) [.ref h, .int (nI t)] D (xw cI cZ h a σ) (tyX cI cZ) Hi (S := Unit) (fun _ => xw cI cZ h a (tnd σ t)) (fun r _ => r = tdC σ t (bal σ t) nL) A := by
  refine wr_of (cc := cX0_tendFastLines) (maxL := 6) (ret := some .int) (by decide) rfl (Nat.le_of_ble_eq_true rfl) ?_
  intro p e s m args below meth c he hH hP hK ls hl
  obtain ⟨hx, hb, hr, hml, hown, hts, hlocks⟩ := he
  have hown : s.vm.findClass RX0 = some m.cls := hown
  have hS : va_S A Hi Hi [] := va_S.rf
  have hL : σ 7 0 = nI nL := hI.1
  have hL10 : nL ≤ 10 := hI.2.1
  have hl : lv_has ls 6 [(0, .ref h), (1, .int (nI t))] := hl
  have hin : ∀ w ∈ u_ws RX0 TX0 15, w ∈ wsX0_tendFastLines := by decide +kernel
  have hs9 := bal_inS σ t
  refine lv_aload_n hx hb dX0_tendFastLines_0 rfl (lv_at hl 0 rfl) ?_
  refine lv_iload_n hx hb dX0_tendFastLines_1 rfl (lv_at hl 1 rfl) ?_
  refine ro_callV 1 hx hb hml hown hts hl.1 hP hK 0 0 rfl rfl (As := [.int (nI t)]) (rest := []) (c_X0_balanceOf l D cI cZ h a σ Hi hI t ht48) gX0_tendFastLines_X0_balanceOf rfl rfl rfl (by decide +kernel) ⟨Nat.le_of_ble_eq_true rfl, Nat.le_of_ble_eq_true rfl⟩ rfl rfl (Nat.le_of_ble_eq_true rfl) dX0_tendFastLines_2 ⟨Nat.zero_le _, Nat.zero_le _⟩ (fun r1 hr1 => ?_)
  subst hr1
  refine lv_istore_n (lv' := [(2, .int (bal σ t)), (0, .ref h), (1, .int (nI t))]) hx hb dX0_tendFastLines_5 rfl hl (by decide) rfl (fun ls hl => ?_)
  refine lv_iconst (v := 0) hx hb dX0_tendFastLines_6 (by decide) ?_
  refine lv_istore_n (lv' := [(3, .int 0), (2, .int (bal σ t)), (0, .ref h), (1, .int (nI t))]) hx hb dX0_tendFastLines_7 rfl hl (by decide) rfl (fun ls hl => ?_)
  refine lv_iconst (v := 0) hx hb dX0_tendFastLines_8 (by decide) ?_
  refine lv_istore (lv' := [(4, .int 0), (3, .int 0), (2, .int (bal σ t)), (0, .ref h), (1, .int (nI t))]) hx hb dX0_tendFastLines_9 hl (by decide) rfl (fun ls hl => ?_)
  suffices K : ∀ (n k : Nat) (H : Heap) (locs : List Loc) (ls : Array Slot), k + n = nL → va_P D vwCl (xw cI cZ h a (st σ 12 (tdS σ t (bal σ t) k))) H → va_S A Hi H locs → lv_has ls 6 [(4, .int (nI k)), (3, .int (tdC σ t (bal σ t) k)), (2, .int (bal σ t)), (0, .ref h), (1, .int (nI t))] → W p l e _ s m args below meth c H locs 0 0 (wrQ below D (fun _ : Unit => xw cI cZ h a (tnd σ t)) (fun r _ => r = tdC σ t (bal σ t) nL) A args s) (F0 m 11 ls []) by
    exact K nL 0 Hi [] ls (by omega) hP hS (lv_sub hl [0, 1, 2, 3, 4] rfl)
  intro n
  induction n with
  | zero =>
      intro k H locs ls hk hP hS hl
      refine lv_iload hx hb dX0_tendFastLines_11 (lv_at hl 0 rfl) ?_
      refine lv_aload_n hx hb dX0_tendFastLines_13 rfl (lv_at hl 3 rfl) ?_
      refine x_get hin hx hb hts hown hK hP rfl 7 (by decide) (v := .int (nI nL)) (congrArg (fun z => some (Value.int z)) hL) (by decide +kernel) dX0_tendFastLines_14 ?_
      refine lv_icmp_ge (tgt := 80) hx hb dX0_tendFastLines_17 (by decide) (fun c17 => ?_) (fun c17 => ?_)
      · refine lv_iload_n hx hb dX0_tendFastLines_80 rfl (lv_at hl 1 rfl) ?_
        rw [show k = nL by omega] at hP ⊢
        exact wr_ret (v := tdC σ t (bal σ t) nL) () hx hb hr hlocks hH hS (by show va_P D vwCl (xw cI cZ h a (tnd σ t)) H; unfold tnd; rw [inv_nL hI]; exact hP) rfl dX0_tendFastLines_81
      · exact absurd (nI_le (by omega) (by omega)) c17
  | succ n ih =>
      intro k H locs ls hk hP hS hl
      have hk1 : k < nL := by omega
      refine lv_iload hx hb dX0_tendFastLines_11 (lv_at hl 0 rfl) ?_
      refine lv_aload_n hx hb dX0_tendFastLines_13 rfl (lv_at hl 3 rfl) ?_
      refine x_get hin hx hb hts hown hK hP rfl 7 (by decide) (v := .int (nI nL)) (congrArg (fun z => some (Value.int z)) hL) (by decide +kernel) dX0_tendFastLines_14 ?_
      refine lv_icmp_ge (tgt := 80) hx hb dX0_tendFastLines_17 (by decide) (fun c17 => ?_) (fun c17 => ?_)
      · exact absurd c17 (nI_ge (by omega) (by omega))
      · refine lv_aload_n hx hb dX0_tendFastLines_20 rfl (lv_at hl 3 rfl) ?_
        refine x_get hin hx hb hts hown hK hP rfl 13 (by decide) (v := .ref (a 13)) rfl (by decide +kernel) dX0_tendFastLines_21 ?_
        refine lv_iload hx hb dX0_tendFastLines_24 (lv_at hl 0 rfl) ?_
        refine xa_zld hx hb hK hP 11 1 rfl rfl (j := k) (by omega) (by decide) dX0_tendFastLines_26 ?_
        rw [show (st σ 12 (tdS σ t (bal σ t) k)) 13 k = (σ 13 k) from rfl]
        refine lv_if_eq (tgt := 74) hx hb dX0_tendFastLines_27 (by decide) (fun c27 => ?_) (fun c27 => ?_)
        · refine lv_iinc (v := (nI (k + 1))) (lv' := [(4, .int (nI (k + 1))), (3, .int (tdC σ t (bal σ t) k)), (2, .int (bal σ t)), (0, .ref h), (1, .int (nI t))]) hx hb dX0_tendFastLines_74 hl (k := 0) rfl (by exact nI_add _ 1) (by decide) rfl (fun ls hl => ?_)
          refine lv_goto (tgt := 11) hx hb dX0_tendFastLines_77 (by decide) ?_
          refine ih (k + 1) H locs ls (by omega) ?_ hS (lv_sub hl [0, 1, 2, 3, 4] ?_)
          · have e9 : tdS σ t (bal σ t) (k + 1) = tdS σ t (bal σ t) k := by show (if σ 13 k = 0 then _ else _) = _; rw [if_pos c27]
            rw [e9]; exact hP
          · have e8 : tdC σ t (bal σ t) (k + 1) = tdC σ t (bal σ t) k + 0 := by show acc _ 0 k + (if σ 13 k = 0 then 0 else _) = _; rw [if_pos c27]; rfl
            rw [e8, Int32.add_zero]; rfl
        · have hD : va_D A (xw cI cZ h a (st σ 12 (tdS σ t (bal σ t) k))) := xD hD
          refine lv_aload_n hx hb dX0_tendFastLines_30 rfl (lv_at hl 3 rfl) ?_
          refine x_get hin hx hb hts hown hK hP rfl 12 (by decide) (v := .ref (a 12)) rfl (by decide +kernel) dX0_tendFastLines_31 ?_
          refine lv_iload hx hb dX0_tendFastLines_34 (lv_at hl 0 rfl) ?_
          refine xa_ld hx hb hK hP 10 0 rfl rfl (j := k) (by omega) (by decide) dX0_tendFastLines_36 ?_
          rw [show (st σ 12 (tdS σ t (bal σ t) k)) 12 k = (σ 12 k) from tdS_hi k k (Nat.le_refl _)]
          refine lv_istore (lv' := [(5, .int (σ 12 k)), (4, .int (nI k)), (3, .int (tdC σ t (bal σ t) k)), (2, .int (bal σ t)), (0, .ref h), (1, .int (nI t))]) hx hb dX0_tendFastLines_37 hl (by decide) rfl (fun ls hl => ?_)
          refine lv_aload_n hx hb dX0_tendFastLines_39 rfl (lv_at hl 4 rfl) ?_
          refine x_get hin hx hb hts hown hK hP rfl 12 (by decide) (v := .ref (a 12)) rfl (by decide +kernel) dX0_tendFastLines_40 ?_
          refine lv_iload hx hb dX0_tendFastLines_43 (lv_at hl 1 rfl) ?_
          refine lv_aload_n hx hb dX0_tendFastLines_45 rfl (lv_at hl 4 rfl) ?_
          refine lv_iload hx hb dX0_tendFastLines_46 (lv_at hl 1 rfl) ?_
          refine lv_iload_n hx hb dX0_tendFastLines_48 rfl (lv_at hl 5 rfl) ?_
          refine lv_iload_n hx hb dX0_tendFastLines_49 rfl (lv_at hl 3 rfl) ?_
          refine ro_callV 3 hx hb hml hown hts hl.1 hP hK 0 0 rfl rfl (As := [.int (nI k), .int (nI t), .int (bal σ t)]) (rest := [.int (nI k), .ref (a 12)]) (c_X0_lengthWith l D cI cZ h a (st σ 12 (tdS σ t (bal σ t) k)) H (inv_td hI ht48 hs9 k) k t hk1 ht48 (bal σ t) hs9) gX0_tendFastLines_X0_lengthWith rfl rfl rfl (by decide +kernel) ⟨Nat.le_of_ble_eq_true rfl, Nat.le_of_ble_eq_true rfl⟩ rfl rfl (Nat.le_of_ble_eq_true rfl) dX0_tendFastLines_50 ⟨Nat.zero_le _, Nat.zero_le _⟩ (fun r2 hr2 => ?_)
          subst hr2
          refine xa_st hx hb hK hP hD hS 10 0 rfl rfl (j := k) (by omega) (by decide) dX0_tendFastLines_53 (fun H locs hP hD hS => ?_)
          have hP : va_P D vwCl (xw cI cZ h a (st (st σ 12 (tdS σ t (bal σ t) k)) 12 (upd ((st σ 12 (tdS σ t (bal σ t) k)) 12) k (len_ σ k t (bal σ t))))) H := hP
          have hD : va_D A (xw cI cZ h a (st (st σ 12 (tdS σ t (bal σ t) k)) 12 (upd ((st σ 12 (tdS σ t (bal σ t) k)) 12) k (len_ σ k t (bal σ t))))) := hD
          have e9 : tdS σ t (bal σ t) (k + 1) = upd (tdS σ t (bal σ t) k) k (len_ σ k t (bal σ t)) := by show (if σ 13 k = 0 then _ else _) = _; rw [if_neg c27]
          have hP : va_P D vwCl (xw cI cZ h a (st σ 12 (tdS σ t (bal σ t) (k + 1)))) H := by rw [e9]; exact hP
          have e8 : tdC σ t (bal σ t) (k + 1) = tdC σ t (bal σ t) k + (if len_ σ k t (bal σ t) = σ 12 k then 0 else 1) := by show acc _ 0 k + (if σ 13 k = 0 then 0 else _) = _; rw [if_neg c27]; rfl
          refine lv_iload_n hx hb dX0_tendFastLines_54 rfl (lv_at hl 2 rfl) ?_
          refine lv_aload_n hx hb dX0_tendFastLines_55 rfl (lv_at hl 4 rfl) ?_
          refine x_get hin hx hb hts hown hK hP rfl 12 (by decide) (v := .ref (a 12)) rfl (by decide +kernel) dX0_tendFastLines_56 ?_
          refine lv_iload hx hb dX0_tendFastLines_59 (lv_at hl 1 rfl) ?_
          refine xa_ld hx hb hK hP 10 0 rfl rfl (j := k) (by omega) (by decide) dX0_tendFastLines_61 ?_
          rw [show (st σ 12 (tdS σ t (bal σ t) (k + 1))) 12 k = (len_ σ k t (bal σ t)) from by show tdS σ t (bal σ t) (k + 1) k = _; rw [e9]; show (if k = k then _ else _) = _; rw [if_pos rfl]]
          refine lv_iload hx hb dX0_tendFastLines_62 (lv_at hl 0 rfl) ?_
          refine lv_icmp_ne (tgt := 71) hx hb dX0_tendFastLines_64 (by decide) (fun c64 => ?_) (fun c64 => ?_)
          · refine lv_iconst (v := 1) hx hb dX0_tendFastLines_71 (by decide) ?_
            rw [show (1 : Int32) = (if len_ σ k t (bal σ t) = σ 12 k then 0 else 1) by rw [if_neg c64]]
            refine lv_iadd hx hb dX0_tendFastLines_72 ?_
            refine lv_istore_n (lv' := [(3, .int ((tdC σ t (bal σ t) k) + (if len_ σ k t (bal σ t) = σ 12 k then 0 else 1))), (5, .int (σ 12 k)), (4, .int (nI k)), (2, .int (bal σ t)), (0, .ref h), (1, .int (nI t))]) hx hb dX0_tendFastLines_73 rfl hl (by decide) rfl (fun ls hl => ?_)
            refine lv_iinc (v := (nI (k + 1))) (lv' := [(4, .int (nI (k + 1))), (3, .int ((tdC σ t (bal σ t) k) + (if len_ σ k t (bal σ t) = σ 12 k then 0 else 1))), (5, .int (σ 12 k)), (2, .int (bal σ t)), (0, .ref h), (1, .int (nI t))]) hx hb dX0_tendFastLines_74 hl (k := 2) rfl (by exact nI_add _ 1) (by decide) rfl (fun ls hl => ?_)
            refine lv_goto (tgt := 11) hx hb dX0_tendFastLines_77 (by decide) ?_
            exact ih (k + 1) H locs ls (by omega) hP hS (lv_sub hl [0, 1, 3, 4, 5] (by rw [e8]; rfl))
          · refine lv_iconst (v := 0) hx hb dX0_tendFastLines_67 (by decide) ?_
            refine lv_goto (tgt := 72) hx hb dX0_tendFastLines_68 (by decide) ?_
            rw [show (0 : Int32) = (if len_ σ k t (bal σ t) = σ 12 k then 0 else 1) by rw [if_pos c64]]
            refine lv_iadd hx hb dX0_tendFastLines_72 ?_
            refine lv_istore_n (lv' := [(3, .int ((tdC σ t (bal σ t) k) + (if len_ σ k t (bal σ t) = σ 12 k then 0 else 1))), (5, .int (σ 12 k)), (4, .int (nI k)), (2, .int (bal σ t)), (0, .ref h), (1, .int (nI t))]) hx hb dX0_tendFastLines_73 rfl hl (by decide) rfl (fun ls hl => ?_)
            refine lv_iinc (v := (nI (k + 1))) (lv' := [(4, .int (nI (k + 1))), (3, .int ((tdC σ t (bal σ t) k) + (if len_ σ k t (bal σ t) = σ 12 k then 0 else 1))), (5, .int (σ 12 k)), (2, .int (bal σ t)), (0, .ref h), (1, .int (nI t))]) hx hb dX0_tendFastLines_74 hl (k := 2) rfl (by exact nI_add _ 1) (by decide) rfl (fun ls hl => ?_)
            refine lv_goto (tgt := 11) hx hb dX0_tendFastLines_77 (by decide) ?_
            exact ih (k + 1) H locs ls (by omega) hP hS (lv_sub hl [0, 1, 3, 4, 5] (by rw [e8]; rfl))
set_option maxHeartbeats 4000000 in
set_option maxRecDepth 100000 in
/-- tends -/
theorem c_X1_tends (l : Launch) (D : va_G) (cI cZ : ClassId) (h : Nat) (a : Nat → Nat) (σ τ : St) (Hi : Heap) (A : Nat → Prop) (hD : va_D A (mw cI cZ h a τ)) {nL nB : Nat} (hI : inv σ nL nB) (hR : rel σ τ nL) (t : Nat) (ht48 : t < 48) : wrM l yX1_tends wsX1_tends ({ frames := 5, cells := 0, slots := 0, locals := 123 }) [.ref h, .int (nI t)] D (mw cI cZ h a τ) (tyX cI cZ) Hi (S := Unit) (fun _ => mw cI cZ h a (st τ 7 (tdS σ t (bal σ t) nL))) (fun r _ => r = tdC σ t (bal σ t) nL) A := by
  refine wr_of (cc := cX1_tends) (maxL := 6) (ret := some .int) (by decide) rfl (Nat.le_of_ble_eq_true rfl) ?_
  intro p e s m args below meth c he hH hP hK ls hl
  obtain ⟨hx, hb, hr, hml, hown, hts, hlocks⟩ := he
  have hown : s.vm.findClass RX1 = some m.cls := hown
  have hS : va_S A Hi Hi [] := va_S.rf
  obtain ⟨⟨r10, r11, r12, r13, r2, r0, r1, r9⟩, ⟨r4, r5, r6, r7⟩, r3, r8, r8z⟩ := id hR
  have hL : σ 7 0 = nI nL := hI.1
  have hL10 : nL ≤ 10 := hI.2.1
  have hl : lv_has ls 6 [(0, .ref h), (1, .int (nI t))] := hl
  have hin : ∀ w ∈ u_ws RX1 TX1 16, w ∈ wsX1_tends := by decide +kernel
  have hs9 := bal_inS σ t
  refine lv_iconst (v := 0) hx hb dX1_tends_0 (by decide) ?_
  refine lv_istore_n (lv' := [(2, .int 0), (0, .ref h), (1, .int (nI t))]) hx hb dX1_tends_1 rfl hl (by decide) rfl (fun ls hl => ?_)
  refine lv_aload_n hx hb dX1_tends_2 rfl (lv_at hl 1 rfl) ?_
  refine lv_iload_n hx hb dX1_tends_3 rfl (lv_at hl 2 rfl) ?_
  refine ro_callV 1 hx hb hml hown hts hl.1 hP hK 0 1 rfl rfl (As := [.int (nI t)]) (rest := []) (c_X1_shiftAt l D cI cZ h a σ τ Hi hI hR t ht48) gX1_tends_X1_shiftAt rfl rfl rfl (by decide +kernel) ⟨Nat.le_of_ble_eq_true rfl, Nat.le_of_ble_eq_true rfl⟩ rfl rfl (Nat.le_of_ble_eq_true rfl) dX1_tends_4 ⟨Nat.zero_le _, Nat.zero_le _⟩ (fun r1 hr1 => ?_)
  subst hr1
  refine lv_istore_n (lv' := [(3, .int (bal σ t)), (2, .int 0), (0, .ref h), (1, .int (nI t))]) hx hb dX1_tends_7 rfl hl (by decide) rfl (fun ls hl => ?_)
  refine lv_iconst (v := 0) hx hb dX1_tends_8 (by decide) ?_
  refine lv_istore (lv' := [(4, .int 0), (3, .int (bal σ t)), (2, .int 0), (0, .ref h), (1, .int (nI t))]) hx hb dX1_tends_9 hl (by decide) rfl (fun ls hl => ?_)
  suffices K : ∀ (n k : Nat) (H : Heap) (locs : List Loc) (ls : Array Slot), k + n = nL → va_P D vwCl (mw cI cZ h a (st τ 7 (tdS σ t (bal σ t) k))) H → va_S A Hi H locs → lv_has ls 6 [(4, .int (nI k)), (2, .int (tdC σ t (bal σ t) k)), (3, .int (bal σ t)), (0, .ref h), (1, .int (nI t))] → W p l e _ s m args below meth c H locs 0 0 (wrQ below D (fun _ : Unit => mw cI cZ h a (st τ 7 (tdS σ t (bal σ t) nL))) (fun r _ => r = tdC σ t (bal σ t) nL) A args s) (F0 m 11 ls []) by
    exact K nL 0 Hi [] ls (by omega) (by show va_P D vwCl (mw cI cZ h a (st τ 7 (σ 12))) Hi; rw [← r7]; exact hP) hS (lv_sub hl [0, 2, 1, 3, 4] rfl)
  intro n
  induction n with
  | zero =>
      intro k H locs ls hk hP hS hl
      refine lv_iload hx hb dX1_tends_11 (lv_at hl 0 rfl) ?_
      refine lv_aload_n hx hb dX1_tends_13 rfl (lv_at hl 3 rfl) ?_
      refine m_get hin hx hb hts hown hK hP rfl 9 (by decide) (v := .int (nI nL)) (congrArg (fun z => some (Value.int z)) (r9.trans hL)) (by decide +kernel) dX1_tends_14 ?_
      refine lv_icmp_ge (tgt := 75) hx hb dX1_tends_17 (by decide) (fun c17 => ?_) (fun c17 => ?_)
      · refine lv_iload_n hx hb dX1_tends_75 rfl (lv_at hl 1 rfl) ?_
        rw [show k = nL by omega] at hP ⊢
        exact wr_ret (v := tdC σ t (bal σ t) nL) () hx hb hr hlocks hH hS hP rfl dX1_tends_76
      · exact absurd (nI_le (by omega) (by omega)) c17
  | succ n ih =>
      intro k H locs ls hk hP hS hl
      have hk1 : k < nL := by omega
      refine lv_iload hx hb dX1_tends_11 (lv_at hl 0 rfl) ?_
      refine lv_aload_n hx hb dX1_tends_13 rfl (lv_at hl 3 rfl) ?_
      refine m_get hin hx hb hts hown hK hP rfl 9 (by decide) (v := .int (nI nL)) (congrArg (fun z => some (Value.int z)) (r9.trans hL)) (by decide +kernel) dX1_tends_14 ?_
      refine lv_icmp_ge (tgt := 75) hx hb dX1_tends_17 (by decide) (fun c17 => ?_) (fun c17 => ?_)
      · exact absurd c17 (nI_ge (by omega) (by omega))
      · refine lv_aload_n hx hb dX1_tends_20 rfl (lv_at hl 3 rfl) ?_
        refine m_get hin hx hb hts hown hK hP rfl 8 (by decide) (v := .ref (a 8)) rfl (by decide +kernel) dX1_tends_21 ?_
        refine lv_iload hx hb dX1_tends_24 (lv_at hl 0 rfl) ?_
        refine xa_zld hx hb hK hP 8 1 rfl rfl (j := k) (by omega) (by decide) dX1_tends_26 ?_
        rw [show (st τ 7 (tdS σ t (bal σ t) k)) 8 k = (τ 8 k) from rfl]
        refine lv_if_ne (tgt := 69) hx hb dX1_tends_27 (by decide) (fun c27 => ?_) (fun c27 => ?_)
        · have hg : σ 13 k = 0 := by rcases r8 k hk1 with ⟨q1, _⟩ | ⟨_, q2⟩; exact absurd q1 c27; exact q2
          refine lv_iinc (v := (nI (k + 1))) (lv' := [(4, .int (nI (k + 1))), (2, .int (tdC σ t (bal σ t) k)), (3, .int (bal σ t)), (0, .ref h), (1, .int (nI t))]) hx hb dX1_tends_69 hl (k := 0) rfl (by exact nI_add _ 1) (by decide) rfl (fun ls hl => ?_)
          refine lv_goto (tgt := 11) hx hb dX1_tends_72 (by decide) ?_
          refine ih (k + 1) H locs ls (by omega) ?_ hS (lv_sub hl [0, 1, 2, 3, 4] ?_)
          · have e9 : tdS σ t (bal σ t) (k + 1) = tdS σ t (bal σ t) k := by show (if σ 13 k = 0 then _ else _) = _; rw [if_pos hg]
            rw [e9]; exact hP
          · have e8 : tdC σ t (bal σ t) (k + 1) = tdC σ t (bal σ t) k + 0 := by show acc _ 0 k + (if σ 13 k = 0 then 0 else _) = _; rw [if_pos hg]; rfl
            rw [e8, Int32.add_zero]; rfl
        · have hg : ¬ σ 13 k = 0 := by rcases r8 k hk1 with ⟨_, q2⟩ | ⟨q1, _⟩; rw [q2]; decide; rw [q1] at c27; exact absurd c27 (by decide)
          have hD : va_D A (mw cI cZ h a (st τ 7 (tdS σ t (bal σ t) k))) := mD hD
          refine lv_aload_n hx hb dX1_tends_30 rfl (lv_at hl 3 rfl) ?_
          refine lv_iload hx hb dX1_tends_31 (lv_at hl 0 rfl) ?_
          refine lv_iload_n hx hb dX1_tends_33 rfl (lv_at hl 4 rfl) ?_
          refine lv_iload_n hx hb dX1_tends_34 rfl (lv_at hl 2 rfl) ?_
          refine ro_callV 3 hx hb hml hown hts hl.1 hP hK 0 1 rfl rfl (As := [.int (nI k), .int (nI t), .int (bal σ t)]) (rest := []) (c_X1_lengthAt l D cI cZ h a (st σ 12 (tdS σ t (bal σ t) k)) (st τ 7 (tdS σ t (bal σ t) k)) H (inv_td hI ht48 hs9 k) (rel_st12 _ hR) k t hk1 ht48 (bal σ t) hs9) gX1_tends_X1_lengthAt rfl rfl rfl (by decide +kernel) ⟨Nat.le_of_ble_eq_true rfl, Nat.le_of_ble_eq_true rfl⟩ rfl rfl (Nat.le_of_ble_eq_true rfl) dX1_tends_35 ⟨Nat.zero_le _, Nat.zero_le _⟩ (fun r2 hr2 => ?_)
          subst hr2
          refine lv_istore (lv' := [(5, .int (len_ σ k t (bal σ t))), (4, .int (nI k)), (2, .int (tdC σ t (bal σ t) k)), (3, .int (bal σ t)), (0, .ref h), (1, .int (nI t))]) hx hb dX1_tends_38 hl (by decide) rfl (fun ls hl => ?_)
          refine lv_iload_n hx hb dX1_tends_40 rfl (lv_at hl 2 rfl) ?_
          refine lv_iload hx hb dX1_tends_41 (lv_at hl 0 rfl) ?_
          refine lv_aload_n hx hb dX1_tends_43 rfl (lv_at hl 4 rfl) ?_
          refine m_get hin hx hb hts hown hK hP rfl 7 (by decide) (v := .ref (a 7)) rfl (by decide +kernel) dX1_tends_44 ?_
          refine lv_iload hx hb dX1_tends_47 (lv_at hl 1 rfl) ?_
          refine xa_ld hx hb hK hP 7 0 rfl rfl (j := k) (by omega) (by decide) dX1_tends_49 ?_
          rw [show (st τ 7 (tdS σ t (bal σ t) k)) 7 k = (σ 12 k) from tdS_hi k k (Nat.le_refl _)]
          have e9 : tdS σ t (bal σ t) (k + 1) = upd (tdS σ t (bal σ t) k) k (len_ σ k t (bal σ t)) := by show (if σ 13 k = 0 then _ else _) = _; rw [if_neg hg]
          have e8 : tdC σ t (bal σ t) (k + 1) = tdC σ t (bal σ t) k + (if len_ σ k t (bal σ t) = σ 12 k then 0 else 1) := by show acc _ 0 k + (if σ 13 k = 0 then 0 else _) = _; rw [if_neg hg]; rfl
          refine lv_icmp_eq (tgt := 57) hx hb dX1_tends_50 (by decide) (fun c50 => ?_) (fun c50 => ?_)
          · refine lv_iconst (v := 0) hx hb dX1_tends_57 (by decide) ?_
            rw [show (0 : Int32) = (if len_ σ k t (bal σ t) = σ 12 k then 0 else 1) by rw [if_pos c50]]
            refine lv_iadd hx hb dX1_tends_58 ?_
            refine lv_istore_n (lv' := [(2, .int ((tdC σ t (bal σ t) k) + (if len_ σ k t (bal σ t) = σ 12 k then 0 else 1))), (5, .int (len_ σ k t (bal σ t))), (4, .int (nI k)), (3, .int (bal σ t)), (0, .ref h), (1, .int (nI t))]) hx hb dX1_tends_59 rfl hl (by decide) rfl (fun ls hl => ?_)
            refine lv_aload_n hx hb dX1_tends_60 rfl (lv_at hl 4 rfl) ?_
            refine m_get hin hx hb hts hown hK hP rfl 7 (by decide) (v := .ref (a 7)) rfl (by decide +kernel) dX1_tends_61 ?_
            refine lv_iload hx hb dX1_tends_64 (lv_at hl 2 rfl) ?_
            refine lv_iload hx hb dX1_tends_66 (lv_at hl 1 rfl) ?_
            refine xa_st hx hb hK hP hD hS 7 0 rfl rfl (j := k) (by omega) (by decide) dX1_tends_68 (fun H locs hP hD hS => ?_)
            have hP : va_P D vwCl (mw cI cZ h a (st (st τ 7 (tdS σ t (bal σ t) k)) 7 (upd ((st τ 7 (tdS σ t (bal σ t) k)) 7) k (len_ σ k t (bal σ t))))) H := hP
            have hD : va_D A (mw cI cZ h a (st (st τ 7 (tdS σ t (bal σ t) k)) 7 (upd ((st τ 7 (tdS σ t (bal σ t) k)) 7) k (len_ σ k t (bal σ t))))) := hD
            refine lv_iinc (v := (nI (k + 1))) (lv' := [(4, .int (nI (k + 1))), (2, .int ((tdC σ t (bal σ t) k) + (if len_ σ k t (bal σ t) = σ 12 k then 0 else 1))), (5, .int (len_ σ k t (bal σ t))), (3, .int (bal σ t)), (0, .ref h), (1, .int (nI t))]) hx hb dX1_tends_69 hl (k := 2) rfl (by exact nI_add _ 1) (by decide) rfl (fun ls hl => ?_)
            refine lv_goto (tgt := 11) hx hb dX1_tends_72 (by decide) ?_
            have hP : va_P D vwCl (mw cI cZ h a (st τ 7 (tdS σ t (bal σ t) (k + 1)))) H := by rw [e9]; exact hP
            exact ih (k + 1) H locs ls (by omega) hP hS (lv_sub hl [0, 1, 3, 4, 5] (by rw [e8]; rfl))
          · refine lv_iconst (v := 1) hx hb dX1_tends_53 (by decide) ?_
            refine lv_goto (tgt := 58) hx hb dX1_tends_54 (by decide) ?_
            rw [show (1 : Int32) = (if len_ σ k t (bal σ t) = σ 12 k then 0 else 1) by rw [if_neg c50]]
            refine lv_iadd hx hb dX1_tends_58 ?_
            refine lv_istore_n (lv' := [(2, .int ((tdC σ t (bal σ t) k) + (if len_ σ k t (bal σ t) = σ 12 k then 0 else 1))), (5, .int (len_ σ k t (bal σ t))), (4, .int (nI k)), (3, .int (bal σ t)), (0, .ref h), (1, .int (nI t))]) hx hb dX1_tends_59 rfl hl (by decide) rfl (fun ls hl => ?_)
            refine lv_aload_n hx hb dX1_tends_60 rfl (lv_at hl 4 rfl) ?_
            refine m_get hin hx hb hts hown hK hP rfl 7 (by decide) (v := .ref (a 7)) rfl (by decide +kernel) dX1_tends_61 ?_
            refine lv_iload hx hb dX1_tends_64 (lv_at hl 2 rfl) ?_
            refine lv_iload hx hb dX1_tends_66 (lv_at hl 1 rfl) ?_
            refine xa_st hx hb hK hP hD hS 7 0 rfl rfl (j := k) (by omega) (by decide) dX1_tends_68 (fun H locs hP hD hS => ?_)
            have hP : va_P D vwCl (mw cI cZ h a (st (st τ 7 (tdS σ t (bal σ t) k)) 7 (upd ((st τ 7 (tdS σ t (bal σ t) k)) 7) k (len_ σ k t (bal σ t))))) H := hP
            have hD : va_D A (mw cI cZ h a (st (st τ 7 (tdS σ t (bal σ t) k)) 7 (upd ((st τ 7 (tdS σ t (bal σ t) k)) 7) k (len_ σ k t (bal σ t))))) := hD
            refine lv_iinc (v := (nI (k + 1))) (lv' := [(4, .int (nI (k + 1))), (2, .int ((tdC σ t (bal σ t) k) + (if len_ σ k t (bal σ t) = σ 12 k then 0 else 1))), (5, .int (len_ σ k t (bal σ t))), (3, .int (bal σ t)), (0, .ref h), (1, .int (nI t))]) hx hb dX1_tends_69 hl (k := 2) rfl (by exact nI_add _ 1) (by decide) rfl (fun ls hl => ?_)
            refine lv_goto (tgt := 11) hx hb dX1_tends_72 (by decide) ?_
            have hP : va_P D vwCl (mw cI cZ h a (st τ 7 (tdS σ t (bal σ t) (k + 1)))) H := by rw [e9]; exact hP
            exact ih (k + 1) H locs ls (by omega) hP hS (lv_sub hl [0, 1, 3, 4, 5] (by rw [e8]; rfl))
