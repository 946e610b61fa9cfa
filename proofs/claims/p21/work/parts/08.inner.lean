/-! MoorWatch: tendFastLines; what the checks ask. -/
def inR (v lo hi : Int32) : Bool := decide (lo ≤ v) && decide (v ≤ hi)
theorem inR_f1 {v lo hi : Int32} (h : v < lo) : inR v lo hi = false := by unfold inR; rw [decide_eq_false (Int32.not_le.mpr h)]; rfl
theorem inR_f2 {v lo hi : Int32} (h : hi < v) : inR v lo hi = false := by unfold inR; rw [decide_eq_false (Int32.not_le.mpr h)]; exact Bool.and_false _
theorem inR_t {v lo hi : Int32} (h1 : ¬ v < lo) (h2 : ¬ hi < v) : inR v lo hi = true := by unfold inR; rw [decide_eq_true (Int32.not_lt.mp h1), decide_eq_true (Int32.not_lt.mp h2)]; rfl
/-- which answer goes() keeps: 0 none thrown, 1 to 3 the first that does not hold -/
def goK (b1 b2 b3 : Bool) : Int32 := if b1 then (if b2 then (if b3 then 0 else 3) else 2) else 1
/-! What writes inside: tending; the reference's goes() and its holds(). -/
theorem va_D_ad {A : Nat → Prop} {W W' : va_W} (h : W.map (fun q => q.1) = W'.map (fun q => q.1)) (hD : va_D A W) : va_D A W' := by
  have key : ∀ (i : Nat) (p : Nat × va_E), W'[i]? = some p → ∃ q, W[i]? = some q ∧ q.1 = p.1 := by
    intro i p hp
    have e := congrArg (fun L => L[i]?) h
    simp only [List.getElem?_map, hp, Option.map_some] at e
    cases hw : W[i]? with
    | none => rw [hw] at e; cases e
    | some q => rw [hw] at e; exact ⟨q, rfl, Option.some.inj e⟩
  refine ⟨fun i j p q hp hq e => ?_, fun k q hk => ?_⟩
  · obtain ⟨p', h1, e1⟩ := key i p hp
    obtain ⟨q', h2, e2⟩ := key j q hq
    exact hD.1 i j p' q' h1 h2 (by rw [e1, e2, e])
  · obtain ⟨q', h1, e1⟩ := key k q hk
    rw [← e1]
    exact hD.2 k q' h1
theorem xD {A : Nat → Prop} {cI cZ : ClassId} {h : Nat} {a : Nat → Nat} {σ σ' : St} (hD : va_D A (xw cI cZ h a σ)) : va_D A (xw cI cZ h a σ') := va_D_ad (W := xw cI cZ h a σ) (W' := xw cI cZ h a σ') rfl hD
theorem inv_st12 {σ : St} {nL nB : Nat} {f : Nat → Int32} (h : inv σ nL nB) (hf : ∀ j, j < nL → 0 ≤ (f j).toInt ∧ (f j).toInt ≤ 20000) : inv (st σ 12 f) nL nB := by
  obtain ⟨h1, h2, h3, h4, h5, h6, h7⟩ := h
  refine ⟨h1, h2, h3, h4, h5, h6, fun j hj => ?_⟩
  obtain ⟨a1, a2, a3, a4, a5, a6⟩ := h7 j hj
  exact ⟨a1, a2, a3, a4, hf j hj, a6⟩
theorem td_in {σ : St} {nL nB : Nat} (h : inv σ nL nB) {t : Nat} (ht48 : t < 48) {s : Int32} (hs : inS s) (n : Nat) : ∀ j, j < nL → 0 ≤ (tdS σ t s n j).toInt ∧ (tdS σ t s n j).toInt ≤ 20000 := by
  intro j hj
  obtain ⟨-, -, -, -, ⟨z1, z2⟩, -⟩ := h.2.2.2.2.2.2 j hj
  rcases Nat.lt_or_ge j n with q | q
  · rw [tdS_lo n j q]
    by_cases w : σ 13 j = 0
    · rw [if_pos w]; exact ⟨z1, z2⟩
    · rw [if_neg w]
      obtain ⟨k, ek, hk⟩ := inv_len h hj ht48 hs
      rw [ek, nI_ti (by omega)]
      omega
  · rw [tdS_hi n j q]; exact ⟨z1, z2⟩
theorem inv_td {σ : St} {nL nB : Nat} (h : inv σ nL nB) {t : Nat} (ht48 : t < 48) {s : Int32} (hs : inS s) (n : Nat) : inv (st σ 12 (tdS σ t s n)) nL nB := inv_st12 h (td_in h ht48 hs n)
theorem inv_tnd {σ : St} {nL nB : Nat} (h : inv σ nL nB) {t : Nat} (ht48 : t < 48) : inv (tnd σ t) nL nB := inv_td h ht48 (bal_inS σ t) _
theorem long_le {x y : Int32} (h1 : 0 ≤ x.toInt ∧ x.toInt ≤ 1022400) (h2 : 1 ≤ y.toInt ∧ y.toInt ≤ 1000000) : ((55 : Int64) * y.toInt64 < (100 : Int64) * x.toInt64) ↔ ¬ x * 100 ≤ y * 55 := by
  have e1 : (55 : Int64).toInt = 55 := rfl
  have e2 : (100 : Int64).toInt = 100 := rfl
  have e3 : (55 : Int32).toInt = 55 := rfl
  have e4 : (100 : Int32).toInt = 100 := rfl
  have a1 : ((55 : Int64) * y.toInt64).toInt = 55 * y.toInt := by rw [Jvm.Kit.i64_mul (by rw [e1, Int32.toInt_toInt64]; omega) (by rw [e1, Int32.toInt_toInt64]; omega), e1, Int32.toInt_toInt64]
  have a2 : ((100 : Int64) * x.toInt64).toInt = 100 * x.toInt := by rw [Jvm.Kit.i64_mul (by rw [e2, Int32.toInt_toInt64]; omega) (by rw [e2, Int32.toInt_toInt64]; omega), e2, Int32.toInt_toInt64]
  have a3 : (y * 55).toInt = y.toInt * 55 := by rw [Jvm.Kit.i32_mul (by rw [e3]; omega) (by rw [e3]; omega), e3]
  have a4 : (x * 100).toInt = x.toInt * 100 := by rw [Jvm.Kit.i32_mul (by rw [e4]; omega) (by rw [e4]; omega), e4]
  rw [Int64.lt_iff_toInt_lt, i_le, a1, a2, a3, a4]
  omega
set_option maxHeartbeats 4000000 in
set_option maxRecDepth 100000 in
/-- tendFastLines -/
theorem c_X0_tendFastLines (l : Launch) (D : va_G) (cI cZ : ClassId) (h : Nat) (a : Nat → Nat) (σ : St) (Hi : Heap) (A : Nat → Prop) (hD : va_D A (xw cI cZ h a σ)) {nL nB : Nat} (hI : inv σ nL nB) (t : Nat) (ht48 : t < 48) : wrM l yX0_tendFastLines wsX0_tendFastLines ({ frames := 5, cells := 0, slots := 0, locals := 118 }) [.ref h, .int (nI t)] D (xw cI cZ h a σ) (tyX cI cZ) Hi (S := Unit) (fun _ => xw cI cZ h a (tnd σ t)) (fun r _ => r = tdC σ t (bal σ t) nL) A := by
  refine wr_of (cc := cX0_tendFastLines) (maxL := 6) (ret := some .int) (by decide) rfl (Nat.le_of_ble_eq_true rfl) ?_
  intro p e s m args below meth c he hH hP hK ls hl
  obtain ⟨hx, hb, hr, hml, hown, hts, hlocks⟩ := he
  have hown : s.vm.findClass RX0 = some m.cls := hown
  have hS : va_S A Hi Hi [] := va_S.rf
  have hL : σ 7 0 = nI nL := hI.1
  have hL10 : nL ≤ 10 := hI.2.1
  have hl : lv_has ls 6 [(0, .ref h), (1, .int (nI t))] := hl
  have hin : ∀ w ∈ u_ws RX0 TX0 15, w ∈ wsX0_tendFastLines := by decide +kernel
  have hs9 := bal_inS σ t
  refine lv_aload_n hx hb dX0_tendFastLines_0 rfl (lv_at hl 0 rfl) ?_
  refine lv_iload_n hx hb dX0_tendFastLines_1 rfl (lv_at hl 1 rfl) ?_
  refine ro_callV 1 hx hb hml hown hts hl.1 hP hK 0 0 rfl rfl (As := [.int (nI t)]) (rest := []) (c_X0_balanceOf l D cI cZ h a σ Hi hI t ht48) gX0_tendFastLines_X0_balanceOf rfl rfl rfl (by decide +kernel) ⟨Nat.le_of_ble_eq_true rfl, Nat.le_of_ble_eq_true rfl⟩ rfl rfl (Nat.le_of_ble_eq_true rfl) dX0_tendFastLines_2 ⟨Nat.zero_le _, Nat.zero_le _⟩ (fun r1 hr1 => ?_)
  subst hr1
  refine lv_istore_n (lv' := [(2, .int (bal σ t)), (0, .ref h), (1, .int (nI t))]) hx hb dX0_tendFastLines_5 rfl hl (by decide) rfl (fun ls hl => ?_)
  refine lv_iconst (v := 0) hx hb dX0_tendFastLines_6 (by decide) ?_
  refine lv_istore_n (lv' := [(3, .int 0), (2, .int (bal σ t)), (0, .ref h), (1, .int (nI t))]) hx hb dX0_tendFastLines_7 rfl hl (by decide) rfl (fun ls hl => ?_)
  refine lv_iconst (v := 0) hx hb dX0_tendFastLines_8 (by decide) ?_
  refine lv_istore (lv' := [(4, .int 0), (3, .int 0), (2, .int (bal σ t)), (0, .ref h), (1, .int (nI t))]) hx hb dX0_tendFastLines_9 hl (by decide) rfl (fun ls hl => ?_)
  suffices K : ∀ (n k : Nat) (H : Heap) (locs : List Loc) (ls : Array Slot), k + n = nL → va_P D vwCl (xw cI cZ h a (st σ 12 (tdS σ t (bal σ t) k))) H → va_S A Hi H locs → lv_has ls 6 [(4, .int (nI k)), (3, .int (tdC σ t (bal σ t) k)), (2, .int (bal σ t)), (0, .ref h), (1, .int (nI t))] → W p l e _ s m args below meth c H locs 0 0 (wrQ below D (fun _ : Unit => xw cI cZ h a (tnd σ t)) (fun r _ => r = tdC σ t (bal σ t) nL) A args s) (F0 m 11 ls []) by
    exact K nL 0 Hi [] ls (by omega) hP hS (lv_sub hl [0, 1, 2, 3, 4] rfl)
  intro n
  induction n with
  | zero =>
      intro k H locs ls hk hP hS hl
      refine lv_iload hx hb dX0_tendFastLines_11 (lv_at hl 0 rfl) ?_
      refine lv_aload_n hx hb dX0_tendFastLines_13 rfl (lv_at hl 3 rfl) ?_
      refine x_get hin hx hb hts hown hK hP rfl 7 (by decide) (v := .int (nI nL)) (congrArg (fun z => some (Value.int z)) hL) (by decide +kernel) dX0_tendFastLines_14 ?_
      refine lv_icmp_ge (tgt := 80) hx hb dX0_tendFastLines_17 (by decide) (fun c17 => ?_) (fun c17 => ?_)
      · refine lv_iload_n hx hb dX0_tendFastLines_80 rfl (lv_at hl 1 rfl) ?_
        rw [show k = nL by omega] at hP ⊢
        exact wr_ret (v := tdC σ t (bal σ t) nL) () hx hb hr hlocks hH hS (by show va_P D vwCl (xw cI cZ h a (tnd σ t)) H; unfold tnd; rw [inv_nL hI]; exact hP) rfl dX0_tendFastLines_81
      · exact absurd (nI_le (by omega) (by omega)) c17
  | succ n ih =>
      intro k H locs ls hk hP hS hl
      have hk1 : k < nL := by omega
      refine lv_iload hx hb dX0_tendFastLines_11 (lv_at hl 0 rfl) ?_
      refine lv_aload_n hx hb dX0_tendFastLines_13 rfl (lv_at hl 3 rfl) ?_
      refine x_get hin hx hb hts hown hK hP rfl 7 (by decide) (v := .int (nI nL)) (congrArg (fun z => some (Value.int z)) hL) (by decide +kernel) dX0_tendFastLines_14 ?_
      refine lv_icmp_ge (tgt := 80) hx hb dX0_tendFastLines_17 (by decide) (fun c17 => ?_) (fun c17 => ?_)
      · exact absurd c17 (nI_ge (by omega) (by omega))
      · refine lv_aload_n hx hb dX0_tendFastLines_20 rfl (lv_at hl 3 rfl) ?_
        refine x_get hin hx hb hts hown hK hP rfl 13 (by decide) (v := .ref (a 13)) rfl (by decide +kernel) dX0_tendFastLines_21 ?_
        refine lv_iload hx hb dX0_tendFastLines_24 (lv_at hl 0 rfl) ?_
        refine xa_zld hx hb hK hP 11 1 rfl rfl (j := k) (by omega) (by decide) dX0_tendFastLines_26 ?_
        rw [show (st σ 12 (tdS σ t (bal σ t) k)) 13 k = (σ 13 k) from rfl]
        refine lv_if_eq (tgt := 74) hx hb dX0_tendFastLines_27 (by decide) (fun c27 => ?_) (fun c27 => ?_)
        · refine lv_iinc (v := (nI (k + 1))) (lv' := [(4, .int (nI (k + 1))), (3, .int (tdC σ t (bal σ t) k)), (2, .int (bal σ t)), (0, .ref h), (1, .int (nI t))]) hx hb dX0_tendFastLines_74 hl (k := 0) rfl (by exact nI_add _ 1) (by decide) rfl (fun ls hl => ?_)
          refine lv_goto (tgt := 11) hx hb dX0_tendFastLines_77 (by decide) ?_
          refine ih (k + 1) H locs ls (by omega) ?_ hS (lv_sub hl [0, 1, 2, 3, 4] ?_)
          · have e9 : tdS σ t (bal σ t) (k + 1) = tdS σ t (bal σ t) k := by show (if σ 13 k = 0 then _ else _) = _; rw [if_pos c27]
            rw [e9]; exact hP
          · have e8 : tdC σ t (bal σ t) (k + 1) = tdC σ t (bal σ t) k + 0 := by show acc _ 0 k + (if σ 13 k = 0 then 0 else _) = _; rw [if_pos c27]; rfl
            rw [e8, Int32.add_zero]; rfl
        · have hD : va_D A (xw cI cZ h a (st σ 12 (tdS σ t (bal σ t) k))) := xD hD
          refine lv_aload_n hx hb dX0_tendFastLines_30 rfl (lv_at hl 3 rfl) ?_
          refine x_get hin hx hb hts hown hK hP rfl 12 (by decide) (v := .ref (a 12)) rfl (by decide +kernel) dX0_tendFastLines_31 ?_
          refine lv_iload hx hb dX0_tendFastLines_34 (lv_at hl 0 rfl) ?_
          refine xa_ld hx hb hK hP 10 0 rfl rfl (j := k) (by omega) (by decide) dX0_tendFastLines_36 ?_
          rw [show (st σ 12 (tdS σ t (bal σ t) k)) 12 k = (σ 12 k) from tdS_hi k k (Nat.le_refl _)]
          refine lv_istore (lv' := [(5, .int (σ 12 k)), (4, .int (nI k)), (3, .int (tdC σ t (bal σ t) k)), (2, .int (bal σ t)), (0, .ref h), (1, .int (nI t))]) hx hb dX0_tendFastLines_37 hl (by decide) rfl (fun ls hl => ?_)
          refine lv_aload_n hx hb dX0_tendFastLines_39 rfl (lv_at hl 4 rfl) ?_
          refine x_get hin hx hb hts hown hK hP rfl 12 (by decide) (v := .ref (a 12)) rfl (by decide +kernel) dX0_tendFastLines_40 ?_
          refine lv_iload hx hb dX0_tendFastLines_43 (lv_at hl 1 rfl) ?_
          refine lv_aload_n hx hb dX0_tendFastLines_45 rfl (lv_at hl 4 rfl) ?_
          refine lv_iload hx hb dX0_tendFastLines_46 (lv_at hl 1 rfl) ?_
          refine lv_iload_n hx hb dX0_tendFastLines_48 rfl (lv_at hl 5 rfl) ?_
          refine lv_iload_n hx hb dX0_tendFastLines_49 rfl (lv_at hl 3 rfl) ?_
          refine ro_callV 3 hx hb hml hown hts hl.1 hP hK 0 0 rfl rfl (As := [.int (nI k), .int (nI t), .int (bal σ t)]) (rest := [.int (nI k), .ref (a 12)]) (c_X0_lengthWith l D cI cZ h a (st σ 12 (tdS σ t (bal σ t) k)) H (inv_td hI ht48 hs9 k) k t hk1 ht48 (bal σ t) hs9) gX0_tendFastLines_X0_lengthWith rfl rfl rfl (by decide +kernel) ⟨Nat.le_of_ble_eq_true rfl, Nat.le_of_ble_eq_true rfl⟩ rfl rfl (Nat.le_of_ble_eq_true rfl) dX0_tendFastLines_50 ⟨Nat.zero_le _, Nat.zero_le _⟩ (fun r2 hr2 => ?_)
          subst hr2
          refine xa_st hx hb hK hP hD hS 10 0 rfl rfl (j := k) (by omega) (by decide) dX0_tendFastLines_53 (fun H locs hP hD hS => ?_)
          have hP : va_P D vwCl (xw cI cZ h a (st (st σ 12 (tdS σ t (bal σ t) k)) 12 (upd ((st σ 12 (tdS σ t (bal σ t) k)) 12) k (len_ σ k t (bal σ t))))) H := hP
          have hD : va_D A (xw cI cZ h a (st (st σ 12 (tdS σ t (bal σ t) k)) 12 (upd ((st σ 12 (tdS σ t (bal σ t) k)) 12) k (len_ σ k t (bal σ t))))) := hD
          have e9 : tdS σ t (bal σ t) (k + 1) = upd (tdS σ t (bal σ t) k) k (len_ σ k t (bal σ t)) := by show (if σ 13 k = 0 then _ else _) = _; rw [if_neg c27]
          have hP : va_P D vwCl (xw cI cZ h a (st σ 12 (tdS σ t (bal σ t) (k + 1)))) H := by rw [e9]; exact hP
          have e8 : tdC σ t (bal σ t) (k + 1) = tdC σ t (bal σ t) k + (if len_ σ k t (bal σ t) = σ 12 k then 0 else 1) := by show acc _ 0 k + (if σ 13 k = 0 then 0 else _) = _; rw [if_neg c27]; rfl
          refine lv_iload_n hx hb dX0_tendFastLines_54 rfl (lv_at hl 2 rfl) ?_
          refine lv_aload_n hx hb dX0_tendFastLines_55 rfl (lv_at hl 4 rfl) ?_
          refine x_get hin hx hb hts hown hK hP rfl 12 (by decide) (v := .ref (a 12)) rfl (by decide +kernel) dX0_tendFastLines_56 ?_
          refine lv_iload hx hb dX0_tendFastLines_59 (lv_at hl 1 rfl) ?_
          refine xa_ld hx hb hK hP 10 0 rfl rfl (j := k) (by omega) (by decide) dX0_tendFastLines_61 ?_
          rw [show (st σ 12 (tdS σ t (bal σ t) (k + 1))) 12 k = (len_ σ k t (bal σ t)) from by show tdS σ t (bal σ t) (k + 1) k = _; rw [e9]; show (if k = k then _ else _) = _; rw [if_pos rfl]]
          refine lv_iload hx hb dX0_tendFastLines_62 (lv_at hl 0 rfl) ?_
          refine lv_icmp_ne (tgt := 71) hx hb dX0_tendFastLines_64 (by decide) (fun c64 => ?_) (fun c64 => ?_)
          · refine lv_iconst (v := 1) hx hb dX0_tendFastLines_71 (by decide) ?_
            rw [show (1 : Int32) = (if len_ σ k t (bal σ t) = σ 12 k then 0 else 1) by rw [if_neg c64]]
            refine lv_iadd hx hb dX0_tendFastLines_72 ?_
            refine lv_istore_n (lv' := [(3, .int ((tdC σ t (bal σ t) k) + (if len_ σ k t (bal σ t) = σ 12 k then 0 else 1))), (5, .int (σ 12 k)), (4, .int (nI k)), (2, .int (bal σ t)), (0, .ref h), (1, .int (nI t))]) hx hb dX0_tendFastLines_73 rfl hl (by decide) rfl (fun ls hl => ?_)
            refine lv_iinc (v := (nI (k + 1))) (lv' := [(4, .int (nI (k + 1))), (3, .int ((tdC σ t (bal σ t) k) + (if len_ σ k t (bal σ t) = σ 12 k then 0 else 1))), (5, .int (σ 12 k)), (2, .int (bal σ t)), (0, .ref h), (1, .int (nI t))]) hx hb dX0_tendFastLines_74 hl (k := 2) rfl (by exact nI_add _ 1) (by decide) rfl (fun ls hl => ?_)
            refine lv_goto (tgt := 11) hx hb dX0_tendFastLines_77 (by decide) ?_
            exact ih (k + 1) H locs ls (by omega) hP hS (lv_sub hl [0, 1, 3, 4, 5] (by rw [e8]; rfl))
          · refine lv_iconst (v := 0) hx hb dX0_tendFastLines_67 (by decide) ?_
            refine lv_goto (tgt := 72) hx hb dX0_tendFastLines_68 (by decide) ?_
            rw [show (0 : Int32) = (if len_ σ k t (bal σ t) = σ 12 k then 0 else 1) by rw [if_pos c64]]
            refine lv_iadd hx hb dX0_tendFastLines_72 ?_
            refine lv_istore_n (lv' := [(3, .int ((tdC σ t (bal σ t) k) + (if len_ σ k t (bal σ t) = σ 12 k then 0 else 1))), (5, .int (σ 12 k)), (4, .int (nI k)), (2, .int (bal σ t)), (0, .ref h), (1, .int (nI t))]) hx hb dX0_tendFastLines_73 rfl hl (by decide) rfl (fun ls hl => ?_)
            refine lv_iinc (v := (nI (k + 1))) (lv' := [(4, .int (nI (k + 1))), (3, .int ((tdC σ t (bal σ t) k) + (if len_ σ k t (bal σ t) = σ 12 k then 0 else 1))), (5, .int (σ 12 k)), (2, .int (bal σ t)), (0, .ref h), (1, .int (nI t))]) hx hb dX0_tendFastLines_74 hl (k := 2) rfl (by exact nI_add _ 1) (by decide) rfl (fun ls hl => ?_)
            refine lv_goto (tgt := 11) hx hb dX0_tendFastLines_77 (by decide) ?_
            exact ih (k + 1) H locs ls (by omega) hP hS (lv_sub hl [0, 1, 3, 4, 5] (by rw [e8]; rfl))
