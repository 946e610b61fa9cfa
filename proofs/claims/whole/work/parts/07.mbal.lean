/-! The reference: it answers as a state says that stands beside its own. -/
/-- a MoorWatch's state σ and the reference's state τ -/
def rel (σ τ : St) (nL : Nat) : Prop := (τ 10 = σ 0 ∧ τ 11 = σ 1 ∧ τ 12 = σ 2 ∧ τ 13 0 = σ 3 0 ∧ τ 2 0 = σ 4 0 ∧ τ 0 = σ 5 ∧ τ 1 = σ 6 ∧ τ 9 0 = σ 7 0) ∧ (τ 4 = σ 8 ∧ τ 5 = σ 10 ∧ τ 6 = σ 11 ∧ τ 7 = σ 12) ∧ (∀ j, j < nL → σ 9 j = σ 5 (σ 8 j).toNatClampNeg - τ 3 j) ∧ (∀ j, j < nL → (τ 8 j = 0 ∧ σ 13 j = 1) ∨ (τ 8 j = 1 ∧ σ 13 j = 0)) ∧ (∀ j, nL ≤ j → τ 8 j = 0)
def inR (v lo hi : Int32) : Bool := decide (lo ≤ v) && decide (v ≤ hi)
theorem inR_f1 {v lo hi : Int32} (h : v < lo) : inR v lo hi = false := by unfold inR; rw [decide_eq_false (Int32.not_le.mpr h)]; rfl
theorem inR_f2 {v lo hi : Int32} (h : hi < v) : inR v lo hi = false := by unfold inR; rw [decide_eq_false (Int32.not_le.mpr h)]; exact Bool.and_false _
theorem inR_t {v lo hi : Int32} (h1 : ¬ v < lo) (h2 : ¬ hi < v) : inR v lo hi = true := by unfold inR; rw [decide_eq_true (Int32.not_lt.mp h1), decide_eq_true (Int32.not_lt.mp h2)]; rfl
/-- which answer goes() keeps: 0 none thrown, 1 to 3 the first that does not hold -/
def goK (b1 b2 b3 : Bool) : Int32 := if b1 then (if b2 then (if b3 then 0 else 3) else 2) else 1
set_option maxHeartbeats 4000000 in
set_option maxRecDepth 100000 in
/-- in -/
theorem c_X1_in (l : Launch) (D : va_G) (W0 : va_W) (tys : List (ClassId × FieldType)) (H : Heap) (v lo hi : Int32) : roM l yX1_in wsX1_in ({ frames := 0, cells := 0, slots := 0, locals := 0 }) [.int v, .int lo, .int hi] D W0 tys H (fun r => r = bI (inR v lo hi)) := by
  refine ro_of (cc := cX1_in) (maxL := 3) (ret := some .boolean) (by decide) rfl (Nat.le_of_ble_eq_true rfl) ?_
  intro p e s m args below meth c he hH hP hK ls hl
  obtain ⟨hx, hb, hr, hml, hown, hts, hlocks⟩ := he
  have hown : s.vm.findClass RX1 = some m.cls := hown
  have hl : lv_has ls 3 [(0, .int v), (1, .int lo), (2, .int hi)] := hl
  refine lv_iload_n hx hb dX1_in_0 rfl (lv_at hl 0 rfl) ?_
  refine lv_iload_n hx hb dX1_in_1 rfl (lv_at hl 1 rfl) ?_
  refine lv_icmp_lt (tgt := 14) hx hb dX1_in_2 (by decide) (fun c2 => ?_) (fun c2 => ?_)
  · refine lv_iconst (v := 0) hx hb dX1_in_14 (by decide) ?_
    exact ro_zret (v := 0) hx hb hr hlocks hH ⟨false, rfl⟩ (by rw [inR_f1 c2]; rfl) dX1_in_15
  · refine lv_iload_n hx hb dX1_in_5 rfl (lv_at hl 0 rfl) ?_
    refine lv_iload_n hx hb dX1_in_6 rfl (lv_at hl 2 rfl) ?_
    refine lv_icmp_gt (tgt := 14) hx hb dX1_in_7 (by decide) (fun c7 => ?_) (fun c7 => ?_)
    · refine lv_iconst (v := 0) hx hb dX1_in_14 (by decide) ?_
      exact ro_zret (v := 0) hx hb hr hlocks hH ⟨false, rfl⟩ (by rw [inR_f2 c7]; rfl) dX1_in_15
    · refine lv_iconst (v := 1) hx hb dX1_in_10 (by decide) ?_
      refine lv_goto (tgt := 15) hx hb dX1_in_11 (by decide) ?_
      exact ro_zret (v := 1) hx hb hr hlocks hH ⟨true, rfl⟩ (by rw [inR_t c2 c7]; rfl) dX1_in_15
set_option maxHeartbeats 4000000 in
set_option maxRecDepth 100000 in
/-- isHour -/
theorem c_X1_isHour (l : Launch) (D : va_G) (W0 : va_W) (tys : List (ClassId × FieldType)) (H : Heap) (v : Int32) : roM l yX1_isHour wsX1_isHour ({ frames := 1, cells := 0, slots := 0, locals := 22 }) [.int v] D W0 tys H (fun r => r = bI (inR v 0 47)) := by
  refine ro_of (cc := cX1_isHour) (maxL := 1) (ret := some .boolean) (by decide) rfl (Nat.le_of_ble_eq_true rfl) ?_
  intro p e s m args below meth c he hH hP hK ls hl
  obtain ⟨hx, hb, hr, hml, hown, hts, hlocks⟩ := he
  have hown : s.vm.findClass RX1 = some m.cls := hown
  have hl : lv_has ls 1 [(0, .int v)] := hl
  refine lv_iload_n hx hb dX1_isHour_0 rfl (lv_at hl 0 rfl) ?_
  refine lv_iconst (v := 0) hx hb dX1_isHour_1 (by decide) ?_
  refine lv_bipush (v := 47) hx hb dX1_isHour_2 (by decide) ?_
  refine ro_callS 3 hx hb hml hown hts hl.1 hP hK (As := [.int v, .int 0, .int 47]) (rest := []) (c_X1_in l D W0 tys H v 0 47) gX1_isHour_X1_in rfl rfl rfl (by decide +kernel) ⟨Nat.le_of_ble_eq_true rfl, Nat.le_of_ble_eq_true rfl⟩ rfl rfl (Nat.le_of_ble_eq_true rfl) dX1_isHour_4 ⟨Nat.zero_le _, Nat.zero_le _⟩ (fun r1 hr1 => ?_)
  subst hr1
  exact ro_zret (v := (bI (inR v 0 47))) hx hb hr hlocks hH ⟨_, rfl⟩ rfl dX1_isHour_7
set_option maxHeartbeats 4000000 in
set_option maxRecDepth 100000 in
/-- isLine -/
theorem c_X1_isLine (l : Launch) (D : va_G) (cI cZ : ClassId) (h : Nat) (a : Nat → Nat) (σ τ : St) (H : Heap) {nL nB : Nat} (hI : inv σ nL nB) (hR : rel σ τ nL) (v : Int32) : roM l yX1_isLine wsX1_isLine ({ frames := 1, cells := 0, slots := 0, locals := 22 }) [.ref h, .int v] D (mw cI cZ h a τ) (tyX cI cZ) H (fun r => r = bI (inR v 0 (nI nL - 1))) := by
  refine ro_of (cc := cX1_isLine) (maxL := 2) (ret := some .boolean) (by decide) rfl (Nat.le_of_ble_eq_true rfl) ?_
  intro p e s m args below meth c he hH hP hK ls hl
  obtain ⟨hx, hb, hr, hml, hown, hts, hlocks⟩ := he
  have hown : s.vm.findClass RX1 = some m.cls := hown
  obtain ⟨⟨r10, r11, r12, r13, r2, r0, r1, r9⟩, ⟨r4, r5, r6, r7⟩, r3, r8, r8z⟩ := id hR
  have hL : σ 7 0 = nI nL := hI.1
  have hL10 : nL ≤ 10 := hI.2.1
  have hl : lv_has ls 2 [(0, .ref h), (1, .int v)] := hl
  have hin : ∀ w ∈ u_ws RX1 TX1 16, w ∈ wsX1_isLine := by decide +kernel
  refine lv_iload_n hx hb dX1_isLine_0 rfl (lv_at hl 1 rfl) ?_
  refine lv_iconst (v := 0) hx hb dX1_isLine_1 (by decide) ?_
  refine lv_aload_n hx hb dX1_isLine_2 rfl (lv_at hl 0 rfl) ?_
  refine m_get hin hx hb hts hown hK hP rfl 9 (by decide) (v := .int (nI nL)) (congrArg (fun z => some (Value.int z)) (r9.trans hL)) (by decide +kernel) dX1_isLine_3 ?_
  refine lv_iconst (v := 1) hx hb dX1_isLine_6 (by decide) ?_
  refine lv_isub hx hb dX1_isLine_7 ?_
  refine ro_callS 3 hx hb hml hown hts hl.1 hP hK (As := [.int v, .int 0, .int ((nI nL) - 1)]) (rest := []) (c_X1_in l D (mw cI cZ h a τ) (tyX cI cZ) H v 0 (nI nL - 1)) gX1_isLine_X1_in rfl rfl rfl (by decide +kernel) ⟨Nat.le_of_ble_eq_true rfl, Nat.le_of_ble_eq_true rfl⟩ rfl rfl (Nat.le_of_ble_eq_true rfl) dX1_isLine_8 ⟨Nat.zero_le _, Nat.zero_le _⟩ (fun r1 hr1 => ?_)
  subst hr1
  exact ro_zret (v := (bI (inR v 0 (nI nL - 1)))) hx hb hr hlocks hH ⟨_, rfl⟩ rfl dX1_isLine_11
set_option maxHeartbeats 4000000 in
set_option maxRecDepth 100000 in
/-- root: by halving -/
theorem c_X1_root (l : Launch) (D : va_G) (W0 : va_W) (tys : List (ClassId × FieldType)) (H : Heap) (x y : Int32) (hxA : inA x) (hyH : inH y) : roM l yX1_root wsX1_root ({ frames := 0, cells := 0, slots := 0, locals := 0 }) [.int x, .int y] D W0 tys H (fun r => r = LENs x y) := by
  refine ro_of (cc := cX1_root) (maxL := 6) (ret := some .int) (by decide) rfl (Nat.le_of_ble_eq_true rfl) ?_
  intro p e s m args below meth c he hH hP hK ls hl
  obtain ⟨hx, hb, hr, hml, hown, hts, hlocks⟩ := he
  have hown : s.vm.findClass RX1 = some m.cls := hown
  have hl : lv_has ls 6 [(0, .int x), (1, .int y)] := hl
  refine lv_iload_n hx hb dX1_root_0 rfl (lv_at hl 0 rfl) ?_
  refine lv_iload_n hx hb dX1_root_1 rfl (lv_at hl 0 rfl) ?_
  refine lv_imul hx hb dX1_root_2 ?_
  refine lv_iload_n hx hb dX1_root_3 rfl (lv_at hl 1 rfl) ?_
  refine lv_iload_n hx hb dX1_root_4 rfl (lv_at hl 1 rfl) ?_
  refine lv_imul hx hb dX1_root_5 ?_
  refine lv_iadd hx hb dX1_root_6 ?_
  rw [sq2_eq hxA hyH]
  refine lv_istore_n (lv' := [(2, .int (nI (sq2 x y))), (0, .int x), (1, .int y)]) hx hb dX1_root_7 rfl hl (by decide) rfl (fun ls hl => ?_)
  refine lv_iconst (v := 0) hx hb dX1_root_8 (by decide) ?_
  refine lv_istore_n (lv' := [(3, .int 0), (2, .int (nI (sq2 x y))), (0, .int x), (1, .int y)]) hx hb dX1_root_9 rfl hl (by decide) rfl (fun ls hl => ?_)
  refine lv_sipush (v := 20000) hx hb dX1_root_10 (by decide) ?_
  refine lv_istore (lv' := [(4, .int 20000), (3, .int 0), (2, .int (nI (sq2 x y))), (0, .int x), (1, .int y)]) hx hb dX1_root_13 hl (by decide) rfl (fun ls hl => ?_)
  have hsq := (sq2_le hxA hyH).1
  suffices K : ∀ (n lo hi : Nat) (ls : Array Slot), lo ≤ hi → hi ≤ 20000 → lo * lo ≤ sq2 x y → sq2 x y < (hi + 1) * (hi + 1) → hi - lo < n → lv_has ls 6 [(4, .int (nI hi)), (3, .int (nI lo)), (2, .int (nI (sq2 x y))), (0, .int x), (1, .int y)] → W p l e _ s m args below meth c H [] 0 0 (roQ below H (fun r => r = LENs x y) args s) (F0 m 15 ls []) by
    exact K 20001 0 20000 ls (by omega) (by omega) (Nat.zero_le _) (by have : (20000 + 1) * (20000 + 1) = 400040001 := rfl; omega) (by omega) (lv_sub hl [0, 1, 2, 3, 4] rfl)
  intro n
  induction n with
  | zero =>
      intro lo hi ls h1 h2 h3 h4 h5 hl; exact absurd h5 (by omega)
  | succ n ih =>
      intro lo hi ls h1 h2 h3 h4 h5 hl
      refine lv_iload_n hx hb dX1_root_15 rfl (lv_at hl 1 rfl) ?_
      refine lv_iload hx hb dX1_root_16 (lv_at hl 0 rfl) ?_
      refine lv_icmp_ge (tgt := 55) hx hb dX1_root_18 (by decide) (fun c18 => ?_) (fun c18 => ?_)
      · have hge : lo = hi := by have := (nI_leI (by omega) (by omega)).mp c18; omega
        refine lv_iload_n hx hb dX1_root_55 rfl (lv_at hl 1 rfl) ?_
        exact ro_ret (v := (nI lo)) hx hb hr hlocks hH (by show nI lo = LENs x y; unfold LENs; rw [isq_uniq h3 (by rw [hge]; exact h4)]) dX1_root_56
      · have hlt : lo < hi := Nat.not_le.mp (fun w => c18 ((nI_leI (by omega) (by omega)).mpr w))
        refine lv_iload_n hx hb dX1_root_21 rfl (lv_at hl 1 rfl) ?_
        refine lv_iload hx hb dX1_root_22 (lv_at hl 0 rfl) ?_
        refine lv_iadd hx hb dX1_root_24 ?_
        refine lv_iconst (v := 1) hx hb dX1_root_25 (by decide) ?_
        refine lv_iadd hx hb dX1_root_26 ?_
        refine lv_iconst (v := 2) hx hb dX1_root_27 (by decide) ?_
        rw [nI_add, nI_1]
        refine lv_idiv hx hb dX1_root_28 (by decide) ?_
        rw [show (nI (lo + hi + 1) / 2 : Int32) = nI ((lo + hi + 1) / 2) from pk_div (a := lo + hi + 1) (d := 2) (by omega) (by decide) (by decide)]
        obtain ⟨md, hmd⟩ : ∃ z : Nat, z = (lo + hi + 1) / 2 := ⟨_, rfl⟩
        rw [← hmd]
        refine lv_istore (lv' := [(5, .int (nI md)), (4, .int (nI hi)), (3, .int (nI lo)), (2, .int (nI (sq2 x y))), (0, .int x), (1, .int y)]) hx hb dX1_root_29 hl (by decide) rfl (fun ls hl => ?_)
        refine lv_iload hx hb dX1_root_31 (lv_at hl 0 rfl) ?_
        refine lv_iload hx hb dX1_root_33 (lv_at hl 0 rfl) ?_
        refine lv_imul hx hb dX1_root_35 ?_
        rw [pk_mul]
        have hm : md * md ≤ 20000 * 20000 := Nat.mul_le_mul (by omega) (by omega)
        refine lv_iload_n hx hb dX1_root_36 rfl (lv_at hl 3 rfl) ?_
        refine lv_icmp_gt (tgt := 46) hx hb dX1_root_37 (by decide) (fun c37 => ?_) (fun c37 => ?_)
        · have hgt : sq2 x y < md * md := (nI_ltI (by omega) (by omega)).mp c37
          refine lv_iload hx hb dX1_root_46 (lv_at hl 0 rfl) ?_
          refine lv_iconst (v := 1) hx hb dX1_root_48 (by decide) ?_
          refine lv_isub hx hb dX1_root_49 ?_
          rw [show nI md - 1 = nI (md - 1) from pk_sub (a := md) (b := 1) (by omega)]
          refine lv_istore (lv' := [(4, .int (nI (md - 1))), (5, .int (nI md)), (3, .int (nI lo)), (2, .int (nI (sq2 x y))), (0, .int x), (1, .int y)]) hx hb dX1_root_50 hl (by decide) rfl (fun ls hl => ?_)
          refine lv_goto (tgt := 15) hx hb dX1_root_52 (by decide) ?_
          exact ih lo (md - 1) ls (by omega) (by omega) h3 (by rw [show md - 1 + 1 = md by omega]; exact hgt) (by omega) (lv_sub hl [0, 2, 3, 4, 5] rfl)
        · have hle : md * md ≤ sq2 x y := Nat.not_lt.mp (fun v => c37 ((nI_ltI (by omega) (by omega)).mpr v))
          refine lv_iload hx hb dX1_root_40 (lv_at hl 0 rfl) ?_
          refine lv_istore_n (lv' := [(3, .int (nI md)), (5, .int (nI md)), (4, .int (nI hi)), (2, .int (nI (sq2 x y))), (0, .int x), (1, .int y)]) hx hb dX1_root_42 rfl hl (by decide) rfl (fun ls hl => ?_)
          refine lv_goto (tgt := 52) hx hb dX1_root_43 (by decide) ?_
          refine lv_goto (tgt := 15) hx hb dX1_root_52 (by decide) ?_
          exact ih md hi ls (by omega) h2 hle h4 (by omega) (lv_sub hl [2, 0, 3, 4, 5] rfl)
set_option maxHeartbeats 4000000 in
set_option maxRecDepth 100000 in
/-- away -/
theorem c_X1_away (l : Launch) (D : va_G) (cI cZ : ClassId) (h : Nat) (a : Nat → Nat) (σ τ : St) (H : Heap) {nL nB : Nat} (hI : inv σ nL nB) (hR : rel σ τ nL) (j : Nat) (hj : j < nL) (s9 : Int32) : roM l yX1_away wsX1_away ({ frames := 0, cells := 0, slots := 0, locals := 0 }) [.ref h, .int (nI j), .int s9] D (mw cI cZ h a τ) (tyX cI cZ) H (fun r => r = (σ 9 j - s9)) := by
  refine ro_of (cc := cX1_away) (maxL := 3) (ret := some .int) (by decide) rfl (Nat.le_of_ble_eq_true rfl) ?_
  intro p e s m args below meth c he hH hP hK ls hl
  obtain ⟨hx, hb, hr, hml, hown, hts, hlocks⟩ := he
  have hown : s.vm.findClass RX1 = some m.cls := hown
  obtain ⟨⟨r10, r11, r12, r13, r2, r0, r1, r9⟩, ⟨r4, r5, r6, r7⟩, r3, r8, r8z⟩ := id hR
  have hL : σ 7 0 = nI nL := hI.1
  have hL10 : nL ≤ 10 := hI.2.1
  have hl : lv_has ls 3 [(0, .ref h), (1, .int (nI j)), (2, .int s9)] := hl
  have hin : ∀ w ∈ u_ws RX1 TX1 16, w ∈ wsX1_away := by decide +kernel
  obtain ⟨⟨b, hb6, eb⟩, -⟩ := hI.2.2.2.2.2.2 j hj
  have hB6 : nB ≤ 6 := hI.2.2.2.1
  refine lv_aload_n hx hb dX1_away_0 rfl (lv_at hl 0 rfl) ?_
  refine m_get hin hx hb hts hown hK hP rfl 0 (by decide) (v := .ref (a 0)) rfl (by decide +kernel) dX1_away_1 ?_
  refine lv_aload_n hx hb dX1_away_4 rfl (lv_at hl 0 rfl) ?_
  refine m_get hin hx hb hts hown hK hP rfl 4 (by decide) (v := .ref (a 4)) rfl (by decide +kernel) dX1_away_5 ?_
  refine lv_iload_n hx hb dX1_away_8 rfl (lv_at hl 1 rfl) ?_
  refine xa_ld hx hb hK hP 4 0 rfl rfl (j := j) (by omega) (by decide) dX1_away_9 ?_
  rw [show τ 4 j = (σ 8 j) from congrFun r4 j]
  rw [eb]
  refine xa_ld hx hb hK hP 1 0 rfl rfl (j := b) (by omega) (by decide) dX1_away_10 ?_
  rw [show τ 0 b = (σ 5 b) from congrFun r0 b]
  refine lv_aload_n hx hb dX1_away_11 rfl (lv_at hl 0 rfl) ?_
  refine m_get hin hx hb hts hown hK hP rfl 3 (by decide) (v := .ref (a 3)) rfl (by decide +kernel) dX1_away_12 ?_
  refine lv_iload_n hx hb dX1_away_15 rfl (lv_at hl 1 rfl) ?_
  refine xa_ld hx hb hK hP 3 0 rfl rfl (j := j) (by omega) (by decide) dX1_away_16 ?_
  refine lv_isub hx hb dX1_away_17 ?_
  rw [show σ 5 b - τ 3 j = σ 9 j by rw [r3 j hj, eb, nI_clamp (by omega)]]
  refine lv_iload_n hx hb dX1_away_18 rfl (lv_at hl 2 rfl) ?_
  refine lv_isub hx hb dX1_away_19 ?_
  exact ro_ret (v := ((σ 9 j) - s9)) hx hb hr hlocks hH rfl dX1_away_20
set_option maxHeartbeats 4000000 in
set_option maxRecDepth 100000 in
/-- lengthAt -/
theorem c_X1_lengthAt (l : Launch) (D : va_G) (cI cZ : ClassId) (h : Nat) (a : Nat → Nat) (σ τ : St) (H : Heap) {nL nB : Nat} (hI : inv σ nL nB) (hR : rel σ τ nL) (j t : Nat) (hj : j < nL) (ht48 : t < 48) (s9 : Int32) (hs9 : inS s9) : roM l yX1_lengthAt wsX1_lengthAt ({ frames := 1, cells := 0, slots := 0, locals := 25 }) [.ref h, .int (nI j), .int (nI t), .int s9] D (mw cI cZ h a τ) (tyX cI cZ) H (fun r => r = len_ σ j t s9) := by
  refine ro_of (cc := cX1_lengthAt) (maxL := 4) (ret := some .int) (by decide) rfl (Nat.le_of_ble_eq_true rfl) ?_
  intro p e s m args below meth c he hH hP hK ls hl
  obtain ⟨hx, hb, hr, hml, hown, hts, hlocks⟩ := he
  have hown : s.vm.findClass RX1 = some m.cls := hown
  obtain ⟨⟨r10, r11, r12, r13, r2, r0, r1, r9⟩, ⟨r4, r5, r6, r7⟩, r3, r8, r8z⟩ := id hR
  have hL : σ 7 0 = nI nL := hI.1
  have hL10 : nL ≤ 10 := hI.2.1
  have hl : lv_has ls 4 [(0, .ref h), (1, .int (nI j)), (2, .int (nI t)), (3, .int s9)] := hl
  have hin : ∀ w ∈ u_ws RX1 TX1 16, w ∈ wsX1_lengthAt := by decide +kernel
  refine lv_aload_n hx hb dX1_lengthAt_0 rfl (lv_at hl 0 rfl) ?_
  refine lv_iload_n hx hb dX1_lengthAt_1 rfl (lv_at hl 1 rfl) ?_
  refine lv_iload_n hx hb dX1_lengthAt_2 rfl (lv_at hl 3 rfl) ?_
  refine ro_callV 2 hx hb hml hown hts hl.1 hP hK 0 1 rfl rfl (As := [.int (nI j), .int s9]) (rest := []) (c_X1_away l D cI cZ h a σ τ H hI hR j hj s9) gX1_lengthAt_X1_away rfl rfl rfl (by decide +kernel) ⟨Nat.le_of_ble_eq_true rfl, Nat.le_of_ble_eq_true rfl⟩ rfl rfl (Nat.le_of_ble_eq_true rfl) dX1_lengthAt_3 ⟨Nat.zero_le _, Nat.zero_le _⟩ (fun r1 hr1 => ?_)
  subst hr1
  refine lv_sipush (v := 300) hx hb dX1_lengthAt_6 (by decide) ?_
  refine lv_aload_n hx hb dX1_lengthAt_9 rfl (lv_at hl 0 rfl) ?_
  refine m_get hin hx hb hts hown hK hP rfl 10 (by decide) (v := .ref (a 10)) rfl (by decide +kernel) dX1_lengthAt_10 ?_
  refine lv_iload_n hx hb dX1_lengthAt_13 rfl (lv_at hl 2 rfl) ?_
  refine xa_ld hx hb hK hP 9 0 rfl rfl (j := t) ht48 (by decide) dX1_lengthAt_14 ?_
  rw [show τ 10 t = (σ 0 t) from congrFun r10 t]
  refine lv_iadd hx hb dX1_lengthAt_15 ?_
  refine lv_aload_n hx hb dX1_lengthAt_16 rfl (lv_at hl 0 rfl) ?_
  refine m_get hin hx hb hts hown hK hP rfl 11 (by decide) (v := .ref (a 11)) rfl (by decide +kernel) dX1_lengthAt_17 ?_
  refine lv_iload_n hx hb dX1_lengthAt_20 rfl (lv_at hl 2 rfl) ?_
  refine xa_ld hx hb hK hP 10 0 rfl rfl (j := t) ht48 (by decide) dX1_lengthAt_21 ?_
  rw [show τ 11 t = (σ 1 t) from congrFun r11 t]
  refine lv_iadd hx hb dX1_lengthAt_22 ?_
  rw [show 300 + σ 0 t + σ 1 t = ht σ t from rfl]
  refine ro_callS 2 hx hb hml hown hts hl.1 hP hK (As := [.int (σ 9 j - s9), .int (ht σ t)]) (rest := []) (c_X1_root l D (mw cI cZ h a τ) (tyX cI cZ) H (σ 9 j - s9) (ht σ t) (inv_al hI hj hs9) (inv_ht hI ht48)) gX1_lengthAt_X1_root rfl rfl rfl (by decide +kernel) ⟨Nat.le_of_ble_eq_true rfl, Nat.le_of_ble_eq_true rfl⟩ rfl rfl (Nat.le_of_ble_eq_true rfl) dX1_lengthAt_23 ⟨Nat.zero_le _, Nat.zero_le _⟩ (fun r2 hr2 => ?_)
  subst hr2
  exact ro_ret (v := (LENs (σ 9 j - s9) (ht σ t))) hx hb hr hlocks hH rfl dX1_lengthAt_26
set_option maxHeartbeats 4000000 in
set_option maxRecDepth 100000 in
/-- tensionAt -/
theorem c_X1_tensionAt (l : Launch) (D : va_G) (cI cZ : ClassId) (h : Nat) (a : Nat → Nat) (σ τ : St) (H : Heap) {nL nB : Nat} (hI : inv σ nL nB) (hR : rel σ τ nL) (j t : Nat) (hj : j < nL) (ht48 : t < 48) (s9 : Int32) (hs9 : inS s9) : roM l yX1_tensionAt wsX1_tensionAt ({ frames := 2, cells := 0, slots := 0, locals := 48 }) [.ref h, .int (nI j), .int (nI t), .int s9] D (mw cI cZ h a τ) (tyX cI cZ) H (fun r => r = tn_ σ j t s9) := by
  refine ro_of (cc := cX1_tensionAt) (maxL := 5) (ret := some .int) (by decide) rfl (Nat.le_of_ble_eq_true rfl) ?_
  intro p e s m args below meth c he hH hP hK ls hl
  obtain ⟨hx, hb, hr, hml, hown, hts, hlocks⟩ := he
  have hown : s.vm.findClass RX1 = some m.cls := hown
  obtain ⟨⟨r10, r11, r12, r13, r2, r0, r1, r9⟩, ⟨r4, r5, r6, r7⟩, r3, r8, r8z⟩ := id hR
  have hL : σ 7 0 = nI nL := hI.1
  have hL10 : nL ≤ 10 := hI.2.1
  have hl : lv_has ls 5 [(0, .ref h), (1, .int (nI j)), (2, .int (nI t)), (3, .int s9)] := hl
  have hin : ∀ w ∈ u_ws RX1 TX1 16, w ∈ wsX1_tensionAt := by decide +kernel
  refine lv_aload_n hx hb dX1_tensionAt_0 rfl (lv_at hl 0 rfl) ?_
  refine lv_iload_n hx hb dX1_tensionAt_1 rfl (lv_at hl 1 rfl) ?_
  refine lv_iload_n hx hb dX1_tensionAt_2 rfl (lv_at hl 2 rfl) ?_
  refine lv_iload_n hx hb dX1_tensionAt_3 rfl (lv_at hl 3 rfl) ?_
  refine ro_callV 3 hx hb hml hown hts hl.1 hP hK 0 1 rfl rfl (As := [.int (nI j), .int (nI t), .int s9]) (rest := []) (c_X1_lengthAt l D cI cZ h a σ τ H hI hR j t hj ht48 s9 hs9) gX1_tensionAt_X1_lengthAt rfl rfl rfl (by decide +kernel) ⟨Nat.le_of_ble_eq_true rfl, Nat.le_of_ble_eq_true rfl⟩ rfl rfl (Nat.le_of_ble_eq_true rfl) dX1_tensionAt_4 ⟨Nat.zero_le _, Nat.zero_le _⟩ (fun r1 hr1 => ?_)
  subst hr1
  refine lv_aload_n hx hb dX1_tensionAt_7 rfl (lv_at hl 0 rfl) ?_
  refine m_get hin hx hb hts hown hK hP rfl 7 (by decide) (v := .ref (a 7)) rfl (by decide +kernel) dX1_tensionAt_8 ?_
  refine lv_iload_n hx hb dX1_tensionAt_11 rfl (lv_at hl 1 rfl) ?_
  refine xa_ld hx hb hK hP 7 0 rfl rfl (j := j) (by omega) (by decide) dX1_tensionAt_12 ?_
  rw [show τ 7 j = (σ 12 j) from congrFun r7 j]
  refine lv_isub hx hb dX1_tensionAt_13 ?_
  refine lv_istore (lv' := [(4, .int ((len_ σ j t s9) - (σ 12 j))), (0, .ref h), (1, .int (nI j)), (2, .int (nI t)), (3, .int s9)]) hx hb dX1_tensionAt_14 hl (by decide) rfl (fun ls hl => ?_)
  refine lv_aload_n hx hb dX1_tensionAt_16 rfl (lv_at hl 1 rfl) ?_
  refine m_get hin hx hb hts hown hK hP rfl 8 (by decide) (v := .ref (a 8)) rfl (by decide +kernel) dX1_tensionAt_17 ?_
  refine lv_iload_n hx hb dX1_tensionAt_20 rfl (lv_at hl 2 rfl) ?_
  refine xa_zld hx hb hK hP 8 1 rfl rfl (j := j) (by omega) (by decide) dX1_tensionAt_21 ?_
  refine lv_if_ne (tgt := 30) hx hb dX1_tensionAt_22 (by decide) (fun c22 => ?_) (fun c22 => ?_)
  · have hg : σ 13 j = 0 := by rcases r8 j hj with ⟨q1, _⟩ | ⟨_, q2⟩; exact absurd q1 c22; exact q2
    refine lv_iconst (v := 0) hx hb dX1_tensionAt_30 (by decide) ?_
    refine lv_goto (tgt := 43) hx hb dX1_tensionAt_31 (by decide) ?_
    exact ro_ret (v := 0) hx hb hr hlocks hH (by show _ = tn_ σ j t s9; unfold tn_ tens_; rw [if_pos hg]) dX1_tensionAt_43
  · have hg : ¬ σ 13 j = 0 := by rcases r8 j hj with ⟨_, q2⟩ | ⟨q1, _⟩; rw [q2]; decide; rw [q1] at c22; exact absurd c22 (by decide)
    refine lv_iload hx hb dX1_tensionAt_25 (lv_at hl 0 rfl) ?_
    refine lv_if_ge (tgt := 34) hx hb dX1_tensionAt_27 (by decide) (fun c27 => ?_) (fun c27 => ?_)
    · refine lv_aload_n hx hb dX1_tensionAt_34 rfl (lv_at hl 1 rfl) ?_
      refine m_get hin hx hb hts hown hK hP rfl 5 (by decide) (v := .ref (a 5)) rfl (by decide +kernel) dX1_tensionAt_35 ?_
      refine lv_iload_n hx hb dX1_tensionAt_38 rfl (lv_at hl 2 rfl) ?_
      refine xa_ld hx hb hK hP 5 0 rfl rfl (j := j) (by omega) (by decide) dX1_tensionAt_39 ?_
      rw [show τ 5 j = (σ 10 j) from congrFun r5 j]
      refine lv_iload hx hb dX1_tensionAt_40 (lv_at hl 0 rfl) ?_
      refine lv_imul hx hb dX1_tensionAt_42 ?_
      exact ro_ret (v := ((σ 10 j) * ((len_ σ j t s9) - (σ 12 j)))) hx hb hr hlocks hH (by show _ = tn_ σ j t s9; unfold tn_ tens_; rw [if_neg hg]; by_cases w : 0 < len_ σ j t s9 - σ 12 j; rw [if_pos w]; rw [if_neg w, Int32.le_antisymm (Int32.not_lt.mp w) c27]) dX1_tensionAt_43
    · refine lv_iconst (v := 0) hx hb dX1_tensionAt_30 (by decide) ?_
      refine lv_goto (tgt := 43) hx hb dX1_tensionAt_31 (by decide) ?_
      exact ro_ret (v := 0) hx hb hr hlocks hH (by show _ = tn_ σ j t s9; unfold tn_ tens_; rw [if_neg hg, if_neg (fun w => c27 (Int32.le_of_lt w)), Int32.mul_zero]) dX1_tensionAt_43
set_option maxHeartbeats 4000000 in
set_option maxRecDepth 100000 in
/-- forceAt -/
theorem c_X1_forceAt (l : Launch) (D : va_G) (cI cZ : ClassId) (h : Nat) (a : Nat → Nat) (σ τ : St) (H : Heap) {nL nB : Nat} (hI : inv σ nL nB) (hR : rel σ τ nL) (t : Nat) (ht48 : t < 48) (s9 : Int32) (hs9 : inS s9) : roM l yX1_forceAt wsX1_forceAt ({ frames := 3, cells := 0, slots := 0, locals := 72 }) [.ref h, .int (nI t), .int s9] D (mw cI cZ h a τ) (tyX cI cZ) H (fun r => r = frc σ t s9) := by
  refine ro_of (cc := cX1_forceAt) (maxL := 8) (ret := some .int) (by decide) rfl (Nat.le_of_ble_eq_true rfl) ?_
  intro p e s m args below meth c he hH hP hK ls hl
  obtain ⟨hx, hb, hr, hml, hown, hts, hlocks⟩ := he
  have hown : s.vm.findClass RX1 = some m.cls := hown
  obtain ⟨⟨r10, r11, r12, r13, r2, r0, r1, r9⟩, ⟨r4, r5, r6, r7⟩, r3, r8, r8z⟩ := id hR
  have hL : σ 7 0 = nI nL := hI.1
  have hL10 : nL ≤ 10 := hI.2.1
  have hl : lv_has ls 8 [(0, .ref h), (1, .int (nI t)), (2, .int s9)] := hl
  have hin : ∀ w ∈ u_ws RX1 TX1 16, w ∈ wsX1_forceAt := by decide +kernel
  refine lv_aload_n hx hb dX1_forceAt_0 rfl (lv_at hl 0 rfl) ?_
  refine m_get hin hx hb hts hown hK hP rfl 13 (by decide) (v := .int (σ 3 0)) (congrArg (fun z => some (Value.int z)) r13) (by decide +kernel) dX1_forceAt_1 ?_
  refine lv_aload_n hx hb dX1_forceAt_4 rfl (lv_at hl 0 rfl) ?_
  refine m_get hin hx hb hts hown hK hP rfl 12 (by decide) (v := .ref (a 12)) rfl (by decide +kernel) dX1_forceAt_5 ?_
  refine lv_iload_n hx hb dX1_forceAt_8 rfl (lv_at hl 1 rfl) ?_
  refine xa_ld hx hb hK hP 11 0 rfl rfl (j := t) ht48 (by decide) dX1_forceAt_9 ?_
  rw [show τ 12 t = (σ 2 t) from congrFun r12 t]
  refine lv_iadd hx hb dX1_forceAt_10 ?_
  refine lv_istore_n (lv' := [(3, .int ((σ 3 0) + (σ 2 t))), (0, .ref h), (1, .int (nI t)), (2, .int s9)]) hx hb dX1_forceAt_11 rfl hl (by decide) rfl (fun ls hl => ?_)
  refine lv_iconst (v := 0) hx hb dX1_forceAt_12 (by decide) ?_
  refine lv_istore (lv' := [(4, .int 0), (3, .int ((σ 3 0) + (σ 2 t))), (0, .ref h), (1, .int (nI t)), (2, .int s9)]) hx hb dX1_forceAt_13 hl (by decide) rfl (fun ls hl => ?_)
  suffices K : ∀ (n k : Nat) (ls : Array Slot), k + n = nL → lv_has ls 8 [(4, .int (nI k)), (3, .int (acc (fun j => pull_ σ j t s9) (σ 3 0 + σ 2 t) k)), (0, .ref h), (1, .int (nI t)), (2, .int s9)] → W p l e _ s m args below meth c H [] 0 0 (roQ below H (fun r => r = frc σ t s9) args s) (F0 m 15 ls []) by
    exact K nL 0 ls (by omega) (lv_sub hl [0, 1, 2, 3, 4] rfl)
  intro n
  induction n with
  | zero =>
      intro k ls hk hl
      refine lv_iload hx hb dX1_forceAt_15 (lv_at hl 0 rfl) ?_
      refine lv_aload_n hx hb dX1_forceAt_17 rfl (lv_at hl 2 rfl) ?_
      refine m_get hin hx hb hts hown hK hP rfl 9 (by decide) (v := .int (nI nL)) (congrArg (fun z => some (Value.int z)) (r9.trans hL)) (by decide +kernel) dX1_forceAt_18 ?_
      refine lv_icmp_ge (tgt := 79) hx hb dX1_forceAt_21 (by decide) (fun c21 => ?_) (fun c21 => ?_)
      · refine lv_iload_n hx hb dX1_forceAt_79 rfl (lv_at hl 1 rfl) ?_
        exact ro_ret (v := (acc (fun j => pull_ σ j t s9) (σ 3 0 + σ 2 t) k)) hx hb hr hlocks hH (by show acc _ _ k = frc σ t s9; unfold frc; rw [inv_nL hI, show k = nL by omega]) dX1_forceAt_80
      · exact absurd (nI_le (by omega) (by omega)) c21
  | succ n ih =>
      intro k ls hk hl
      refine lv_iload hx hb dX1_forceAt_15 (lv_at hl 0 rfl) ?_
      refine lv_aload_n hx hb dX1_forceAt_17 rfl (lv_at hl 2 rfl) ?_
      refine m_get hin hx hb hts hown hK hP rfl 9 (by decide) (v := .int (nI nL)) (congrArg (fun z => some (Value.int z)) (r9.trans hL)) (by decide +kernel) dX1_forceAt_18 ?_
      refine lv_icmp_ge (tgt := 79) hx hb dX1_forceAt_21 (by decide) (fun c21 => ?_) (fun c21 => ?_)
      · exact absurd c21 (nI_ge (by omega) (by omega))
      · have hk1 : k < nL := by omega
        refine lv_aload_n hx hb dX1_forceAt_24 rfl (lv_at hl 2 rfl) ?_
        refine lv_iload hx hb dX1_forceAt_25 (lv_at hl 0 rfl) ?_
        refine lv_iload_n hx hb dX1_forceAt_27 rfl (lv_at hl 3 rfl) ?_
        refine lv_iload_n hx hb dX1_forceAt_28 rfl (lv_at hl 4 rfl) ?_
        refine ro_callV 3 hx hb hml hown hts hl.1 hP hK 0 1 rfl rfl (As := [.int (nI k), .int (nI t), .int s9]) (rest := []) (c_X1_lengthAt l D cI cZ h a σ τ H hI hR k t hk1 ht48 s9 hs9) gX1_forceAt_X1_lengthAt rfl rfl rfl (by decide +kernel) ⟨Nat.le_of_ble_eq_true rfl, Nat.le_of_ble_eq_true rfl⟩ rfl rfl (Nat.le_of_ble_eq_true rfl) dX1_forceAt_29 ⟨Nat.zero_le _, Nat.zero_le _⟩ (fun r1 hr1 => ?_)
        subst hr1
        refine lv_istore (lv' := [(5, .int (len_ σ k t s9)), (4, .int (nI k)), (3, .int (acc (fun j => pull_ σ j t s9) (σ 3 0 + σ 2 t) k)), (0, .ref h), (1, .int (nI t)), (2, .int s9)]) hx hb dX1_forceAt_32 hl (by decide) rfl (fun ls hl => ?_)
        refine lv_aload_n hx hb dX1_forceAt_34 rfl (lv_at hl 3 rfl) ?_
        refine lv_iload hx hb dX1_forceAt_35 (lv_at hl 1 rfl) ?_
        refine lv_iload_n hx hb dX1_forceAt_37 rfl (lv_at hl 4 rfl) ?_
        refine lv_iload_n hx hb dX1_forceAt_38 rfl (lv_at hl 5 rfl) ?_
        refine ro_callV 3 hx hb hml hown hts hl.1 hP hK 0 1 rfl rfl (As := [.int (nI k), .int (nI t), .int s9]) (rest := []) (c_X1_tensionAt l D cI cZ h a σ τ H hI hR k t hk1 ht48 s9 hs9) gX1_forceAt_X1_tensionAt rfl rfl rfl (by decide +kernel) ⟨Nat.le_of_ble_eq_true rfl, Nat.le_of_ble_eq_true rfl⟩ rfl rfl (Nat.le_of_ble_eq_true rfl) dX1_forceAt_39 ⟨Nat.zero_le _, Nat.zero_le _⟩ (fun r2 hr2 => ?_)
        subst hr2
        refine lv_i2l hx hb dX1_forceAt_42 rfl ?_
        refine lv_aload_n hx hb dX1_forceAt_43 rfl (lv_at hl 3 rfl) ?_
        refine lv_iload hx hb dX1_forceAt_44 (lv_at hl 1 rfl) ?_
        refine lv_iload_n hx hb dX1_forceAt_46 rfl (lv_at hl 5 rfl) ?_
        refine ro_callV 2 hx hb hml hown hts hl.1 hP hK 0 1 rfl rfl (As := [.int (nI k), .int s9]) (rest := [.long (tn_ σ k t s9).toInt64]) (c_X1_away l D cI cZ h a σ τ H hI hR k hk1 s9) gX1_forceAt_X1_away rfl rfl rfl (by decide +kernel) ⟨Nat.le_of_ble_eq_true rfl, Nat.le_of_ble_eq_true rfl⟩ rfl rfl (Nat.le_of_ble_eq_true rfl) dX1_forceAt_47 ⟨Nat.zero_le _, Nat.zero_le _⟩ (fun r3 hr3 => ?_)
        subst hr3
        refine lv_i2l hx hb dX1_forceAt_50 rfl ?_
        refine lv_lmul hx hb dX1_forceAt_51 ?_
        refine lv_lstore (lv' := [(6, .long ((tn_ σ k t s9).toInt64 * (σ 9 k - s9).toInt64)), (5, .int (len_ σ k t s9)), (4, .int (nI k)), (3, .int (acc (fun j => pull_ σ j t s9) (σ 3 0 + σ 2 t) k)), (0, .ref h), (1, .int (nI t)), (2, .int s9)]) hx hb dX1_forceAt_52 hl (by decide) rfl (fun ls hl => ?_)
        refine lv_iload_n hx hb dX1_forceAt_54 rfl (lv_at hl 3 rfl) ?_
        refine lv_iload hx hb dX1_forceAt_55 (lv_at hl 1 rfl) ?_
        obtain ⟨n9, en, hn9⟩ := inv_len hI hk1 ht48 hs9
        refine lv_if_ne (tgt := 64) hx hb dX1_forceAt_57 (by decide) (fun c57 => ?_) (fun c57 => ?_)
        · have hn0 : ¬ len_ σ k t s9 ≤ 0 := by rw [en] at c57 ⊢; intro v; exact c57 (by have := (nI_leI (a := n9) (b := 0) (by omega) (by omega)).mp v; rw [show n9 = 0 by omega]; rfl)
          have hne : ¬ (len_ σ k t s9).toInt64 = 0 := by
            rw [en] at hn0 ⊢
            rw [nI_l (by omega)]
            intro q
            have q2 := congrArg Int64.toInt q
            rw [lN_toInt (by omega)] at q2
            have q3 : n9 = 0 := by have : (0 : Int64).toInt = 0 := rfl; omega
            subst q3; exact hn0 (by decide)
          refine lv_lload hx hb dX1_forceAt_64 (lv_at hl 0 rfl) ?_
          refine lv_iload hx hb dX1_forceAt_66 (lv_at hl 1 rfl) ?_
          refine lv_i2l hx hb dX1_forceAt_68 rfl ?_
          refine lv_ldiv hx hb dX1_forceAt_69 hne ?_
          refine lv_l2i hx hb dX1_forceAt_70 rfl ?_
          rw [show ((tn_ σ k t s9).toInt64 * (σ 9 k - s9).toInt64 / (len_ σ k t s9).toInt64).toInt32 = pull_ σ k t s9 by unfold pull_; rw [if_neg hn0]]
          refine lv_iadd hx hb dX1_forceAt_71 ?_
          refine lv_istore_n (lv' := [(3, .int ((acc (fun j => pull_ σ j t s9) (σ 3 0 + σ 2 t) k) + (pull_ σ k t s9))), (6, .long ((tn_ σ k t s9).toInt64 * (σ 9 k - s9).toInt64)), (5, .int (len_ σ k t s9)), (4, .int (nI k)), (0, .ref h), (1, .int (nI t)), (2, .int s9)]) hx hb dX1_forceAt_72 rfl hl (by decide) rfl (fun ls hl => ?_)
          refine lv_iinc (v := (nI (k + 1))) (lv' := [(4, .int (nI (k + 1))), (3, .int ((acc (fun j => pull_ σ j t s9) (σ 3 0 + σ 2 t) k) + (pull_ σ k t s9))), (6, .long ((tn_ σ k t s9).toInt64 * (σ 9 k - s9).toInt64)), (5, .int (len_ σ k t s9)), (0, .ref h), (1, .int (nI t)), (2, .int s9)]) hx hb dX1_forceAt_73 hl (k := 3) rfl (by exact nI_add _ 1) (by decide) rfl (fun ls hl => ?_)
          refine lv_goto (tgt := 15) hx hb dX1_forceAt_76 (by decide) ?_
          exact ih (k + 1) ls (by omega) (lv_sub hl [0, 1, 4, 5, 6] rfl)
        · refine lv_iconst (v := 0) hx hb dX1_forceAt_60 (by decide) ?_
          refine lv_goto (tgt := 71) hx hb dX1_forceAt_61 (by decide) ?_
          rw [show (0 : Int32) = pull_ σ k t s9 by unfold pull_; rw [if_pos (by rw [c57]; decide)]]
          refine lv_iadd hx hb dX1_forceAt_71 ?_
          refine lv_istore_n (lv' := [(3, .int ((acc (fun j => pull_ σ j t s9) (σ 3 0 + σ 2 t) k) + (pull_ σ k t s9))), (6, .long ((tn_ σ k t s9).toInt64 * (σ 9 k - s9).toInt64)), (5, .int (len_ σ k t s9)), (4, .int (nI k)), (0, .ref h), (1, .int (nI t)), (2, .int s9)]) hx hb dX1_forceAt_72 rfl hl (by decide) rfl (fun ls hl => ?_)
          refine lv_iinc (v := (nI (k + 1))) (lv' := [(4, .int (nI (k + 1))), (3, .int ((acc (fun j => pull_ σ j t s9) (σ 3 0 + σ 2 t) k) + (pull_ σ k t s9))), (6, .long ((tn_ σ k t s9).toInt64 * (σ 9 k - s9).toInt64)), (5, .int (len_ σ k t s9)), (0, .ref h), (1, .int (nI t)), (2, .int s9)]) hx hb dX1_forceAt_73 hl (k := 3) rfl (by exact nI_add _ 1) (by decide) rfl (fun ls hl => ?_)
          refine lv_goto (tgt := 15) hx hb dX1_forceAt_76 (by decide) ?_
          exact ih (k + 1) ls (by omega) (lv_sub hl [0, 1, 4, 5, 6] rfl)
set_option maxHeartbeats 4000000 in
set_option maxRecDepth 100000 in
/-- shiftAt: halving -/
theorem c_X1_shiftAt (l : Launch) (D : va_G) (cI cZ : ClassId) (h : Nat) (a : Nat → Nat) (σ τ : St) (H : Heap) {nL nB : Nat} (hI : inv σ nL nB) (hR : rel σ τ nL) (t : Nat) (ht48 : t < 48) : roM l yX1_shiftAt wsX1_shiftAt ({ frames := 4, cells := 0, slots := 0, locals := 99 }) [.ref h, .int (nI t)] D (mw cI cZ h a τ) (tyX cI cZ) H (fun r => r = bal σ t) := by
  refine ro_of (cc := cX1_shiftAt) (maxL := 5) (ret := some .int) (by decide) rfl (Nat.le_of_ble_eq_true rfl) ?_
  intro p e s m args below meth c he hH hP hK ls hl
  obtain ⟨hx, hb, hr, hml, hown, hts, hlocks⟩ := he
  have hown : s.vm.findClass RX1 = some m.cls := hown
  obtain ⟨⟨r10, r11, r12, r13, r2, r0, r1, r9⟩, ⟨r4, r5, r6, r7⟩, r3, r8, r8z⟩ := id hR
  have hL : σ 7 0 = nI nL := hI.1
  have hL10 : nL ≤ 10 := hI.2.1
  have hl : lv_has ls 5 [(0, .ref h), (1, .int (nI t))] := hl
  refine lv_sipush (v := (-200)) hx hb dX1_shiftAt_0 (by decide) ?_
  refine lv_istore_n (lv' := [(2, .int (-200)), (0, .ref h), (1, .int (nI t))]) hx hb dX1_shiftAt_3 rfl hl (by decide) rfl (fun ls hl => ?_)
  refine lv_sipush (v := 200) hx hb dX1_shiftAt_4 (by decide) ?_
  refine lv_istore_n (lv' := [(3, .int 200), (2, .int (-200)), (0, .ref h), (1, .int (nI t))]) hx hb dX1_shiftAt_7 rfl hl (by decide) rfl (fun ls hl => ?_)
  suffices K : ∀ (n : Nat) (lo hi : Int) (ls : Array Slot), -200 ≤ lo → lo ≤ hi → hi ≤ 200 → hi - lo < n → bis (fun z => decide (0 < frc σ t (zI z))) n lo hi = balZ σ t → lv_has ls 5 [(3, .int (zI hi)), (2, .int (zI lo)), (0, .ref h), (1, .int (nI t))] → W p l e _ s m args below meth c H [] 0 0 (roQ below H (fun r => r = bal σ t) args s) (F0 m 8 ls []) by
    exact K 401 (-200) 200 ls (by omega) (by omega) (by omega) (by omega) rfl (lv_sub hl [0, 1, 2, 3] rfl)
  intro n
  induction n with
  | zero =>
      intro lo hi ls h1 h2 h3 h4; exact absurd h4 (by omega)
  | succ n ih =>
      intro lo hi ls h1 h2 h3 h4 h5 hl
      refine lv_iload_n hx hb dX1_shiftAt_8 rfl (lv_at hl 1 rfl) ?_
      refine lv_iload_n hx hb dX1_shiftAt_9 rfl (lv_at hl 0 rfl) ?_
      refine lv_icmp_ge (tgt := 52) hx hb dX1_shiftAt_10 (by decide) (fun c10 => ?_) (fun c10 => ?_)
      · have hge : ¬ lo < hi := fun w => absurd ((zI_le (by omega) (by omega) (by omega) (by omega)).mp c10) (by omega)
        refine lv_iload_n hx hb dX1_shiftAt_52 rfl (lv_at hl 1 rfl) ?_
        exact ro_ret (v := (zI lo)) hx hb hr hlocks hH (by show zI lo = bal σ t; unfold bal; rw [← h5, bis_end hge]) dX1_shiftAt_53
      · have hlt : lo < hi := Int.not_le.mp (fun w => c10 ((zI_le (by omega) (by omega) (by omega) (by omega)).mpr w))
        refine lv_iload_n hx hb dX1_shiftAt_13 rfl (lv_at hl 1 rfl) ?_
        refine lv_iload_n hx hb dX1_shiftAt_14 rfl (lv_at hl 0 rfl) ?_
        refine lv_iadd hx hb dX1_shiftAt_15 ?_
        refine lv_sipush (v := 400) hx hb dX1_shiftAt_16 (by decide) ?_
        refine lv_iadd hx hb dX1_shiftAt_19 ?_
        refine lv_iconst (v := 2) hx hb dX1_shiftAt_20 (by decide) ?_
        refine lv_idiv hx hb dX1_shiftAt_21 (by decide) ?_
        refine lv_sipush (v := 200) hx hb dX1_shiftAt_22 (by decide) ?_
        refine lv_isub hx hb dX1_shiftAt_25 ?_
        have hmid : (zI lo + zI hi + 400) / 2 - 200 = zI ((lo + hi) / 2) := by
          have e1 : zI lo + zI hi + 400 = zI (lo + hi + 400) := by rw [zI_add]; exact zI_add _ 400
          have e2 : (zI (lo + hi + 400)).toInt = lo + hi + 400 := zI_ti (by omega) (by omega)
          have e3 : (zI (lo + hi + 400) / 2 : Int32).toInt = (lo + hi + 400).tdiv 2 := by rw [Jvm.Kit.i32_div (by rw [e2]; omega), e2]; rfl
          rw [td2, if_pos (by omega)] at e3
          rw [e1]; apply zI_of
          have e4 : (200 : Int32).toInt = 200 := rfl
          rw [Jvm.Kit.i32_sub (by rw [e3, e4]; omega) (by rw [e3, e4]; omega), e3, e4]; omega
        rw [hmid]
        have hm1 : lo ≤ (lo + hi) / 2 := by omega
        have hm2 : (lo + hi) / 2 < hi := by omega
        have hsm : inS (zI ((lo + hi) / 2)) := by unfold inS; rw [zI_ti (by omega) (by omega)]; omega
        refine lv_istore (lv' := [(4, .int (zI ((lo + hi) / 2))), (3, .int (zI hi)), (2, .int (zI lo)), (0, .ref h), (1, .int (nI t))]) hx hb dX1_shiftAt_26 hl (by decide) rfl (fun ls hl => ?_)
        refine lv_aload_n hx hb dX1_shiftAt_28 rfl (lv_at hl 3 rfl) ?_
        refine lv_iload_n hx hb dX1_shiftAt_29 rfl (lv_at hl 4 rfl) ?_
        refine lv_iload hx hb dX1_shiftAt_30 (lv_at hl 0 rfl) ?_
        refine ro_callV 2 hx hb hml hown hts hl.1 hP hK 0 1 rfl rfl (As := [.int (nI t), .int (zI ((lo + hi) / 2))]) (rest := []) (c_X1_forceAt l D cI cZ h a σ τ H hI hR t ht48 (zI ((lo + hi) / 2)) hsm) gX1_shiftAt_X1_forceAt rfl rfl rfl (by decide +kernel) ⟨Nat.le_of_ble_eq_true rfl, Nat.le_of_ble_eq_true rfl⟩ rfl rfl (Nat.le_of_ble_eq_true rfl) dX1_shiftAt_32 ⟨Nat.zero_le _, Nat.zero_le _⟩ (fun r2 hr2 => ?_)
        subst hr2
        refine lv_if_le (tgt := 46) hx hb dX1_shiftAt_35 (by decide) (fun c35 => ?_) (fun c35 => ?_)
        · refine lv_iload hx hb dX1_shiftAt_46 (lv_at hl 0 rfl) ?_
          refine lv_istore_n (lv' := [(3, .int (zI ((lo + hi) / 2))), (4, .int (zI ((lo + hi) / 2))), (2, .int (zI lo)), (0, .ref h), (1, .int (nI t))]) hx hb dX1_shiftAt_48 rfl hl (by decide) rfl (fun ls hl => ?_)
          refine lv_goto (tgt := 8) hx hb dX1_shiftAt_49 (by decide) ?_
          have hn : ¬ (fun z => decide (0 < frc σ t (zI z))) ((lo + hi) / 2) = true := fun v => absurd c35 (Int32.not_le.mpr (of_decide_eq_true v))
          exact ih lo ((lo + hi) / 2) ls h1 hm1 (by omega) (by omega) (by rw [← h5]; exact (bis_dn hlt hn).symm) (lv_sub hl [0, 2, 3, 4] rfl)
        · refine lv_iload hx hb dX1_shiftAt_38 (lv_at hl 0 rfl) ?_
          refine lv_iconst (v := 1) hx hb dX1_shiftAt_40 (by decide) ?_
          refine lv_iadd hx hb dX1_shiftAt_41 ?_
          rw [show zI ((lo + hi) / 2) + 1 = zI ((lo + hi) / 2 + 1) from zI_add _ 1]
          refine lv_istore_n (lv' := [(2, .int (zI ((lo + hi) / 2 + 1))), (4, .int (zI ((lo + hi) / 2))), (3, .int (zI hi)), (0, .ref h), (1, .int (nI t))]) hx hb dX1_shiftAt_42 rfl hl (by decide) rfl (fun ls hl => ?_)
          refine lv_goto (tgt := 49) hx hb dX1_shiftAt_43 (by decide) ?_
          refine lv_goto (tgt := 8) hx hb dX1_shiftAt_49 (by decide) ?_
          have hn : (fun z => decide (0 < frc σ t (zI z))) ((lo + hi) / 2) = true := decide_eq_true (Int32.not_le.mp c35)
          exact ih ((lo + hi) / 2 + 1) hi ls (by omega) (by omega) h3 (by omega) (by rw [← h5]; exact (bis_up hlt hn).symm) (lv_sub hl [2, 0, 3, 4] rfl)
set_option maxHeartbeats 4000000 in
set_option maxRecDepth 100000 in
/-- drifts -/
theorem c_X1_drifts (l : Launch) (D : va_G) (cI cZ : ClassId) (h : Nat) (a : Nat → Nat) (σ τ : St) (H : Heap) {nL nB : Nat} (hI : inv σ nL nB) (hR : rel σ τ nL) (t : Nat) (ht48 : t < 48) : roM l yX1_drifts wsX1_drifts ({ frames := 5, cells := 0, slots := 0, locals := 123 }) [.ref h, .int (nI t)] D (mw cI cZ h a τ) (tyX cI cZ) H (fun r => r = bI (drfW σ t (bal σ t))) := by
  refine ro_of (cc := cX1_drifts) (maxL := 4) (ret := some .boolean) (by decide) rfl (Nat.le_of_ble_eq_true rfl) ?_
  intro p e s m args below meth c he hH hP hK ls hl
  obtain ⟨hx, hb, hr, hml, hown, hts, hlocks⟩ := he
  have hown : s.vm.findClass RX1 = some m.cls := hown
  obtain ⟨⟨r10, r11, r12, r13, r2, r0, r1, r9⟩, ⟨r4, r5, r6, r7⟩, r3, r8, r8z⟩ := id hR
  have hL : σ 7 0 = nI nL := hI.1
  have hL10 : nL ≤ 10 := hI.2.1
  have hl : lv_has ls 4 [(0, .ref h), (1, .int (nI t))] := hl
  refine lv_aload_n hx hb dX1_drifts_0 rfl (lv_at hl 0 rfl) ?_
  refine lv_iload_n hx hb dX1_drifts_1 rfl (lv_at hl 1 rfl) ?_
  refine ro_callV 1 hx hb hml hown hts hl.1 hP hK 0 1 rfl rfl (As := [.int (nI t)]) (rest := []) (c_X1_shiftAt l D cI cZ h a σ τ H hI hR t ht48) gX1_drifts_X1_shiftAt rfl rfl rfl (by decide +kernel) ⟨Nat.le_of_ble_eq_true rfl, Nat.le_of_ble_eq_true rfl⟩ rfl rfl (Nat.le_of_ble_eq_true rfl) dX1_drifts_2 ⟨Nat.zero_le _, Nat.zero_le _⟩ (fun r1 hr1 => ?_)
  subst hr1
  refine lv_istore_n (lv' := [(2, .int (bal σ t)), (0, .ref h), (1, .int (nI t))]) hx hb dX1_drifts_5 rfl hl (by decide) rfl (fun ls hl => ?_)
  refine lv_aload_n hx hb dX1_drifts_6 rfl (lv_at hl 1 rfl) ?_
  refine lv_iload_n hx hb dX1_drifts_7 rfl (lv_at hl 2 rfl) ?_
  refine lv_iload_n hx hb dX1_drifts_8 rfl (lv_at hl 0 rfl) ?_
  refine ro_callV 2 hx hb hml hown hts hl.1 hP hK 0 1 rfl rfl (As := [.int (nI t), .int (bal σ t)]) (rest := []) (c_X1_forceAt l D cI cZ h a σ τ H hI hR t ht48 (bal σ t) (bal_inS σ t)) gX1_drifts_X1_forceAt rfl rfl rfl (by decide +kernel) ⟨Nat.le_of_ble_eq_true rfl, Nat.le_of_ble_eq_true rfl⟩ rfl rfl (Nat.le_of_ble_eq_true rfl) dX1_drifts_9 ⟨Nat.zero_le _, Nat.zero_le _⟩ (fun r2 hr2 => ?_)
  subst hr2
  refine lv_istore_n (lv' := [(3, .int (frc σ t (bal σ t))), (2, .int (bal σ t)), (0, .ref h), (1, .int (nI t))]) hx hb dX1_drifts_12 rfl hl (by decide) rfl (fun ls hl => ?_)
  refine lv_iload_n hx hb dX1_drifts_13 rfl (lv_at hl 1 rfl) ?_
  refine lv_sipush (v := 200) hx hb dX1_drifts_14 (by decide) ?_
  refine lv_icmp_ne (tgt := 24) hx hb dX1_drifts_17 (by decide) (fun c17 => ?_) (fun c17 => ?_)
  · refine lv_iload_n hx hb dX1_drifts_24 rfl (lv_at hl 1 rfl) ?_
    refine lv_sipush (v := (-200)) hx hb dX1_drifts_25 (by decide) ?_
    refine lv_icmp_ne (tgt := 39) hx hb dX1_drifts_28 (by decide) (fun c28 => ?_) (fun c28 => ?_)
    · refine lv_iconst (v := 0) hx hb dX1_drifts_39 (by decide) ?_
      exact ro_zret (v := 0) hx hb hr hlocks hH ⟨false, rfl⟩ (by show _ = bI (drfW σ t (bal σ t)); unfold drfW; rw [decide_eq_false c17, decide_eq_false c28]; rfl) dX1_drifts_40
    · refine lv_iload_n hx hb dX1_drifts_31 rfl (lv_at hl 0 rfl) ?_
      refine lv_if_ge (tgt := 39) hx hb dX1_drifts_32 (by decide) (fun c32 => ?_) (fun c32 => ?_)
      · refine lv_iconst (v := 0) hx hb dX1_drifts_39 (by decide) ?_
        exact ro_zret (v := 0) hx hb hr hlocks hH ⟨false, rfl⟩ (by show _ = bI (drfW σ t (bal σ t)); unfold drfW; rw [decide_eq_false c17, decide_eq_true c28, decide_eq_false (Int32.not_lt.mpr c32)]; rfl) dX1_drifts_40
      · refine lv_iconst (v := 1) hx hb dX1_drifts_35 (by decide) ?_
        refine lv_goto (tgt := 40) hx hb dX1_drifts_36 (by decide) ?_
        exact ro_zret (v := 1) hx hb hr hlocks hH ⟨true, rfl⟩ (by show _ = bI (drfW σ t (bal σ t)); unfold drfW; rw [decide_eq_false c17, decide_eq_true c28, decide_eq_true (Int32.not_le.mp c32)]; rfl) dX1_drifts_40
  · have hne : ¬ bal σ t = -200 := fun q => absurd (c17.symm.trans q) (by decide)
    refine lv_iload_n hx hb dX1_drifts_20 rfl (lv_at hl 0 rfl) ?_
    refine lv_if_gt (tgt := 35) hx hb dX1_drifts_21 (by decide) (fun c21 => ?_) (fun c21 => ?_)
    · refine lv_iconst (v := 1) hx hb dX1_drifts_35 (by decide) ?_
      refine lv_goto (tgt := 40) hx hb dX1_drifts_36 (by decide) ?_
      exact ro_zret (v := 1) hx hb hr hlocks hH ⟨true, rfl⟩ (by show _ = bI (drfW σ t (bal σ t)); unfold drfW; rw [decide_eq_true c17, decide_eq_true c21]; rfl) dX1_drifts_40
    · refine lv_iload_n hx hb dX1_drifts_24 rfl (lv_at hl 1 rfl) ?_
      refine lv_sipush (v := (-200)) hx hb dX1_drifts_25 (by decide) ?_
      refine lv_icmp_ne (tgt := 39) hx hb dX1_drifts_28 (by decide) (fun c28 => ?_) (fun c28 => ?_)
      · refine lv_iconst (v := 0) hx hb dX1_drifts_39 (by decide) ?_
        exact ro_zret (v := 0) hx hb hr hlocks hH ⟨false, rfl⟩ (by show _ = bI (drfW σ t (bal σ t)); unfold drfW; rw [decide_eq_true c17, decide_eq_false c21, decide_eq_false hne]; rfl) dX1_drifts_40
      · exact absurd c28 hne
set_option maxHeartbeats 4000000 in
set_option maxRecDepth 100000 in
/-- sumOn -/
theorem c_X1_sumOn (l : Launch) (D : va_G) (cI cZ : ClassId) (h : Nat) (a : Nat → Nat) (σ τ : St) (H : Heap) {nL nB : Nat} (hI : inv σ nL nB) (hR : rel σ τ nL) (b9 : Int32) (t : Nat) (ht48 : t < 48) (s9 : Int32) (hs9 : inS s9) : roM l yX1_sumOn wsX1_sumOn ({ frames := 3, cells := 0, slots := 0, locals := 72 }) [.ref h, .int b9, .int (nI t), .int s9] D (mw cI cZ h a τ) (tyX cI cZ) H (fun r => r = sumOn_ σ b9 t s9) := by
  refine ro_of (cc := cX1_sumOn) (maxL := 6) (ret := some .int) (by decide) rfl (Nat.le_of_ble_eq_true rfl) ?_
  intro p e s m args below meth c he hH hP hK ls hl
  obtain ⟨hx, hb, hr, hml, hown, hts, hlocks⟩ := he
  have hown : s.vm.findClass RX1 = some m.cls := hown
  obtain ⟨⟨r10, r11, r12, r13, r2, r0, r1, r9⟩, ⟨r4, r5, r6, r7⟩, r3, r8, r8z⟩ := id hR
  have hL : σ 7 0 = nI nL := hI.1
  have hL10 : nL ≤ 10 := hI.2.1
  have hl : lv_has ls 6 [(0, .ref h), (1, .int b9), (2, .int (nI t)), (3, .int s9)] := hl
  have hin : ∀ w ∈ u_ws RX1 TX1 16, w ∈ wsX1_sumOn := by decide +kernel
  refine lv_iconst (v := 0) hx hb dX1_sumOn_0 (by decide) ?_
  refine lv_istore (lv' := [(4, .int 0), (0, .ref h), (1, .int b9), (2, .int (nI t)), (3, .int s9)]) hx hb dX1_sumOn_1 hl (by decide) rfl (fun ls hl => ?_)
  refine lv_iconst (v := 0) hx hb dX1_sumOn_3 (by decide) ?_
  refine lv_istore (lv' := [(5, .int 0), (4, .int 0), (0, .ref h), (1, .int b9), (2, .int (nI t)), (3, .int s9)]) hx hb dX1_sumOn_4 hl (by decide) rfl (fun ls hl => ?_)
  suffices K : ∀ (n k : Nat) (ls : Array Slot), k + n = nL → lv_has ls 6 [(5, .int (nI k)), (4, .int (acc (fun j => if σ 8 j = b9 then tn_ σ j t s9 else 0) 0 k)), (0, .ref h), (1, .int b9), (2, .int (nI t)), (3, .int s9)] → W p l e _ s m args below meth c H [] 0 0 (roQ below H (fun r => r = sumOn_ σ b9 t s9) args s) (F0 m 6 ls []) by
    exact K nL 0 ls (by omega) (lv_sub hl [0, 1, 2, 3, 4, 5] rfl)
  intro n
  induction n with
  | zero =>
      intro k ls hk hl
      refine lv_iload hx hb dX1_sumOn_6 (lv_at hl 0 rfl) ?_
      refine lv_aload_n hx hb dX1_sumOn_8 rfl (lv_at hl 2 rfl) ?_
      refine m_get hin hx hb hts hown hK hP rfl 9 (by decide) (v := .int (nI nL)) (congrArg (fun z => some (Value.int z)) (r9.trans hL)) (by decide +kernel) dX1_sumOn_9 ?_
      refine lv_icmp_ge (tgt := 49) hx hb dX1_sumOn_12 (by decide) (fun c12 => ?_) (fun c12 => ?_)
      · refine lv_iload hx hb dX1_sumOn_49 (lv_at hl 1 rfl) ?_
        exact ro_ret (v := (acc (fun j => if σ 8 j = b9 then tn_ σ j t s9 else 0) 0 k)) hx hb hr hlocks hH (by show acc _ _ k = sumOn_ σ b9 t s9; unfold sumOn_; rw [inv_nL hI, show k = nL by omega]) dX1_sumOn_51
      · exact absurd (nI_le (by omega) (by omega)) c12
  | succ n ih =>
      intro k ls hk hl
      refine lv_iload hx hb dX1_sumOn_6 (lv_at hl 0 rfl) ?_
      refine lv_aload_n hx hb dX1_sumOn_8 rfl (lv_at hl 2 rfl) ?_
      refine m_get hin hx hb hts hown hK hP rfl 9 (by decide) (v := .int (nI nL)) (congrArg (fun z => some (Value.int z)) (r9.trans hL)) (by decide +kernel) dX1_sumOn_9 ?_
      refine lv_icmp_ge (tgt := 49) hx hb dX1_sumOn_12 (by decide) (fun c12 => ?_) (fun c12 => ?_)
      · exact absurd c12 (nI_ge (by omega) (by omega))
      · refine lv_iload hx hb dX1_sumOn_15 (lv_at hl 1 rfl) ?_
        refine lv_aload_n hx hb dX1_sumOn_17 rfl (lv_at hl 2 rfl) ?_
        refine m_get hin hx hb hts hown hK hP rfl 4 (by decide) (v := .ref (a 4)) rfl (by decide +kernel) dX1_sumOn_18 ?_
        refine lv_iload hx hb dX1_sumOn_21 (lv_at hl 0 rfl) ?_
        refine xa_ld hx hb hK hP 4 0 rfl rfl (j := k) (by omega) (by decide) dX1_sumOn_23 ?_
        rw [show τ 4 k = (σ 8 k) from congrFun r4 k]
        refine lv_iload_n hx hb dX1_sumOn_24 rfl (lv_at hl 3 rfl) ?_
        refine lv_icmp_ne (tgt := 39) hx hb dX1_sumOn_25 (by decide) (fun c25 => ?_) (fun c25 => ?_)
        · refine lv_iconst (v := 0) hx hb dX1_sumOn_39 (by decide) ?_
          refine lv_iadd hx hb dX1_sumOn_40 ?_
          refine lv_istore (lv' := [(4, .int ((acc (fun j => if σ 8 j = b9 then tn_ σ j t s9 else 0) 0 k) + 0)), (5, .int (nI k)), (0, .ref h), (1, .int b9), (2, .int (nI t)), (3, .int s9)]) hx hb dX1_sumOn_41 hl (by decide) rfl (fun ls hl => ?_)
          refine lv_iinc (v := (nI (k + 1))) (lv' := [(5, .int (nI (k + 1))), (4, .int ((acc (fun j => if σ 8 j = b9 then tn_ σ j t s9 else 0) 0 k) + 0)), (0, .ref h), (1, .int b9), (2, .int (nI t)), (3, .int s9)]) hx hb dX1_sumOn_43 hl (k := 1) rfl (by exact nI_add _ 1) (by decide) rfl (fun ls hl => ?_)
          refine lv_goto (tgt := 6) hx hb dX1_sumOn_46 (by decide) ?_
          refine ih (k + 1) ls (by omega) (lv_sub hl [0, 1, 2, 3, 4, 5] ?_)
          have e9 : acc (fun j => if σ 8 j = b9 then tn_ σ j t s9 else 0) 0 (k + 1) = acc (fun j => if σ 8 j = b9 then tn_ σ j t s9 else 0) 0 k + 0 := by show acc (fun j => if σ 8 j = b9 then tn_ σ j t s9 else 0) 0 k + (if σ 8 k = b9 then tn_ σ k t s9 else 0) = _; rw [if_neg c25]
          rw [e9]; rfl
        · refine lv_aload_n hx hb dX1_sumOn_28 rfl (lv_at hl 2 rfl) ?_
          refine lv_iload hx hb dX1_sumOn_29 (lv_at hl 0 rfl) ?_
          refine lv_iload_n hx hb dX1_sumOn_31 rfl (lv_at hl 4 rfl) ?_
          refine lv_iload_n hx hb dX1_sumOn_32 rfl (lv_at hl 5 rfl) ?_
          refine ro_callV 3 hx hb hml hown hts hl.1 hP hK 0 1 rfl rfl (As := [.int (nI k), .int (nI t), .int s9]) (rest := [.int (acc (fun j => if σ 8 j = b9 then tn_ σ j t s9 else 0) 0 k)]) (c_X1_tensionAt l D cI cZ h a σ τ H hI hR k t (by omega) ht48 s9 hs9) gX1_sumOn_X1_tensionAt rfl rfl rfl (by decide +kernel) ⟨Nat.le_of_ble_eq_true rfl, Nat.le_of_ble_eq_true rfl⟩ rfl rfl (Nat.le_of_ble_eq_true rfl) dX1_sumOn_33 ⟨Nat.zero_le _, Nat.zero_le _⟩ (fun r1 hr1 => ?_)
          subst hr1
          refine lv_goto (tgt := 40) hx hb dX1_sumOn_36 (by decide) ?_
          refine lv_iadd hx hb dX1_sumOn_40 ?_
          refine lv_istore (lv' := [(4, .int ((acc (fun j => if σ 8 j = b9 then tn_ σ j t s9 else 0) 0 k) + (tn_ σ k t s9))), (5, .int (nI k)), (0, .ref h), (1, .int b9), (2, .int (nI t)), (3, .int s9)]) hx hb dX1_sumOn_41 hl (by decide) rfl (fun ls hl => ?_)
          refine lv_iinc (v := (nI (k + 1))) (lv' := [(5, .int (nI (k + 1))), (4, .int ((acc (fun j => if σ 8 j = b9 then tn_ σ j t s9 else 0) 0 k) + (tn_ σ k t s9))), (0, .ref h), (1, .int b9), (2, .int (nI t)), (3, .int s9)]) hx hb dX1_sumOn_43 hl (k := 1) rfl (by exact nI_add _ 1) (by decide) rfl (fun ls hl => ?_)
          refine lv_goto (tgt := 6) hx hb dX1_sumOn_46 (by decide) ?_
          refine ih (k + 1) ls (by omega) (lv_sub hl [0, 1, 2, 3, 4, 5] ?_)
          have e9 : acc (fun j => if σ 8 j = b9 then tn_ σ j t s9 else 0) 0 (k + 1) = acc (fun j => if σ 8 j = b9 then tn_ σ j t s9 else 0) 0 k + tn_ σ k t s9 := by show acc (fun j => if σ 8 j = b9 then tn_ σ j t s9 else 0) 0 k + (if σ 8 k = b9 then tn_ σ k t s9 else 0) = _; rw [if_pos c25]
          rw [e9]; rfl
