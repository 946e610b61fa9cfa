/-! MoorWatch's face. -/
abbrev tN (v : Int32) : Nat := v.toNatClampNeg
theorem tN_nI {t : Nat} (h : t < 1000) : tN (nI t) = t := nI_clamp (by omega)
def ldF (f : Nat → Int32) (t : Nat) (v : Int32) (k : Nat) : Nat → Int32 := fun j => if t ≤ j ∧ j < k then v else f j
/-- the first hour that is not safe among n hours from t on -/
def fuR : Nat → St → Nat → Int32
  | 0, _, _ => -1
  | n + 1, σ, t => if safe_ σ t then fuR n σ (t + 1) else nI t
def mx0 (x : Int32) : Int32 := if 0 < x then x else 0
def nxF (σ : St) (j : Nat) : Int32 := if σ 13 j = 0 then 1 else 0
def abS (σ : St) (nB : Nat) (p lim : Int32) : St := st (st (st σ 5 (upd (σ 5) nB p)) 6 (upd (σ 6) nB lim)) 4 (fun _ => nI (nB + 1))
def alS (σ : St) (nL : Nat) (pt : Int32) (b : Int32) (sf sr : Int32) : St := st (st (st (st (st (st (st σ 8 (upd (σ 8) nL b)) 9 (upd (σ 9) nL (σ 5 (tN b) - pt))) 10 (upd (σ 10) nL sf)) 11 (upd (σ 11) nL sr)) 12 (upd (σ 12) nL (LENs (σ 5 (tN b) - pt) 300))) 13 (upd (σ 13) nL 1)) 7 (fun _ => nI (nL + 1))
def tdR (σ : St) (line hour slack : Int32) : Int32 := mx0 (len_ σ (tN line) (tN hour) (bal σ (tN hour)) + slack)
/-- what a call throws: by goes()'s number the class of that place -/
def xcp (K : Int32) (e1 e2 e3 : String) (E : String) : Prop := (K = 1 ∧ E = e1) ∨ (K = 2 ∧ E = e2) ∨ (K = 3 ∧ E = e3)
theorem nt {b : Bool} (h : ¬ b = true) : b = false := by cases b <;> simp_all
theorem gk1 {b1 b2 b3 : Bool} (h : b1 = false) : goK b1 b2 b3 = 1 := by rw [h]; rfl
theorem gk2 {b1 b2 b3 : Bool} (h1 : b1 = true) (h2 : b2 = false) : goK b1 b2 b3 = 2 := by rw [h1, h2]; rfl
theorem gk3 {b1 b2 b3 : Bool} (h1 : b1 = true) (h2 : b2 = true) (h3 : b3 = false) : goK b1 b2 b3 = 3 := by rw [h1, h2, h3]; rfl
theorem gk0 {b1 b2 b3 : Bool} (h1 : b1 = true) (h2 : b2 = true) (h3 : b3 = true) : goK b1 b2 b3 = 0 := by rw [h1, h2, h3]; rfl
theorem an1 {x y : Bool} (h : x = false) : (x && y) = false := by rw [h]; rfl
theorem an2 {x y : Bool} (h : y = false) : (x && y) = false := by rw [h]; exact Bool.and_false _
theorem ant {x y : Bool} (h1 : x = true) (h2 : y = true) : (x && y) = true := by rw [h1, h2]; rfl
theorem arr_eq {cA : ClassId} {n : Nat} {f g : Nat → Int32} (h : ∀ j, j < n → f j = g j) : vp_cell cA (n, .inl f) = vp_cell cA (n, .inl g) := by
  show arrV cA n (fun j => .int (f j)) = arrV cA n (fun j => .int (g j))
  unfold arrV
  congr 1
  apply Array.ext
  · simp
  · intro i h1 h2
    simp only [Array.getElem_ofFn]
    rw [h i (by simpa using h1)]
theorem va_P_cell {D : va_G} {W0 : va_W} {H : Heap} {i b : Nat} {cA : ClassId} {n : Nat} {f g : Nat → Int32} (hP : va_P D vwCl W0 H) (hi : W0[i]? = some (b, .inl (cA, n, .inl f))) (h : ∀ j, j < n → f j = g j) : va_P D vwCl (W0.set i (b, .inl (cA, n, .inl g))) H := by
  intro k q hk
  rcases Nat.decEq k i with e | e
  · rw [List.getElem?_set_ne (fun w => e w.symm)] at hk
    exact hP k q hk
  · subst e
    have hlt : k < W0.length := (List.getElem?_eq_some_iff.mp hi).1
    rw [List.getElem?_set_self hlt] at hk
    cases hk
    have h2 := hP k _ hi
    show H[b]? = some (vp_cell cA (n, .inl g))
    rw [← arr_eq h]
    exact h2
theorem ldF_up {f : Nat → Int32} {t k : Nat} {v : Int32} (h : t ≤ k) : upd (ldF f t v k) k v = ldF f t v (k + 1) := by
  funext j
  unfold upd ldF
  by_cases e : j = k
  · rw [if_pos e, if_pos ⟨by omega, by omega⟩]
  · rw [if_neg e]
    by_cases w : t ≤ j ∧ j < k
    · rw [if_pos w, if_pos ⟨w.1, by omega⟩]
    · rw [if_neg w, if_neg (fun q => w ⟨q.1, by omega⟩)]
theorem ldF_0 {f : Nat → Int32} {t : Nat} {v : Int32} : ldF f t v t = f := by
  funext j
  unfold ldF
  rw [if_neg (by omega)]
theorem st_ne {σ : St} {k j : Nat} {f : Nat → Int32} (h : j ≠ k) : st σ k f j = σ j := by
  show cond (Nat.beq j k) f (σ j) = σ j
  rw [show Nat.beq j k = false from Bool.eq_false_iff.mpr (fun q => h (Nat.eq_of_beq_eq_true q))]
  rfl
theorem st_eq {σ : St} {k : Nat} {f : Nat → Int32} : st σ k f k = f := by
  show cond (Nat.beq k k) f (σ k) = f
  rw [show Nat.beq k k = true from Nat.beq_refl k]
  rfl
theorem tdS_14 (σ : St) (g : Nat → Int32) (t : Nat) (s : Int32) : ∀ n : Nat, tdS (st σ 14 g) t s n = tdS σ t s n := by
  intro n
  induction n with
  | zero => rfl
  | succ n ih =>
    show (if σ 13 n = 0 then tdS (st σ 14 g) t s n else upd (tdS (st σ 14 g) t s n) n (len_ σ n t s)) = (if σ 13 n = 0 then tdS σ t s n else upd (tdS σ t s n) n (len_ σ n t s))
    rw [ih]
theorem tnd_14 (σ : St) (g : Nat → Int32) (t : Nat) : tnd (st σ 14 g) t = st (tnd σ t) 14 g := by
  funext k
  have e0 : tnd (st σ 14 g) t = st (st σ 14 g) 12 (tdS σ t (bal σ t) (nL_ σ)) := by
    show st (st σ 14 g) 12 (tdS (st σ 14 g) t (bal σ t) (nL_ σ)) = _
    rw [tdS_14]
  rw [e0]
  show st (st σ 14 g) 12 (tdS σ t (bal σ t) (nL_ σ)) k = st (st σ 12 (tdS σ t (bal σ t) (nL_ σ))) 14 g k
  by_cases e : k = 12
  · subst e; rw [st_eq, st_ne (by decide), st_eq]
  · rw [st_ne e]
    by_cases w : k = 14
    · subst w; rw [st_eq, st_eq]
    · rw [st_ne w, st_ne w, st_ne e]
theorem plR_14 (g : Nat → Int32) : ∀ (n : Nat) (σ : St) (t c : Nat), plR n (st σ 14 g) t c = plR n σ t c := by
  intro n
  induction n with
  | zero => intro σ t c; rfl
  | succ n ih =>
    intro σ t c
    show (if safe_ σ t = true then plR n (st σ 14 g) (t + 1) c else if safe_ (tnd (st σ 14 g) t) t = true then plR n (tnd (st σ 14 g) t) (t + 1) (c + 1) else -1) = (if safe_ σ t = true then plR n σ (t + 1) c else if safe_ (tnd σ t) t = true then plR n (tnd σ t) (t + 1) (c + 1) else -1)
    rw [ih, tnd_14, ih]
    rfl
set_option maxHeartbeats 4000000 in
set_option maxRecDepth 100000 in
/-- tendAll -/
theorem c_X0_tendAll (l : Launch) (hfl : l.stackTraces = false) (D : va_G) (cI cZ : ClassId) (h : Nat) (a : Nat → Nat) (σ : St) (Hi : Heap) (A : Nat → Prop) (hD : va_D A (xw cI cZ h a σ)) {nL nB : Nat} (hI : inv σ nL nB) (hour : Int32) : thM l yX0_tendAll wsX0_tendAll ({ frames := 7, cells := 1, slots := 6, locals := 143 }) [.ref h, .int hour] D (xw cI cZ h a σ) (tyX cI cZ) Hi A (S := St) (fun ρ => xw cI cZ h a ρ) (fun r ρ => goK (inR hour 0 47) true true = 0 ∧ r = tdC σ (tN hour) (bal σ (tN hour)) nL ∧ ρ = tnd σ (tN hour)) (xcp (goK (inR hour 0 47) true true) xE3 xE1 xE2) := by
  refine th_of (cc := cX0_tendAll) (maxL := 2) (ret := some .int) (by decide) rfl (Nat.le_of_ble_eq_true rfl) ?_
  intro p e s m args below meth c9 he hout hH hP hK hT ls hl
  obtain ⟨hx, hb, hr, hml, hown, hts, hlocks⟩ := he
  have hown : s.vm.findClass RX0 = some m.cls := hown
  have hS : va_S A Hi Hi [] := va_S.rf
  have hL : σ 7 0 = nI nL := hI.1
  have hL10 : nL ≤ 10 := hI.2.1
  have hB : σ 4 0 = nI nB := hI.2.2.1
  have hB6 : nB ≤ 6 := hI.2.2.2.1
  have hl : lv_has ls 2 [(0, .ref h), (1, .int hour)] := hl
  refine lv_iload_n hx hb dX0_tendAll_0 rfl (lv_at hl 1 rfl) ?_
  refine ck_callS 1 hx hb hml hown hts hlocks hout hl.1 hP hK hT (As := [.int hour]) (rest := []) (c_X0_checkHour l hfl D (xw cI cZ h a σ) (tyX cI cZ) Hi A hour) gX0_tendAll_X0_checkHour rfl rfl rfl (by decide +kernel) ⟨Nat.le_of_ble_eq_true rfl, Nat.le_of_ble_eq_true rfl⟩ rfl rfl (Nat.le_of_ble_eq_true rfl) dX0_tendAll_1 ⟨Nat.le_of_ble_eq_true rfl, Nat.le_of_ble_eq_true rfl⟩ (fun q => Or.inl ⟨gk1 (nt q), rfl⟩) (fun c1 => ?_)
  obtain ⟨t, ht48, rfl⟩ := inR_hour c1
  have et : tN (nI t) = t := tN_nI (by omega)
  refine lv_aload_n hx hb dX0_tendAll_4 rfl (lv_at hl 0 rfl) ?_
  refine lv_iload_n hx hb dX0_tendAll_5 rfl (lv_at hl 1 rfl) ?_
  refine wr_callV 1 hx hb hml hown hts hl.1 hP hK hS (fun _ h9 => h9) 0 0 rfl rfl (As := [.int (nI t)]) (rest := []) (c_X0_tendFastLines l D cI cZ h a σ Hi A hD hI t ht48) gX0_tendAll_X0_tendFastLines rfl rfl rfl (by decide +kernel) ⟨Nat.le_of_ble_eq_true rfl, Nat.le_of_ble_eq_true rfl⟩ rfl rfl (Nat.le_of_ble_eq_true rfl) dX0_tendAll_6 ⟨Nat.zero_le _, Nat.zero_le _⟩ (fun r1 u1 H locs hr1 hP hS _ _ => ?_)
  subst hr1
  exact th_ret (v := (tdC σ t (bal σ t) nL)) (tnd σ t) hx hb hr hlocks hH hS hP ⟨gk0 c1 rfl rfl, by rw [et], by rw [et]⟩ dX0_tendAll_9
set_option maxHeartbeats 4000000 in
set_option maxRecDepth 100000 in
/-- setTide -/
theorem c_X0_setTide (l : Launch) (hfl : l.stackTraces = false) (D : va_G) (cI cZ : ClassId) (h : Nat) (a : Nat → Nat) (σ : St) (Hi : Heap) (A : Nat → Prop) (hD : va_D A (xw cI cZ h a σ)) {nL nB : Nat} (hI : inv σ nL nB) (hour v : Int32) : thM l yX0_setTide wsX0_setTide ({ frames := 7, cells := 1, slots := 6, locals := 112 }) [.ref h, .int hour, .int v] D (xw cI cZ h a σ) (tyX cI cZ) Hi A (S := St) (fun ρ => xw cI cZ h a ρ) (fun r ρ => goK (inR hour 0 47) (inR v (-200) 200) true = 0 ∧ r = σ 0 (tN hour) ∧ ρ = st σ 0 (upd (σ 0) (tN hour) v)) (xcp (goK (inR hour 0 47) (inR v (-200) 200) true) xE3 xE1 xE2) := by
  refine th_of (cc := cX0_setTide) (maxL := 4) (ret := some .int) (by decide) rfl (Nat.le_of_ble_eq_true rfl) ?_
  intro p e s m args below meth c9 he hout hH hP hK hT ls hl
  obtain ⟨hx, hb, hr, hml, hown, hts, hlocks⟩ := he
  have hown : s.vm.findClass RX0 = some m.cls := hown
  have hS : va_S A Hi Hi [] := va_S.rf
  have hL : σ 7 0 = nI nL := hI.1
  have hL10 : nL ≤ 10 := hI.2.1
  have hB : σ 4 0 = nI nB := hI.2.2.1
  have hB6 : nB ≤ 6 := hI.2.2.2.1
  have hl : lv_has ls 4 [(0, .ref h), (1, .int hour), (2, .int v)] := hl
  have hin : ∀ w ∈ u_ws RX0 TX0 15, w ∈ wsX0_setTide := by decide +kernel
  refine lv_iload_n hx hb dX0_setTide_0 rfl (lv_at hl 1 rfl) ?_
  refine ck_callS 1 hx hb hml hown hts hlocks hout hl.1 hP hK hT (As := [.int hour]) (rest := []) (c_X0_checkHour l hfl D (xw cI cZ h a σ) (tyX cI cZ) Hi A hour) gX0_setTide_X0_checkHour rfl rfl rfl (by decide +kernel) ⟨Nat.le_of_ble_eq_true rfl, Nat.le_of_ble_eq_true rfl⟩ rfl rfl (Nat.le_of_ble_eq_true rfl) dX0_setTide_1 ⟨Nat.le_of_ble_eq_true rfl, Nat.le_of_ble_eq_true rfl⟩ (fun q => Or.inl ⟨gk1 (nt q), rfl⟩) (fun c1 => ?_)
  refine lv_iload_n hx hb dX0_setTide_4 rfl (lv_at hl 2 rfl) ?_
  refine lv_sipush (v := (-200)) hx hb dX0_setTide_5 (by decide) ?_
  refine lv_sipush (v := 200) hx hb dX0_setTide_8 (by decide) ?_
  refine ck_callS 3 hx hb hml hown hts hlocks hout hl.1 hP hK hT (As := [.int v, .int (-200), .int 200]) (rest := []) (c_X0_checkRange l hfl D (xw cI cZ h a σ) (tyX cI cZ) Hi A v (-200) 200) gX0_setTide_X0_checkRange rfl rfl rfl (by decide +kernel) ⟨Nat.le_of_ble_eq_true rfl, Nat.le_of_ble_eq_true rfl⟩ rfl rfl (Nat.le_of_ble_eq_true rfl) dX0_setTide_11 ⟨Nat.le_of_ble_eq_true rfl, Nat.le_of_ble_eq_true rfl⟩ (fun q => Or.inr (Or.inl ⟨gk2 c1 (nt q), rfl⟩)) (fun c2 => ?_)
  obtain ⟨t, ht48, rfl⟩ := inR_hour c1
  have et : tN (nI t) = t := tN_nI (by omega)
  refine lv_aload_n hx hb dX0_setTide_14 rfl (lv_at hl 0 rfl) ?_
  refine x_get hin hx hb hts hown hK hP rfl 0 (by decide) (v := .ref (a 0)) rfl (by decide +kernel) dX0_setTide_15 ?_
  refine lv_iload_n hx hb dX0_setTide_18 rfl (lv_at hl 1 rfl) ?_
  refine xa_ld hx hb hK hP 1 0 rfl rfl (j := t) ht48 (by decide) dX0_setTide_19 ?_
  refine lv_istore_n (lv' := [(3, .int (σ 0 t)), (0, .ref h), (1, .int (nI t)), (2, .int v)]) hx hb dX0_setTide_20 rfl hl (by decide) rfl (fun ls hl => ?_)
  refine lv_aload_n hx hb dX0_setTide_21 rfl (lv_at hl 1 rfl) ?_
  refine x_get hin hx hb hts hown hK hP rfl 0 (by decide) (v := .ref (a 0)) rfl (by decide +kernel) dX0_setTide_22 ?_
  refine lv_iload_n hx hb dX0_setTide_25 rfl (lv_at hl 2 rfl) ?_
  refine lv_iload_n hx hb dX0_setTide_26 rfl (lv_at hl 3 rfl) ?_
  refine xa_st hx hb hK hP hD hS 1 0 rfl rfl (j := t) ht48 (by decide) dX0_setTide_27 (fun H locs hP hD hS => ?_)
  have hP : va_P D vwCl (xw cI cZ h a (st σ 0 (upd (σ 0) t v))) H := hP
  have hD : va_D A (xw cI cZ h a (st σ 0 (upd (σ 0) t v))) := hD
  refine lv_iload_n hx hb dX0_setTide_28 rfl (lv_at hl 0 rfl) ?_
  exact th_ret (v := (σ 0 t)) (st σ 0 (upd (σ 0) t v)) hx hb hr hlocks hH hS hP ⟨gk0 c1 c2 rfl, by rw [et], by rw [et]⟩ dX0_setTide_29
set_option maxHeartbeats 4000000 in
set_option maxRecDepth 100000 in
/-- setPassing -/
theorem c_X0_setPassing (l : Launch) (hfl : l.stackTraces = false) (D : va_G) (cI cZ : ClassId) (h : Nat) (a : Nat → Nat) (σ : St) (Hi : Heap) (A : Nat → Prop) (hD : va_D A (xw cI cZ h a σ)) {nL nB : Nat} (hI : inv σ nL nB) (hour v : Int32) : thM l yX0_setPassing wsX0_setPassing ({ frames := 7, cells := 1, slots := 6, locals := 112 }) [.ref h, .int hour, .int v] D (xw cI cZ h a σ) (tyX cI cZ) Hi A (S := St) (fun ρ => xw cI cZ h a ρ) (fun r ρ => goK (inR hour 0 47) (inR v (-1000000) 1000000) true = 0 ∧ r = σ 2 (tN hour) ∧ ρ = st σ 2 (upd (σ 2) (tN hour) v)) (xcp (goK (inR hour 0 47) (inR v (-1000000) 1000000) true) xE3 xE1 xE2) := by
  refine th_of (cc := cX0_setPassing) (maxL := 4) (ret := some .int) (by decide) rfl (Nat.le_of_ble_eq_true rfl) ?_
  intro p e s m args below meth c9 he hout hH hP hK hT ls hl
  obtain ⟨hx, hb, hr, hml, hown, hts, hlocks⟩ := he
  have hown : s.vm.findClass RX0 = some m.cls := hown
  have hS : va_S A Hi Hi [] := va_S.rf
  have hL : σ 7 0 = nI nL := hI.1
  have hL10 : nL ≤ 10 := hI.2.1
  have hB : σ 4 0 = nI nB := hI.2.2.1
  have hB6 : nB ≤ 6 := hI.2.2.2.1
  have hl : lv_has ls 4 [(0, .ref h), (1, .int hour), (2, .int v)] := hl
  have hin : ∀ w ∈ u_ws RX0 TX0 15, w ∈ wsX0_setPassing := by decide +kernel
  refine lv_iload_n hx hb dX0_setPassing_0 rfl (lv_at hl 1 rfl) ?_
  refine ck_callS 1 hx hb hml hown hts hlocks hout hl.1 hP hK hT (As := [.int hour]) (rest := []) (c_X0_checkHour l hfl D (xw cI cZ h a σ) (tyX cI cZ) Hi A hour) gX0_setPassing_X0_checkHour rfl rfl rfl (by decide +kernel) ⟨Nat.le_of_ble_eq_true rfl, Nat.le_of_ble_eq_true rfl⟩ rfl rfl (Nat.le_of_ble_eq_true rfl) dX0_setPassing_1 ⟨Nat.le_of_ble_eq_true rfl, Nat.le_of_ble_eq_true rfl⟩ (fun q => Or.inl ⟨gk1 (nt q), rfl⟩) (fun c1 => ?_)
  refine lv_iload_n hx hb dX0_setPassing_4 rfl (lv_at hl 2 rfl) ?_
  refine lv_ldc (v := (-1000000)) hx hb hown (hts (.constant RX0 85 (-1000000)) (by decide +kernel)) dX0_setPassing_5 ?_
  refine lv_ldc (v := (1000000)) hx hb hown (hts (.constant RX0 61 (1000000)) (by decide +kernel)) dX0_setPassing_7 ?_
  refine ck_callS 3 hx hb hml hown hts hlocks hout hl.1 hP hK hT (As := [.int v, .int (-1000000), .int 1000000]) (rest := []) (c_X0_checkRange l hfl D (xw cI cZ h a σ) (tyX cI cZ) Hi A v (-1000000) 1000000) gX0_setPassing_X0_checkRange rfl rfl rfl (by decide +kernel) ⟨Nat.le_of_ble_eq_true rfl, Nat.le_of_ble_eq_true rfl⟩ rfl rfl (Nat.le_of_ble_eq_true rfl) dX0_setPassing_9 ⟨Nat.le_of_ble_eq_true rfl, Nat.le_of_ble_eq_true rfl⟩ (fun q => Or.inr (Or.inl ⟨gk2 c1 (nt q), rfl⟩)) (fun c2 => ?_)
  obtain ⟨t, ht48, rfl⟩ := inR_hour c1
  have et : tN (nI t) = t := tN_nI (by omega)
  refine lv_aload_n hx hb dX0_setPassing_12 rfl (lv_at hl 0 rfl) ?_
  refine x_get hin hx hb hts hown hK hP rfl 2 (by decide) (v := .ref (a 2)) rfl (by decide +kernel) dX0_setPassing_13 ?_
  refine lv_iload_n hx hb dX0_setPassing_16 rfl (lv_at hl 1 rfl) ?_
  refine xa_ld hx hb hK hP 3 0 rfl rfl (j := t) ht48 (by decide) dX0_setPassing_17 ?_
  refine lv_istore_n (lv' := [(3, .int (σ 2 t)), (0, .ref h), (1, .int (nI t)), (2, .int v)]) hx hb dX0_setPassing_18 rfl hl (by decide) rfl (fun ls hl => ?_)
  refine lv_aload_n hx hb dX0_setPassing_19 rfl (lv_at hl 1 rfl) ?_
  refine x_get hin hx hb hts hown hK hP rfl 2 (by decide) (v := .ref (a 2)) rfl (by decide +kernel) dX0_setPassing_20 ?_
  refine lv_iload_n hx hb dX0_setPassing_23 rfl (lv_at hl 2 rfl) ?_
  refine lv_iload_n hx hb dX0_setPassing_24 rfl (lv_at hl 3 rfl) ?_
  refine xa_st hx hb hK hP hD hS 3 0 rfl rfl (j := t) ht48 (by decide) dX0_setPassing_25 (fun H locs hP hD hS => ?_)
  have hP : va_P D vwCl (xw cI cZ h a (st σ 2 (upd (σ 2) t v))) H := hP
  have hD : va_D A (xw cI cZ h a (st σ 2 (upd (σ 2) t v))) := hD
  refine lv_iload_n hx hb dX0_setPassing_26 rfl (lv_at hl 0 rfl) ?_
  exact th_ret (v := (σ 2 t)) (st σ 2 (upd (σ 2) t v)) hx hb hr hlocks hH hS hP ⟨gk0 c1 c2 rfl, by rw [et], by rw [et]⟩ dX0_setPassing_27
set_option maxHeartbeats 4000000 in
set_option maxRecDepth 100000 in
/-- setWind -/
theorem c_X0_setWind (l : Launch) (hfl : l.stackTraces = false) (D : va_G) (cI cZ : ClassId) (h : Nat) (a : Nat → Nat) (σ : St) (Hi : Heap) (A : Nat → Prop) (hD : va_D A (xw cI cZ h a σ)) {nL nB : Nat} (hI : inv σ nL nB) (v : Int32) : thM l yX0_setWind wsX0_setWind ({ frames := 7, cells := 1, slots := 6, locals := 112 }) [.ref h, .int v] D (xw cI cZ h a σ) (tyX cI cZ) Hi A (S := St) (fun ρ => xw cI cZ h a ρ) (fun r ρ => goK (inR v (-1000000) 1000000) true true = 0 ∧ r = σ 3 0 ∧ ρ = st σ 3 (fun _ => v)) (xcp (goK (inR v (-1000000) 1000000) true true) xE1 xE2 xE3) := by
  refine th_of (cc := cX0_setWind) (maxL := 3) (ret := some .int) (by decide) rfl (Nat.le_of_ble_eq_true rfl) ?_
  intro p e s m args below meth c9 he hout hH hP hK hT ls hl
  obtain ⟨hx, hb, hr, hml, hown, hts, hlocks⟩ := he
  have hown : s.vm.findClass RX0 = some m.cls := hown
  have hS : va_S A Hi Hi [] := va_S.rf
  have hL : σ 7 0 = nI nL := hI.1
  have hL10 : nL ≤ 10 := hI.2.1
  have hB : σ 4 0 = nI nB := hI.2.2.1
  have hB6 : nB ≤ 6 := hI.2.2.2.1
  have hl : lv_has ls 3 [(0, .ref h), (1, .int v)] := hl
  have hin : ∀ w ∈ u_ws RX0 TX0 15, w ∈ wsX0_setWind := by decide +kernel
  refine lv_iload_n hx hb dX0_setWind_0 rfl (lv_at hl 1 rfl) ?_
  refine lv_ldc (v := (-1000000)) hx hb hown (hts (.constant RX0 85 (-1000000)) (by decide +kernel)) dX0_setWind_1 ?_
  refine lv_ldc (v := (1000000)) hx hb hown (hts (.constant RX0 61 (1000000)) (by decide +kernel)) dX0_setWind_3 ?_
  refine ck_callS 3 hx hb hml hown hts hlocks hout hl.1 hP hK hT (As := [.int v, .int (-1000000), .int 1000000]) (rest := []) (c_X0_checkRange l hfl D (xw cI cZ h a σ) (tyX cI cZ) Hi A v (-1000000) 1000000) gX0_setWind_X0_checkRange rfl rfl rfl (by decide +kernel) ⟨Nat.le_of_ble_eq_true rfl, Nat.le_of_ble_eq_true rfl⟩ rfl rfl (Nat.le_of_ble_eq_true rfl) dX0_setWind_5 ⟨Nat.le_of_ble_eq_true rfl, Nat.le_of_ble_eq_true rfl⟩ (fun q => Or.inl ⟨gk1 (nt q), rfl⟩) (fun c1 => ?_)
  refine lv_aload_n hx hb dX0_setWind_8 rfl (lv_at hl 0 rfl) ?_
  refine x_get hin hx hb hts hown hK hP rfl 3 (by decide) (v := .int (σ 3 0)) rfl (by decide +kernel) dX0_setWind_9 ?_
  refine lv_istore_n (lv' := [(2, .int (σ 3 0)), (0, .ref h), (1, .int v)]) hx hb dX0_setWind_12 rfl hl (by decide) rfl (fun ls hl => ?_)
  refine lv_aload_n hx hb dX0_setWind_13 rfl (lv_at hl 1 rfl) ?_
  refine lv_iload_n hx hb dX0_setWind_14 rfl (lv_at hl 2 rfl) ?_
  refine x_put hin hx hb hts hown hK hP hD hS rfl 3 (by decide) (by decide +kernel) rfl (by decide +kernel) (Nat.le_of_ble_eq_true rfl) dX0_setWind_15 (fun H locs hP hD hS => ?_)
  have hP : va_P D vwCl (xw cI cZ h a (st σ 3 (fun _ => v))) H := hP
  have hD : va_D A (xw cI cZ h a (st σ 3 (fun _ => v))) := hD
  refine lv_iload_n hx hb dX0_setWind_18 rfl (lv_at hl 0 rfl) ?_
  exact th_ret (v := (σ 3 0)) (st σ 3 (fun _ => v)) hx hb hr hlocks hH hS hP ⟨gk0 c1 rfl rfl, rfl, rfl⟩ dX0_setWind_19
set_option maxHeartbeats 4000000 in
set_option maxRecDepth 100000 in
/-- setLoad -/
theorem c_X0_setLoad (l : Launch) (hfl : l.stackTraces = false) (D : va_G) (cI cZ : ClassId) (h : Nat) (a : Nat → Nat) (σ : St) (Hi : Heap) (A : Nat → Prop) (hD : va_D A (xw cI cZ h a σ)) {nL nB : Nat} (hI : inv σ nL nB) (hour v : Int32) : thM l yX0_setLoad wsX0_setLoad ({ frames := 7, cells := 1, slots := 6, locals := 112 }) [.ref h, .int hour, .int v] D (xw cI cZ h a σ) (tyX cI cZ) Hi A (S := St) (fun ρ => xw cI cZ h a ρ) (fun r ρ => goK (inR hour 0 47) (inR v (-200) 200) true = 0 ∧ r = σ 1 (tN hour) ∧ ρ = st σ 1 (ldF (σ 1) (tN hour) v 48)) (xcp (goK (inR hour 0 47) (inR v (-200) 200) true) xE3 xE1 xE2) := by
  refine th_of (cc := cX0_setLoad) (maxL := 5) (ret := some .int) (by decide) rfl (Nat.le_of_ble_eq_true rfl) ?_
  intro p e s m args below meth c9 he hout hH hP hK hT ls hl
  obtain ⟨hx, hb, hr, hml, hown, hts, hlocks⟩ := he
  have hown : s.vm.findClass RX0 = some m.cls := hown
  have hS : va_S A Hi Hi [] := va_S.rf
  have hL : σ 7 0 = nI nL := hI.1
  have hL10 : nL ≤ 10 := hI.2.1
  have hB : σ 4 0 = nI nB := hI.2.2.1
  have hB6 : nB ≤ 6 := hI.2.2.2.1
  have hl : lv_has ls 5 [(0, .ref h), (1, .int hour), (2, .int v)] := hl
  have hin : ∀ w ∈ u_ws RX0 TX0 15, w ∈ wsX0_setLoad := by decide +kernel
  refine lv_iload_n hx hb dX0_setLoad_0 rfl (lv_at hl 1 rfl) ?_
  refine ck_callS 1 hx hb hml hown hts hlocks hout hl.1 hP hK hT (As := [.int hour]) (rest := []) (c_X0_checkHour l hfl D (xw cI cZ h a σ) (tyX cI cZ) Hi A hour) gX0_setLoad_X0_checkHour rfl rfl rfl (by decide +kernel) ⟨Nat.le_of_ble_eq_true rfl, Nat.le_of_ble_eq_true rfl⟩ rfl rfl (Nat.le_of_ble_eq_true rfl) dX0_setLoad_1 ⟨Nat.le_of_ble_eq_true rfl, Nat.le_of_ble_eq_true rfl⟩ (fun q => Or.inl ⟨gk1 (nt q), rfl⟩) (fun c1 => ?_)
  refine lv_iload_n hx hb dX0_setLoad_4 rfl (lv_at hl 2 rfl) ?_
  refine lv_sipush (v := (-200)) hx hb dX0_setLoad_5 (by decide) ?_
  refine lv_sipush (v := 200) hx hb dX0_setLoad_8 (by decide) ?_
  refine ck_callS 3 hx hb hml hown hts hlocks hout hl.1 hP hK hT (As := [.int v, .int (-200), .int 200]) (rest := []) (c_X0_checkRange l hfl D (xw cI cZ h a σ) (tyX cI cZ) Hi A v (-200) 200) gX0_setLoad_X0_checkRange rfl rfl rfl (by decide +kernel) ⟨Nat.le_of_ble_eq_true rfl, Nat.le_of_ble_eq_true rfl⟩ rfl rfl (Nat.le_of_ble_eq_true rfl) dX0_setLoad_11 ⟨Nat.le_of_ble_eq_true rfl, Nat.le_of_ble_eq_true rfl⟩ (fun q => Or.inr (Or.inl ⟨gk2 c1 (nt q), rfl⟩)) (fun c2 => ?_)
  obtain ⟨t, ht48, rfl⟩ := inR_hour c1
  have et : tN (nI t) = t := tN_nI (by omega)
  refine lv_aload_n hx hb dX0_setLoad_14 rfl (lv_at hl 0 rfl) ?_
  refine x_get hin hx hb hts hown hK hP rfl 1 (by decide) (v := .ref (a 1)) rfl (by decide +kernel) dX0_setLoad_15 ?_
  refine lv_iload_n hx hb dX0_setLoad_18 rfl (lv_at hl 1 rfl) ?_
  refine xa_ld hx hb hK hP 2 0 rfl rfl (j := t) ht48 (by decide) dX0_setLoad_19 ?_
  refine lv_istore_n (lv' := [(3, .int (σ 1 t)), (0, .ref h), (1, .int (nI t)), (2, .int v)]) hx hb dX0_setLoad_20 rfl hl (by decide) rfl (fun ls hl => ?_)
  refine lv_iload_n hx hb dX0_setLoad_21 rfl (lv_at hl 2 rfl) ?_
  refine lv_istore (lv' := [(4, .int (nI t)), (3, .int (σ 1 t)), (0, .ref h), (1, .int (nI t)), (2, .int v)]) hx hb dX0_setLoad_22 hl (by decide) rfl (fun ls hl => ?_)
  suffices K : ∀ (n k : Nat) (H : Heap) (locs : List Loc) (ls : Array Slot), k + n = 48 → t ≤ k → va_P D vwCl (xw cI cZ h a (st σ 1 (ldF (σ 1) t v k))) H → va_S A Hi H locs → lv_has ls 5 [(4, .int (nI k)), (3, .int (σ 1 t)), (0, .ref h), (1, .int (nI t)), (2, .int v)] → W p l e _ s m args below meth c9 H locs 0 0 (thQ below D Hi A (S := St) (fun ρ => xw cI cZ h a ρ) (fun r ρ => goK (inR (nI t) 0 47) (inR v (-200) 200) true = 0 ∧ r = σ 1 (tN (nI t)) ∧ ρ = st σ 1 (ldF (σ 1) (tN (nI t)) v 48)) (xcp (goK (inR (nI t) 0 47) (inR v (-200) 200) true) xE3 xE1 xE2) args s) (F0 m 24 ls []) by
    exact K (48 - t) t Hi [] ls (by omega) (Nat.le_refl _) (by rw [ldF_0]; exact hP) hS (lv_sub hl [0, 1, 2, 3, 4] rfl)
  intro n
  induction n with
  | zero =>
      intro k H locs ls hk htk hP hS hl
      refine lv_iload hx hb dX0_setLoad_24 (lv_at hl 0 rfl) ?_
      refine lv_bipush (v := 48) hx hb dX0_setLoad_26 (by decide) ?_
      refine lv_icmp_ge (tgt := 45) hx hb dX0_setLoad_28 (by decide) (fun c28 => ?_) (fun c28 => ?_)
      · rw [show k = 48 by omega] at hP
        refine lv_iload_n hx hb dX0_setLoad_45 rfl (lv_at hl 1 rfl) ?_
        exact th_ret (v := (σ 1 t)) (st σ 1 (ldF (σ 1) t v 48)) hx hb hr hlocks hH hS hP ⟨gk0 c1 c2 rfl, by rw [et], by rw [et]⟩ dX0_setLoad_46
      · exact absurd (nI_le (a := 48) (b := k) (by omega) (by omega)) c28
  | succ n ih =>
      intro k H locs ls hk htk hP hS hl
      have hD : va_D A (xw cI cZ h a (st σ 1 (ldF (σ 1) t v k))) := xD hD
      refine lv_iload hx hb dX0_setLoad_24 (lv_at hl 0 rfl) ?_
      refine lv_bipush (v := 48) hx hb dX0_setLoad_26 (by decide) ?_
      refine lv_icmp_ge (tgt := 45) hx hb dX0_setLoad_28 (by decide) (fun c28 => ?_) (fun c28 => ?_)
      · exact absurd c28 (nI_ge (a := k) (b := 48) (by omega) (by omega))
      · refine lv_aload_n hx hb dX0_setLoad_31 rfl (lv_at hl 2 rfl) ?_
        refine x_get hin hx hb hts hown hK hP rfl 1 (by decide) (v := .ref (a 1)) rfl (by decide +kernel) dX0_setLoad_32 ?_
        refine lv_iload hx hb dX0_setLoad_35 (lv_at hl 0 rfl) ?_
        refine lv_iload_n hx hb dX0_setLoad_37 rfl (lv_at hl 4 rfl) ?_
        refine xa_st hx hb hK hP hD hS 2 0 rfl rfl (j := k) (by omega) (by decide) dX0_setLoad_38 (fun H locs hP hD hS => ?_)
        have hP : va_P D vwCl (xw cI cZ h a (st (st σ 1 (ldF (σ 1) t v k)) 1 (upd ((st σ 1 (ldF (σ 1) t v k)) 1) k v))) H := hP
        have hD : va_D A (xw cI cZ h a (st (st σ 1 (ldF (σ 1) t v k)) 1 (upd ((st σ 1 (ldF (σ 1) t v k)) 1) k v))) := hD
        have hP : va_P D vwCl (xw cI cZ h a (st σ 1 (ldF (σ 1) t v (k + 1)))) H := by rw [← ldF_up htk]; exact hP
        refine lv_iinc (v := (nI (k + 1))) (lv' := [(4, .int (nI (k + 1))), (3, .int (σ 1 t)), (0, .ref h), (1, .int (nI t)), (2, .int v)]) hx hb dX0_setLoad_39 hl (k := 0) rfl (by exact nI_add _ 1) (by decide) rfl (fun ls hl => ?_)
        refine lv_goto (tgt := 24) hx hb dX0_setLoad_42 (by decide) ?_
        exact ih (k + 1) H locs ls (by omega) (by omega) hP hS (lv_sub hl [0, 1, 2, 3, 4] rfl)
set_option maxHeartbeats 4000000 in
set_option maxRecDepth 100000 in
/-- toggle -/
theorem c_X0_toggle (l : Launch) (hfl : l.stackTraces = false) (D : va_G) (cI cZ : ClassId) (h : Nat) (a : Nat → Nat) (σ : St) (Hi : Heap) (A : Nat → Prop) (hD : va_D A (xw cI cZ h a σ)) {nL nB : Nat} (hI : inv σ nL nB) (line : Int32) : thM l yX0_toggle wsX0_toggle ({ frames := 7, cells := 1, slots := 6, locals := 111 }) [.ref h, .int line] D (xw cI cZ h a σ) (tyX cI cZ) Hi A (S := St) (fun ρ => xw cI cZ h a ρ) (fun r ρ => goK (inR line 0 (nI nL - 1)) true true = 0 ∧ r = nxF σ (tN line) ∧ ρ = st σ 13 (upd (σ 13) (tN line) (nxF σ (tN line)))) (xcp (goK (inR line 0 (nI nL - 1)) true true) xE3 xE1 xE2) := by
  refine th_of (cc := cX0_toggle) (maxL := 2) (ret := some .boolean) (by decide) rfl (Nat.le_of_ble_eq_true rfl) ?_
  intro p e s m args below meth c9 he hout hH hP hK hT ls hl
  obtain ⟨hx, hb, hr, hml, hown, hts, hlocks⟩ := he
  have hown : s.vm.findClass RX0 = some m.cls := hown
  have hS : va_S A Hi Hi [] := va_S.rf
  have hL : σ 7 0 = nI nL := hI.1
  have hL10 : nL ≤ 10 := hI.2.1
  have hB : σ 4 0 = nI nB := hI.2.2.1
  have hB6 : nB ≤ 6 := hI.2.2.2.1
  have hl : lv_has ls 2 [(0, .ref h), (1, .int line)] := hl
  have hin : ∀ w ∈ u_ws RX0 TX0 15, w ∈ wsX0_toggle := by decide +kernel
  refine lv_aload_n hx hb dX0_toggle_0 rfl (lv_at hl 0 rfl) ?_
  refine lv_iload_n hx hb dX0_toggle_1 rfl (lv_at hl 1 rfl) ?_
  refine ck_callV 1 hx hb hml hown hts hlocks hout hl.1 hP hK hT 0 0 rfl rfl (As := [.int line]) (rest := []) (c_X0_checkLine l hfl D cI cZ h a σ Hi A hI line) gX0_toggle_X0_checkLine rfl rfl rfl (by decide +kernel) ⟨Nat.le_of_ble_eq_true rfl, Nat.le_of_ble_eq_true rfl⟩ rfl rfl (Nat.le_of_ble_eq_true rfl) dX0_toggle_2 ⟨Nat.le_of_ble_eq_true rfl, Nat.le_of_ble_eq_true rfl⟩ (fun q => Or.inl ⟨gk1 (nt q), rfl⟩) (fun c1 => ?_)
  obtain ⟨j, hj, rfl⟩ := inR_line (by omega) c1
  have ej : tN (nI j) = j := tN_nI (by omega)
  refine lv_aload_n hx hb dX0_toggle_5 rfl (lv_at hl 0 rfl) ?_
  refine x_get hin hx hb hts hown hK hP rfl 13 (by decide) (v := .ref (a 13)) rfl (by decide +kernel) dX0_toggle_6 ?_
  refine lv_iload_n hx hb dX0_toggle_9 rfl (lv_at hl 1 rfl) ?_
  refine lv_aload_n hx hb dX0_toggle_10 rfl (lv_at hl 0 rfl) ?_
  refine x_get hin hx hb hts hown hK hP rfl 13 (by decide) (v := .ref (a 13)) rfl (by decide +kernel) dX0_toggle_11 ?_
  refine lv_iload_n hx hb dX0_toggle_14 rfl (lv_at hl 1 rfl) ?_
  refine xa_zld hx hb hK hP 11 1 rfl rfl (j := j) (by omega) (by decide) dX0_toggle_15 ?_
  refine lv_if_ne (tgt := 23) hx hb dX0_toggle_16 (by decide) (fun c16 => ?_) (fun c16 => ?_)
  · refine lv_iconst (v := 0) hx hb dX0_toggle_23 (by decide) ?_
    refine lv_topi (fun y9 e9 => ?_)
    rw [show y9 = (nxF σ j) from e9.trans (by unfold nxF; rw [if_neg c16])]
    refine xa_zst hx hb hK hP hD hS 11 1 rfl rfl (j := j) (by unfold nxF; rw [if_neg c16]; rfl) (by omega) (by decide) dX0_toggle_24 (fun H locs hP hD hS => ?_)
    have hP : va_P D vwCl (xw cI cZ h a (st σ 13 (upd (σ 13) j (nxF σ j)))) H := hP
    have hD : va_D A (xw cI cZ h a (st σ 13 (upd (σ 13) j (nxF σ j)))) := hD
    refine lv_aload_n hx hb dX0_toggle_25 rfl (lv_at hl 0 rfl) ?_
    refine x_get hin hx hb hts hown hK hP rfl 13 (by decide) (v := .ref (a 13)) rfl (by decide +kernel) dX0_toggle_26 ?_
    refine lv_iload_n hx hb dX0_toggle_29 rfl (lv_at hl 1 rfl) ?_
    refine xa_zld hx hb hK hP 11 1 rfl rfl (j := j) (by omega) (by decide) dX0_toggle_30 ?_
    rw [show (st σ 13 (upd (σ 13) j (nxF σ j))) 13 j = (nxF σ j) from by show (if j = j then _ else _) = _; rw [if_pos rfl]]
    exact th_zret (v := (nxF σ j)) (st σ 13 (upd (σ 13) j (nxF σ j))) hx hb hr hlocks hH hS hP (by unfold nxF; rw [if_neg c16]; exact ⟨false, rfl⟩) ⟨gk0 c1 rfl rfl, by rw [ej], by rw [ej]⟩ dX0_toggle_31
  · refine lv_iconst (v := 1) hx hb dX0_toggle_19 (by decide) ?_
    refine lv_goto (tgt := 24) hx hb dX0_toggle_20 (by decide) ?_
    refine lv_topi (fun y9 e9 => ?_)
    rw [show y9 = (nxF σ j) from e9.trans (by unfold nxF; rw [if_pos c16])]
    refine xa_zst hx hb hK hP hD hS 11 1 rfl rfl (j := j) (by unfold nxF; rw [if_pos c16]; rfl) (by omega) (by decide) dX0_toggle_24 (fun H locs hP hD hS => ?_)
    have hP : va_P D vwCl (xw cI cZ h a (st σ 13 (upd (σ 13) j (nxF σ j)))) H := hP
    have hD : va_D A (xw cI cZ h a (st σ 13 (upd (σ 13) j (nxF σ j)))) := hD
    refine lv_aload_n hx hb dX0_toggle_25 rfl (lv_at hl 0 rfl) ?_
    refine x_get hin hx hb hts hown hK hP rfl 13 (by decide) (v := .ref (a 13)) rfl (by decide +kernel) dX0_toggle_26 ?_
    refine lv_iload_n hx hb dX0_toggle_29 rfl (lv_at hl 1 rfl) ?_
    refine xa_zld hx hb hK hP 11 1 rfl rfl (j := j) (by omega) (by decide) dX0_toggle_30 ?_
    rw [show (st σ 13 (upd (σ 13) j (nxF σ j))) 13 j = (nxF σ j) from by show (if j = j then _ else _) = _; rw [if_pos rfl]]
    exact th_zret (v := (nxF σ j)) (st σ 13 (upd (σ 13) j (nxF σ j))) hx hb hr hlocks hH hS hP (by unfold nxF; rw [if_pos c16]; exact ⟨true, rfl⟩) ⟨gk0 c1 rfl rfl, by rw [ej], by rw [ej]⟩ dX0_toggle_31
set_option maxHeartbeats 4000000 in
set_option maxRecDepth 100000 in
/-- addBollard -/
theorem c_X0_addBollard (l : Launch) (hfl : l.stackTraces = false) (D : va_G) (cI cZ : ClassId) (h : Nat) (a : Nat → Nat) (σ : St) (Hi : Heap) (A : Nat → Prop) (hD : va_D A (xw cI cZ h a σ)) {nL nB : Nat} (hI : inv σ nL nB) (pl lim : Int32) : thM l yX0_addBollard wsX0_addBollard ({ frames := 7, cells := 1, slots := 6, locals := 112 }) [.ref h, .int pl, .int lim] D (xw cI cZ h a σ) (tyX cI cZ) Hi A (S := St) (fun ρ => xw cI cZ h a ρ) (fun r ρ => goK (inR pl (-5000) 5000 && inR lim 1 1000000) (decide (nB < 6)) true = 0 ∧ r = nI nB ∧ ρ = abS σ nB pl lim) (xcp (goK (inR pl (-5000) 5000 && inR lim 1 1000000) (decide (nB < 6)) true) xE1 xE2 xE3) := by
  refine th_of (cc := cX0_addBollard) (maxL := 4) (ret := some .int) (by decide) rfl (Nat.le_of_ble_eq_true rfl) ?_
  intro p e s m args below meth c9 he hout hH hP hK hT ls hl
  obtain ⟨hx, hb, hr, hml, hown, hts, hlocks⟩ := he
  have hown : s.vm.findClass RX0 = some m.cls := hown
  have hS : va_S A Hi Hi [] := va_S.rf
  have hL : σ 7 0 = nI nL := hI.1
  have hL10 : nL ≤ 10 := hI.2.1
  have hB : σ 4 0 = nI nB := hI.2.2.1
  have hB6 : nB ≤ 6 := hI.2.2.2.1
  have hl : lv_has ls 4 [(0, .ref h), (1, .int pl), (2, .int lim)] := hl
  have hin : ∀ w ∈ u_ws RX0 TX0 15, w ∈ wsX0_addBollard := by decide +kernel
  refine lv_iload_n hx hb dX0_addBollard_0 rfl (lv_at hl 1 rfl) ?_
  refine lv_sipush (v := (-5000)) hx hb dX0_addBollard_1 (by decide) ?_
  refine lv_sipush (v := 5000) hx hb dX0_addBollard_4 (by decide) ?_
  refine ck_callS 3 hx hb hml hown hts hlocks hout hl.1 hP hK hT (As := [.int pl, .int (-5000), .int 5000]) (rest := []) (c_X0_checkRange l hfl D (xw cI cZ h a σ) (tyX cI cZ) Hi A pl (-5000) 5000) gX0_addBollard_X0_checkRange rfl rfl rfl (by decide +kernel) ⟨Nat.le_of_ble_eq_true rfl, Nat.le_of_ble_eq_true rfl⟩ rfl rfl (Nat.le_of_ble_eq_true rfl) dX0_addBollard_7 ⟨Nat.le_of_ble_eq_true rfl, Nat.le_of_ble_eq_true rfl⟩ (fun q => Or.inl ⟨gk1 (an1 (nt q)), rfl⟩) (fun c1 => ?_)
  refine lv_iload_n hx hb dX0_addBollard_10 rfl (lv_at hl 2 rfl) ?_
  refine lv_iconst (v := 1) hx hb dX0_addBollard_11 (by decide) ?_
  refine lv_ldc (v := (1000000)) hx hb hown (hts (.constant RX0 61 (1000000)) (by decide +kernel)) dX0_addBollard_12 ?_
  refine ck_callS 3 hx hb hml hown hts hlocks hout hl.1 hP hK hT (As := [.int lim, .int 1, .int 1000000]) (rest := []) (c_X0_checkRange l hfl D (xw cI cZ h a σ) (tyX cI cZ) Hi A lim 1 1000000) gX0_addBollard_X0_checkRange rfl rfl rfl (by decide +kernel) ⟨Nat.le_of_ble_eq_true rfl, Nat.le_of_ble_eq_true rfl⟩ rfl rfl (Nat.le_of_ble_eq_true rfl) dX0_addBollard_14 ⟨Nat.le_of_ble_eq_true rfl, Nat.le_of_ble_eq_true rfl⟩ (fun q => Or.inl ⟨gk1 (an2 (nt q)), rfl⟩) (fun c2 => ?_)
  refine lv_aload_n hx hb dX0_addBollard_17 rfl (lv_at hl 0 rfl) ?_
  refine x_get hin hx hb hts hown hK hP rfl 4 (by decide) (v := .int (nI nB)) (congrArg (fun z => some (Value.int z)) hB) (by decide +kernel) dX0_addBollard_18 ?_
  refine lv_bipush (v := 6) hx hb dX0_addBollard_21 (by decide) ?_
  refine lv_icmp_lt (tgt := 36) hx hb dX0_addBollard_23 (by decide) (fun c23 => ?_) (fun c23 => ?_)
  · have hlt : nB < 6 := (nI_ltI (a := nB) (b := 6) (by omega) (by omega)).mp c23
    refine lv_aload_n hx hb dX0_addBollard_36 rfl (lv_at hl 0 rfl) ?_
    refine x_get hin hx hb hts hown hK hP rfl 4 (by decide) (v := .int (nI nB)) (congrArg (fun z => some (Value.int z)) hB) (by decide +kernel) dX0_addBollard_37 ?_
    refine lv_istore_n (lv' := [(3, .int (nI nB)), (0, .ref h), (1, .int pl), (2, .int lim)]) hx hb dX0_addBollard_40 rfl hl (by decide) rfl (fun ls hl => ?_)
    refine lv_aload_n hx hb dX0_addBollard_41 rfl (lv_at hl 1 rfl) ?_
    refine x_get hin hx hb hts hown hK hP rfl 5 (by decide) (v := .ref (a 5)) rfl (by decide +kernel) dX0_addBollard_42 ?_
    refine lv_iload_n hx hb dX0_addBollard_45 rfl (lv_at hl 0 rfl) ?_
    refine lv_iload_n hx hb dX0_addBollard_46 rfl (lv_at hl 2 rfl) ?_
    refine xa_st hx hb hK hP hD hS 4 0 rfl rfl (j := nB) hlt (by decide) dX0_addBollard_47 (fun H locs hP hD hS => ?_)
    have hP : va_P D vwCl (xw cI cZ h a (st σ 5 (upd (σ 5) nB pl))) H := hP
    have hD : va_D A (xw cI cZ h a (st σ 5 (upd (σ 5) nB pl))) := hD
    refine lv_aload_n hx hb dX0_addBollard_48 rfl (lv_at hl 1 rfl) ?_
    refine x_get hin hx hb hts hown hK hP rfl 6 (by decide) (v := .ref (a 6)) rfl (by decide +kernel) dX0_addBollard_49 ?_
    refine lv_iload_n hx hb dX0_addBollard_52 rfl (lv_at hl 0 rfl) ?_
    refine lv_iload_n hx hb dX0_addBollard_53 rfl (lv_at hl 3 rfl) ?_
    refine xa_st hx hb hK hP hD hS 5 0 rfl rfl (j := nB) hlt (by decide) dX0_addBollard_54 (fun H locs hP hD hS => ?_)
    have hP : va_P D vwCl (xw cI cZ h a (st (st σ 5 (upd (σ 5) nB pl)) 6 (upd ((st σ 5 (upd (σ 5) nB pl)) 6) nB lim))) H := hP
    have hD : va_D A (xw cI cZ h a (st (st σ 5 (upd (σ 5) nB pl)) 6 (upd ((st σ 5 (upd (σ 5) nB pl)) 6) nB lim))) := hD
    refine lv_aload_n hx hb dX0_addBollard_55 rfl (lv_at hl 1 rfl) ?_
    refine lv_iload_n hx hb dX0_addBollard_56 rfl (lv_at hl 0 rfl) ?_
    refine lv_iconst (v := 1) hx hb dX0_addBollard_57 (by decide) ?_
    refine lv_iadd hx hb dX0_addBollard_58 ?_
    rw [nI_1]
    refine x_put hin hx hb hts hown hK hP hD hS rfl 4 (by decide) (by decide +kernel) rfl (by decide +kernel) (Nat.le_of_ble_eq_true rfl) dX0_addBollard_59 (fun H locs hP hD hS => ?_)
    have hP : va_P D vwCl (xw cI cZ h a (st (st (st σ 5 (upd (σ 5) nB pl)) 6 (upd ((st σ 5 (upd (σ 5) nB pl)) 6) nB lim)) 4 (fun _ => (nI (nB + 1))))) H := hP
    have hD : va_D A (xw cI cZ h a (st (st (st σ 5 (upd (σ 5) nB pl)) 6 (upd ((st σ 5 (upd (σ 5) nB pl)) 6) nB lim)) 4 (fun _ => (nI (nB + 1))))) := hD
    refine lv_iload_n hx hb dX0_addBollard_62 rfl (lv_at hl 0 rfl) ?_
    exact th_ret (v := (nI nB)) (abS σ nB pl lim) hx hb hr hlocks hH hS hP ⟨gk0 (ant c1 c2) (decide_eq_true hlt) rfl, rfl, rfl⟩ dX0_addBollard_63
  · obtain ⟨sa, hsa⟩ := hT.2.1.1
    exact thr_go (A := A) (cls := xE2) (ik := 62) (ic := 66) hfl hx hb hown hlocks hout (by rw [hml]; exact hl.1) hH (by decide +kernel) (hts (.classLink RX0 62 xE2) (by decide +kernel)) (hts (.initialized xE2) (by decide +kernel)) hsa (fun w hw => hts w ((show ∀ w ∈ (vx_atS RX0 66 xE2 xNs).filter goodWord, w ∈ wsX0_addBollard by decide +kernel) w hw)) xh2 (xb2 hT.2) xg2 hT.1 dX0_addBollard_26 dX0_addBollard_29 dX0_addBollard_30 dX0_addBollard_32 dX0_addBollard_35 (Nat.le_of_ble_eq_true rfl) (Nat.le_of_ble_eq_true rfl) (Nat.le_of_ble_eq_true rfl) (Nat.le_of_ble_eq_true rfl) (fun t hgr => ⟨Or.inr (Or.inl ⟨gk2 (ant c1 c2) (decide_eq_false (fun w => c23 ((nI_ltI (a := nB) (b := 6) (by omega) (by omega)).mpr w))), rfl⟩), hgr⟩)
set_option maxHeartbeats 4000000 in
set_option maxRecDepth 100000 in
/-- addLine -/
theorem c_X0_addLine (l : Launch) (hfl : l.stackTraces = false) (D : va_G) (cI cZ : ClassId) (h : Nat) (a : Nat → Nat) (σ : St) (Hi : Heap) (A : Nat → Prop) (hD : va_D A (xw cI cZ h a σ)) {nL nB : Nat} (hI : inv σ nL nB) (pt bo sf sr : Int32) : thM l yX0_addLine wsX0_addLine ({ frames := 7, cells := 1, slots := 6, locals := 112 }) [.ref h, .int pt, .int bo, .int sf, .int sr] D (xw cI cZ h a σ) (tyX cI cZ) Hi A (S := St) (fun ρ => xw cI cZ h a ρ) (fun r ρ => goK (inR bo 0 (nI nB - 1)) (inR pt (-5000) 5000 && (inR sf 1 100 && inR sr 1 1000000)) (decide (nL < 10)) = 0 ∧ r = nI nL ∧ ρ = alS σ nL pt bo sf sr) (xcp (goK (inR bo 0 (nI nB - 1)) (inR pt (-5000) 5000 && (inR sf 1 100 && inR sr 1 1000000)) (decide (nL < 10))) xE3 xE1 xE2) := by
  refine th_of (cc := cX0_addLine) (maxL := 7) (ret := some .int) (by decide) rfl (Nat.le_of_ble_eq_true rfl) ?_
  intro p e s m args below meth c9 he hout hH hP hK hT ls hl
  obtain ⟨hx, hb, hr, hml, hown, hts, hlocks⟩ := he
  have hown : s.vm.findClass RX0 = some m.cls := hown
  have hS : va_S A Hi Hi [] := va_S.rf
  have hL : σ 7 0 = nI nL := hI.1
  have hL10 : nL ≤ 10 := hI.2.1
  have hB : σ 4 0 = nI nB := hI.2.2.1
  have hB6 : nB ≤ 6 := hI.2.2.2.1
  have hl : lv_has ls 7 [(0, .ref h), (1, .int pt), (2, .int bo), (3, .int sf), (4, .int sr)] := hl
  have hin : ∀ w ∈ u_ws RX0 TX0 15, w ∈ wsX0_addLine := by decide +kernel
  refine lv_aload_n hx hb dX0_addLine_0 rfl (lv_at hl 0 rfl) ?_
  refine lv_iload_n hx hb dX0_addLine_1 rfl (lv_at hl 2 rfl) ?_
  refine ck_callV 1 hx hb hml hown hts hlocks hout hl.1 hP hK hT 0 0 rfl rfl (As := [.int bo]) (rest := []) (c_X0_checkBollard l hfl D cI cZ h a σ Hi A hI bo) gX0_addLine_X0_checkBollard rfl rfl rfl (by decide +kernel) ⟨Nat.le_of_ble_eq_true rfl, Nat.le_of_ble_eq_true rfl⟩ rfl rfl (Nat.le_of_ble_eq_true rfl) dX0_addLine_2 ⟨Nat.le_of_ble_eq_true rfl, Nat.le_of_ble_eq_true rfl⟩ (fun q => Or.inl ⟨gk1 (nt q), rfl⟩) (fun c1 => ?_)
  refine lv_iload_n hx hb dX0_addLine_5 rfl (lv_at hl 1 rfl) ?_
  refine lv_sipush (v := (-5000)) hx hb dX0_addLine_6 (by decide) ?_
  refine lv_sipush (v := 5000) hx hb dX0_addLine_9 (by decide) ?_
  refine ck_callS 3 hx hb hml hown hts hlocks hout hl.1 hP hK hT (As := [.int pt, .int (-5000), .int 5000]) (rest := []) (c_X0_checkRange l hfl D (xw cI cZ h a σ) (tyX cI cZ) Hi A pt (-5000) 5000) gX0_addLine_X0_checkRange rfl rfl rfl (by decide +kernel) ⟨Nat.le_of_ble_eq_true rfl, Nat.le_of_ble_eq_true rfl⟩ rfl rfl (Nat.le_of_ble_eq_true rfl) dX0_addLine_12 ⟨Nat.le_of_ble_eq_true rfl, Nat.le_of_ble_eq_true rfl⟩ (fun q => Or.inr (Or.inl ⟨gk2 c1 (an1 (nt q)), rfl⟩)) (fun c2 => ?_)
  refine lv_iload_n hx hb dX0_addLine_15 rfl (lv_at hl 3 rfl) ?_
  refine lv_iconst (v := 1) hx hb dX0_addLine_16 (by decide) ?_
  refine lv_bipush (v := 100) hx hb dX0_addLine_17 (by decide) ?_
  refine ck_callS 3 hx hb hml hown hts hlocks hout hl.1 hP hK hT (As := [.int sf, .int 1, .int 100]) (rest := []) (c_X0_checkRange l hfl D (xw cI cZ h a σ) (tyX cI cZ) Hi A sf 1 100) gX0_addLine_X0_checkRange rfl rfl rfl (by decide +kernel) ⟨Nat.le_of_ble_eq_true rfl, Nat.le_of_ble_eq_true rfl⟩ rfl rfl (Nat.le_of_ble_eq_true rfl) dX0_addLine_19 ⟨Nat.le_of_ble_eq_true rfl, Nat.le_of_ble_eq_true rfl⟩ (fun q => Or.inr (Or.inl ⟨gk2 c1 (an2 (an1 (nt q))), rfl⟩)) (fun c3 => ?_)
  refine lv_iload hx hb dX0_addLine_22 (lv_at hl 4 rfl) ?_
  refine lv_iconst (v := 1) hx hb dX0_addLine_24 (by decide) ?_
  refine lv_ldc (v := (1000000)) hx hb hown (hts (.constant RX0 61 (1000000)) (by decide +kernel)) dX0_addLine_25 ?_
  refine ck_callS 3 hx hb hml hown hts hlocks hout hl.1 hP hK hT (As := [.int sr, .int 1, .int 1000000]) (rest := []) (c_X0_checkRange l hfl D (xw cI cZ h a σ) (tyX cI cZ) Hi A sr 1 1000000) gX0_addLine_X0_checkRange rfl rfl rfl (by decide +kernel) ⟨Nat.le_of_ble_eq_true rfl, Nat.le_of_ble_eq_true rfl⟩ rfl rfl (Nat.le_of_ble_eq_true rfl) dX0_addLine_27 ⟨Nat.le_of_ble_eq_true rfl, Nat.le_of_ble_eq_true rfl⟩ (fun q => Or.inr (Or.inl ⟨gk2 c1 (an2 (an2 (nt q))), rfl⟩)) (fun c4 => ?_)
  refine lv_aload_n hx hb dX0_addLine_30 rfl (lv_at hl 0 rfl) ?_
  refine x_get hin hx hb hts hown hK hP rfl 7 (by decide) (v := .int (nI nL)) (congrArg (fun z => some (Value.int z)) hL) (by decide +kernel) dX0_addLine_31 ?_
  refine lv_bipush (v := 10) hx hb dX0_addLine_34 (by decide) ?_
  refine lv_icmp_lt (tgt := 49) hx hb dX0_addLine_36 (by decide) (fun c36 => ?_) (fun c36 => ?_)
  · have hlt : nL < 10 := (nI_ltI (a := nL) (b := 10) (by omega) (by omega)).mp c36
    obtain ⟨b, hb_, rfl⟩ := inR_line (by omega) c1
    have eb : tN (nI b) = b := tN_nI (by omega)
    refine lv_aload_n hx hb dX0_addLine_49 rfl (lv_at hl 0 rfl) ?_
    refine x_get hin hx hb hts hown hK hP rfl 7 (by decide) (v := .int (nI nL)) (congrArg (fun z => some (Value.int z)) hL) (by decide +kernel) dX0_addLine_50 ?_
    refine lv_istore (lv' := [(5, .int (nI nL)), (0, .ref h), (1, .int pt), (2, .int (nI b)), (3, .int sf), (4, .int sr)]) hx hb dX0_addLine_53 hl (by decide) rfl (fun ls hl => ?_)
    refine lv_aload_n hx hb dX0_addLine_55 rfl (lv_at hl 1 rfl) ?_
    refine x_get hin hx hb hts hown hK hP rfl 5 (by decide) (v := .ref (a 5)) rfl (by decide +kernel) dX0_addLine_56 ?_
    refine lv_iload_n hx hb dX0_addLine_59 rfl (lv_at hl 3 rfl) ?_
    refine xa_ld hx hb hK hP 4 0 rfl rfl (j := b) (by omega) (by decide) dX0_addLine_60 ?_
    refine lv_iload_n hx hb dX0_addLine_61 rfl (lv_at hl 2 rfl) ?_
    refine lv_isub hx hb dX0_addLine_62 ?_
    refine lv_istore (lv' := [(6, .int ((σ 5 b) - pt)), (5, .int (nI nL)), (0, .ref h), (1, .int pt), (2, .int (nI b)), (3, .int sf), (4, .int sr)]) hx hb dX0_addLine_63 hl (by decide) rfl (fun ls hl => ?_)
    refine lv_aload_n hx hb dX0_addLine_65 rfl (lv_at hl 2 rfl) ?_
    refine x_get hin hx hb hts hown hK hP rfl 8 (by decide) (v := .ref (a 8)) rfl (by decide +kernel) dX0_addLine_66 ?_
    refine lv_iload hx hb dX0_addLine_69 (lv_at hl 1 rfl) ?_
    refine lv_iload_n hx hb dX0_addLine_71 rfl (lv_at hl 4 rfl) ?_
    refine xa_st hx hb hK hP hD hS 6 0 rfl rfl (j := nL) hlt (by decide) dX0_addLine_72 (fun H locs hP hD hS => ?_)
    have hP : va_P D vwCl (xw cI cZ h a (st σ 8 (upd (σ 8) nL (nI b)))) H := hP
    have hD : va_D A (xw cI cZ h a (st σ 8 (upd (σ 8) nL (nI b)))) := hD
    refine lv_aload_n hx hb dX0_addLine_73 rfl (lv_at hl 2 rfl) ?_
    refine x_get hin hx hb hts hown hK hP rfl 9 (by decide) (v := .ref (a 9)) rfl (by decide +kernel) dX0_addLine_74 ?_
    refine lv_iload hx hb dX0_addLine_77 (lv_at hl 1 rfl) ?_
    refine lv_iload hx hb dX0_addLine_79 (lv_at hl 0 rfl) ?_
    refine xa_st hx hb hK hP hD hS 7 0 rfl rfl (j := nL) hlt (by decide) dX0_addLine_81 (fun H locs hP hD hS => ?_)
    have hP : va_P D vwCl (xw cI cZ h a (st (st σ 8 (upd (σ 8) nL (nI b))) 9 (upd ((st σ 8 (upd (σ 8) nL (nI b))) 9) nL ((σ 5 b) - pt)))) H := hP
    have hD : va_D A (xw cI cZ h a (st (st σ 8 (upd (σ 8) nL (nI b))) 9 (upd ((st σ 8 (upd (σ 8) nL (nI b))) 9) nL ((σ 5 b) - pt)))) := hD
    refine lv_aload_n hx hb dX0_addLine_82 rfl (lv_at hl 2 rfl) ?_
    refine x_get hin hx hb hts hown hK hP rfl 10 (by decide) (v := .ref (a 10)) rfl (by decide +kernel) dX0_addLine_83 ?_
    refine lv_iload hx hb dX0_addLine_86 (lv_at hl 1 rfl) ?_
    refine lv_iload_n hx hb dX0_addLine_88 rfl (lv_at hl 5 rfl) ?_
    refine xa_st hx hb hK hP hD hS 8 0 rfl rfl (j := nL) hlt (by decide) dX0_addLine_89 (fun H locs hP hD hS => ?_)
    have hP : va_P D vwCl (xw cI cZ h a (st (st (st σ 8 (upd (σ 8) nL (nI b))) 9 (upd ((st σ 8 (upd (σ 8) nL (nI b))) 9) nL ((σ 5 b) - pt))) 10 (upd ((st (st σ 8 (upd (σ 8) nL (nI b))) 9 (upd ((st σ 8 (upd (σ 8) nL (nI b))) 9) nL ((σ 5 b) - pt))) 10) nL sf))) H := hP
    have hD : va_D A (xw cI cZ h a (st (st (st σ 8 (upd (σ 8) nL (nI b))) 9 (upd ((st σ 8 (upd (σ 8) nL (nI b))) 9) nL ((σ 5 b) - pt))) 10 (upd ((st (st σ 8 (upd (σ 8) nL (nI b))) 9 (upd ((st σ 8 (upd (σ 8) nL (nI b))) 9) nL ((σ 5 b) - pt))) 10) nL sf))) := hD
    refine lv_aload_n hx hb dX0_addLine_90 rfl (lv_at hl 2 rfl) ?_
    refine x_get hin hx hb hts hown hK hP rfl 11 (by decide) (v := .ref (a 11)) rfl (by decide +kernel) dX0_addLine_91 ?_
    refine lv_iload hx hb dX0_addLine_94 (lv_at hl 1 rfl) ?_
    refine lv_iload hx hb dX0_addLine_96 (lv_at hl 6 rfl) ?_
    refine xa_st hx hb hK hP hD hS 9 0 rfl rfl (j := nL) hlt (by decide) dX0_addLine_98 (fun H locs hP hD hS => ?_)
    have hP : va_P D vwCl (xw cI cZ h a (st (st (st (st σ 8 (upd (σ 8) nL (nI b))) 9 (upd ((st σ 8 (upd (σ 8) nL (nI b))) 9) nL ((σ 5 b) - pt))) 10 (upd ((st (st σ 8 (upd (σ 8) nL (nI b))) 9 (upd ((st σ 8 (upd (σ 8) nL (nI b))) 9) nL ((σ 5 b) - pt))) 10) nL sf)) 11 (upd ((st (st (st σ 8 (upd (σ 8) nL (nI b))) 9 (upd ((st σ 8 (upd (σ 8) nL (nI b))) 9) nL ((σ 5 b) - pt))) 10 (upd ((st (st σ 8 (upd (σ 8) nL (nI b))) 9 (upd ((st σ 8 (upd (σ 8) nL (nI b))) 9) nL ((σ 5 b) - pt))) 10) nL sf)) 11) nL sr))) H := hP
    have hD : va_D A (xw cI cZ h a (st (st (st (st σ 8 (upd (σ 8) nL (nI b))) 9 (upd ((st σ 8 (upd (σ 8) nL (nI b))) 9) nL ((σ 5 b) - pt))) 10 (upd ((st (st σ 8 (upd (σ 8) nL (nI b))) 9 (upd ((st σ 8 (upd (σ 8) nL (nI b))) 9) nL ((σ 5 b) - pt))) 10) nL sf)) 11 (upd ((st (st (st σ 8 (upd (σ 8) nL (nI b))) 9 (upd ((st σ 8 (upd (σ 8) nL (nI b))) 9) nL ((σ 5 b) - pt))) 10 (upd ((st (st σ 8 (upd (σ 8) nL (nI b))) 9 (upd ((st σ 8 (upd (σ 8) nL (nI b))) 9) nL ((σ 5 b) - pt))) 10) nL sf)) 11) nL sr))) := hD
    refine lv_aload_n hx hb dX0_addLine_99 rfl (lv_at hl 2 rfl) ?_
    refine x_get hin hx hb hts hown hK hP rfl 12 (by decide) (v := .ref (a 12)) rfl (by decide +kernel) dX0_addLine_100 ?_
    refine lv_iload hx hb dX0_addLine_103 (lv_at hl 1 rfl) ?_
    refine lv_iload hx hb dX0_addLine_105 (lv_at hl 0 rfl) ?_
    refine lv_sipush (v := 300) hx hb dX0_addLine_107 (by decide) ?_
    obtain ⟨p1, p2⟩ := hI.2.2.2.2.2.1 b hb_
    obtain ⟨q1, q2⟩ := inR_sp c2
    have e5 : (-5000 : Int32).toInt = -5000 := rfl
    have e6 : (5000 : Int32).toInt = 5000 := rfl
    have e7 : (300 : Int32).toInt = 300 := rfl
    have hA_ : inA (σ 5 b - pt) := by unfold inA; rw [Jvm.Kit.i32_sub (by omega) (by omega)]; omega
    have hH_ : inH 300 := by unfold inH; rw [e7]; omega
    refine ro_callS 2 hx hb hml hown hts hl.1 hP hK (As := [.int ((σ 5 b) - pt), .int 300]) (rest := [.int (nI nL), .ref (a 12)]) (c_X0_lengthOver l D (xw cI cZ h a (st (st (st (st σ 8 (upd (σ 8) nL (nI b))) 9 (upd ((st σ 8 (upd (σ 8) nL (nI b))) 9) nL ((σ 5 b) - pt))) 10 (upd ((st (st σ 8 (upd (σ 8) nL (nI b))) 9 (upd ((st σ 8 (upd (σ 8) nL (nI b))) 9) nL ((σ 5 b) - pt))) 10) nL sf)) 11 (upd ((st (st (st σ 8 (upd (σ 8) nL (nI b))) 9 (upd ((st σ 8 (upd (σ 8) nL (nI b))) 9) nL ((σ 5 b) - pt))) 10 (upd ((st (st σ 8 (upd (σ 8) nL (nI b))) 9 (upd ((st σ 8 (upd (σ 8) nL (nI b))) 9) nL ((σ 5 b) - pt))) 10) nL sf)) 11) nL sr))) (tyX cI cZ) H (σ 5 b - pt) 300 hA_ hH_) gX0_addLine_X0_lengthOver rfl rfl rfl (by decide +kernel) ⟨Nat.le_of_ble_eq_true rfl, Nat.le_of_ble_eq_true rfl⟩ rfl rfl (Nat.le_of_ble_eq_true rfl) dX0_addLine_110 ⟨Nat.zero_le _, Nat.zero_le _⟩ (fun r1 hr1 => ?_)
    subst hr1
    refine xa_st hx hb hK hP hD hS 10 0 rfl rfl (j := nL) hlt (by decide) dX0_addLine_113 (fun H locs hP hD hS => ?_)
    have hP : va_P D vwCl (xw cI cZ h a (st (st (st (st (st σ 8 (upd (σ 8) nL (nI b))) 9 (upd ((st σ 8 (upd (σ 8) nL (nI b))) 9) nL ((σ 5 b) - pt))) 10 (upd ((st (st σ 8 (upd (σ 8) nL (nI b))) 9 (upd ((st σ 8 (upd (σ 8) nL (nI b))) 9) nL ((σ 5 b) - pt))) 10) nL sf)) 11 (upd ((st (st (st σ 8 (upd (σ 8) nL (nI b))) 9 (upd ((st σ 8 (upd (σ 8) nL (nI b))) 9) nL ((σ 5 b) - pt))) 10 (upd ((st (st σ 8 (upd (σ 8) nL (nI b))) 9 (upd ((st σ 8 (upd (σ 8) nL (nI b))) 9) nL ((σ 5 b) - pt))) 10) nL sf)) 11) nL sr)) 12 (upd ((st (st (st (st σ 8 (upd (σ 8) nL (nI b))) 9 (upd ((st σ 8 (upd (σ 8) nL (nI b))) 9) nL ((σ 5 b) - pt))) 10 (upd ((st (st σ 8 (upd (σ 8) nL (nI b))) 9 (upd ((st σ 8 (upd (σ 8) nL (nI b))) 9) nL ((σ 5 b) - pt))) 10) nL sf)) 11 (upd ((st (st (st σ 8 (upd (σ 8) nL (nI b))) 9 (upd ((st σ 8 (upd (σ 8) nL (nI b))) 9) nL ((σ 5 b) - pt))) 10 (upd ((st (st σ 8 (upd (σ 8) nL (nI b))) 9 (upd ((st σ 8 (upd (σ 8) nL (nI b))) 9) nL ((σ 5 b) - pt))) 10) nL sf)) 11) nL sr)) 12) nL (LENs (σ 5 b - pt) 300)))) H := hP
    have hD : va_D A (xw cI cZ h a (st (st (st (st (st σ 8 (upd (σ 8) nL (nI b))) 9 (upd ((st σ 8 (upd (σ 8) nL (nI b))) 9) nL ((σ 5 b) - pt))) 10 (upd ((st (st σ 8 (upd (σ 8) nL (nI b))) 9 (upd ((st σ 8 (upd (σ 8) nL (nI b))) 9) nL ((σ 5 b) - pt))) 10) nL sf)) 11 (upd ((st (st (st σ 8 (upd (σ 8) nL (nI b))) 9 (upd ((st σ 8 (upd (σ 8) nL (nI b))) 9) nL ((σ 5 b) - pt))) 10 (upd ((st (st σ 8 (upd (σ 8) nL (nI b))) 9 (upd ((st σ 8 (upd (σ 8) nL (nI b))) 9) nL ((σ 5 b) - pt))) 10) nL sf)) 11) nL sr)) 12 (upd ((st (st (st (st σ 8 (upd (σ 8) nL (nI b))) 9 (upd ((st σ 8 (upd (σ 8) nL (nI b))) 9) nL ((σ 5 b) - pt))) 10 (upd ((st (st σ 8 (upd (σ 8) nL (nI b))) 9 (upd ((st σ 8 (upd (σ 8) nL (nI b))) 9) nL ((σ 5 b) - pt))) 10) nL sf)) 11 (upd ((st (st (st σ 8 (upd (σ 8) nL (nI b))) 9 (upd ((st σ 8 (upd (σ 8) nL (nI b))) 9) nL ((σ 5 b) - pt))) 10 (upd ((st (st σ 8 (upd (σ 8) nL (nI b))) 9 (upd ((st σ 8 (upd (σ 8) nL (nI b))) 9) nL ((σ 5 b) - pt))) 10) nL sf)) 11) nL sr)) 12) nL (LENs (σ 5 b - pt) 300)))) := hD
    refine lv_aload_n hx hb dX0_addLine_114 rfl (lv_at hl 2 rfl) ?_
    refine x_get hin hx hb hts hown hK hP rfl 13 (by decide) (v := .ref (a 13)) rfl (by decide +kernel) dX0_addLine_115 ?_
    refine lv_iload hx hb dX0_addLine_118 (lv_at hl 1 rfl) ?_
    refine lv_iconst (v := 1) hx hb dX0_addLine_120 (by decide) ?_
    refine xa_zst hx hb hK hP hD hS 11 1 rfl rfl (j := nL) rfl hlt (by decide) dX0_addLine_121 (fun H locs hP hD hS => ?_)
    have hP : va_P D vwCl (xw cI cZ h a (st (st (st (st (st (st σ 8 (upd (σ 8) nL (nI b))) 9 (upd ((st σ 8 (upd (σ 8) nL (nI b))) 9) nL ((σ 5 b) - pt))) 10 (upd ((st (st σ 8 (upd (σ 8) nL (nI b))) 9 (upd ((st σ 8 (upd (σ 8) nL (nI b))) 9) nL ((σ 5 b) - pt))) 10) nL sf)) 11 (upd ((st (st (st σ 8 (upd (σ 8) nL (nI b))) 9 (upd ((st σ 8 (upd (σ 8) nL (nI b))) 9) nL ((σ 5 b) - pt))) 10 (upd ((st (st σ 8 (upd (σ 8) nL (nI b))) 9 (upd ((st σ 8 (upd (σ 8) nL (nI b))) 9) nL ((σ 5 b) - pt))) 10) nL sf)) 11) nL sr)) 12 (upd ((st (st (st (st σ 8 (upd (σ 8) nL (nI b))) 9 (upd ((st σ 8 (upd (σ 8) nL (nI b))) 9) nL ((σ 5 b) - pt))) 10 (upd ((st (st σ 8 (upd (σ 8) nL (nI b))) 9 (upd ((st σ 8 (upd (σ 8) nL (nI b))) 9) nL ((σ 5 b) - pt))) 10) nL sf)) 11 (upd ((st (st (st σ 8 (upd (σ 8) nL (nI b))) 9 (upd ((st σ 8 (upd (σ 8) nL (nI b))) 9) nL ((σ 5 b) - pt))) 10 (upd ((st (st σ 8 (upd (σ 8) nL (nI b))) 9 (upd ((st σ 8 (upd (σ 8) nL (nI b))) 9) nL ((σ 5 b) - pt))) 10) nL sf)) 11) nL sr)) 12) nL (LENs (σ 5 b - pt) 300))) 13 (upd ((st (st (st (st (st σ 8 (upd (σ 8) nL (nI b))) 9 (upd ((st σ 8 (upd (σ 8) nL (nI b))) 9) nL ((σ 5 b) - pt))) 10 (upd ((st (st σ 8 (upd (σ 8) nL (nI b))) 9 (upd ((st σ 8 (upd (σ 8) nL (nI b))) 9) nL ((σ 5 b) - pt))) 10) nL sf)) 11 (upd ((st (st (st σ 8 (upd (σ 8) nL (nI b))) 9 (upd ((st σ 8 (upd (σ 8) nL (nI b))) 9) nL ((σ 5 b) - pt))) 10 (upd ((st (st σ 8 (upd (σ 8) nL (nI b))) 9 (upd ((st σ 8 (upd (σ 8) nL (nI b))) 9) nL ((σ 5 b) - pt))) 10) nL sf)) 11) nL sr)) 12 (upd ((st (st (st (st σ 8 (upd (σ 8) nL (nI b))) 9 (upd ((st σ 8 (upd (σ 8) nL (nI b))) 9) nL ((σ 5 b) - pt))) 10 (upd ((st (st σ 8 (upd (σ 8) nL (nI b))) 9 (upd ((st σ 8 (upd (σ 8) nL (nI b))) 9) nL ((σ 5 b) - pt))) 10) nL sf)) 11 (upd ((st (st (st σ 8 (upd (σ 8) nL (nI b))) 9 (upd ((st σ 8 (upd (σ 8) nL (nI b))) 9) nL ((σ 5 b) - pt))) 10 (upd ((st (st σ 8 (upd (σ 8) nL (nI b))) 9 (upd ((st σ 8 (upd (σ 8) nL (nI b))) 9) nL ((σ 5 b) - pt))) 10) nL sf)) 11) nL sr)) 12) nL (LENs (σ 5 b - pt) 300))) 13) nL 1))) H := hP
    have hD : va_D A (xw cI cZ h a (st (st (st (st (st (st σ 8 (upd (σ 8) nL (nI b))) 9 (upd ((st σ 8 (upd (σ 8) nL (nI b))) 9) nL ((σ 5 b) - pt))) 10 (upd ((st (st σ 8 (upd (σ 8) nL (nI b))) 9 (upd ((st σ 8 (upd (σ 8) nL (nI b))) 9) nL ((σ 5 b) - pt))) 10) nL sf)) 11 (upd ((st (st (st σ 8 (upd (σ 8) nL (nI b))) 9 (upd ((st σ 8 (upd (σ 8) nL (nI b))) 9) nL ((σ 5 b) - pt))) 10 (upd ((st (st σ 8 (upd (σ 8) nL (nI b))) 9 (upd ((st σ 8 (upd (σ 8) nL (nI b))) 9) nL ((σ 5 b) - pt))) 10) nL sf)) 11) nL sr)) 12 (upd ((st (st (st (st σ 8 (upd (σ 8) nL (nI b))) 9 (upd ((st σ 8 (upd (σ 8) nL (nI b))) 9) nL ((σ 5 b) - pt))) 10 (upd ((st (st σ 8 (upd (σ 8) nL (nI b))) 9 (upd ((st σ 8 (upd (σ 8) nL (nI b))) 9) nL ((σ 5 b) - pt))) 10) nL sf)) 11 (upd ((st (st (st σ 8 (upd (σ 8) nL (nI b))) 9 (upd ((st σ 8 (upd (σ 8) nL (nI b))) 9) nL ((σ 5 b) - pt))) 10 (upd ((st (st σ 8 (upd (σ 8) nL (nI b))) 9 (upd ((st σ 8 (upd (σ 8) nL (nI b))) 9) nL ((σ 5 b) - pt))) 10) nL sf)) 11) nL sr)) 12) nL (LENs (σ 5 b - pt) 300))) 13 (upd ((st (st (st (st (st σ 8 (upd (σ 8) nL (nI b))) 9 (upd ((st σ 8 (upd (σ 8) nL (nI b))) 9) nL ((σ 5 b) - pt))) 10 (upd ((st (st σ 8 (upd (σ 8) nL (nI b))) 9 (upd ((st σ 8 (upd (σ 8) nL (nI b))) 9) nL ((σ 5 b) - pt))) 10) nL sf)) 11 (upd ((st (st (st σ 8 (upd (σ 8) nL (nI b))) 9 (upd ((st σ 8 (upd (σ 8) nL (nI b))) 9) nL ((σ 5 b) - pt))) 10 (upd ((st (st σ 8 (upd (σ 8) nL (nI b))) 9 (upd ((st σ 8 (upd (σ 8) nL (nI b))) 9) nL ((σ 5 b) - pt))) 10) nL sf)) 11) nL sr)) 12 (upd ((st (st (st (st σ 8 (upd (σ 8) nL (nI b))) 9 (upd ((st σ 8 (upd (σ 8) nL (nI b))) 9) nL ((σ 5 b) - pt))) 10 (upd ((st (st σ 8 (upd (σ 8) nL (nI b))) 9 (upd ((st σ 8 (upd (σ 8) nL (nI b))) 9) nL ((σ 5 b) - pt))) 10) nL sf)) 11 (upd ((st (st (st σ 8 (upd (σ 8) nL (nI b))) 9 (upd ((st σ 8 (upd (σ 8) nL (nI b))) 9) nL ((σ 5 b) - pt))) 10 (upd ((st (st σ 8 (upd (σ 8) nL (nI b))) 9 (upd ((st σ 8 (upd (σ 8) nL (nI b))) 9) nL ((σ 5 b) - pt))) 10) nL sf)) 11) nL sr)) 12) nL (LENs (σ 5 b - pt) 300))) 13) nL 1))) := hD
    refine lv_aload_n hx hb dX0_addLine_122 rfl (lv_at hl 2 rfl) ?_
    refine lv_iload hx hb dX0_addLine_123 (lv_at hl 1 rfl) ?_
    refine lv_iconst (v := 1) hx hb dX0_addLine_125 (by decide) ?_
    refine lv_iadd hx hb dX0_addLine_126 ?_
    rw [nI_1]
    refine x_put hin hx hb hts hown hK hP hD hS rfl 7 (by decide) (by decide +kernel) rfl (by decide +kernel) (Nat.le_of_ble_eq_true rfl) dX0_addLine_127 (fun H locs hP hD hS => ?_)
    have hP : va_P D vwCl (xw cI cZ h a (st (st (st (st (st (st (st σ 8 (upd (σ 8) nL (nI b))) 9 (upd ((st σ 8 (upd (σ 8) nL (nI b))) 9) nL ((σ 5 b) - pt))) 10 (upd ((st (st σ 8 (upd (σ 8) nL (nI b))) 9 (upd ((st σ 8 (upd (σ 8) nL (nI b))) 9) nL ((σ 5 b) - pt))) 10) nL sf)) 11 (upd ((st (st (st σ 8 (upd (σ 8) nL (nI b))) 9 (upd ((st σ 8 (upd (σ 8) nL (nI b))) 9) nL ((σ 5 b) - pt))) 10 (upd ((st (st σ 8 (upd (σ 8) nL (nI b))) 9 (upd ((st σ 8 (upd (σ 8) nL (nI b))) 9) nL ((σ 5 b) - pt))) 10) nL sf)) 11) nL sr)) 12 (upd ((st (st (st (st σ 8 (upd (σ 8) nL (nI b))) 9 (upd ((st σ 8 (upd (σ 8) nL (nI b))) 9) nL ((σ 5 b) - pt))) 10 (upd ((st (st σ 8 (upd (σ 8) nL (nI b))) 9 (upd ((st σ 8 (upd (σ 8) nL (nI b))) 9) nL ((σ 5 b) - pt))) 10) nL sf)) 11 (upd ((st (st (st σ 8 (upd (σ 8) nL (nI b))) 9 (upd ((st σ 8 (upd (σ 8) nL (nI b))) 9) nL ((σ 5 b) - pt))) 10 (upd ((st (st σ 8 (upd (σ 8) nL (nI b))) 9 (upd ((st σ 8 (upd (σ 8) nL (nI b))) 9) nL ((σ 5 b) - pt))) 10) nL sf)) 11) nL sr)) 12) nL (LENs (σ 5 b - pt) 300))) 13 (upd ((st (st (st (st (st σ 8 (upd (σ 8) nL (nI b))) 9 (upd ((st σ 8 (upd (σ 8) nL (nI b))) 9) nL ((σ 5 b) - pt))) 10 (upd ((st (st σ 8 (upd (σ 8) nL (nI b))) 9 (upd ((st σ 8 (upd (σ 8) nL (nI b))) 9) nL ((σ 5 b) - pt))) 10) nL sf)) 11 (upd ((st (st (st σ 8 (upd (σ 8) nL (nI b))) 9 (upd ((st σ 8 (upd (σ 8) nL (nI b))) 9) nL ((σ 5 b) - pt))) 10 (upd ((st (st σ 8 (upd (σ 8) nL (nI b))) 9 (upd ((st σ 8 (upd (σ 8) nL (nI b))) 9) nL ((σ 5 b) - pt))) 10) nL sf)) 11) nL sr)) 12 (upd ((st (st (st (st σ 8 (upd (σ 8) nL (nI b))) 9 (upd ((st σ 8 (upd (σ 8) nL (nI b))) 9) nL ((σ 5 b) - pt))) 10 (upd ((st (st σ 8 (upd (σ 8) nL (nI b))) 9 (upd ((st σ 8 (upd (σ 8) nL (nI b))) 9) nL ((σ 5 b) - pt))) 10) nL sf)) 11 (upd ((st (st (st σ 8 (upd (σ 8) nL (nI b))) 9 (upd ((st σ 8 (upd (σ 8) nL (nI b))) 9) nL ((σ 5 b) - pt))) 10 (upd ((st (st σ 8 (upd (σ 8) nL (nI b))) 9 (upd ((st σ 8 (upd (σ 8) nL (nI b))) 9) nL ((σ 5 b) - pt))) 10) nL sf)) 11) nL sr)) 12) nL (LENs (σ 5 b - pt) 300))) 13) nL 1)) 7 (fun _ => (nI (nL + 1))))) H := hP
    have hD : va_D A (xw cI cZ h a (st (st (st (st (st (st (st σ 8 (upd (σ 8) nL (nI b))) 9 (upd ((st σ 8 (upd (σ 8) nL (nI b))) 9) nL ((σ 5 b) - pt))) 10 (upd ((st (st σ 8 (upd (σ 8) nL (nI b))) 9 (upd ((st σ 8 (upd (σ 8) nL (nI b))) 9) nL ((σ 5 b) - pt))) 10) nL sf)) 11 (upd ((st (st (st σ 8 (upd (σ 8) nL (nI b))) 9 (upd ((st σ 8 (upd (σ 8) nL (nI b))) 9) nL ((σ 5 b) - pt))) 10 (upd ((st (st σ 8 (upd (σ 8) nL (nI b))) 9 (upd ((st σ 8 (upd (σ 8) nL (nI b))) 9) nL ((σ 5 b) - pt))) 10) nL sf)) 11) nL sr)) 12 (upd ((st (st (st (st σ 8 (upd (σ 8) nL (nI b))) 9 (upd ((st σ 8 (upd (σ 8) nL (nI b))) 9) nL ((σ 5 b) - pt))) 10 (upd ((st (st σ 8 (upd (σ 8) nL (nI b))) 9 (upd ((st σ 8 (upd (σ 8) nL (nI b))) 9) nL ((σ 5 b) - pt))) 10) nL sf)) 11 (upd ((st (st (st σ 8 (upd (σ 8) nL (nI b))) 9 (upd ((st σ 8 (upd (σ 8) nL (nI b))) 9) nL ((σ 5 b) - pt))) 10 (upd ((st (st σ 8 (upd (σ 8) nL (nI b))) 9 (upd ((st σ 8 (upd (σ 8) nL (nI b))) 9) nL ((σ 5 b) - pt))) 10) nL sf)) 11) nL sr)) 12) nL (LENs (σ 5 b - pt) 300))) 13 (upd ((st (st (st (st (st σ 8 (upd (σ 8) nL (nI b))) 9 (upd ((st σ 8 (upd (σ 8) nL (nI b))) 9) nL ((σ 5 b) - pt))) 10 (upd ((st (st σ 8 (upd (σ 8) nL (nI b))) 9 (upd ((st σ 8 (upd (σ 8) nL (nI b))) 9) nL ((σ 5 b) - pt))) 10) nL sf)) 11 (upd ((st (st (st σ 8 (upd (σ 8) nL (nI b))) 9 (upd ((st σ 8 (upd (σ 8) nL (nI b))) 9) nL ((σ 5 b) - pt))) 10 (upd ((st (st σ 8 (upd (σ 8) nL (nI b))) 9 (upd ((st σ 8 (upd (σ 8) nL (nI b))) 9) nL ((σ 5 b) - pt))) 10) nL sf)) 11) nL sr)) 12 (upd ((st (st (st (st σ 8 (upd (σ 8) nL (nI b))) 9 (upd ((st σ 8 (upd (σ 8) nL (nI b))) 9) nL ((σ 5 b) - pt))) 10 (upd ((st (st σ 8 (upd (σ 8) nL (nI b))) 9 (upd ((st σ 8 (upd (σ 8) nL (nI b))) 9) nL ((σ 5 b) - pt))) 10) nL sf)) 11 (upd ((st (st (st σ 8 (upd (σ 8) nL (nI b))) 9 (upd ((st σ 8 (upd (σ 8) nL (nI b))) 9) nL ((σ 5 b) - pt))) 10 (upd ((st (st σ 8 (upd (σ 8) nL (nI b))) 9 (upd ((st σ 8 (upd (σ 8) nL (nI b))) 9) nL ((σ 5 b) - pt))) 10) nL sf)) 11) nL sr)) 12) nL (LENs (σ 5 b - pt) 300))) 13) nL 1)) 7 (fun _ => (nI (nL + 1))))) := hD
    refine lv_iload hx hb dX0_addLine_130 (lv_at hl 1 rfl) ?_
    have hP : va_P D vwCl (xw cI cZ h a (alS σ nL pt (nI b) sf sr)) H := by unfold alS; rw [eb]; exact hP
    exact th_ret (v := (nI nL)) (alS σ nL pt (nI b) sf sr) hx hb hr hlocks hH hS hP ⟨gk0 c1 (ant c2 (ant c3 c4)) (decide_eq_true hlt), rfl, rfl⟩ dX0_addLine_132
  · obtain ⟨sa, hsa⟩ := hT.2.1.2.1
    exact thr_go (A := A) (cls := xE2) (ik := 62) (ic := 66) hfl hx hb hown hlocks hout (by rw [hml]; exact hl.1) hH (by decide +kernel) (hts (.classLink RX0 62 xE2) (by decide +kernel)) (hts (.initialized xE2) (by decide +kernel)) hsa (fun w hw => hts w ((show ∀ w ∈ (vx_atS RX0 66 xE2 xNs).filter goodWord, w ∈ wsX0_addLine by decide +kernel) w hw)) xh2 (xb2 hT.2) xg2 hT.1 dX0_addLine_39 dX0_addLine_42 dX0_addLine_43 dX0_addLine_45 dX0_addLine_48 (Nat.le_of_ble_eq_true rfl) (Nat.le_of_ble_eq_true rfl) (Nat.le_of_ble_eq_true rfl) (Nat.le_of_ble_eq_true rfl) (fun t hgr => ⟨Or.inr (Or.inr ⟨gk3 c1 (ant c2 (ant c3 c4)) (decide_eq_false (fun w => c36 ((nI_ltI (a := nL) (b := 10) (by omega) (by omega)).mpr w))), rfl⟩), hgr⟩)
set_option maxHeartbeats 4000000 in
set_option maxRecDepth 100000 in
/-- tend -/
theorem c_X0_tend (l : Launch) (hfl : l.stackTraces = false) (D : va_G) (cI cZ : ClassId) (h : Nat) (a : Nat → Nat) (σ : St) (Hi : Heap) (A : Nat → Prop) (hD : va_D A (xw cI cZ h a σ)) {nL nB : Nat} (hI : inv σ nL nB) (line hour slack : Int32) : thM l yX0_tend wsX0_tend ({ frames := 7, cells := 1, slots := 6, locals := 118 }) [.ref h, .int line, .int hour, .int slack] D (xw cI cZ h a σ) (tyX cI cZ) Hi A (S := St) (fun ρ => xw cI cZ h a ρ) (fun r ρ => goK (inR line 0 (nI nL - 1) && inR hour 0 47) (inR slack (-100) 100) (decide (¬ σ 13 (tN line) = 0)) = 0 ∧ r = tdR σ line hour slack ∧ ρ = st σ 12 (upd (σ 12) (tN line) (tdR σ line hour slack))) (xcp (goK (inR line 0 (nI nL - 1) && inR hour 0 47) (inR slack (-100) 100) (decide (¬ σ 13 (tN line) = 0))) xE3 xE1 xE2) := by
  refine th_of (cc := cX0_tend) (maxL := 4) (ret := some .int) (by decide) rfl (Nat.le_of_ble_eq_true rfl) ?_
  intro p e s m args below meth c9 he hout hH hP hK hT ls hl
  obtain ⟨hx, hb, hr, hml, hown, hts, hlocks⟩ := he
  have hown : s.vm.findClass RX0 = some m.cls := hown
  have hS : va_S A Hi Hi [] := va_S.rf
  have hL : σ 7 0 = nI nL := hI.1
  have hL10 : nL ≤ 10 := hI.2.1
  have hB : σ 4 0 = nI nB := hI.2.2.1
  have hB6 : nB ≤ 6 := hI.2.2.2.1
  have hl : lv_has ls 4 [(0, .ref h), (1, .int line), (2, .int hour), (3, .int slack)] := hl
  have hin : ∀ w ∈ u_ws RX0 TX0 15, w ∈ wsX0_tend := by decide +kernel
  refine lv_aload_n hx hb dX0_tend_0 rfl (lv_at hl 0 rfl) ?_
  refine lv_iload_n hx hb dX0_tend_1 rfl (lv_at hl 1 rfl) ?_
  refine ck_callV 1 hx hb hml hown hts hlocks hout hl.1 hP hK hT 0 0 rfl rfl (As := [.int line]) (rest := []) (c_X0_checkLine l hfl D cI cZ h a σ Hi A hI line) gX0_tend_X0_checkLine rfl rfl rfl (by decide +kernel) ⟨Nat.le_of_ble_eq_true rfl, Nat.le_of_ble_eq_true rfl⟩ rfl rfl (Nat.le_of_ble_eq_true rfl) dX0_tend_2 ⟨Nat.le_of_ble_eq_true rfl, Nat.le_of_ble_eq_true rfl⟩ (fun q => Or.inl ⟨gk1 (an1 (nt q)), rfl⟩) (fun c1 => ?_)
  refine lv_iload_n hx hb dX0_tend_5 rfl (lv_at hl 2 rfl) ?_
  refine ck_callS 1 hx hb hml hown hts hlocks hout hl.1 hP hK hT (As := [.int hour]) (rest := []) (c_X0_checkHour l hfl D (xw cI cZ h a σ) (tyX cI cZ) Hi A hour) gX0_tend_X0_checkHour rfl rfl rfl (by decide +kernel) ⟨Nat.le_of_ble_eq_true rfl, Nat.le_of_ble_eq_true rfl⟩ rfl rfl (Nat.le_of_ble_eq_true rfl) dX0_tend_6 ⟨Nat.le_of_ble_eq_true rfl, Nat.le_of_ble_eq_true rfl⟩ (fun q => Or.inl ⟨gk1 (an2 (nt q)), rfl⟩) (fun c2 => ?_)
  refine lv_iload_n hx hb dX0_tend_9 rfl (lv_at hl 3 rfl) ?_
  refine lv_bipush (v := (-100)) hx hb dX0_tend_10 (by decide) ?_
  refine lv_bipush (v := 100) hx hb dX0_tend_12 (by decide) ?_
  refine ck_callS 3 hx hb hml hown hts hlocks hout hl.1 hP hK hT (As := [.int slack, .int (-100), .int 100]) (rest := []) (c_X0_checkRange l hfl D (xw cI cZ h a σ) (tyX cI cZ) Hi A slack (-100) 100) gX0_tend_X0_checkRange rfl rfl rfl (by decide +kernel) ⟨Nat.le_of_ble_eq_true rfl, Nat.le_of_ble_eq_true rfl⟩ rfl rfl (Nat.le_of_ble_eq_true rfl) dX0_tend_14 ⟨Nat.le_of_ble_eq_true rfl, Nat.le_of_ble_eq_true rfl⟩ (fun q => Or.inr (Or.inl ⟨gk2 (ant c1 c2) (nt q), rfl⟩)) (fun c3 => ?_)
  obtain ⟨j, hj, rfl⟩ := inR_line (by omega) c1
  have ej : tN (nI j) = j := tN_nI (by omega)
  obtain ⟨t, ht48, rfl⟩ := inR_hour c2
  have et : tN (nI t) = t := tN_nI (by omega)
  refine lv_aload_n hx hb dX0_tend_17 rfl (lv_at hl 0 rfl) ?_
  refine x_get hin hx hb hts hown hK hP rfl 13 (by decide) (v := .ref (a 13)) rfl (by decide +kernel) dX0_tend_18 ?_
  refine lv_iload_n hx hb dX0_tend_21 rfl (lv_at hl 1 rfl) ?_
  refine xa_zld hx hb hK hP 11 1 rfl rfl (j := j) (by omega) (by decide) dX0_tend_22 ?_
  refine lv_if_ne (tgt := 36) hx hb dX0_tend_23 (by decide) (fun c23 => ?_) (fun c23 => ?_)
  · refine lv_aload_n hx hb dX0_tend_36 rfl (lv_at hl 0 rfl) ?_
    refine x_get hin hx hb hts hown hK hP rfl 12 (by decide) (v := .ref (a 12)) rfl (by decide +kernel) dX0_tend_37 ?_
    refine lv_iload_n hx hb dX0_tend_40 rfl (lv_at hl 1 rfl) ?_
    refine lv_iconst (v := 0) hx hb dX0_tend_41 (by decide) ?_
    refine lv_aload_n hx hb dX0_tend_42 rfl (lv_at hl 0 rfl) ?_
    refine lv_iload_n hx hb dX0_tend_43 rfl (lv_at hl 1 rfl) ?_
    refine lv_iload_n hx hb dX0_tend_44 rfl (lv_at hl 2 rfl) ?_
    refine lv_aload_n hx hb dX0_tend_45 rfl (lv_at hl 0 rfl) ?_
    refine lv_iload_n hx hb dX0_tend_46 rfl (lv_at hl 2 rfl) ?_
    refine ro_callV 1 hx hb hml hown hts hl.1 hP hK 0 0 rfl rfl (As := [.int (nI t)]) (rest := [.int (nI t), .int (nI j), .ref h, .int 0, .int (nI j), .ref (a 12)]) (c_X0_balanceOf l D cI cZ h a σ Hi hI t ht48) gX0_tend_X0_balanceOf rfl rfl rfl (by decide +kernel) ⟨Nat.le_of_ble_eq_true rfl, Nat.le_of_ble_eq_true rfl⟩ rfl rfl (Nat.le_of_ble_eq_true rfl) dX0_tend_47 ⟨Nat.zero_le _, Nat.zero_le _⟩ (fun r1 hr1 => ?_)
    subst hr1
    refine ro_callV 3 hx hb hml hown hts hl.1 hP hK 0 0 rfl rfl (As := [.int (nI j), .int (nI t), .int (bal σ t)]) (rest := [.int 0, .int (nI j), .ref (a 12)]) (c_X0_lengthWith l D cI cZ h a σ Hi hI j t hj ht48 (bal σ t) (bal_inS σ t)) gX0_tend_X0_lengthWith rfl rfl rfl (by decide +kernel) ⟨Nat.le_of_ble_eq_true rfl, Nat.le_of_ble_eq_true rfl⟩ rfl rfl (Nat.le_of_ble_eq_true rfl) dX0_tend_50 ⟨Nat.zero_le _, Nat.zero_le _⟩ (fun r2 hr2 => ?_)
    subst hr2
    refine lv_iload_n hx hb dX0_tend_53 rfl (lv_at hl 3 rfl) ?_
    refine lv_iadd hx hb dX0_tend_54 ?_
    refine va_mmax hx hb (by rw [hml]; exact hl.1.symm) hown (hts (.methodLink RX0 113 Lib.Math.max.name) (by decide +kernel)) (hts (.static Lib.Math.max.name) (by decide +kernel)) (hts (.initialized "java/lang/Math") (by decide +kernel)) (hts (.code Lib.Math.max.name Lib.Math.max.code 2 (some .int)) (by decide +kernel)) (Nat.le_of_ble_eq_true rfl) (Nat.le_of_ble_eq_true rfl) (Nat.zero_le _) (Nat.zero_le _) dX0_tend_55 ?_
    rw [show (if 0 < len_ σ j t (bal σ t) + slack then len_ σ j t (bal σ t) + slack else 0) = tdR σ (nI j) (nI t) slack by unfold tdR mx0; rw [ej, et]]
    refine xa_st hx hb hK hP hD hS 10 0 rfl rfl (j := j) (by omega) (by decide) dX0_tend_58 (fun H locs hP hD hS => ?_)
    have hP : va_P D vwCl (xw cI cZ h a (st σ 12 (upd (σ 12) j (tdR σ (nI j) (nI t) slack)))) H := hP
    have hD : va_D A (xw cI cZ h a (st σ 12 (upd (σ 12) j (tdR σ (nI j) (nI t) slack)))) := hD
    refine lv_aload_n hx hb dX0_tend_59 rfl (lv_at hl 0 rfl) ?_
    refine x_get hin hx hb hts hown hK hP rfl 12 (by decide) (v := .ref (a 12)) rfl (by decide +kernel) dX0_tend_60 ?_
    refine lv_iload_n hx hb dX0_tend_63 rfl (lv_at hl 1 rfl) ?_
    refine xa_ld hx hb hK hP 10 0 rfl rfl (j := j) (by omega) (by decide) dX0_tend_64 ?_
    rw [show (st σ 12 (upd (σ 12) j (tdR σ (nI j) (nI t) slack))) 12 j = (tdR σ (nI j) (nI t) slack) from by show (if j = j then _ else _) = _; rw [if_pos rfl]]
    exact th_ret (v := (tdR σ (nI j) (nI t) slack)) (st σ 12 (upd (σ 12) j (tdR σ (nI j) (nI t) slack))) hx hb hr hlocks hH hS hP ⟨gk0 (ant c1 c2) c3 (decide_eq_true (by rw [ej]; exact c23)), rfl, by rw [ej]⟩ dX0_tend_65
  · obtain ⟨sa, hsa⟩ := hT.2.1.2.2.1
    exact thr_go (A := A) (cls := xE2) (ik := 62) (ic := 66) hfl hx hb hown hlocks hout (by rw [hml]; exact hl.1) hH (by decide +kernel) (hts (.classLink RX0 62 xE2) (by decide +kernel)) (hts (.initialized xE2) (by decide +kernel)) hsa (fun w hw => hts w ((show ∀ w ∈ (vx_atS RX0 66 xE2 xNs).filter goodWord, w ∈ wsX0_tend by decide +kernel) w hw)) xh2 (xb2 hT.2) xg2 hT.1 dX0_tend_26 dX0_tend_29 dX0_tend_30 dX0_tend_32 dX0_tend_35 (Nat.le_of_ble_eq_true rfl) (Nat.le_of_ble_eq_true rfl) (Nat.le_of_ble_eq_true rfl) (Nat.le_of_ble_eq_true rfl) (fun t hgr => ⟨Or.inr (Or.inr ⟨gk3 (ant c1 c2) c3 (decide_eq_false (by rw [ej]; exact not_not_intro c23)), rfl⟩), hgr⟩)
set_option maxHeartbeats 4000000 in
set_option maxRecDepth 100000 in
/-- plan -/
theorem c_X0_plan (l : Launch) (hfl : l.stackTraces = false) (D : va_G) (cI cZ : ClassId) (h : Nat) (a : Nat → Nat) (σ : St) (Hi : Heap) (A : Nat → Prop) (hD : va_D A (xw cI cZ h a σ)) {nL nB : Nat} (hI : inv σ nL nB) (fr to : Int32) : thM l yX0_plan wsX0_plan ({ frames := 7, cells := 1, slots := 6, locals := 167 }) [.ref h, .int fr, .int to] D (xw cI cZ h a σ) (tyX cI cZ) Hi A (S := St) (fun ρ => xw cI cZ h a ρ) (fun r ρ => goK (inR fr 0 47 && inR to 0 47) (decide (fr ≤ to)) true = 0 ∧ r = plR (tN to + 1 - tN fr) σ (tN fr) 0 ∧ ∃ g, ρ = st σ 14 g) (xcp (goK (inR fr 0 47 && inR to 0 47) (decide (fr ≤ to)) true) xE3 xE1 xE2) := by
  refine th_of (cc := cX0_plan) (maxL := 4) (ret := some .int) (by decide) rfl (Nat.le_of_ble_eq_true rfl) ?_
  intro p e s m args below meth c9 he hout hH hP hK hT ls hl
  obtain ⟨hx, hb, hr, hml, hown, hts, hlocks⟩ := he
  have hown : s.vm.findClass RX0 = some m.cls := hown
  have hS : va_S A Hi Hi [] := va_S.rf
  have hL : σ 7 0 = nI nL := hI.1
  have hL10 : nL ≤ 10 := hI.2.1
  have hB : σ 4 0 = nI nB := hI.2.2.1
  have hB6 : nB ≤ 6 := hI.2.2.2.1
  have hl : lv_has ls 4 [(0, .ref h), (1, .int fr), (2, .int to)] := hl
  have hin : ∀ w ∈ u_ws RX0 TX0 15, w ∈ wsX0_plan := by decide +kernel
  refine lv_iload_n hx hb dX0_plan_0 rfl (lv_at hl 1 rfl) ?_
  refine ck_callS 1 hx hb hml hown hts hlocks hout hl.1 hP hK hT (As := [.int fr]) (rest := []) (c_X0_checkHour l hfl D (xw cI cZ h a σ) (tyX cI cZ) Hi A fr) gX0_plan_X0_checkHour rfl rfl rfl (by decide +kernel) ⟨Nat.le_of_ble_eq_true rfl, Nat.le_of_ble_eq_true rfl⟩ rfl rfl (Nat.le_of_ble_eq_true rfl) dX0_plan_1 ⟨Nat.le_of_ble_eq_true rfl, Nat.le_of_ble_eq_true rfl⟩ (fun q => Or.inl ⟨gk1 (an1 (nt q)), rfl⟩) (fun c1 => ?_)
  refine lv_iload_n hx hb dX0_plan_4 rfl (lv_at hl 2 rfl) ?_
  refine ck_callS 1 hx hb hml hown hts hlocks hout hl.1 hP hK hT (As := [.int to]) (rest := []) (c_X0_checkHour l hfl D (xw cI cZ h a σ) (tyX cI cZ) Hi A to) gX0_plan_X0_checkHour rfl rfl rfl (by decide +kernel) ⟨Nat.le_of_ble_eq_true rfl, Nat.le_of_ble_eq_true rfl⟩ rfl rfl (Nat.le_of_ble_eq_true rfl) dX0_plan_5 ⟨Nat.le_of_ble_eq_true rfl, Nat.le_of_ble_eq_true rfl⟩ (fun q => Or.inl ⟨gk1 (an2 (nt q)), rfl⟩) (fun c2 => ?_)
  refine lv_iload_n hx hb dX0_plan_8 rfl (lv_at hl 2 rfl) ?_
  refine lv_iload_n hx hb dX0_plan_9 rfl (lv_at hl 1 rfl) ?_
  refine lv_icmp_ge (tgt := 23) hx hb dX0_plan_10 (by decide) (fun c10 => ?_) (fun c10 => ?_)
  · obtain ⟨f, hf48, rfl⟩ := inR_hour c1
    have ef : tN (nI f) = f := tN_nI (by omega)
    obtain ⟨u, hu48, rfl⟩ := inR_hour c2
    have eu : tN (nI u) = u := tN_nI (by omega)
    have hfu : f ≤ u := (nI_leI (by omega) (by omega)).mp c10
    refine lv_aload_n hx hb dX0_plan_23 rfl (lv_at hl 0 rfl) ?_
    refine x_get hin hx hb hts hown hK hP rfl 12 (by decide) (v := .ref (a 12)) rfl (by decide +kernel) dX0_plan_24 ?_
    refine lv_iconst (v := 0) hx hb dX0_plan_27 (by decide) ?_
    refine lv_aload_n hx hb dX0_plan_28 rfl (lv_at hl 0 rfl) ?_
    refine x_get hin hx hb hts hown hK hP rfl 14 (by decide) (v := .ref (a 14)) rfl (by decide +kernel) dX0_plan_29 ?_
    refine lv_iconst (v := 0) hx hb dX0_plan_32 (by decide) ?_
    refine lv_bipush (v := 10) hx hb dX0_plan_33 (by decide) ?_
    refine va_copyi hx hb (by rw [hml]; exact hl.1.symm) hown (hts (.methodLink RX0 126 arraycopyName) (by decide +kernel)) (hts (.native arraycopyName) (by decide +kernel)) (hts (.static arraycopyName) (by decide +kernel)) (hts (.initialized "java/lang/System") (by decide +kernel)) hK hP hD hS 10 12 0 0 rfl rfl rfl rfl rfl (by decide) (by decide) (by decide) (by decide) (by decide) (fun _ _ => rfl) (Nat.le_of_ble_eq_true rfl) (by decide) dX0_plan_35 (fun H locs hP hD hS => ?_)
    have hP : va_P D vwCl (xw cI cZ h a (st σ 14 (va_cpy (σ 12) (σ 14) (0 : Int32).toNatClampNeg (0 : Int32).toNatClampNeg (10 : Int32).toNatClampNeg))) H := hP
    have hD : va_D A (xw cI cZ h a (st σ 14 (va_cpy (σ 12) (σ 14) (0 : Int32).toNatClampNeg (0 : Int32).toNatClampNeg (10 : Int32).toNatClampNeg))) := hD
    obtain ⟨g1, hg1⟩ : ∃ z, z = va_cpy (σ 12) (σ 14) (0 : Int32).toNatClampNeg (0 : Int32).toNatClampNeg (10 : Int32).toNatClampNeg := ⟨_, rfl⟩
    rw [← hg1] at hP hD
    have hg2 : ∀ j, j < 10 → g1 j = σ 12 j := fun j hj => by rw [hg1]; show (if 0 ≤ j ∧ j < 0 + 10 then σ 12 (0 + (j - 0)) else _) = _; rw [if_pos ⟨Nat.zero_le _, by omega⟩]; congr 1; omega
    have hIr : inv (st σ 14 g1) nL nB := hI
    refine lv_aload_n hx hb dX0_plan_38 rfl (lv_at hl 0 rfl) ?_
    refine lv_iload_n hx hb dX0_plan_39 rfl (lv_at hl 1 rfl) ?_
    refine lv_iload_n hx hb dX0_plan_40 rfl (lv_at hl 2 rfl) ?_
    refine wr_callV 2 hx hb hml hown hts hl.1 hP hK hS (fun _ h9 => h9) 0 0 rfl rfl (As := [.int (nI f), .int (nI u)]) (rest := []) (c_X0_tendThrough l D cI cZ h a (st σ 14 g1) H A hD hIr f u hfu hu48) gX0_plan_X0_tendThrough rfl rfl rfl (by decide +kernel) ⟨Nat.le_of_ble_eq_true rfl, Nat.le_of_ble_eq_true rfl⟩ rfl rfl (Nat.le_of_ble_eq_true rfl) dX0_plan_41 ⟨Nat.zero_le _, Nat.zero_le _⟩ (fun r1 ρ H locs hr1 hP hS _ _ => ?_)
    obtain ⟨hr1, hag⟩ := hr1
    rw [plR_14] at hr1
    subst hr1
    have hD : va_D A (xw cI cZ h a ρ) := xD hD
    refine lv_istore_n (lv' := [(3, .int (plR (u + 1 - f) σ f 0)), (0, .ref h), (1, .int (nI f)), (2, .int (nI u))]) hx hb dX0_plan_44 rfl hl (by decide) rfl (fun ls hl => ?_)
    refine lv_aload_n hx hb dX0_plan_45 rfl (lv_at hl 1 rfl) ?_
    refine x_get hin hx hb hts hown hK hP rfl 14 (by decide) (v := .ref (a 14)) rfl (by decide +kernel) dX0_plan_46 ?_
    refine lv_iconst (v := 0) hx hb dX0_plan_49 (by decide) ?_
    refine lv_aload_n hx hb dX0_plan_50 rfl (lv_at hl 1 rfl) ?_
    refine x_get hin hx hb hts hown hK hP rfl 12 (by decide) (v := .ref (a 12)) rfl (by decide +kernel) dX0_plan_51 ?_
    refine lv_iconst (v := 0) hx hb dX0_plan_54 (by decide) ?_
    refine lv_bipush (v := 10) hx hb dX0_plan_55 (by decide) ?_
    refine va_copyi hx hb (by rw [hml]; exact hl.1.symm) hown (hts (.methodLink RX0 126 arraycopyName) (by decide +kernel)) (hts (.native arraycopyName) (by decide +kernel)) (hts (.static arraycopyName) (by decide +kernel)) (hts (.initialized "java/lang/System") (by decide +kernel)) hK hP hD hS 12 10 0 0 rfl rfl rfl rfl rfl (by decide) (by decide) (by decide) (by decide) (by decide) (fun _ _ => rfl) (Nat.le_of_ble_eq_true rfl) (by decide) dX0_plan_57 (fun H locs hP hD hS => ?_)
    have hP : va_P D vwCl (xw cI cZ h a (st ρ 12 (va_cpy (ρ 14) (ρ 12) (0 : Int32).toNatClampNeg (0 : Int32).toNatClampNeg (10 : Int32).toNatClampNeg))) H := hP
    have hD : va_D A (xw cI cZ h a (st ρ 12 (va_cpy (ρ 14) (ρ 12) (0 : Int32).toNatClampNeg (0 : Int32).toNatClampNeg (10 : Int32).toNatClampNeg))) := hD
    have hP : va_P D vwCl (xw cI cZ h a (st σ 14 g1)) H := by
      have e1 : st ρ 12 (va_cpy (ρ 14) (ρ 12) (0 : Int32).toNatClampNeg (0 : Int32).toNatClampNeg (10 : Int32).toNatClampNeg) = st (st σ 14 g1) 12 (va_cpy (ρ 14) (ρ 12) (0 : Int32).toNatClampNeg (0 : Int32).toNatClampNeg (10 : Int32).toNatClampNeg) := by
        funext z
        by_cases ez : z = 12
        · subst ez; rw [st_eq, st_eq]
        · rw [st_ne ez, st_ne ez]; exact hag z ez
      rw [e1] at hP
      have hP2 := va_P_cell (g := σ 12) (i := 10) hP rfl (fun j hj => by show (if 0 ≤ j ∧ j < 0 + 10 then ρ 14 (0 + (j - 0)) else _) = _; rw [if_pos ⟨Nat.zero_le _, by omega⟩, hag 14 (by decide), show 0 + (j - 0) = j by omega]; show g1 j = σ 12 j; exact hg2 j hj)
      exact hP2
    refine lv_iload_n hx hb dX0_plan_60 rfl (lv_at hl 0 rfl) ?_
    exact th_ret (v := (plR (u + 1 - f) σ f 0)) (st σ 14 g1) hx hb hr hlocks hH hS hP ⟨gk0 (ant c1 c2) (decide_eq_true c10) rfl, by rw [ef, eu], ⟨g1, rfl⟩⟩ dX0_plan_61
  · obtain ⟨sa, hsa⟩ := hT.2.1.2.2.2
    exact thr_go (A := A) (cls := xE1) (ik := 121) (ic := 125) hfl hx hb hown hlocks hout (by rw [hml]; exact hl.1) hH (by decide +kernel) (hts (.classLink RX0 121 xE1) (by decide +kernel)) (hts (.initialized xE1) (by decide +kernel)) hsa (fun w hw => hts w ((show ∀ w ∈ (vx_atS RX0 125 xE1 xNs).filter goodWord, w ∈ wsX0_plan by decide +kernel) w hw)) xh1 (xb1 hT.2) xg1 hT.1 dX0_plan_13 dX0_plan_16 dX0_plan_17 dX0_plan_19 dX0_plan_22 (Nat.le_of_ble_eq_true rfl) (Nat.le_of_ble_eq_true rfl) (Nat.le_of_ble_eq_true rfl) (Nat.le_of_ble_eq_true rfl) (fun t hgr => ⟨Or.inr (Or.inl ⟨gk2 (ant c1 c2) (decide_eq_false c10), rfl⟩), hgr⟩)

