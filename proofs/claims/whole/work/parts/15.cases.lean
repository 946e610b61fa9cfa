/-! The law, case by case. -/
theorem goK_0 {b1 b2 b3 : Bool} (h : goK b1 b2 b3 = 0) : b1 = true ∧ b2 = true ∧ b3 = true := by cases b1 <;> cases b2 <;> cases b3 <;> first | exact ⟨rfl, rfl, rfl⟩ | exact absurd h (by decide)
theorem inR_b {v lo hi : Int32} {x y : Int} (h : inR v lo hi = true) (hx : lo.toInt = x) (hy : hi.toInt = y) : x ≤ v.toInt ∧ v.toInt ≤ y := by rw [← hx, ← hy]; exact inR_sp h
theorem inv_0 {σ : St} {nL nB : Nat} {f : Nat → Int32} (h : inv σ nL nB) (hf : ∀ t, t < 48 → -200 ≤ (f t).toInt ∧ (f t).toInt ≤ 200) : inv (st σ 0 f) nL nB := by
  obtain ⟨h1, h2, h3, h4, h5, h6, h7⟩ := h
  exact ⟨h1, h2, h3, h4, fun t ht => ⟨(hf t ht).1, (hf t ht).2, (h5 t ht).2.2.1, (h5 t ht).2.2.2⟩, h6, h7⟩
theorem inv_1 {σ : St} {nL nB : Nat} {f : Nat → Int32} (h : inv σ nL nB) (hf : ∀ t, t < 48 → -200 ≤ (f t).toInt ∧ (f t).toInt ≤ 200) : inv (st σ 1 f) nL nB := by
  obtain ⟨h1, h2, h3, h4, h5, h6, h7⟩ := h
  exact ⟨h1, h2, h3, h4, fun t ht => ⟨(h5 t ht).1, (h5 t ht).2.1, (hf t ht).1, (hf t ht).2⟩, h6, h7⟩
theorem inv_tide {σ : St} {nL nB k : Nat} {v : Int32} (h : inv σ nL nB) (hv : inR v (-200) 200 = true) : inv (st σ 0 (upd (σ 0) k v)) nL nB := by
  obtain ⟨v1, v2⟩ := inR_b hv (x := -200) (y := 200) rfl rfl
  refine inv_0 h (fun t ht => ?_)
  obtain ⟨a1, a2, -⟩ := h.2.2.2.2.1 t ht
  show -200 ≤ (if t = k then v else σ 0 t).toInt ∧ (if t = k then v else σ 0 t).toInt ≤ 200
  by_cases e : t = k
  · rw [if_pos e]; exact ⟨v1, v2⟩
  · rw [if_neg e]; exact ⟨a1, a2⟩
theorem inv_load {σ : St} {nL nB k : Nat} {v : Int32} (h : inv σ nL nB) (hv : inR v (-200) 200 = true) : inv (st σ 1 (ldF (σ 1) k v 48)) nL nB := by
  obtain ⟨v1, v2⟩ := inR_b hv (x := -200) (y := 200) rfl rfl
  refine inv_1 h (fun t ht => ?_)
  obtain ⟨-, -, a1, a2⟩ := h.2.2.2.2.1 t ht
  unfold ldF
  by_cases e : k ≤ t ∧ t < 48
  · rw [if_pos e]; exact ⟨v1, v2⟩
  · rw [if_neg e]; exact ⟨a1, a2⟩
theorem inv_tog {σ : St} {nL nB k : Nat} (h : inv σ nL nB) : inv (st σ 13 (upd (σ 13) k (nxF σ k))) nL nB := by
  obtain ⟨h1, h2, h3, h4, h5, h6, h7⟩ := h
  refine ⟨h1, h2, h3, h4, h5, h6, fun j hj => ?_⟩
  obtain ⟨a1, a2, a3, a4, a5, a6⟩ := h7 j hj
  refine ⟨a1, a2, a3, a4, a5, ?_⟩
  show (if j = k then nxF σ k else σ 13 j) = 0 ∨ (if j = k then nxF σ k else σ 13 j) = 1
  by_cases e : j = k
  · rw [if_pos e]; exact nx_01 σ k
  · rw [if_neg e]; exact a6
theorem inv_ab {σ : St} {nL nB : Nat} {p lim : Int32} (h : inv σ nL nB) (hp : inR p (-5000) 5000 = true) (hlt : nB < 6) : inv (abS σ nB p lim) nL (nB + 1) := by
  obtain ⟨v1, v2⟩ := inR_b hp (x := -5000) (y := 5000) rfl rfl
  obtain ⟨h1, h2, h3, h4, h5, h6, h7⟩ := h
  refine ⟨h1, h2, rfl, by omega, h5, fun b hb => ?_, fun j hj => ?_⟩
  · show -5000 ≤ (if b = nB then p else σ 5 b).toInt ∧ (if b = nB then p else σ 5 b).toInt ≤ 5000
    by_cases e : b = nB
    · rw [if_pos e]; exact ⟨v1, v2⟩
    · rw [if_neg e]; exact h6 b (by omega)
  · obtain ⟨⟨b, hb, eb⟩, a2, a3, a4, a5, a6⟩ := h7 j hj
    exact ⟨⟨b, by omega, eb⟩, a2, a3, a4, a5, a6⟩
theorem inv_al' {σ : St} {nL nB : Nat} {pt bo sf sr : Int32} (h : inv σ nL nB) (hb : inR bo 0 (nI nB - 1) = true) (hp : inR pt (-5000) 5000 = true) (hsf : inR sf 1 100 = true) (hsr : inR sr 1 1000000 = true) (hlt : nL < 10) : inv (alS σ nL pt bo sf sr) (nL + 1) nB := by
  obtain ⟨p1, p2⟩ := inR_b hp (x := -5000) (y := 5000) rfl rfl
  obtain ⟨s1, s2⟩ := inR_b hsf (x := 1) (y := 100) rfl rfl
  obtain ⟨r1, r2⟩ := inR_b hsr (x := 1) (y := 1000000) rfl rfl
  obtain ⟨h1, h2, h3, h4, h5, h6, h7⟩ := h
  obtain ⟨b, hb2, rfl⟩ := inR_line (by omega) hb
  have eb : tN (nI b) = b := tN_nI (by omega)
  obtain ⟨q1, q2⟩ := h6 b hb2
  have er : (σ 5 b - pt).toInt = (σ 5 b).toInt - pt.toInt := Jvm.Kit.i32_sub (by omega) (by omega)
  have e7 : (300 : Int32).toInt = 300 := rfl
  have hA : inA (σ 5 b - pt) := by unfold inA; omega
  have hH : inH 300 := by unfold inH; omega
  obtain ⟨n, en, hn⟩ := LENs_le hA hH
  have en2 : (nI n).toInt = (n : Int) := nI_ti (by omega)
  unfold alS
  rw [eb]
  refine ⟨rfl, by omega, h3, h4, h5, h6, fun j hj => ?_⟩
  by_cases e : j = nL
  · refine ⟨⟨b, hb2, ?_⟩, ?_, ?_, ?_, ?_, ?_⟩
    · show (if j = nL then nI b else σ 8 j) = nI b
      rw [if_pos e]
    · show -10000 ≤ (if j = nL then σ 5 b - pt else σ 9 j).toInt ∧ (if j = nL then σ 5 b - pt else σ 9 j).toInt ≤ 10000
      rw [if_pos e]; omega
    · show 1 ≤ (if j = nL then sf else σ 10 j).toInt ∧ (if j = nL then sf else σ 10 j).toInt ≤ 100
      rw [if_pos e]; omega
    · show 1 ≤ (if j = nL then sr else σ 11 j).toInt ∧ (if j = nL then sr else σ 11 j).toInt ≤ 1000000
      rw [if_pos e]; omega
    · show 0 ≤ (if j = nL then LENs (σ 5 b - pt) 300 else σ 12 j).toInt ∧ (if j = nL then LENs (σ 5 b - pt) 300 else σ 12 j).toInt ≤ 20000
      rw [if_pos e, en]; omega
    · show (if j = nL then 1 else σ 13 j) = 0 ∨ (if j = nL then 1 else σ 13 j) = 1
      rw [if_pos e]; exact Or.inr rfl
  · obtain ⟨⟨b9, hb9, eb9⟩, a2, a3, a4, a5, a6⟩ := h7 j (by omega)
    refine ⟨⟨b9, hb9, ?_⟩, ?_, ?_, ?_, ?_, ?_⟩
    · show (if j = nL then nI b else σ 8 j) = nI b9
      rw [if_neg e]; exact eb9
    · show -10000 ≤ (if j = nL then σ 5 b - pt else σ 9 j).toInt ∧ (if j = nL then σ 5 b - pt else σ 9 j).toInt ≤ 10000
      rw [if_neg e]; exact a2
    · show 1 ≤ (if j = nL then sf else σ 10 j).toInt ∧ (if j = nL then sf else σ 10 j).toInt ≤ 100
      rw [if_neg e]; exact a3
    · show 1 ≤ (if j = nL then sr else σ 11 j).toInt ∧ (if j = nL then sr else σ 11 j).toInt ≤ 1000000
      rw [if_neg e]; exact a4
    · show 0 ≤ (if j = nL then LENs (σ 5 b - pt) 300 else σ 12 j).toInt ∧ (if j = nL then LENs (σ 5 b - pt) 300 else σ 12 j).toInt ≤ 20000
      rw [if_neg e]; exact a5
    · show (if j = nL then 1 else σ 13 j) = 0 ∨ (if j = nL then 1 else σ 13 j) = 1
      rw [if_neg e]; exact a6
theorem inv_tend {σ : St} {nL nB : Nat} {line hour slack : Int32} (h : inv σ nL nB) (hl : inR line 0 (nI nL - 1) = true) (hh : inR hour 0 47 = true) (hs : inR slack (-100) 100 = true) : inv (st σ 12 (upd (σ 12) (tN line) (tdR σ line hour slack))) nL nB := by
  obtain ⟨v1, v2⟩ := inR_b hs (x := -100) (y := 100) rfl rfl
  have h2 := h.2.1
  obtain ⟨j, hj, rfl⟩ := inR_line (by omega) hl
  obtain ⟨t, ht, rfl⟩ := inR_hour hh
  have ej : tN (nI j) = j := tN_nI (by omega)
  have et : tN (nI t) = t := tN_nI (by omega)
  obtain ⟨n, en, hn⟩ := inv_len h hj ht (bal_inS σ t)
  have en2 : (nI n).toInt = (n : Int) := nI_ti (by omega)
  have e0 : (0 : Int32).toInt = 0 := rfl
  have ea : (nI n + slack).toInt = (n : Int) + slack.toInt := by rw [Jvm.Kit.i32_add (by omega) (by omega), en2]
  refine inv_st12 h (fun i hi => ?_)
  obtain ⟨-, -, -, -, a5, -⟩ := h.2.2.2.2.2.2 i hi
  rw [ej]
  show 0 ≤ (if i = j then tdR σ (nI j) (nI t) slack else σ 12 i).toInt ∧ (if i = j then tdR σ (nI j) (nI t) slack else σ 12 i).toInt ≤ 20000
  by_cases e : i = j
  · rw [if_pos e]
    unfold tdR mx0
    rw [ej, et, en]
    by_cases w : 0 < nI n + slack
    · rw [if_pos w]
      have w2 := i_lt.mp w
      omega
    · rw [if_neg w]; omega
  · rw [if_neg e]; exact a5
theorem tpA_kept {A : Nat → Prop} {H0 H : Heap} {locs : List Loc} {s : State} (h : tpA A H0 s) (hS : va_S A H0 H locs) : tpA A H s := ⟨⟨vx_Zq.kept h.1.1 (fun a h1 h2 => hS.2.1 a h1 h2), vx_Zq.kept h.1.2 (fun a h1 h2 => hS.2.1 a h1 h2)⟩, h.2⟩
abbrev gw (cI cZ cJ : ClassId) (h : Nat) (a : Nat → Nat) (σ : St) (o : Nat) (w : Nat → Int64) (h2 : Nat) (a2 : Nat → Nat) (τ : St) : va_W := xo cI cZ cJ h a σ o w ++ mw cI cZ h2 a2 τ
theorem sc_ld {p : Program} {l : Launch} {e : Env} {R : Room} {s : State} {m : MethodId} {args : Array Value} {below : List Frame} {meth : Method} {c : Code} {H : Heap} {locs : List Loc} {cells slots : Nat} {Q : State → Prop} {cc : ByteArray} {pc : Nat} {ls : Array Slot} {rest : List Value} {A : Nat → Prop} {H0 : Heap} (hx : p.tables.exec = Jvm.exec) (hb : c.code = cc) {b L : Nat} {xs : Nat → Int32} (hX : va_X b L xs s H0) (hbl : b < H0.size) (hbA : ¬ A b) (hS : va_S A H0 H locs) {i : Nat} (hi : i < L) (hL : L ≤ 2560) (hdg : decode cc pc = .ok (.iaload, 1))
    (kk : W p l e R s m args below meth c H locs cells slots Q (F0 m (pc + 1) ls (.int (xs i) :: rest))) : W p l e R s m args below meth c H locs cells slots Q (F0 m pc ls (.int (nI i) :: .ref b :: rest)) :=
  va_sld hx hb hX hbl hbA hS (vp_in_nI hi (by omega)) hdg (by rw [nI_clamp (by omega)]; exact kk)
set_option maxHeartbeats 4000000 in
set_option maxRecDepth 100000 in
theorem lc_addBollard {p : Program} {l : Launch} {e : Env} {s : State} {m : MethodId} {below : List Frame} {meth : Method} {c : Code} {D : va_G} {cI cZ cJ : ClassId} {b L : Nat} {xs : Nat → Int32} {Q : State → Prop} (hfl : l.stackTraces = false) (C0 : lw_At p s m meth c b L xs) (hL : L ≤ 2560) (hK : va_K D vwCl (tyL cI cZ cJ) s) (hT0 : tpA (fun q : Nat => s.heap.size ≤ q) s.heap s) {h : Nat} {a : Nat → Nat} {σ : St} {o : Nat} {w : Nat → Int64} {h2 : Nat} {a2 : Nat → Nat} {τ : St} {nL nB j : Nat} {H : Heap} {locs : List Loc} {ls : Array Slot} (hj : 5 * j + 5 ≤ L) (hI : inv σ nL nB) (hR : rel σ τ nL) (hP : va_P D vwCl (gw cI cZ cJ h a σ o w h2 a2 τ) H) (hD : va_D (fun q : Nat => s.heap.size ≤ q) (gw cI cZ cJ h a σ o w h2 a2 τ)) (hS : va_S (fun q : Nat => s.heap.size ≤ q) s.heap H locs) (hl : lv_has ls 7 [(0, .ref b), (1, .ref h), (2, .ref h2), (3, .ref o), (4, .int (nI (5 * j)))]) (kn : ∀ (σ' τ' : St) (w' : Nat → Int64) (nL' nB' : Nat) (H' : Heap) (locs' : List Loc) (ls' : Array Slot), inv σ' nL' nB' → rel σ' τ' nL' → va_P D vwCl (gw cI cZ cJ h a σ' o w' h2 a2 τ') H' → va_S (fun q : Nat => s.heap.size ≤ q) s.heap H' locs' → lv_has ls' 7 [(0, .ref b), (1, .ref h), (2, .ref h2), (3, .ref o), (4, .int (nI (5 * j)))] → W p l e room_1 s m #[Value.ref b] below meth c H' locs' (27 + j + 1) (484 + 6 * j + 6) Q (F0 m 1321 ls' [])) : W p l e room_1 s m #[Value.ref b] below meth c H locs (27 + j) (484 + 6 * j) Q (F0 m 124 ls []) := by
  obtain ⟨hx, hb, hr, hml, hown, hts0, hX, hbl, hlocks, hgv⟩ := C0
  have hown : s.vm.findClass RL = some m.cls := hown
  have hts : ∀ w ∈ wsL_law, w.before #[Value.ref b] s = true := fun w h => hts0 w (wsL_law_in w h)
  have hbA : ¬ (fun q : Nat => s.heap.size ≤ q) b := Nat.not_le.mpr hbl
  have hKx : va_K D vwCl (tyX cI cZ) s := hK.sub [0, 1] rfl
  have hPx := va_P_l hP
  have hPm := va_P_r hP
  have hDx := va_D_l hD
  have hTx := tpA_nar (tpA_kept hT0 hS) (B := fun q => s.heap.size ≤ q ∧ notin (mw cI cZ h2 a2 τ) q) (fun q h => h.1)
  refine lv_aload_n hx hb dL_law_124 rfl (lv_at hl 1 rfl) ?_
  refine lv_aload_n hx hb dL_law_125 rfl (lv_at hl 0 rfl) ?_
  refine lv_iload hx hb dL_law_126 (lv_at hl 4 rfl) ?_
  refine lv_iconst (v := 1) hx hb dL_law_128 (by decide) ?_
  refine lv_iadd hx hb dL_law_129 ?_
  refine lv_topi (fun y9 e9 => ?_)
  rw [show y9 = (nI (5 * j + 1)) from e9.trans (nI_add _ 1)]
  refine sc_ld hx hb hX hbl hbA hS (i := (5 * j + 1)) (by omega) hL dL_law_130 ?_
  refine lv_aload_n hx hb dL_law_131 rfl (lv_at hl 0 rfl) ?_
  refine lv_iload hx hb dL_law_132 (lv_at hl 4 rfl) ?_
  refine lv_iconst (v := 2) hx hb dL_law_134 (by decide) ?_
  refine lv_iadd hx hb dL_law_135 ?_
  refine lv_topi (fun y9 e9 => ?_)
  rw [show y9 = (nI (5 * j + 2)) from e9.trans (nI_add _ 2)]
  refine sc_ld hx hb hX hbl hbA hS (i := (5 * j + 2)) (by omega) hL dL_law_136 ?_
  refine lv_aload_n hx hb dL_law_137 rfl (lv_at hl 3 rfl) ?_
  refine lw_callS 4 hx hb hml hown hts hl.1 hPx hK hTx hS (fun q h => h.1) (As := [.ref h, .int (xs (5 * j + 1)), .int (xs (5 * j + 2)), .ref o]) (rest := []) (c_L_addBollard l hfl D cI cZ cJ h a σ o w H _ hDx hI (xs (5 * j + 1)) (xs (5 * j + 2))) gL_law_L_addBollard rfl rfl rfl (by decide +kernel) ⟨Nat.le_of_ble_eq_true rfl, Nat.le_of_ble_eq_true rfl⟩ rfl rfl (Nat.le_of_ble_eq_true rfl) dL_law_138 ⟨by show _ ≤ 1059; omega, by show _ ≤ 8724; omega⟩ (fun r1 u1 H locs hp1 hPx hS hk1 => ?_)
  obtain ⟨σ1, w1⟩ := u1
  obtain ⟨hk, hok1, hno1⟩ := hp1
  have hPm := keepW hPm hk1
  have hD : va_D (fun q : Nat => s.heap.size ≤ q) (gw cI cZ cJ h a σ1 o w1 h2 a2 τ) := va_D_ad (W := gw cI cZ cJ h a σ o w h2 a2 τ) (W' := gw cI cZ cJ h a σ1 o w1 h2 a2 τ) rfl hD
  have hDm := va_D_r hD
  refine lv_istore (lv' := [(5, .int r1), (0, .ref b), (1, .ref h), (2, .ref h2), (3, .ref o), (4, .int (nI (5 * j)))]) hx hb dL_law_141 hl (by decide) rfl (fun ls hl => ?_)
  refine lv_aload_n hx hb dL_law_143 rfl (lv_at hl 3 rfl) ?_
  refine lv_aload_n hx hb dL_law_144 rfl (lv_at hl 1 rfl) ?_
  refine lv_iload hx hb dL_law_145 (lv_at hl 5 rfl) ?_
  refine lv_iconst (v := 1) hx hb dL_law_147 (by decide) ?_
  refine lv_iadd hx hb dL_law_148 ?_
  refine lv_topi (fun y9 e9 => ?_)
  rw [show y9 = (nI (5 * j + 1)) from e9.trans (nI_add _ 1)]
  refine sc_ld hx hb hX hbl hbA hS (i := (5 * j + 1)) (by omega) hL dL_law_149 ?_
  refine lv_aload_n hx hb dL_law_150 rfl (lv_at hl 1 rfl) ?_
  refine lv_iload hx hb dL_law_151 (lv_at hl 5 rfl) ?_
  refine lv_iconst (v := 2) hx hb dL_law_153 (by decide) ?_
  refine lv_iadd hx hb dL_law_154 ?_
  refine lv_topi (fun y9 e9 => ?_)
  rw [show y9 = (nI (5 * j + 2)) from e9.trans (nI_add _ 2)]
  refine sc_ld hx hb hX hbl hbA hS (i := (5 * j + 2)) (by omega) hL dL_law_155 ?_
  refine wr_callV 2 hx hb hml hown hts hl.1 hPm hKx hS (fun q h => h.1) 0 1 rfl rfl (As := [.int (xs (5 * j + 1)), .int (xs (5 * j + 2))]) (rest := []) (c_X1_addBollard l D cI cZ h2 a2 σ τ H _ hDm hI hR (xs (5 * j + 1)) (xs (5 * j + 2))) gL_law_X1_addBollard rfl rfl rfl (by decide +kernel) ⟨Nat.le_of_ble_eq_true rfl, Nat.le_of_ble_eq_true rfl⟩ rfl rfl (Nat.le_of_ble_eq_true rfl) dL_law_156 ⟨by show _ ≤ 1059; omega, by show _ ≤ 8724; omega⟩ (fun r2 ρ H8 locs8 hp2 hPm hS8 _ hk2 => ?_)
  obtain ⟨h15, hok2, hno2⟩ := hp2
  have hPx := keepW hPx hk2
  have hP8 : va_P D vwCl (gw cI cZ cJ h a σ1 o w1 h2 a2 ρ) H8 := va_P.app hPx hPm
  refine lv_istore (lv' := [(6, .int r2), (5, .int r1), (0, .ref b), (1, .ref h), (2, .ref h2), (3, .ref o), (4, .int (nI (5 * j)))]) hx hb dL_law_159 hl (by decide) rfl (fun ls hl => ?_)
  refine lv_aload_n hx hb dL_law_161 rfl (lv_at hl 4 rfl) ?_
  refine ro_callV 0 hx hb hml hown hts hl.1 hPm hKx 0 1 rfl rfl (As := []) (rest := []) (c_X1_thrown l D cI cZ h2 a2 ρ H8) gL_law_X1_thrown rfl rfl rfl (by decide +kernel) ⟨Nat.le_of_ble_eq_true rfl, Nat.le_of_ble_eq_true rfl⟩ rfl rfl (Nat.le_of_ble_eq_true rfl) dL_law_162 ⟨by show _ ≤ 1059; omega, by show _ ≤ 8724; omega⟩ (fun r3 hr3 => ?_)
  subst hr3
  refine lv_iload hx hb dL_law_165 (lv_at hl 1 rfl) ?_
  refine lv_icmp_eq (tgt := 172) hx hb dL_law_167 (by decide) (fun c167 => ?_) (fun c167 => ?_)
  · refine lv_iload hx hb dL_law_172 (lv_at hl 1 rfl) ?_
    refine lv_if_ne (tgt := 189) hx hb dL_law_174 (by decide) (fun c174 => ?_) (fun c174 => ?_)
    · refine lv_goto (tgt := 1321) hx hb dL_law_189 (by decide) ?_
      have hK9 : ¬ goK (inR (xs (5 * j + 1)) (-5000) 5000 && inR (xs (5 * j + 2)) 1 1000000) (decide (nB < 6)) true = 0 := fun z => c174 (hk.trans z)
      have es : σ1 = σ := hno1 hK9
      rw [es] at hP8
      exact kn σ ρ w1 nL nB H8 locs8 ls hI (hno2 hK9) hP8 hS8 (lv_sub hl [2, 3, 4, 5, 6] rfl)
    · have hK9 : goK (inR (xs (5 * j + 1)) (-5000) 5000 && inR (xs (5 * j + 2)) 1 1000000) (decide (nB < 6)) true = 0 := hk.symm.trans c174
      obtain ⟨hw, hn1⟩ := hok1 hK9
      obtain ⟨hr2, hrel⟩ := hok2 hK9
      obtain ⟨z1, z2, z3⟩ := goK_0 hK9
      refine lv_aload_n hx hb dL_law_177 rfl (lv_at hl 5 rfl) ?_
      refine lv_iconst (v := 0) hx hb dL_law_178 (by decide) ?_
      refine va_lald hx hb hK hP8 13 2 rfl rfl (by unfold vp_in; decide) dL_law_179 ?_
      refine lv_iload hx hb dL_law_180 (lv_at hl 0 rfl) ?_
      refine lv_i2l hx hb dL_law_182 rfl ?_
      refine W.lcmp hx hb dL_law_183 ?_
      refine lv_if_eq (tgt := 189) hx hb dL_law_184 (by decide) (fun c184 => ?_) (fun c184 => ?_)
      · refine lv_goto (tgt := 1321) hx hb dL_law_189 (by decide) ?_
        have es := hn1
        dsimp only at es
        rw [es] at hP8
        exact kn (abS σ nB (xs (5 * j + 1)) (xs (5 * j + 2))) ρ w1 (nL) (nB + 1) H8 locs8 ls (inv_ab hI (and_sp z1).1 (of_decide_eq_true z2)) hrel hP8 hS8 (lv_sub hl [2, 3, 4, 5, 6] rfl)
      · exact absurd ((lg_cmp_eq _ _).mpr (show w1 0 = r2.toInt64 by rw [hr2]; exact hw)) c184
  · exact absurd (h15.trans hk.symm) c167
set_option maxHeartbeats 4000000 in
set_option maxRecDepth 100000 in
theorem lc_addLine {p : Program} {l : Launch} {e : Env} {s : State} {m : MethodId} {below : List Frame} {meth : Method} {c : Code} {D : va_G} {cI cZ cJ : ClassId} {b L : Nat} {xs : Nat → Int32} {Q : State → Prop} (hfl : l.stackTraces = false) (C0 : lw_At p s m meth c b L xs) (hL : L ≤ 2560) (hK : va_K D vwCl (tyL cI cZ cJ) s) (hT0 : tpA (fun q : Nat => s.heap.size ≤ q) s.heap s) {h : Nat} {a : Nat → Nat} {σ : St} {o : Nat} {w : Nat → Int64} {h2 : Nat} {a2 : Nat → Nat} {τ : St} {nL nB j : Nat} {H : Heap} {locs : List Loc} {ls : Array Slot} (hj : 5 * j + 5 ≤ L) (hI : inv σ nL nB) (hR : rel σ τ nL) (hP : va_P D vwCl (gw cI cZ cJ h a σ o w h2 a2 τ) H) (hD : va_D (fun q : Nat => s.heap.size ≤ q) (gw cI cZ cJ h a σ o w h2 a2 τ)) (hS : va_S (fun q : Nat => s.heap.size ≤ q) s.heap H locs) (hl : lv_has ls 7 [(0, .ref b), (1, .ref h), (2, .ref h2), (3, .ref o), (4, .int (nI (5 * j)))]) (kn : ∀ (σ' τ' : St) (w' : Nat → Int64) (nL' nB' : Nat) (H' : Heap) (locs' : List Loc) (ls' : Array Slot), inv σ' nL' nB' → rel σ' τ' nL' → va_P D vwCl (gw cI cZ cJ h a σ' o w' h2 a2 τ') H' → va_S (fun q : Nat => s.heap.size ≤ q) s.heap H' locs' → lv_has ls' 7 [(0, .ref b), (1, .ref h), (2, .ref h2), (3, .ref o), (4, .int (nI (5 * j)))] → W p l e room_1 s m #[Value.ref b] below meth c H' locs' (27 + j + 1) (484 + 6 * j + 6) Q (F0 m 1321 ls' [])) : W p l e room_1 s m #[Value.ref b] below meth c H locs (27 + j) (484 + 6 * j) Q (F0 m 192 ls []) := by
  obtain ⟨hx, hb, hr, hml, hown, hts0, hX, hbl, hlocks, hgv⟩ := C0
  have hown : s.vm.findClass RL = some m.cls := hown
  have hts : ∀ w ∈ wsL_law, w.before #[Value.ref b] s = true := fun w h => hts0 w (wsL_law_in w h)
  have hbA : ¬ (fun q : Nat => s.heap.size ≤ q) b := Nat.not_le.mpr hbl
  have hKx : va_K D vwCl (tyX cI cZ) s := hK.sub [0, 1] rfl
  have hPx := va_P_l hP
  have hPm := va_P_r hP
  have hDx := va_D_l hD
  have hTx := tpA_nar (tpA_kept hT0 hS) (B := fun q => s.heap.size ≤ q ∧ notin (mw cI cZ h2 a2 τ) q) (fun q h => h.1)
  refine lv_aload_n hx hb dL_law_192 rfl (lv_at hl 1 rfl) ?_
  refine lv_aload_n hx hb dL_law_193 rfl (lv_at hl 0 rfl) ?_
  refine lv_iload hx hb dL_law_194 (lv_at hl 4 rfl) ?_
  refine lv_iconst (v := 1) hx hb dL_law_196 (by decide) ?_
  refine lv_iadd hx hb dL_law_197 ?_
  refine lv_topi (fun y9 e9 => ?_)
  rw [show y9 = (nI (5 * j + 1)) from e9.trans (nI_add _ 1)]
  refine sc_ld hx hb hX hbl hbA hS (i := (5 * j + 1)) (by omega) hL dL_law_198 ?_
  refine lv_aload_n hx hb dL_law_199 rfl (lv_at hl 0 rfl) ?_
  refine lv_iload hx hb dL_law_200 (lv_at hl 4 rfl) ?_
  refine lv_iconst (v := 2) hx hb dL_law_202 (by decide) ?_
  refine lv_iadd hx hb dL_law_203 ?_
  refine lv_topi (fun y9 e9 => ?_)
  rw [show y9 = (nI (5 * j + 2)) from e9.trans (nI_add _ 2)]
  refine sc_ld hx hb hX hbl hbA hS (i := (5 * j + 2)) (by omega) hL dL_law_204 ?_
  refine lv_aload_n hx hb dL_law_205 rfl (lv_at hl 0 rfl) ?_
  refine lv_iload hx hb dL_law_206 (lv_at hl 4 rfl) ?_
  refine lv_iconst (v := 3) hx hb dL_law_208 (by decide) ?_
  refine lv_iadd hx hb dL_law_209 ?_
  refine lv_topi (fun y9 e9 => ?_)
  rw [show y9 = (nI (5 * j + 3)) from e9.trans (nI_add _ 3)]
  refine sc_ld hx hb hX hbl hbA hS (i := (5 * j + 3)) (by omega) hL dL_law_210 ?_
  refine lv_aload_n hx hb dL_law_211 rfl (lv_at hl 0 rfl) ?_
  refine lv_iload hx hb dL_law_212 (lv_at hl 4 rfl) ?_
  refine lv_iconst (v := 4) hx hb dL_law_214 (by decide) ?_
  refine lv_iadd hx hb dL_law_215 ?_
  refine lv_topi (fun y9 e9 => ?_)
  rw [show y9 = (nI (5 * j + 4)) from e9.trans (nI_add _ 4)]
  refine sc_ld hx hb hX hbl hbA hS (i := (5 * j + 4)) (by omega) hL dL_law_216 ?_
  refine lv_aload_n hx hb dL_law_217 rfl (lv_at hl 3 rfl) ?_
  refine lw_callS 6 hx hb hml hown hts hl.1 hPx hK hTx hS (fun q h => h.1) (As := [.ref h, .int (xs (5 * j + 1)), .int (xs (5 * j + 2)), .int (xs (5 * j + 3)), .int (xs (5 * j + 4)), .ref o]) (rest := []) (c_L_addLine l hfl D cI cZ cJ h a σ o w H _ hDx hI (xs (5 * j + 1)) (xs (5 * j + 2)) (xs (5 * j + 3)) (xs (5 * j + 4))) gL_law_L_addLine rfl rfl rfl (by decide +kernel) ⟨Nat.le_of_ble_eq_true rfl, Nat.le_of_ble_eq_true rfl⟩ rfl rfl (Nat.le_of_ble_eq_true rfl) dL_law_218 ⟨by show _ ≤ 1059; omega, by show _ ≤ 8724; omega⟩ (fun r1 u1 H locs hp1 hPx hS hk1 => ?_)
  obtain ⟨σ1, w1⟩ := u1
  obtain ⟨hk, hok1, hno1⟩ := hp1
  have hPm := keepW hPm hk1
  have hD : va_D (fun q : Nat => s.heap.size ≤ q) (gw cI cZ cJ h a σ1 o w1 h2 a2 τ) := va_D_ad (W := gw cI cZ cJ h a σ o w h2 a2 τ) (W' := gw cI cZ cJ h a σ1 o w1 h2 a2 τ) rfl hD
  have hDm := va_D_r hD
  refine lv_istore (lv' := [(5, .int r1), (0, .ref b), (1, .ref h), (2, .ref h2), (3, .ref o), (4, .int (nI (5 * j)))]) hx hb dL_law_221 hl (by decide) rfl (fun ls hl => ?_)
  refine lv_aload_n hx hb dL_law_223 rfl (lv_at hl 3 rfl) ?_
  refine lv_aload_n hx hb dL_law_224 rfl (lv_at hl 1 rfl) ?_
  refine lv_iload hx hb dL_law_225 (lv_at hl 5 rfl) ?_
  refine lv_iconst (v := 1) hx hb dL_law_227 (by decide) ?_
  refine lv_iadd hx hb dL_law_228 ?_
  refine lv_topi (fun y9 e9 => ?_)
  rw [show y9 = (nI (5 * j + 1)) from e9.trans (nI_add _ 1)]
  refine sc_ld hx hb hX hbl hbA hS (i := (5 * j + 1)) (by omega) hL dL_law_229 ?_
  refine lv_aload_n hx hb dL_law_230 rfl (lv_at hl 1 rfl) ?_
  refine lv_iload hx hb dL_law_231 (lv_at hl 5 rfl) ?_
  refine lv_iconst (v := 2) hx hb dL_law_233 (by decide) ?_
  refine lv_iadd hx hb dL_law_234 ?_
  refine lv_topi (fun y9 e9 => ?_)
  rw [show y9 = (nI (5 * j + 2)) from e9.trans (nI_add _ 2)]
  refine sc_ld hx hb hX hbl hbA hS (i := (5 * j + 2)) (by omega) hL dL_law_235 ?_
  refine lv_aload_n hx hb dL_law_236 rfl (lv_at hl 1 rfl) ?_
  refine lv_iload hx hb dL_law_237 (lv_at hl 5 rfl) ?_
  refine lv_iconst (v := 3) hx hb dL_law_239 (by decide) ?_
  refine lv_iadd hx hb dL_law_240 ?_
  refine lv_topi (fun y9 e9 => ?_)
  rw [show y9 = (nI (5 * j + 3)) from e9.trans (nI_add _ 3)]
  refine sc_ld hx hb hX hbl hbA hS (i := (5 * j + 3)) (by omega) hL dL_law_241 ?_
  refine lv_aload_n hx hb dL_law_242 rfl (lv_at hl 1 rfl) ?_
  refine lv_iload hx hb dL_law_243 (lv_at hl 5 rfl) ?_
  refine lv_iconst (v := 4) hx hb dL_law_245 (by decide) ?_
  refine lv_iadd hx hb dL_law_246 ?_
  refine lv_topi (fun y9 e9 => ?_)
  rw [show y9 = (nI (5 * j + 4)) from e9.trans (nI_add _ 4)]
  refine sc_ld hx hb hX hbl hbA hS (i := (5 * j + 4)) (by omega) hL dL_law_247 ?_
  refine wr_callV 4 hx hb hml hown hts hl.1 hPm hKx hS (fun q h => h.1) 0 1 rfl rfl (As := [.int (xs (5 * j + 1)), .int (xs (5 * j + 2)), .int (xs (5 * j + 3)), .int (xs (5 * j + 4))]) (rest := []) (c_X1_addLine l D cI cZ h2 a2 σ τ H _ hDm hI hR (xs (5 * j + 1)) (xs (5 * j + 2)) (xs (5 * j + 3)) (xs (5 * j + 4))) gL_law_X1_addLine rfl rfl rfl (by decide +kernel) ⟨Nat.le_of_ble_eq_true rfl, Nat.le_of_ble_eq_true rfl⟩ rfl rfl (Nat.le_of_ble_eq_true rfl) dL_law_248 ⟨by show _ ≤ 1059; omega, by show _ ≤ 8724; omega⟩ (fun r2 ρ H8 locs8 hp2 hPm hS8 _ hk2 => ?_)
  obtain ⟨h15, hok2, hno2⟩ := hp2
  have hPx := keepW hPx hk2
  have hP8 : va_P D vwCl (gw cI cZ cJ h a σ1 o w1 h2 a2 ρ) H8 := va_P.app hPx hPm
  refine lv_istore (lv' := [(6, .int r2), (5, .int r1), (0, .ref b), (1, .ref h), (2, .ref h2), (3, .ref o), (4, .int (nI (5 * j)))]) hx hb dL_law_251 hl (by decide) rfl (fun ls hl => ?_)
  refine lv_aload_n hx hb dL_law_253 rfl (lv_at hl 4 rfl) ?_
  refine ro_callV 0 hx hb hml hown hts hl.1 hPm hKx 0 1 rfl rfl (As := []) (rest := []) (c_X1_thrown l D cI cZ h2 a2 ρ H8) gL_law_X1_thrown rfl rfl rfl (by decide +kernel) ⟨Nat.le_of_ble_eq_true rfl, Nat.le_of_ble_eq_true rfl⟩ rfl rfl (Nat.le_of_ble_eq_true rfl) dL_law_254 ⟨by show _ ≤ 1059; omega, by show _ ≤ 8724; omega⟩ (fun r3 hr3 => ?_)
  subst hr3
  refine lv_iload hx hb dL_law_257 (lv_at hl 1 rfl) ?_
  refine lv_icmp_eq (tgt := 264) hx hb dL_law_259 (by decide) (fun c259 => ?_) (fun c259 => ?_)
  · refine lv_iload hx hb dL_law_264 (lv_at hl 1 rfl) ?_
    refine lv_if_ne (tgt := 281) hx hb dL_law_266 (by decide) (fun c266 => ?_) (fun c266 => ?_)
    · refine lv_goto (tgt := 1321) hx hb dL_law_281 (by decide) ?_
      have hK9 : ¬ goK (inR (xs (5 * j + 2)) 0 (nI nB - 1)) (inR (xs (5 * j + 1)) (-5000) 5000 && (inR (xs (5 * j + 3)) 1 100 && inR (xs (5 * j + 4)) 1 1000000)) (decide (nL < 10)) = 0 := fun z => c266 (hk.trans z)
      have es : σ1 = σ := hno1 hK9
      rw [es] at hP8
      exact kn σ ρ w1 nL nB H8 locs8 ls hI (hno2 hK9) hP8 hS8 (lv_sub hl [2, 3, 4, 5, 6] rfl)
    · have hK9 : goK (inR (xs (5 * j + 2)) 0 (nI nB - 1)) (inR (xs (5 * j + 1)) (-5000) 5000 && (inR (xs (5 * j + 3)) 1 100 && inR (xs (5 * j + 4)) 1 1000000)) (decide (nL < 10)) = 0 := hk.symm.trans c266
      obtain ⟨hw, hn1⟩ := hok1 hK9
      obtain ⟨hr2, hrel⟩ := hok2 hK9
      obtain ⟨z1, z2, z3⟩ := goK_0 hK9
      refine lv_aload_n hx hb dL_law_269 rfl (lv_at hl 5 rfl) ?_
      refine lv_iconst (v := 0) hx hb dL_law_270 (by decide) ?_
      refine va_lald hx hb hK hP8 13 2 rfl rfl (by unfold vp_in; decide) dL_law_271 ?_
      refine lv_iload hx hb dL_law_272 (lv_at hl 0 rfl) ?_
      refine lv_i2l hx hb dL_law_274 rfl ?_
      refine W.lcmp hx hb dL_law_275 ?_
      refine lv_if_eq (tgt := 281) hx hb dL_law_276 (by decide) (fun c276 => ?_) (fun c276 => ?_)
      · refine lv_goto (tgt := 1321) hx hb dL_law_281 (by decide) ?_
        have es := hn1
        dsimp only at es
        rw [es] at hP8
        exact kn (alS σ nL (xs (5 * j + 1)) (xs (5 * j + 2)) (xs (5 * j + 3)) (xs (5 * j + 4))) ρ w1 (nL + 1) (nB) H8 locs8 ls (inv_al' hI z1 (and_sp z2).1 (and_sp (and_sp z2).2).1 (and_sp (and_sp z2).2).2 (of_decide_eq_true z3)) hrel hP8 hS8 (lv_sub hl [2, 3, 4, 5, 6] rfl)
      · exact absurd ((lg_cmp_eq _ _).mpr (show w1 0 = r2.toInt64 by rw [hr2]; exact hw)) c276
  · exact absurd (h15.trans hk.symm) c259
set_option maxHeartbeats 4000000 in
set_option maxRecDepth 100000 in
theorem lc_toggle {p : Program} {l : Launch} {e : Env} {s : State} {m : MethodId} {below : List Frame} {meth : Method} {c : Code} {D : va_G} {cI cZ cJ : ClassId} {b L : Nat} {xs : Nat → Int32} {Q : State → Prop} (hfl : l.stackTraces = false) (C0 : lw_At p s m meth c b L xs) (hL : L ≤ 2560) (hK : va_K D vwCl (tyL cI cZ cJ) s) (hT0 : tpA (fun q : Nat => s.heap.size ≤ q) s.heap s) {h : Nat} {a : Nat → Nat} {σ : St} {o : Nat} {w : Nat → Int64} {h2 : Nat} {a2 : Nat → Nat} {τ : St} {nL nB j : Nat} {H : Heap} {locs : List Loc} {ls : Array Slot} (hj : 5 * j + 5 ≤ L) (hI : inv σ nL nB) (hR : rel σ τ nL) (hP : va_P D vwCl (gw cI cZ cJ h a σ o w h2 a2 τ) H) (hD : va_D (fun q : Nat => s.heap.size ≤ q) (gw cI cZ cJ h a σ o w h2 a2 τ)) (hS : va_S (fun q : Nat => s.heap.size ≤ q) s.heap H locs) (hl : lv_has ls 7 [(0, .ref b), (1, .ref h), (2, .ref h2), (3, .ref o), (4, .int (nI (5 * j)))]) (kn : ∀ (σ' τ' : St) (w' : Nat → Int64) (nL' nB' : Nat) (H' : Heap) (locs' : List Loc) (ls' : Array Slot), inv σ' nL' nB' → rel σ' τ' nL' → va_P D vwCl (gw cI cZ cJ h a σ' o w' h2 a2 τ') H' → va_S (fun q : Nat => s.heap.size ≤ q) s.heap H' locs' → lv_has ls' 7 [(0, .ref b), (1, .ref h), (2, .ref h2), (3, .ref o), (4, .int (nI (5 * j)))] → W p l e room_1 s m #[Value.ref b] below meth c H' locs' (27 + j + 1) (484 + 6 * j + 6) Q (F0 m 1321 ls' [])) : W p l e room_1 s m #[Value.ref b] below meth c H locs (27 + j) (484 + 6 * j) Q (F0 m 284 ls []) := by
  obtain ⟨hx, hb, hr, hml, hown, hts0, hX, hbl, hlocks, hgv⟩ := C0
  have hown : s.vm.findClass RL = some m.cls := hown
  have hts : ∀ w ∈ wsL_law, w.before #[Value.ref b] s = true := fun w h => hts0 w (wsL_law_in w h)
  have hbA : ¬ (fun q : Nat => s.heap.size ≤ q) b := Nat.not_le.mpr hbl
  have hKx : va_K D vwCl (tyX cI cZ) s := hK.sub [0, 1] rfl
  have hPx := va_P_l hP
  have hPm := va_P_r hP
  have hDx := va_D_l hD
  have hTx := tpA_nar (tpA_kept hT0 hS) (B := fun q => s.heap.size ≤ q ∧ notin (mw cI cZ h2 a2 τ) q) (fun q h => h.1)
  refine lv_aload_n hx hb dL_law_284 rfl (lv_at hl 1 rfl) ?_
  refine lv_aload_n hx hb dL_law_285 rfl (lv_at hl 0 rfl) ?_
  refine lv_iload hx hb dL_law_286 (lv_at hl 4 rfl) ?_
  refine lv_iconst (v := 1) hx hb dL_law_288 (by decide) ?_
  refine lv_iadd hx hb dL_law_289 ?_
  refine lv_topi (fun y9 e9 => ?_)
  rw [show y9 = (nI (5 * j + 1)) from e9.trans (nI_add _ 1)]
  refine sc_ld hx hb hX hbl hbA hS (i := (5 * j + 1)) (by omega) hL dL_law_290 ?_
  refine lv_aload_n hx hb dL_law_291 rfl (lv_at hl 3 rfl) ?_
  refine lw_callS 3 hx hb hml hown hts hl.1 hPx hK hTx hS (fun q h => h.1) (As := [.ref h, .int (xs (5 * j + 1)), .ref o]) (rest := []) (c_L_toggle l hfl D cI cZ cJ h a σ o w H _ hDx hI (xs (5 * j + 1))) gL_law_L_toggle rfl rfl rfl (by decide +kernel) ⟨Nat.le_of_ble_eq_true rfl, Nat.le_of_ble_eq_true rfl⟩ rfl rfl (Nat.le_of_ble_eq_true rfl) dL_law_292 ⟨by show _ ≤ 1059; omega, by show _ ≤ 8724; omega⟩ (fun r1 u1 H locs hp1 hPx hS hk1 => ?_)
  obtain ⟨σ1, w1⟩ := u1
  obtain ⟨hk, hok1, hno1⟩ := hp1
  have hPm := keepW hPm hk1
  have hD : va_D (fun q : Nat => s.heap.size ≤ q) (gw cI cZ cJ h a σ1 o w1 h2 a2 τ) := va_D_ad (W := gw cI cZ cJ h a σ o w h2 a2 τ) (W' := gw cI cZ cJ h a σ1 o w1 h2 a2 τ) rfl hD
  have hDm := va_D_r hD
  refine lv_istore (lv' := [(5, .int r1), (0, .ref b), (1, .ref h), (2, .ref h2), (3, .ref o), (4, .int (nI (5 * j)))]) hx hb dL_law_295 hl (by decide) rfl (fun ls hl => ?_)
  refine lv_aload_n hx hb dL_law_297 rfl (lv_at hl 3 rfl) ?_
  refine lv_aload_n hx hb dL_law_298 rfl (lv_at hl 1 rfl) ?_
  refine lv_iload hx hb dL_law_299 (lv_at hl 5 rfl) ?_
  refine lv_iconst (v := 1) hx hb dL_law_301 (by decide) ?_
  refine lv_iadd hx hb dL_law_302 ?_
  refine lv_topi (fun y9 e9 => ?_)
  rw [show y9 = (nI (5 * j + 1)) from e9.trans (nI_add _ 1)]
  refine sc_ld hx hb hX hbl hbA hS (i := (5 * j + 1)) (by omega) hL dL_law_303 ?_
  refine wr_callV 1 hx hb hml hown hts hl.1 hPm hKx hS (fun q h => h.1) 0 1 rfl rfl (As := [.int (xs (5 * j + 1))]) (rest := []) (c_X1_toggle l D cI cZ h2 a2 σ τ H _ hDm hI hR (xs (5 * j + 1))) gL_law_X1_toggle rfl rfl rfl (by decide +kernel) ⟨Nat.le_of_ble_eq_true rfl, Nat.le_of_ble_eq_true rfl⟩ rfl rfl (Nat.le_of_ble_eq_true rfl) dL_law_304 ⟨by show _ ≤ 1059; omega, by show _ ≤ 8724; omega⟩ (fun r2 ρ H8 locs8 hp2 hPm hS8 _ hk2 => ?_)
  obtain ⟨h15, hok2, hno2⟩ := hp2
  have hPx := keepW hPx hk2
  have hP8 : va_P D vwCl (gw cI cZ cJ h a σ1 o w1 h2 a2 ρ) H8 := va_P.app hPx hPm
  refine lv_istore (lv' := [(6, .int r2), (5, .int r1), (0, .ref b), (1, .ref h), (2, .ref h2), (3, .ref o), (4, .int (nI (5 * j)))]) hx hb dL_law_307 hl (by decide) rfl (fun ls hl => ?_)
  refine lv_aload_n hx hb dL_law_309 rfl (lv_at hl 4 rfl) ?_
  refine ro_callV 0 hx hb hml hown hts hl.1 hPm hKx 0 1 rfl rfl (As := []) (rest := []) (c_X1_thrown l D cI cZ h2 a2 ρ H8) gL_law_X1_thrown rfl rfl rfl (by decide +kernel) ⟨Nat.le_of_ble_eq_true rfl, Nat.le_of_ble_eq_true rfl⟩ rfl rfl (Nat.le_of_ble_eq_true rfl) dL_law_310 ⟨by show _ ≤ 1059; omega, by show _ ≤ 8724; omega⟩ (fun r3 hr3 => ?_)
  subst hr3
  refine lv_iload hx hb dL_law_313 (lv_at hl 1 rfl) ?_
  refine lv_icmp_eq (tgt := 320) hx hb dL_law_315 (by decide) (fun c315 => ?_) (fun c315 => ?_)
  · refine lv_iload hx hb dL_law_320 (lv_at hl 1 rfl) ?_
    refine lv_if_ne (tgt := 344) hx hb dL_law_322 (by decide) (fun c322 => ?_) (fun c322 => ?_)
    · refine lv_goto (tgt := 1321) hx hb dL_law_344 (by decide) ?_
      have hK9 : ¬ goK (inR (xs (5 * j + 1)) 0 (nI nL - 1)) true true = 0 := fun z => c322 (hk.trans z)
      have es : σ1 = σ := hno1 hK9
      rw [es] at hP8
      exact kn σ ρ w1 nL nB H8 locs8 ls hI (hno2 hK9) hP8 hS8 (lv_sub hl [2, 3, 4, 5, 6] rfl)
    · have hK9 : goK (inR (xs (5 * j + 1)) 0 (nI nL - 1)) true true = 0 := hk.symm.trans c322
      obtain ⟨hw, hn1⟩ := hok1 hK9
      obtain ⟨hr2, hrel⟩ := hok2 hK9
      obtain ⟨z1, z2, z3⟩ := goK_0 hK9
      refine lv_aload_n hx hb dL_law_325 rfl (lv_at hl 5 rfl) ?_
      refine lv_iconst (v := 0) hx hb dL_law_326 (by decide) ?_
      refine va_lald hx hb hK hP8 13 2 rfl rfl (by unfold vp_in; decide) dL_law_327 ?_
      refine lv_iload hx hb dL_law_328 (lv_at hl 0 rfl) ?_
      refine lv_if_eq (tgt := 337) hx hb dL_law_330 (by decide) (fun c330 => ?_) (fun c330 => ?_)
      · refine lv_lconst (v := 0) hx hb dL_law_337 (by decide) ?_
        refine W.lcmp hx hb dL_law_338 ?_
        refine lv_if_eq (tgt := 344) hx hb dL_law_339 (by decide) (fun c339 => ?_) (fun c339 => ?_)
        · refine lv_goto (tgt := 1321) hx hb dL_law_344 (by decide) ?_
          have es := hn1
          dsimp only at es
          rw [es] at hP8
          exact kn (st σ 13 (upd (σ 13) (tN (xs (5 * j + 1))) (nxF σ (tN (xs (5 * j + 1)))))) ρ w1 (nL) (nB) H8 locs8 ls (inv_tog hI) hrel hP8 hS8 (lv_sub hl [2, 3, 4, 5, 6] rfl)
        · exact absurd ((lg_cmp_eq _ _).mpr (show w1 0 = 0 by rw [show w1 0 = _ from hw, ← hr2, c330]; rfl)) c339
      · refine lv_lconst (v := 1) hx hb dL_law_333 (by decide) ?_
        refine lv_goto (tgt := 338) hx hb dL_law_334 (by decide) ?_
        refine W.lcmp hx hb dL_law_338 ?_
        refine lv_if_eq (tgt := 344) hx hb dL_law_339 (by decide) (fun c339 => ?_) (fun c339 => ?_)
        · refine lv_goto (tgt := 1321) hx hb dL_law_344 (by decide) ?_
          have es := hn1
          dsimp only at es
          rw [es] at hP8
          exact kn (st σ 13 (upd (σ 13) (tN (xs (5 * j + 1))) (nxF σ (tN (xs (5 * j + 1)))))) ρ w1 (nL) (nB) H8 locs8 ls (inv_tog hI) hrel hP8 hS8 (lv_sub hl [2, 3, 4, 5, 6] rfl)
        · exact absurd ((lg_cmp_eq _ _).mpr (show w1 0 = 1 by rw [show w1 0 = _ from hw]; rcases (nx_01 σ (tN (xs (5 * j + 1))) : nxF σ (tN (xs (5 * j + 1))) = 0 ∨ nxF σ (tN (xs (5 * j + 1))) = 1) with z | z; exact absurd (hr2.trans z) c330; rw [z]; rfl)) c339
  · exact absurd (h15.trans hk.symm) c315
set_option maxHeartbeats 4000000 in
set_option maxRecDepth 100000 in
theorem lc_setTide {p : Program} {l : Launch} {e : Env} {s : State} {m : MethodId} {below : List Frame} {meth : Method} {c : Code} {D : va_G} {cI cZ cJ : ClassId} {b L : Nat} {xs : Nat → Int32} {Q : State → Prop} (hfl : l.stackTraces = false) (C0 : lw_At p s m meth c b L xs) (hL : L ≤ 2560) (hK : va_K D vwCl (tyL cI cZ cJ) s) (hT0 : tpA (fun q : Nat => s.heap.size ≤ q) s.heap s) {h : Nat} {a : Nat → Nat} {σ : St} {o : Nat} {w : Nat → Int64} {h2 : Nat} {a2 : Nat → Nat} {τ : St} {nL nB j : Nat} {H : Heap} {locs : List Loc} {ls : Array Slot} (hj : 5 * j + 5 ≤ L) (hI : inv σ nL nB) (hR : rel σ τ nL) (hP : va_P D vwCl (gw cI cZ cJ h a σ o w h2 a2 τ) H) (hD : va_D (fun q : Nat => s.heap.size ≤ q) (gw cI cZ cJ h a σ o w h2 a2 τ)) (hS : va_S (fun q : Nat => s.heap.size ≤ q) s.heap H locs) (hl : lv_has ls 7 [(0, .ref b), (1, .ref h), (2, .ref h2), (3, .ref o), (4, .int (nI (5 * j)))]) (kn : ∀ (σ' τ' : St) (w' : Nat → Int64) (nL' nB' : Nat) (H' : Heap) (locs' : List Loc) (ls' : Array Slot), inv σ' nL' nB' → rel σ' τ' nL' → va_P D vwCl (gw cI cZ cJ h a σ' o w' h2 a2 τ') H' → va_S (fun q : Nat => s.heap.size ≤ q) s.heap H' locs' → lv_has ls' 7 [(0, .ref b), (1, .ref h), (2, .ref h2), (3, .ref o), (4, .int (nI (5 * j)))] → W p l e room_1 s m #[Value.ref b] below meth c H' locs' (27 + j + 1) (484 + 6 * j + 6) Q (F0 m 1321 ls' [])) : W p l e room_1 s m #[Value.ref b] below meth c H locs (27 + j) (484 + 6 * j) Q (F0 m 347 ls []) := by
  obtain ⟨hx, hb, hr, hml, hown, hts0, hX, hbl, hlocks, hgv⟩ := C0
  have hown : s.vm.findClass RL = some m.cls := hown
  have hts : ∀ w ∈ wsL_law, w.before #[Value.ref b] s = true := fun w h => hts0 w (wsL_law_in w h)
  have hbA : ¬ (fun q : Nat => s.heap.size ≤ q) b := Nat.not_le.mpr hbl
  have hKx : va_K D vwCl (tyX cI cZ) s := hK.sub [0, 1] rfl
  have hPx := va_P_l hP
  have hPm := va_P_r hP
  have hDx := va_D_l hD
  have hTx := tpA_nar (tpA_kept hT0 hS) (B := fun q => s.heap.size ≤ q ∧ notin (mw cI cZ h2 a2 τ) q) (fun q h => h.1)
  refine lv_aload_n hx hb dL_law_347 rfl (lv_at hl 1 rfl) ?_
  refine lv_aload_n hx hb dL_law_348 rfl (lv_at hl 0 rfl) ?_
  refine lv_iload hx hb dL_law_349 (lv_at hl 4 rfl) ?_
  refine lv_iconst (v := 1) hx hb dL_law_351 (by decide) ?_
  refine lv_iadd hx hb dL_law_352 ?_
  refine lv_topi (fun y9 e9 => ?_)
  rw [show y9 = (nI (5 * j + 1)) from e9.trans (nI_add _ 1)]
  refine sc_ld hx hb hX hbl hbA hS (i := (5 * j + 1)) (by omega) hL dL_law_353 ?_
  refine lv_aload_n hx hb dL_law_354 rfl (lv_at hl 0 rfl) ?_
  refine lv_iload hx hb dL_law_355 (lv_at hl 4 rfl) ?_
  refine lv_iconst (v := 2) hx hb dL_law_357 (by decide) ?_
  refine lv_iadd hx hb dL_law_358 ?_
  refine lv_topi (fun y9 e9 => ?_)
  rw [show y9 = (nI (5 * j + 2)) from e9.trans (nI_add _ 2)]
  refine sc_ld hx hb hX hbl hbA hS (i := (5 * j + 2)) (by omega) hL dL_law_359 ?_
  refine lv_aload_n hx hb dL_law_360 rfl (lv_at hl 3 rfl) ?_
  refine lw_callS 4 hx hb hml hown hts hl.1 hPx hK hTx hS (fun q h => h.1) (As := [.ref h, .int (xs (5 * j + 1)), .int (xs (5 * j + 2)), .ref o]) (rest := []) (c_L_setTide l hfl D cI cZ cJ h a σ o w H _ hDx hI (xs (5 * j + 1)) (xs (5 * j + 2))) gL_law_L_setTide rfl rfl rfl (by decide +kernel) ⟨Nat.le_of_ble_eq_true rfl, Nat.le_of_ble_eq_true rfl⟩ rfl rfl (Nat.le_of_ble_eq_true rfl) dL_law_361 ⟨by show _ ≤ 1059; omega, by show _ ≤ 8724; omega⟩ (fun r1 u1 H locs hp1 hPx hS hk1 => ?_)
  obtain ⟨σ1, w1⟩ := u1
  obtain ⟨hk, hok1, hno1⟩ := hp1
  have hPm := keepW hPm hk1
  have hD : va_D (fun q : Nat => s.heap.size ≤ q) (gw cI cZ cJ h a σ1 o w1 h2 a2 τ) := va_D_ad (W := gw cI cZ cJ h a σ o w h2 a2 τ) (W' := gw cI cZ cJ h a σ1 o w1 h2 a2 τ) rfl hD
  have hDm := va_D_r hD
  refine lv_istore (lv' := [(5, .int r1), (0, .ref b), (1, .ref h), (2, .ref h2), (3, .ref o), (4, .int (nI (5 * j)))]) hx hb dL_law_364 hl (by decide) rfl (fun ls hl => ?_)
  refine lv_aload_n hx hb dL_law_366 rfl (lv_at hl 3 rfl) ?_
  refine lv_aload_n hx hb dL_law_367 rfl (lv_at hl 1 rfl) ?_
  refine lv_iload hx hb dL_law_368 (lv_at hl 5 rfl) ?_
  refine lv_iconst (v := 1) hx hb dL_law_370 (by decide) ?_
  refine lv_iadd hx hb dL_law_371 ?_
  refine lv_topi (fun y9 e9 => ?_)
  rw [show y9 = (nI (5 * j + 1)) from e9.trans (nI_add _ 1)]
  refine sc_ld hx hb hX hbl hbA hS (i := (5 * j + 1)) (by omega) hL dL_law_372 ?_
  refine lv_aload_n hx hb dL_law_373 rfl (lv_at hl 1 rfl) ?_
  refine lv_iload hx hb dL_law_374 (lv_at hl 5 rfl) ?_
  refine lv_iconst (v := 2) hx hb dL_law_376 (by decide) ?_
  refine lv_iadd hx hb dL_law_377 ?_
  refine lv_topi (fun y9 e9 => ?_)
  rw [show y9 = (nI (5 * j + 2)) from e9.trans (nI_add _ 2)]
  refine sc_ld hx hb hX hbl hbA hS (i := (5 * j + 2)) (by omega) hL dL_law_378 ?_
  refine wr_callV 2 hx hb hml hown hts hl.1 hPm hKx hS (fun q h => h.1) 0 1 rfl rfl (As := [.int (xs (5 * j + 1)), .int (xs (5 * j + 2))]) (rest := []) (c_X1_setTide l D cI cZ h2 a2 σ τ H _ hDm hI hR (xs (5 * j + 1)) (xs (5 * j + 2))) gL_law_X1_setTide rfl rfl rfl (by decide +kernel) ⟨Nat.le_of_ble_eq_true rfl, Nat.le_of_ble_eq_true rfl⟩ rfl rfl (Nat.le_of_ble_eq_true rfl) dL_law_379 ⟨by show _ ≤ 1059; omega, by show _ ≤ 8724; omega⟩ (fun r2 ρ H8 locs8 hp2 hPm hS8 _ hk2 => ?_)
  obtain ⟨h15, hok2, hno2⟩ := hp2
  have hPx := keepW hPx hk2
  have hP8 : va_P D vwCl (gw cI cZ cJ h a σ1 o w1 h2 a2 ρ) H8 := va_P.app hPx hPm
  refine lv_istore (lv' := [(6, .int r2), (5, .int r1), (0, .ref b), (1, .ref h), (2, .ref h2), (3, .ref o), (4, .int (nI (5 * j)))]) hx hb dL_law_382 hl (by decide) rfl (fun ls hl => ?_)
  refine lv_aload_n hx hb dL_law_384 rfl (lv_at hl 4 rfl) ?_
  refine ro_callV 0 hx hb hml hown hts hl.1 hPm hKx 0 1 rfl rfl (As := []) (rest := []) (c_X1_thrown l D cI cZ h2 a2 ρ H8) gL_law_X1_thrown rfl rfl rfl (by decide +kernel) ⟨Nat.le_of_ble_eq_true rfl, Nat.le_of_ble_eq_true rfl⟩ rfl rfl (Nat.le_of_ble_eq_true rfl) dL_law_385 ⟨by show _ ≤ 1059; omega, by show _ ≤ 8724; omega⟩ (fun r3 hr3 => ?_)
  subst hr3
  refine lv_iload hx hb dL_law_388 (lv_at hl 1 rfl) ?_
  refine lv_icmp_eq (tgt := 395) hx hb dL_law_390 (by decide) (fun c390 => ?_) (fun c390 => ?_)
  · refine lv_iload hx hb dL_law_395 (lv_at hl 1 rfl) ?_
    refine lv_if_ne (tgt := 412) hx hb dL_law_397 (by decide) (fun c397 => ?_) (fun c397 => ?_)
    · refine lv_goto (tgt := 1321) hx hb dL_law_412 (by decide) ?_
      have hK9 : ¬ goK (inR (xs (5 * j + 1)) 0 47) (inR (xs (5 * j + 2)) (-200) 200) true = 0 := fun z => c397 (hk.trans z)
      have es : σ1 = σ := hno1 hK9
      rw [es] at hP8
      exact kn σ ρ w1 nL nB H8 locs8 ls hI (hno2 hK9) hP8 hS8 (lv_sub hl [2, 3, 4, 5, 6] rfl)
    · have hK9 : goK (inR (xs (5 * j + 1)) 0 47) (inR (xs (5 * j + 2)) (-200) 200) true = 0 := hk.symm.trans c397
      obtain ⟨hw, hn1⟩ := hok1 hK9
      obtain ⟨hr2, hrel⟩ := hok2 hK9
      obtain ⟨z1, z2, z3⟩ := goK_0 hK9
      refine lv_aload_n hx hb dL_law_400 rfl (lv_at hl 5 rfl) ?_
      refine lv_iconst (v := 0) hx hb dL_law_401 (by decide) ?_
      refine va_lald hx hb hK hP8 13 2 rfl rfl (by unfold vp_in; decide) dL_law_402 ?_
      refine lv_iload hx hb dL_law_403 (lv_at hl 0 rfl) ?_
      refine lv_i2l hx hb dL_law_405 rfl ?_
      refine W.lcmp hx hb dL_law_406 ?_
      refine lv_if_eq (tgt := 412) hx hb dL_law_407 (by decide) (fun c407 => ?_) (fun c407 => ?_)
      · refine lv_goto (tgt := 1321) hx hb dL_law_412 (by decide) ?_
        have es := hn1
        dsimp only at es
        rw [es] at hP8
        exact kn (st σ 0 (upd (σ 0) (tN (xs (5 * j + 1))) (xs (5 * j + 2)))) ρ w1 (nL) (nB) H8 locs8 ls (inv_tide hI z2) hrel hP8 hS8 (lv_sub hl [2, 3, 4, 5, 6] rfl)
      · exact absurd ((lg_cmp_eq _ _).mpr (show w1 0 = r2.toInt64 by rw [hr2]; exact hw)) c407
  · exact absurd (h15.trans hk.symm) c390
set_option maxHeartbeats 4000000 in
set_option maxRecDepth 100000 in
theorem lc_setLoad {p : Program} {l : Launch} {e : Env} {s : State} {m : MethodId} {below : List Frame} {meth : Method} {c : Code} {D : va_G} {cI cZ cJ : ClassId} {b L : Nat} {xs : Nat → Int32} {Q : State → Prop} (hfl : l.stackTraces = false) (C0 : lw_At p s m meth c b L xs) (hL : L ≤ 2560) (hK : va_K D vwCl (tyL cI cZ cJ) s) (hT0 : tpA (fun q : Nat => s.heap.size ≤ q) s.heap s) {h : Nat} {a : Nat → Nat} {σ : St} {o : Nat} {w : Nat → Int64} {h2 : Nat} {a2 : Nat → Nat} {τ : St} {nL nB j : Nat} {H : Heap} {locs : List Loc} {ls : Array Slot} (hj : 5 * j + 5 ≤ L) (hI : inv σ nL nB) (hR : rel σ τ nL) (hP : va_P D vwCl (gw cI cZ cJ h a σ o w h2 a2 τ) H) (hD : va_D (fun q : Nat => s.heap.size ≤ q) (gw cI cZ cJ h a σ o w h2 a2 τ)) (hS : va_S (fun q : Nat => s.heap.size ≤ q) s.heap H locs) (hl : lv_has ls 7 [(0, .ref b), (1, .ref h), (2, .ref h2), (3, .ref o), (4, .int (nI (5 * j)))]) (kn : ∀ (σ' τ' : St) (w' : Nat → Int64) (nL' nB' : Nat) (H' : Heap) (locs' : List Loc) (ls' : Array Slot), inv σ' nL' nB' → rel σ' τ' nL' → va_P D vwCl (gw cI cZ cJ h a σ' o w' h2 a2 τ') H' → va_S (fun q : Nat => s.heap.size ≤ q) s.heap H' locs' → lv_has ls' 7 [(0, .ref b), (1, .ref h), (2, .ref h2), (3, .ref o), (4, .int (nI (5 * j)))] → W p l e room_1 s m #[Value.ref b] below meth c H' locs' (27 + j + 1) (484 + 6 * j + 6) Q (F0 m 1321 ls' [])) : W p l e room_1 s m #[Value.ref b] below meth c H locs (27 + j) (484 + 6 * j) Q (F0 m 415 ls []) := by
  obtain ⟨hx, hb, hr, hml, hown, hts0, hX, hbl, hlocks, hgv⟩ := C0
  have hown : s.vm.findClass RL = some m.cls := hown
  have hts : ∀ w ∈ wsL_law, w.before #[Value.ref b] s = true := fun w h => hts0 w (wsL_law_in w h)
  have hbA : ¬ (fun q : Nat => s.heap.size ≤ q) b := Nat.not_le.mpr hbl
  have hKx : va_K D vwCl (tyX cI cZ) s := hK.sub [0, 1] rfl
  have hPx := va_P_l hP
  have hPm := va_P_r hP
  have hDx := va_D_l hD
  have hTx := tpA_nar (tpA_kept hT0 hS) (B := fun q => s.heap.size ≤ q ∧ notin (mw cI cZ h2 a2 τ) q) (fun q h => h.1)
  refine lv_aload_n hx hb dL_law_415 rfl (lv_at hl 1 rfl) ?_
  refine lv_aload_n hx hb dL_law_416 rfl (lv_at hl 0 rfl) ?_
  refine lv_iload hx hb dL_law_417 (lv_at hl 4 rfl) ?_
  refine lv_iconst (v := 1) hx hb dL_law_419 (by decide) ?_
  refine lv_iadd hx hb dL_law_420 ?_
  refine lv_topi (fun y9 e9 => ?_)
  rw [show y9 = (nI (5 * j + 1)) from e9.trans (nI_add _ 1)]
  refine sc_ld hx hb hX hbl hbA hS (i := (5 * j + 1)) (by omega) hL dL_law_421 ?_
  refine lv_aload_n hx hb dL_law_422 rfl (lv_at hl 0 rfl) ?_
  refine lv_iload hx hb dL_law_423 (lv_at hl 4 rfl) ?_
  refine lv_iconst (v := 2) hx hb dL_law_425 (by decide) ?_
  refine lv_iadd hx hb dL_law_426 ?_
  refine lv_topi (fun y9 e9 => ?_)
  rw [show y9 = (nI (5 * j + 2)) from e9.trans (nI_add _ 2)]
  refine sc_ld hx hb hX hbl hbA hS (i := (5 * j + 2)) (by omega) hL dL_law_427 ?_
  refine lv_aload_n hx hb dL_law_428 rfl (lv_at hl 3 rfl) ?_
  refine lw_callS 4 hx hb hml hown hts hl.1 hPx hK hTx hS (fun q h => h.1) (As := [.ref h, .int (xs (5 * j + 1)), .int (xs (5 * j + 2)), .ref o]) (rest := []) (c_L_setLoad l hfl D cI cZ cJ h a σ o w H _ hDx hI (xs (5 * j + 1)) (xs (5 * j + 2))) gL_law_L_setLoad rfl rfl rfl (by decide +kernel) ⟨Nat.le_of_ble_eq_true rfl, Nat.le_of_ble_eq_true rfl⟩ rfl rfl (Nat.le_of_ble_eq_true rfl) dL_law_429 ⟨by show _ ≤ 1059; omega, by show _ ≤ 8724; omega⟩ (fun r1 u1 H locs hp1 hPx hS hk1 => ?_)
  obtain ⟨σ1, w1⟩ := u1
  obtain ⟨hk, hok1, hno1⟩ := hp1
  have hPm := keepW hPm hk1
  have hD : va_D (fun q : Nat => s.heap.size ≤ q) (gw cI cZ cJ h a σ1 o w1 h2 a2 τ) := va_D_ad (W := gw cI cZ cJ h a σ o w h2 a2 τ) (W' := gw cI cZ cJ h a σ1 o w1 h2 a2 τ) rfl hD
  have hDm := va_D_r hD
  refine lv_istore (lv' := [(5, .int r1), (0, .ref b), (1, .ref h), (2, .ref h2), (3, .ref o), (4, .int (nI (5 * j)))]) hx hb dL_law_432 hl (by decide) rfl (fun ls hl => ?_)
  refine lv_aload_n hx hb dL_law_434 rfl (lv_at hl 3 rfl) ?_
  refine lv_aload_n hx hb dL_law_435 rfl (lv_at hl 1 rfl) ?_
  refine lv_iload hx hb dL_law_436 (lv_at hl 5 rfl) ?_
  refine lv_iconst (v := 1) hx hb dL_law_438 (by decide) ?_
  refine lv_iadd hx hb dL_law_439 ?_
  refine lv_topi (fun y9 e9 => ?_)
  rw [show y9 = (nI (5 * j + 1)) from e9.trans (nI_add _ 1)]
  refine sc_ld hx hb hX hbl hbA hS (i := (5 * j + 1)) (by omega) hL dL_law_440 ?_
  refine lv_aload_n hx hb dL_law_441 rfl (lv_at hl 1 rfl) ?_
  refine lv_iload hx hb dL_law_442 (lv_at hl 5 rfl) ?_
  refine lv_iconst (v := 2) hx hb dL_law_444 (by decide) ?_
  refine lv_iadd hx hb dL_law_445 ?_
  refine lv_topi (fun y9 e9 => ?_)
  rw [show y9 = (nI (5 * j + 2)) from e9.trans (nI_add _ 2)]
  refine sc_ld hx hb hX hbl hbA hS (i := (5 * j + 2)) (by omega) hL dL_law_446 ?_
  refine wr_callV 2 hx hb hml hown hts hl.1 hPm hKx hS (fun q h => h.1) 0 1 rfl rfl (As := [.int (xs (5 * j + 1)), .int (xs (5 * j + 2))]) (rest := []) (c_X1_setLoad l D cI cZ h2 a2 σ τ H _ hDm hI hR (xs (5 * j + 1)) (xs (5 * j + 2))) gL_law_X1_setLoad rfl rfl rfl (by decide +kernel) ⟨Nat.le_of_ble_eq_true rfl, Nat.le_of_ble_eq_true rfl⟩ rfl rfl (Nat.le_of_ble_eq_true rfl) dL_law_447 ⟨by show _ ≤ 1059; omega, by show _ ≤ 8724; omega⟩ (fun r2 ρ H8 locs8 hp2 hPm hS8 _ hk2 => ?_)
  obtain ⟨h15, hok2, hno2⟩ := hp2
  have hPx := keepW hPx hk2
  have hP8 : va_P D vwCl (gw cI cZ cJ h a σ1 o w1 h2 a2 ρ) H8 := va_P.app hPx hPm
  refine lv_istore (lv' := [(6, .int r2), (5, .int r1), (0, .ref b), (1, .ref h), (2, .ref h2), (3, .ref o), (4, .int (nI (5 * j)))]) hx hb dL_law_450 hl (by decide) rfl (fun ls hl => ?_)
  refine lv_aload_n hx hb dL_law_452 rfl (lv_at hl 4 rfl) ?_
  refine ro_callV 0 hx hb hml hown hts hl.1 hPm hKx 0 1 rfl rfl (As := []) (rest := []) (c_X1_thrown l D cI cZ h2 a2 ρ H8) gL_law_X1_thrown rfl rfl rfl (by decide +kernel) ⟨Nat.le_of_ble_eq_true rfl, Nat.le_of_ble_eq_true rfl⟩ rfl rfl (Nat.le_of_ble_eq_true rfl) dL_law_453 ⟨by show _ ≤ 1059; omega, by show _ ≤ 8724; omega⟩ (fun r3 hr3 => ?_)
  subst hr3
  refine lv_iload hx hb dL_law_456 (lv_at hl 1 rfl) ?_
  refine lv_icmp_eq (tgt := 463) hx hb dL_law_458 (by decide) (fun c458 => ?_) (fun c458 => ?_)
  · refine lv_iload hx hb dL_law_463 (lv_at hl 1 rfl) ?_
    refine lv_if_ne (tgt := 480) hx hb dL_law_465 (by decide) (fun c465 => ?_) (fun c465 => ?_)
    · refine lv_goto (tgt := 1321) hx hb dL_law_480 (by decide) ?_
      have hK9 : ¬ goK (inR (xs (5 * j + 1)) 0 47) (inR (xs (5 * j + 2)) (-200) 200) true = 0 := fun z => c465 (hk.trans z)
      have es : σ1 = σ := hno1 hK9
      rw [es] at hP8
      exact kn σ ρ w1 nL nB H8 locs8 ls hI (hno2 hK9) hP8 hS8 (lv_sub hl [2, 3, 4, 5, 6] rfl)
    · have hK9 : goK (inR (xs (5 * j + 1)) 0 47) (inR (xs (5 * j + 2)) (-200) 200) true = 0 := hk.symm.trans c465
      obtain ⟨hw, hn1⟩ := hok1 hK9
      obtain ⟨hr2, hrel⟩ := hok2 hK9
      obtain ⟨z1, z2, z3⟩ := goK_0 hK9
      refine lv_aload_n hx hb dL_law_468 rfl (lv_at hl 5 rfl) ?_
      refine lv_iconst (v := 0) hx hb dL_law_469 (by decide) ?_
      refine va_lald hx hb hK hP8 13 2 rfl rfl (by unfold vp_in; decide) dL_law_470 ?_
      refine lv_iload hx hb dL_law_471 (lv_at hl 0 rfl) ?_
      refine lv_i2l hx hb dL_law_473 rfl ?_
      refine W.lcmp hx hb dL_law_474 ?_
      refine lv_if_eq (tgt := 480) hx hb dL_law_475 (by decide) (fun c475 => ?_) (fun c475 => ?_)
      · refine lv_goto (tgt := 1321) hx hb dL_law_480 (by decide) ?_
        have es := hn1
        dsimp only at es
        rw [es] at hP8
        exact kn (st σ 1 (ldF (σ 1) (tN (xs (5 * j + 1))) (xs (5 * j + 2)) 48)) ρ w1 (nL) (nB) H8 locs8 ls (inv_load hI z2) hrel hP8 hS8 (lv_sub hl [2, 3, 4, 5, 6] rfl)
      · exact absurd ((lg_cmp_eq _ _).mpr (show w1 0 = r2.toInt64 by rw [hr2]; exact hw)) c475
  · exact absurd (h15.trans hk.symm) c458
set_option maxHeartbeats 4000000 in
set_option maxRecDepth 100000 in
theorem lc_setWind {p : Program} {l : Launch} {e : Env} {s : State} {m : MethodId} {below : List Frame} {meth : Method} {c : Code} {D : va_G} {cI cZ cJ : ClassId} {b L : Nat} {xs : Nat → Int32} {Q : State → Prop} (hfl : l.stackTraces = false) (C0 : lw_At p s m meth c b L xs) (hL : L ≤ 2560) (hK : va_K D vwCl (tyL cI cZ cJ) s) (hT0 : tpA (fun q : Nat => s.heap.size ≤ q) s.heap s) {h : Nat} {a : Nat → Nat} {σ : St} {o : Nat} {w : Nat → Int64} {h2 : Nat} {a2 : Nat → Nat} {τ : St} {nL nB j : Nat} {H : Heap} {locs : List Loc} {ls : Array Slot} (hj : 5 * j + 5 ≤ L) (hI : inv σ nL nB) (hR : rel σ τ nL) (hP : va_P D vwCl (gw cI cZ cJ h a σ o w h2 a2 τ) H) (hD : va_D (fun q : Nat => s.heap.size ≤ q) (gw cI cZ cJ h a σ o w h2 a2 τ)) (hS : va_S (fun q : Nat => s.heap.size ≤ q) s.heap H locs) (hl : lv_has ls 7 [(0, .ref b), (1, .ref h), (2, .ref h2), (3, .ref o), (4, .int (nI (5 * j)))]) (kn : ∀ (σ' τ' : St) (w' : Nat → Int64) (nL' nB' : Nat) (H' : Heap) (locs' : List Loc) (ls' : Array Slot), inv σ' nL' nB' → rel σ' τ' nL' → va_P D vwCl (gw cI cZ cJ h a σ' o w' h2 a2 τ') H' → va_S (fun q : Nat => s.heap.size ≤ q) s.heap H' locs' → lv_has ls' 7 [(0, .ref b), (1, .ref h), (2, .ref h2), (3, .ref o), (4, .int (nI (5 * j)))] → W p l e room_1 s m #[Value.ref b] below meth c H' locs' (27 + j + 1) (484 + 6 * j + 6) Q (F0 m 1321 ls' [])) : W p l e room_1 s m #[Value.ref b] below meth c H locs (27 + j) (484 + 6 * j) Q (F0 m 483 ls []) := by
  obtain ⟨hx, hb, hr, hml, hown, hts0, hX, hbl, hlocks, hgv⟩ := C0
  have hown : s.vm.findClass RL = some m.cls := hown
  have hts : ∀ w ∈ wsL_law, w.before #[Value.ref b] s = true := fun w h => hts0 w (wsL_law_in w h)
  have hbA : ¬ (fun q : Nat => s.heap.size ≤ q) b := Nat.not_le.mpr hbl
  have hKx : va_K D vwCl (tyX cI cZ) s := hK.sub [0, 1] rfl
  have hPx := va_P_l hP
  have hPm := va_P_r hP
  have hDx := va_D_l hD
  have hTx := tpA_nar (tpA_kept hT0 hS) (B := fun q => s.heap.size ≤ q ∧ notin (mw cI cZ h2 a2 τ) q) (fun q h => h.1)
  refine lv_aload_n hx hb dL_law_483 rfl (lv_at hl 1 rfl) ?_
  refine lv_aload_n hx hb dL_law_484 rfl (lv_at hl 0 rfl) ?_
  refine lv_iload hx hb dL_law_485 (lv_at hl 4 rfl) ?_
  refine lv_iconst (v := 1) hx hb dL_law_487 (by decide) ?_
  refine lv_iadd hx hb dL_law_488 ?_
  refine lv_topi (fun y9 e9 => ?_)
  rw [show y9 = (nI (5 * j + 1)) from e9.trans (nI_add _ 1)]
  refine sc_ld hx hb hX hbl hbA hS (i := (5 * j + 1)) (by omega) hL dL_law_489 ?_
  refine lv_aload_n hx hb dL_law_490 rfl (lv_at hl 3 rfl) ?_
  refine lw_callS 3 hx hb hml hown hts hl.1 hPx hK hTx hS (fun q h => h.1) (As := [.ref h, .int (xs (5 * j + 1)), .ref o]) (rest := []) (c_L_setWind l hfl D cI cZ cJ h a σ o w H _ hDx hI (xs (5 * j + 1))) gL_law_L_setWind rfl rfl rfl (by decide +kernel) ⟨Nat.le_of_ble_eq_true rfl, Nat.le_of_ble_eq_true rfl⟩ rfl rfl (Nat.le_of_ble_eq_true rfl) dL_law_491 ⟨by show _ ≤ 1059; omega, by show _ ≤ 8724; omega⟩ (fun r1 u1 H locs hp1 hPx hS hk1 => ?_)
  obtain ⟨σ1, w1⟩ := u1
  obtain ⟨hk, hok1, hno1⟩ := hp1
  have hPm := keepW hPm hk1
  have hD : va_D (fun q : Nat => s.heap.size ≤ q) (gw cI cZ cJ h a σ1 o w1 h2 a2 τ) := va_D_ad (W := gw cI cZ cJ h a σ o w h2 a2 τ) (W' := gw cI cZ cJ h a σ1 o w1 h2 a2 τ) rfl hD
  have hDm := va_D_r hD
  refine lv_istore (lv' := [(5, .int r1), (0, .ref b), (1, .ref h), (2, .ref h2), (3, .ref o), (4, .int (nI (5 * j)))]) hx hb dL_law_494 hl (by decide) rfl (fun ls hl => ?_)
  refine lv_aload_n hx hb dL_law_496 rfl (lv_at hl 3 rfl) ?_
  refine lv_aload_n hx hb dL_law_497 rfl (lv_at hl 1 rfl) ?_
  refine lv_iload hx hb dL_law_498 (lv_at hl 5 rfl) ?_
  refine lv_iconst (v := 1) hx hb dL_law_500 (by decide) ?_
  refine lv_iadd hx hb dL_law_501 ?_
  refine lv_topi (fun y9 e9 => ?_)
  rw [show y9 = (nI (5 * j + 1)) from e9.trans (nI_add _ 1)]
  refine sc_ld hx hb hX hbl hbA hS (i := (5 * j + 1)) (by omega) hL dL_law_502 ?_
  refine wr_callV 1 hx hb hml hown hts hl.1 hPm hKx hS (fun q h => h.1) 0 1 rfl rfl (As := [.int (xs (5 * j + 1))]) (rest := []) (c_X1_setWind l D cI cZ h2 a2 σ τ H _ hDm hI hR (xs (5 * j + 1))) gL_law_X1_setWind rfl rfl rfl (by decide +kernel) ⟨Nat.le_of_ble_eq_true rfl, Nat.le_of_ble_eq_true rfl⟩ rfl rfl (Nat.le_of_ble_eq_true rfl) dL_law_503 ⟨by show _ ≤ 1059; omega, by show _ ≤ 8724; omega⟩ (fun r2 ρ H8 locs8 hp2 hPm hS8 _ hk2 => ?_)
  obtain ⟨h15, hok2, hno2⟩ := hp2
  have hPx := keepW hPx hk2
  have hP8 : va_P D vwCl (gw cI cZ cJ h a σ1 o w1 h2 a2 ρ) H8 := va_P.app hPx hPm
  refine lv_istore (lv' := [(6, .int r2), (5, .int r1), (0, .ref b), (1, .ref h), (2, .ref h2), (3, .ref o), (4, .int (nI (5 * j)))]) hx hb dL_law_506 hl (by decide) rfl (fun ls hl => ?_)
  refine lv_aload_n hx hb dL_law_508 rfl (lv_at hl 4 rfl) ?_
  refine ro_callV 0 hx hb hml hown hts hl.1 hPm hKx 0 1 rfl rfl (As := []) (rest := []) (c_X1_thrown l D cI cZ h2 a2 ρ H8) gL_law_X1_thrown rfl rfl rfl (by decide +kernel) ⟨Nat.le_of_ble_eq_true rfl, Nat.le_of_ble_eq_true rfl⟩ rfl rfl (Nat.le_of_ble_eq_true rfl) dL_law_509 ⟨by show _ ≤ 1059; omega, by show _ ≤ 8724; omega⟩ (fun r3 hr3 => ?_)
  subst hr3
  refine lv_iload hx hb dL_law_512 (lv_at hl 1 rfl) ?_
  refine lv_icmp_eq (tgt := 519) hx hb dL_law_514 (by decide) (fun c514 => ?_) (fun c514 => ?_)
  · refine lv_iload hx hb dL_law_519 (lv_at hl 1 rfl) ?_
    refine lv_if_ne (tgt := 536) hx hb dL_law_521 (by decide) (fun c521 => ?_) (fun c521 => ?_)
    · refine lv_goto (tgt := 1321) hx hb dL_law_536 (by decide) ?_
      have hK9 : ¬ goK (inR (xs (5 * j + 1)) (-1000000) 1000000) true true = 0 := fun z => c521 (hk.trans z)
      have es : σ1 = σ := hno1 hK9
      rw [es] at hP8
      exact kn σ ρ w1 nL nB H8 locs8 ls hI (hno2 hK9) hP8 hS8 (lv_sub hl [2, 3, 4, 5, 6] rfl)
    · have hK9 : goK (inR (xs (5 * j + 1)) (-1000000) 1000000) true true = 0 := hk.symm.trans c521
      obtain ⟨hw, hn1⟩ := hok1 hK9
      obtain ⟨hr2, hrel⟩ := hok2 hK9
      obtain ⟨z1, z2, z3⟩ := goK_0 hK9
      refine lv_aload_n hx hb dL_law_524 rfl (lv_at hl 5 rfl) ?_
      refine lv_iconst (v := 0) hx hb dL_law_525 (by decide) ?_
      refine va_lald hx hb hK hP8 13 2 rfl rfl (by unfold vp_in; decide) dL_law_526 ?_
      refine lv_iload hx hb dL_law_527 (lv_at hl 0 rfl) ?_
      refine lv_i2l hx hb dL_law_529 rfl ?_
      refine W.lcmp hx hb dL_law_530 ?_
      refine lv_if_eq (tgt := 536) hx hb dL_law_531 (by decide) (fun c531 => ?_) (fun c531 => ?_)
      · refine lv_goto (tgt := 1321) hx hb dL_law_536 (by decide) ?_
        have es := hn1
        dsimp only at es
        rw [es] at hP8
        exact kn (st σ 3 (fun _ => (xs (5 * j + 1)))) ρ w1 (nL) (nB) H8 locs8 ls (hI) hrel hP8 hS8 (lv_sub hl [2, 3, 4, 5, 6] rfl)
      · exact absurd ((lg_cmp_eq _ _).mpr (show w1 0 = r2.toInt64 by rw [hr2]; exact hw)) c531
  · exact absurd (h15.trans hk.symm) c514
set_option maxHeartbeats 4000000 in
set_option maxRecDepth 100000 in
theorem lc_setPassing {p : Program} {l : Launch} {e : Env} {s : State} {m : MethodId} {below : List Frame} {meth : Method} {c : Code} {D : va_G} {cI cZ cJ : ClassId} {b L : Nat} {xs : Nat → Int32} {Q : State → Prop} (hfl : l.stackTraces = false) (C0 : lw_At p s m meth c b L xs) (hL : L ≤ 2560) (hK : va_K D vwCl (tyL cI cZ cJ) s) (hT0 : tpA (fun q : Nat => s.heap.size ≤ q) s.heap s) {h : Nat} {a : Nat → Nat} {σ : St} {o : Nat} {w : Nat → Int64} {h2 : Nat} {a2 : Nat → Nat} {τ : St} {nL nB j : Nat} {H : Heap} {locs : List Loc} {ls : Array Slot} (hj : 5 * j + 5 ≤ L) (hI : inv σ nL nB) (hR : rel σ τ nL) (hP : va_P D vwCl (gw cI cZ cJ h a σ o w h2 a2 τ) H) (hD : va_D (fun q : Nat => s.heap.size ≤ q) (gw cI cZ cJ h a σ o w h2 a2 τ)) (hS : va_S (fun q : Nat => s.heap.size ≤ q) s.heap H locs) (hl : lv_has ls 7 [(0, .ref b), (1, .ref h), (2, .ref h2), (3, .ref o), (4, .int (nI (5 * j)))]) (kn : ∀ (σ' τ' : St) (w' : Nat → Int64) (nL' nB' : Nat) (H' : Heap) (locs' : List Loc) (ls' : Array Slot), inv σ' nL' nB' → rel σ' τ' nL' → va_P D vwCl (gw cI cZ cJ h a σ' o w' h2 a2 τ') H' → va_S (fun q : Nat => s.heap.size ≤ q) s.heap H' locs' → lv_has ls' 7 [(0, .ref b), (1, .ref h), (2, .ref h2), (3, .ref o), (4, .int (nI (5 * j)))] → W p l e room_1 s m #[Value.ref b] below meth c H' locs' (27 + j + 1) (484 + 6 * j + 6) Q (F0 m 1321 ls' [])) : W p l e room_1 s m #[Value.ref b] below meth c H locs (27 + j) (484 + 6 * j) Q (F0 m 539 ls []) := by
  obtain ⟨hx, hb, hr, hml, hown, hts0, hX, hbl, hlocks, hgv⟩ := C0
  have hown : s.vm.findClass RL = some m.cls := hown
  have hts : ∀ w ∈ wsL_law, w.before #[Value.ref b] s = true := fun w h => hts0 w (wsL_law_in w h)
  have hbA : ¬ (fun q : Nat => s.heap.size ≤ q) b := Nat.not_le.mpr hbl
  have hKx : va_K D vwCl (tyX cI cZ) s := hK.sub [0, 1] rfl
  have hPx := va_P_l hP
  have hPm := va_P_r hP
  have hDx := va_D_l hD
  have hTx := tpA_nar (tpA_kept hT0 hS) (B := fun q => s.heap.size ≤ q ∧ notin (mw cI cZ h2 a2 τ) q) (fun q h => h.1)
  refine lv_aload_n hx hb dL_law_539 rfl (lv_at hl 1 rfl) ?_
  refine lv_aload_n hx hb dL_law_540 rfl (lv_at hl 0 rfl) ?_
  refine lv_iload hx hb dL_law_541 (lv_at hl 4 rfl) ?_
  refine lv_iconst (v := 1) hx hb dL_law_543 (by decide) ?_
  refine lv_iadd hx hb dL_law_544 ?_
  refine lv_topi (fun y9 e9 => ?_)
  rw [show y9 = (nI (5 * j + 1)) from e9.trans (nI_add _ 1)]
  refine sc_ld hx hb hX hbl hbA hS (i := (5 * j + 1)) (by omega) hL dL_law_545 ?_
  refine lv_aload_n hx hb dL_law_546 rfl (lv_at hl 0 rfl) ?_
  refine lv_iload hx hb dL_law_547 (lv_at hl 4 rfl) ?_
  refine lv_iconst (v := 2) hx hb dL_law_549 (by decide) ?_
  refine lv_iadd hx hb dL_law_550 ?_
  refine lv_topi (fun y9 e9 => ?_)
  rw [show y9 = (nI (5 * j + 2)) from e9.trans (nI_add _ 2)]
  refine sc_ld hx hb hX hbl hbA hS (i := (5 * j + 2)) (by omega) hL dL_law_551 ?_
  refine lv_aload_n hx hb dL_law_552 rfl (lv_at hl 3 rfl) ?_
  refine lw_callS 4 hx hb hml hown hts hl.1 hPx hK hTx hS (fun q h => h.1) (As := [.ref h, .int (xs (5 * j + 1)), .int (xs (5 * j + 2)), .ref o]) (rest := []) (c_L_setPassing l hfl D cI cZ cJ h a σ o w H _ hDx hI (xs (5 * j + 1)) (xs (5 * j + 2))) gL_law_L_setPassing rfl rfl rfl (by decide +kernel) ⟨Nat.le_of_ble_eq_true rfl, Nat.le_of_ble_eq_true rfl⟩ rfl rfl (Nat.le_of_ble_eq_true rfl) dL_law_553 ⟨by show _ ≤ 1059; omega, by show _ ≤ 8724; omega⟩ (fun r1 u1 H locs hp1 hPx hS hk1 => ?_)
  obtain ⟨σ1, w1⟩ := u1
  obtain ⟨hk, hok1, hno1⟩ := hp1
  have hPm := keepW hPm hk1
  have hD : va_D (fun q : Nat => s.heap.size ≤ q) (gw cI cZ cJ h a σ1 o w1 h2 a2 τ) := va_D_ad (W := gw cI cZ cJ h a σ o w h2 a2 τ) (W' := gw cI cZ cJ h a σ1 o w1 h2 a2 τ) rfl hD
  have hDm := va_D_r hD
  refine lv_istore (lv' := [(5, .int r1), (0, .ref b), (1, .ref h), (2, .ref h2), (3, .ref o), (4, .int (nI (5 * j)))]) hx hb dL_law_556 hl (by decide) rfl (fun ls hl => ?_)
  refine lv_aload_n hx hb dL_law_558 rfl (lv_at hl 3 rfl) ?_
  refine lv_aload_n hx hb dL_law_559 rfl (lv_at hl 1 rfl) ?_
  refine lv_iload hx hb dL_law_560 (lv_at hl 5 rfl) ?_
  refine lv_iconst (v := 1) hx hb dL_law_562 (by decide) ?_
  refine lv_iadd hx hb dL_law_563 ?_
  refine lv_topi (fun y9 e9 => ?_)
  rw [show y9 = (nI (5 * j + 1)) from e9.trans (nI_add _ 1)]
  refine sc_ld hx hb hX hbl hbA hS (i := (5 * j + 1)) (by omega) hL dL_law_564 ?_
  refine lv_aload_n hx hb dL_law_565 rfl (lv_at hl 1 rfl) ?_
  refine lv_iload hx hb dL_law_566 (lv_at hl 5 rfl) ?_
  refine lv_iconst (v := 2) hx hb dL_law_568 (by decide) ?_
  refine lv_iadd hx hb dL_law_569 ?_
  refine lv_topi (fun y9 e9 => ?_)
  rw [show y9 = (nI (5 * j + 2)) from e9.trans (nI_add _ 2)]
  refine sc_ld hx hb hX hbl hbA hS (i := (5 * j + 2)) (by omega) hL dL_law_570 ?_
  refine wr_callV 2 hx hb hml hown hts hl.1 hPm hKx hS (fun q h => h.1) 0 1 rfl rfl (As := [.int (xs (5 * j + 1)), .int (xs (5 * j + 2))]) (rest := []) (c_X1_setPassing l D cI cZ h2 a2 σ τ H _ hDm hI hR (xs (5 * j + 1)) (xs (5 * j + 2))) gL_law_X1_setPassing rfl rfl rfl (by decide +kernel) ⟨Nat.le_of_ble_eq_true rfl, Nat.le_of_ble_eq_true rfl⟩ rfl rfl (Nat.le_of_ble_eq_true rfl) dL_law_571 ⟨by show _ ≤ 1059; omega, by show _ ≤ 8724; omega⟩ (fun r2 ρ H8 locs8 hp2 hPm hS8 _ hk2 => ?_)
  obtain ⟨h15, hok2, hno2⟩ := hp2
  have hPx := keepW hPx hk2
  have hP8 : va_P D vwCl (gw cI cZ cJ h a σ1 o w1 h2 a2 ρ) H8 := va_P.app hPx hPm
  refine lv_istore (lv' := [(6, .int r2), (5, .int r1), (0, .ref b), (1, .ref h), (2, .ref h2), (3, .ref o), (4, .int (nI (5 * j)))]) hx hb dL_law_574 hl (by decide) rfl (fun ls hl => ?_)
  refine lv_aload_n hx hb dL_law_576 rfl (lv_at hl 4 rfl) ?_
  refine ro_callV 0 hx hb hml hown hts hl.1 hPm hKx 0 1 rfl rfl (As := []) (rest := []) (c_X1_thrown l D cI cZ h2 a2 ρ H8) gL_law_X1_thrown rfl rfl rfl (by decide +kernel) ⟨Nat.le_of_ble_eq_true rfl, Nat.le_of_ble_eq_true rfl⟩ rfl rfl (Nat.le_of_ble_eq_true rfl) dL_law_577 ⟨by show _ ≤ 1059; omega, by show _ ≤ 8724; omega⟩ (fun r3 hr3 => ?_)
  subst hr3
  refine lv_iload hx hb dL_law_580 (lv_at hl 1 rfl) ?_
  refine lv_icmp_eq (tgt := 587) hx hb dL_law_582 (by decide) (fun c582 => ?_) (fun c582 => ?_)
  · refine lv_iload hx hb dL_law_587 (lv_at hl 1 rfl) ?_
    refine lv_if_ne (tgt := 604) hx hb dL_law_589 (by decide) (fun c589 => ?_) (fun c589 => ?_)
    · refine lv_goto (tgt := 1321) hx hb dL_law_604 (by decide) ?_
      have hK9 : ¬ goK (inR (xs (5 * j + 1)) 0 47) (inR (xs (5 * j + 2)) (-1000000) 1000000) true = 0 := fun z => c589 (hk.trans z)
      have es : σ1 = σ := hno1 hK9
      rw [es] at hP8
      exact kn σ ρ w1 nL nB H8 locs8 ls hI (hno2 hK9) hP8 hS8 (lv_sub hl [2, 3, 4, 5, 6] rfl)
    · have hK9 : goK (inR (xs (5 * j + 1)) 0 47) (inR (xs (5 * j + 2)) (-1000000) 1000000) true = 0 := hk.symm.trans c589
      obtain ⟨hw, hn1⟩ := hok1 hK9
      obtain ⟨hr2, hrel⟩ := hok2 hK9
      obtain ⟨z1, z2, z3⟩ := goK_0 hK9
      refine lv_aload_n hx hb dL_law_592 rfl (lv_at hl 5 rfl) ?_
      refine lv_iconst (v := 0) hx hb dL_law_593 (by decide) ?_
      refine va_lald hx hb hK hP8 13 2 rfl rfl (by unfold vp_in; decide) dL_law_594 ?_
      refine lv_iload hx hb dL_law_595 (lv_at hl 0 rfl) ?_
      refine lv_i2l hx hb dL_law_597 rfl ?_
      refine W.lcmp hx hb dL_law_598 ?_
      refine lv_if_eq (tgt := 604) hx hb dL_law_599 (by decide) (fun c599 => ?_) (fun c599 => ?_)
      · refine lv_goto (tgt := 1321) hx hb dL_law_604 (by decide) ?_
        have es := hn1
        dsimp only at es
        rw [es] at hP8
        exact kn (st σ 2 (upd (σ 2) (tN (xs (5 * j + 1))) (xs (5 * j + 2)))) ρ w1 (nL) (nB) H8 locs8 ls (hI) hrel hP8 hS8 (lv_sub hl [2, 3, 4, 5, 6] rfl)
      · exact absurd ((lg_cmp_eq _ _).mpr (show w1 0 = r2.toInt64 by rw [hr2]; exact hw)) c599
  · exact absurd (h15.trans hk.symm) c582
set_option maxHeartbeats 4000000 in
set_option maxRecDepth 100000 in
theorem lc_force {p : Program} {l : Launch} {e : Env} {s : State} {m : MethodId} {below : List Frame} {meth : Method} {c : Code} {D : va_G} {cI cZ cJ : ClassId} {b L : Nat} {xs : Nat → Int32} {Q : State → Prop} (hfl : l.stackTraces = false) (C0 : lw_At p s m meth c b L xs) (hL : L ≤ 2560) (hK : va_K D vwCl (tyL cI cZ cJ) s) (hT0 : tpA (fun q : Nat => s.heap.size ≤ q) s.heap s) {h : Nat} {a : Nat → Nat} {σ : St} {o : Nat} {w : Nat → Int64} {h2 : Nat} {a2 : Nat → Nat} {τ : St} {nL nB j : Nat} {H : Heap} {locs : List Loc} {ls : Array Slot} (hj : 5 * j + 5 ≤ L) (hI : inv σ nL nB) (hR : rel σ τ nL) (hP : va_P D vwCl (gw cI cZ cJ h a σ o w h2 a2 τ) H) (hD : va_D (fun q : Nat => s.heap.size ≤ q) (gw cI cZ cJ h a σ o w h2 a2 τ)) (hS : va_S (fun q : Nat => s.heap.size ≤ q) s.heap H locs) (hl : lv_has ls 7 [(0, .ref b), (1, .ref h), (2, .ref h2), (3, .ref o), (4, .int (nI (5 * j)))]) (kn : ∀ (σ' τ' : St) (w' : Nat → Int64) (nL' nB' : Nat) (H' : Heap) (locs' : List Loc) (ls' : Array Slot), inv σ' nL' nB' → rel σ' τ' nL' → va_P D vwCl (gw cI cZ cJ h a σ' o w' h2 a2 τ') H' → va_S (fun q : Nat => s.heap.size ≤ q) s.heap H' locs' → lv_has ls' 7 [(0, .ref b), (1, .ref h), (2, .ref h2), (3, .ref o), (4, .int (nI (5 * j)))] → W p l e room_1 s m #[Value.ref b] below meth c H' locs' (27 + j + 1) (484 + 6 * j + 6) Q (F0 m 1321 ls' [])) : W p l e room_1 s m #[Value.ref b] below meth c H locs (27 + j) (484 + 6 * j) Q (F0 m 607 ls []) := by
  obtain ⟨hx, hb, hr, hml, hown, hts0, hX, hbl, hlocks, hgv⟩ := C0
  have hown : s.vm.findClass RL = some m.cls := hown
  have hts : ∀ w ∈ wsL_law, w.before #[Value.ref b] s = true := fun w h => hts0 w (wsL_law_in w h)
  have hbA : ¬ (fun q : Nat => s.heap.size ≤ q) b := Nat.not_le.mpr hbl
  have hKx : va_K D vwCl (tyX cI cZ) s := hK.sub [0, 1] rfl
  have hPx := va_P_l hP
  have hPm := va_P_r hP
  have hDx := va_D_l hD
  have hTx := tpA_nar (tpA_kept hT0 hS) (B := fun q => s.heap.size ≤ q ∧ notin (mw cI cZ h2 a2 τ) q) (fun q h => h.1)
  refine lv_aload_n hx hb dL_law_607 rfl (lv_at hl 1 rfl) ?_
  refine lv_aload_n hx hb dL_law_608 rfl (lv_at hl 0 rfl) ?_
  refine lv_iload hx hb dL_law_609 (lv_at hl 4 rfl) ?_
  refine lv_iconst (v := 1) hx hb dL_law_611 (by decide) ?_
  refine lv_iadd hx hb dL_law_612 ?_
  refine lv_topi (fun y9 e9 => ?_)
  rw [show y9 = (nI (5 * j + 1)) from e9.trans (nI_add _ 1)]
  refine sc_ld hx hb hX hbl hbA hS (i := (5 * j + 1)) (by omega) hL dL_law_613 ?_
  refine lv_aload_n hx hb dL_law_614 rfl (lv_at hl 0 rfl) ?_
  refine lv_iload hx hb dL_law_615 (lv_at hl 4 rfl) ?_
  refine lv_iconst (v := 2) hx hb dL_law_617 (by decide) ?_
  refine lv_iadd hx hb dL_law_618 ?_
  refine lv_topi (fun y9 e9 => ?_)
  rw [show y9 = (nI (5 * j + 2)) from e9.trans (nI_add _ 2)]
  refine sc_ld hx hb hX hbl hbA hS (i := (5 * j + 2)) (by omega) hL dL_law_619 ?_
  refine lv_aload_n hx hb dL_law_620 rfl (lv_at hl 3 rfl) ?_
  refine lw_callS 4 hx hb hml hown hts hl.1 hPx hK hTx hS (fun q h => h.1) (As := [.ref h, .int (xs (5 * j + 1)), .int (xs (5 * j + 2)), .ref o]) (rest := []) (c_L_force l hfl D cI cZ cJ h a σ o w H _ hDx hI (xs (5 * j + 1)) (xs (5 * j + 2))) gL_law_L_force rfl rfl rfl (by decide +kernel) ⟨Nat.le_of_ble_eq_true rfl, Nat.le_of_ble_eq_true rfl⟩ rfl rfl (Nat.le_of_ble_eq_true rfl) dL_law_621 ⟨by show _ ≤ 1059; omega, by show _ ≤ 8724; omega⟩ (fun r1 u1 H locs hp1 hPx hS hk1 => ?_)
  obtain ⟨σ1, w1⟩ := u1
  obtain ⟨hk, hok1, hno1⟩ := hp1
  have hPm := keepW hPm hk1
  have hD : va_D (fun q : Nat => s.heap.size ≤ q) (gw cI cZ cJ h a σ1 o w1 h2 a2 τ) := va_D_ad (W := gw cI cZ cJ h a σ o w h2 a2 τ) (W' := gw cI cZ cJ h a σ1 o w1 h2 a2 τ) rfl hD
  have hDm := va_D_r hD
  refine lv_istore (lv' := [(5, .int r1), (0, .ref b), (1, .ref h), (2, .ref h2), (3, .ref o), (4, .int (nI (5 * j)))]) hx hb dL_law_624 hl (by decide) rfl (fun ls hl => ?_)
  refine lv_aload_n hx hb dL_law_626 rfl (lv_at hl 3 rfl) ?_
  refine lv_aload_n hx hb dL_law_627 rfl (lv_at hl 1 rfl) ?_
  refine lv_iload hx hb dL_law_628 (lv_at hl 5 rfl) ?_
  refine lv_iconst (v := 1) hx hb dL_law_630 (by decide) ?_
  refine lv_iadd hx hb dL_law_631 ?_
  refine lv_topi (fun y9 e9 => ?_)
  rw [show y9 = (nI (5 * j + 1)) from e9.trans (nI_add _ 1)]
  refine sc_ld hx hb hX hbl hbA hS (i := (5 * j + 1)) (by omega) hL dL_law_632 ?_
  refine lv_aload_n hx hb dL_law_633 rfl (lv_at hl 1 rfl) ?_
  refine lv_iload hx hb dL_law_634 (lv_at hl 5 rfl) ?_
  refine lv_iconst (v := 2) hx hb dL_law_636 (by decide) ?_
  refine lv_iadd hx hb dL_law_637 ?_
  refine lv_topi (fun y9 e9 => ?_)
  rw [show y9 = (nI (5 * j + 2)) from e9.trans (nI_add _ 2)]
  refine sc_ld hx hb hX hbl hbA hS (i := (5 * j + 2)) (by omega) hL dL_law_638 ?_
  refine wr_callV 2 hx hb hml hown hts hl.1 hPm hKx hS (fun q h => h.1) 0 1 rfl rfl (As := [.int (xs (5 * j + 1)), .int (xs (5 * j + 2))]) (rest := []) (c_X1_force l D cI cZ h2 a2 σ τ H _ hDm hI hR (xs (5 * j + 1)) (xs (5 * j + 2))) gL_law_X1_force rfl rfl rfl (by decide +kernel) ⟨Nat.le_of_ble_eq_true rfl, Nat.le_of_ble_eq_true rfl⟩ rfl rfl (Nat.le_of_ble_eq_true rfl) dL_law_639 ⟨by show _ ≤ 1059; omega, by show _ ≤ 8724; omega⟩ (fun r2 ρ H8 locs8 hp2 hPm hS8 _ hk2 => ?_)
  obtain ⟨h15, hok2, hno2⟩ := hp2
  have hPx := keepW hPx hk2
  have hP8 : va_P D vwCl (gw cI cZ cJ h a σ1 o w1 h2 a2 ρ) H8 := va_P.app hPx hPm
  refine lv_istore (lv' := [(6, .int r2), (5, .int r1), (0, .ref b), (1, .ref h), (2, .ref h2), (3, .ref o), (4, .int (nI (5 * j)))]) hx hb dL_law_642 hl (by decide) rfl (fun ls hl => ?_)
  refine lv_aload_n hx hb dL_law_644 rfl (lv_at hl 4 rfl) ?_
  refine ro_callV 0 hx hb hml hown hts hl.1 hPm hKx 0 1 rfl rfl (As := []) (rest := []) (c_X1_thrown l D cI cZ h2 a2 ρ H8) gL_law_X1_thrown rfl rfl rfl (by decide +kernel) ⟨Nat.le_of_ble_eq_true rfl, Nat.le_of_ble_eq_true rfl⟩ rfl rfl (Nat.le_of_ble_eq_true rfl) dL_law_645 ⟨by show _ ≤ 1059; omega, by show _ ≤ 8724; omega⟩ (fun r3 hr3 => ?_)
  subst hr3
  refine lv_iload hx hb dL_law_648 (lv_at hl 1 rfl) ?_
  refine lv_icmp_eq (tgt := 655) hx hb dL_law_650 (by decide) (fun c650 => ?_) (fun c650 => ?_)
  · refine lv_iload hx hb dL_law_655 (lv_at hl 1 rfl) ?_
    refine lv_if_ne (tgt := 672) hx hb dL_law_657 (by decide) (fun c657 => ?_) (fun c657 => ?_)
    · refine lv_goto (tgt := 1321) hx hb dL_law_672 (by decide) ?_
      have hK9 : ¬ goK (inR (xs (5 * j + 1)) 0 47) (inR (xs (5 * j + 2)) (-200) 200) true = 0 := fun z => c657 (hk.trans z)
      have es : σ1 = σ := hno1 hK9
      rw [es] at hP8
      exact kn σ ρ w1 nL nB H8 locs8 ls hI (hno2 hK9) hP8 hS8 (lv_sub hl [2, 3, 4, 5, 6] rfl)
    · have hK9 : goK (inR (xs (5 * j + 1)) 0 47) (inR (xs (5 * j + 2)) (-200) 200) true = 0 := hk.symm.trans c657
      obtain ⟨hw, hn1⟩ := hok1 hK9
      obtain ⟨hr2, hrel⟩ := hok2 hK9
      obtain ⟨z1, z2, z3⟩ := goK_0 hK9
      refine lv_aload_n hx hb dL_law_660 rfl (lv_at hl 5 rfl) ?_
      refine lv_iconst (v := 0) hx hb dL_law_661 (by decide) ?_
      refine va_lald hx hb hK hP8 13 2 rfl rfl (by unfold vp_in; decide) dL_law_662 ?_
      refine lv_iload hx hb dL_law_663 (lv_at hl 0 rfl) ?_
      refine lv_i2l hx hb dL_law_665 rfl ?_
      refine W.lcmp hx hb dL_law_666 ?_
      refine lv_if_eq (tgt := 672) hx hb dL_law_667 (by decide) (fun c667 => ?_) (fun c667 => ?_)
      · refine lv_goto (tgt := 1321) hx hb dL_law_672 (by decide) ?_
        have es := hn1
        dsimp only at es
        rw [es] at hP8
        exact kn σ ρ w1 (nL) (nB) H8 locs8 ls (hI) hrel hP8 hS8 (lv_sub hl [2, 3, 4, 5, 6] rfl)
      · exact absurd ((lg_cmp_eq _ _).mpr (show w1 0 = r2.toInt64 by rw [hr2]; exact hw)) c667
  · exact absurd (h15.trans hk.symm) c650
set_option maxHeartbeats 4000000 in
set_option maxRecDepth 100000 in
theorem lc_shift {p : Program} {l : Launch} {e : Env} {s : State} {m : MethodId} {below : List Frame} {meth : Method} {c : Code} {D : va_G} {cI cZ cJ : ClassId} {b L : Nat} {xs : Nat → Int32} {Q : State → Prop} (hfl : l.stackTraces = false) (C0 : lw_At p s m meth c b L xs) (hL : L ≤ 2560) (hK : va_K D vwCl (tyL cI cZ cJ) s) (hT0 : tpA (fun q : Nat => s.heap.size ≤ q) s.heap s) {h : Nat} {a : Nat → Nat} {σ : St} {o : Nat} {w : Nat → Int64} {h2 : Nat} {a2 : Nat → Nat} {τ : St} {nL nB j : Nat} {H : Heap} {locs : List Loc} {ls : Array Slot} (hj : 5 * j + 5 ≤ L) (hI : inv σ nL nB) (hR : rel σ τ nL) (hP : va_P D vwCl (gw cI cZ cJ h a σ o w h2 a2 τ) H) (hD : va_D (fun q : Nat => s.heap.size ≤ q) (gw cI cZ cJ h a σ o w h2 a2 τ)) (hS : va_S (fun q : Nat => s.heap.size ≤ q) s.heap H locs) (hl : lv_has ls 7 [(0, .ref b), (1, .ref h), (2, .ref h2), (3, .ref o), (4, .int (nI (5 * j)))]) (kn : ∀ (σ' τ' : St) (w' : Nat → Int64) (nL' nB' : Nat) (H' : Heap) (locs' : List Loc) (ls' : Array Slot), inv σ' nL' nB' → rel σ' τ' nL' → va_P D vwCl (gw cI cZ cJ h a σ' o w' h2 a2 τ') H' → va_S (fun q : Nat => s.heap.size ≤ q) s.heap H' locs' → lv_has ls' 7 [(0, .ref b), (1, .ref h), (2, .ref h2), (3, .ref o), (4, .int (nI (5 * j)))] → W p l e room_1 s m #[Value.ref b] below meth c H' locs' (27 + j + 1) (484 + 6 * j + 6) Q (F0 m 1321 ls' [])) : W p l e room_1 s m #[Value.ref b] below meth c H locs (27 + j) (484 + 6 * j) Q (F0 m 675 ls []) := by
  obtain ⟨hx, hb, hr, hml, hown, hts0, hX, hbl, hlocks, hgv⟩ := C0
  have hown : s.vm.findClass RL = some m.cls := hown
  have hts : ∀ w ∈ wsL_law, w.before #[Value.ref b] s = true := fun w h => hts0 w (wsL_law_in w h)
  have hbA : ¬ (fun q : Nat => s.heap.size ≤ q) b := Nat.not_le.mpr hbl
  have hKx : va_K D vwCl (tyX cI cZ) s := hK.sub [0, 1] rfl
  have hPx := va_P_l hP
  have hPm := va_P_r hP
  have hDx := va_D_l hD
  have hTx := tpA_nar (tpA_kept hT0 hS) (B := fun q => s.heap.size ≤ q ∧ notin (mw cI cZ h2 a2 τ) q) (fun q h => h.1)
  refine lv_aload_n hx hb dL_law_675 rfl (lv_at hl 1 rfl) ?_
  refine lv_aload_n hx hb dL_law_676 rfl (lv_at hl 0 rfl) ?_
  refine lv_iload hx hb dL_law_677 (lv_at hl 4 rfl) ?_
  refine lv_iconst (v := 1) hx hb dL_law_679 (by decide) ?_
  refine lv_iadd hx hb dL_law_680 ?_
  refine lv_topi (fun y9 e9 => ?_)
  rw [show y9 = (nI (5 * j + 1)) from e9.trans (nI_add _ 1)]
  refine sc_ld hx hb hX hbl hbA hS (i := (5 * j + 1)) (by omega) hL dL_law_681 ?_
  refine lv_aload_n hx hb dL_law_682 rfl (lv_at hl 3 rfl) ?_
  refine lw_callS 3 hx hb hml hown hts hl.1 hPx hK hTx hS (fun q h => h.1) (As := [.ref h, .int (xs (5 * j + 1)), .ref o]) (rest := []) (c_L_shift l hfl D cI cZ cJ h a σ o w H _ hDx hI (xs (5 * j + 1))) gL_law_L_shift rfl rfl rfl (by decide +kernel) ⟨Nat.le_of_ble_eq_true rfl, Nat.le_of_ble_eq_true rfl⟩ rfl rfl (Nat.le_of_ble_eq_true rfl) dL_law_683 ⟨by show _ ≤ 1059; omega, by show _ ≤ 8724; omega⟩ (fun r1 u1 H locs hp1 hPx hS hk1 => ?_)
  obtain ⟨σ1, w1⟩ := u1
  obtain ⟨hk, hok1, hno1⟩ := hp1
  have hPm := keepW hPm hk1
  have hD : va_D (fun q : Nat => s.heap.size ≤ q) (gw cI cZ cJ h a σ1 o w1 h2 a2 τ) := va_D_ad (W := gw cI cZ cJ h a σ o w h2 a2 τ) (W' := gw cI cZ cJ h a σ1 o w1 h2 a2 τ) rfl hD
  have hDm := va_D_r hD
  refine lv_istore (lv' := [(5, .int r1), (0, .ref b), (1, .ref h), (2, .ref h2), (3, .ref o), (4, .int (nI (5 * j)))]) hx hb dL_law_686 hl (by decide) rfl (fun ls hl => ?_)
  refine lv_aload_n hx hb dL_law_688 rfl (lv_at hl 3 rfl) ?_
  refine lv_aload_n hx hb dL_law_689 rfl (lv_at hl 1 rfl) ?_
  refine lv_iload hx hb dL_law_690 (lv_at hl 5 rfl) ?_
  refine lv_iconst (v := 1) hx hb dL_law_692 (by decide) ?_
  refine lv_iadd hx hb dL_law_693 ?_
  refine lv_topi (fun y9 e9 => ?_)
  rw [show y9 = (nI (5 * j + 1)) from e9.trans (nI_add _ 1)]
  refine sc_ld hx hb hX hbl hbA hS (i := (5 * j + 1)) (by omega) hL dL_law_694 ?_
  refine wr_callV 1 hx hb hml hown hts hl.1 hPm hKx hS (fun q h => h.1) 0 1 rfl rfl (As := [.int (xs (5 * j + 1))]) (rest := []) (c_X1_shift l D cI cZ h2 a2 σ τ H _ hDm hI hR (xs (5 * j + 1))) gL_law_X1_shift rfl rfl rfl (by decide +kernel) ⟨Nat.le_of_ble_eq_true rfl, Nat.le_of_ble_eq_true rfl⟩ rfl rfl (Nat.le_of_ble_eq_true rfl) dL_law_695 ⟨by show _ ≤ 1059; omega, by show _ ≤ 8724; omega⟩ (fun r2 ρ H8 locs8 hp2 hPm hS8 _ hk2 => ?_)
  obtain ⟨h15, hok2, hno2⟩ := hp2
  have hPx := keepW hPx hk2
  have hP8 : va_P D vwCl (gw cI cZ cJ h a σ1 o w1 h2 a2 ρ) H8 := va_P.app hPx hPm
  refine lv_istore (lv' := [(6, .int r2), (5, .int r1), (0, .ref b), (1, .ref h), (2, .ref h2), (3, .ref o), (4, .int (nI (5 * j)))]) hx hb dL_law_698 hl (by decide) rfl (fun ls hl => ?_)
  refine lv_aload_n hx hb dL_law_700 rfl (lv_at hl 4 rfl) ?_
  refine ro_callV 0 hx hb hml hown hts hl.1 hPm hKx 0 1 rfl rfl (As := []) (rest := []) (c_X1_thrown l D cI cZ h2 a2 ρ H8) gL_law_X1_thrown rfl rfl rfl (by decide +kernel) ⟨Nat.le_of_ble_eq_true rfl, Nat.le_of_ble_eq_true rfl⟩ rfl rfl (Nat.le_of_ble_eq_true rfl) dL_law_701 ⟨by show _ ≤ 1059; omega, by show _ ≤ 8724; omega⟩ (fun r3 hr3 => ?_)
  subst hr3
  refine lv_iload hx hb dL_law_704 (lv_at hl 1 rfl) ?_
  refine lv_icmp_eq (tgt := 711) hx hb dL_law_706 (by decide) (fun c706 => ?_) (fun c706 => ?_)
  · refine lv_iload hx hb dL_law_711 (lv_at hl 1 rfl) ?_
    refine lv_if_ne (tgt := 728) hx hb dL_law_713 (by decide) (fun c713 => ?_) (fun c713 => ?_)
    · refine lv_goto (tgt := 1321) hx hb dL_law_728 (by decide) ?_
      have hK9 : ¬ goK (inR (xs (5 * j + 1)) 0 47) true true = 0 := fun z => c713 (hk.trans z)
      have es : σ1 = σ := hno1 hK9
      rw [es] at hP8
      exact kn σ ρ w1 nL nB H8 locs8 ls hI (hno2 hK9) hP8 hS8 (lv_sub hl [2, 3, 4, 5, 6] rfl)
    · have hK9 : goK (inR (xs (5 * j + 1)) 0 47) true true = 0 := hk.symm.trans c713
      obtain ⟨hw, hn1⟩ := hok1 hK9
      obtain ⟨hr2, hrel⟩ := hok2 hK9
      obtain ⟨z1, z2, z3⟩ := goK_0 hK9
      refine lv_aload_n hx hb dL_law_716 rfl (lv_at hl 5 rfl) ?_
      refine lv_iconst (v := 0) hx hb dL_law_717 (by decide) ?_
      refine va_lald hx hb hK hP8 13 2 rfl rfl (by unfold vp_in; decide) dL_law_718 ?_
      refine lv_iload hx hb dL_law_719 (lv_at hl 0 rfl) ?_
      refine lv_i2l hx hb dL_law_721 rfl ?_
      refine W.lcmp hx hb dL_law_722 ?_
      refine lv_if_eq (tgt := 728) hx hb dL_law_723 (by decide) (fun c723 => ?_) (fun c723 => ?_)
      · refine lv_goto (tgt := 1321) hx hb dL_law_728 (by decide) ?_
        have es := hn1
        dsimp only at es
        rw [es] at hP8
        exact kn σ ρ w1 (nL) (nB) H8 locs8 ls (hI) hrel hP8 hS8 (lv_sub hl [2, 3, 4, 5, 6] rfl)
      · exact absurd ((lg_cmp_eq _ _).mpr (show w1 0 = r2.toInt64 by rw [hr2]; exact hw)) c723
  · exact absurd (h15.trans hk.symm) c706
set_option maxHeartbeats 4000000 in
set_option maxRecDepth 100000 in
theorem lc_isAdrift {p : Program} {l : Launch} {e : Env} {s : State} {m : MethodId} {below : List Frame} {meth : Method} {c : Code} {D : va_G} {cI cZ cJ : ClassId} {b L : Nat} {xs : Nat → Int32} {Q : State → Prop} (hfl : l.stackTraces = false) (C0 : lw_At p s m meth c b L xs) (hL : L ≤ 2560) (hK : va_K D vwCl (tyL cI cZ cJ) s) (hT0 : tpA (fun q : Nat => s.heap.size ≤ q) s.heap s) {h : Nat} {a : Nat → Nat} {σ : St} {o : Nat} {w : Nat → Int64} {h2 : Nat} {a2 : Nat → Nat} {τ : St} {nL nB j : Nat} {H : Heap} {locs : List Loc} {ls : Array Slot} (hj : 5 * j + 5 ≤ L) (hI : inv σ nL nB) (hR : rel σ τ nL) (hP : va_P D vwCl (gw cI cZ cJ h a σ o w h2 a2 τ) H) (hD : va_D (fun q : Nat => s.heap.size ≤ q) (gw cI cZ cJ h a σ o w h2 a2 τ)) (hS : va_S (fun q : Nat => s.heap.size ≤ q) s.heap H locs) (hl : lv_has ls 7 [(0, .ref b), (1, .ref h), (2, .ref h2), (3, .ref o), (4, .int (nI (5 * j)))]) (kn : ∀ (σ' τ' : St) (w' : Nat → Int64) (nL' nB' : Nat) (H' : Heap) (locs' : List Loc) (ls' : Array Slot), inv σ' nL' nB' → rel σ' τ' nL' → va_P D vwCl (gw cI cZ cJ h a σ' o w' h2 a2 τ') H' → va_S (fun q : Nat => s.heap.size ≤ q) s.heap H' locs' → lv_has ls' 7 [(0, .ref b), (1, .ref h), (2, .ref h2), (3, .ref o), (4, .int (nI (5 * j)))] → W p l e room_1 s m #[Value.ref b] below meth c H' locs' (27 + j + 1) (484 + 6 * j + 6) Q (F0 m 1321 ls' [])) : W p l e room_1 s m #[Value.ref b] below meth c H locs (27 + j) (484 + 6 * j) Q (F0 m 731 ls []) := by
  obtain ⟨hx, hb, hr, hml, hown, hts0, hX, hbl, hlocks, hgv⟩ := C0
  have hown : s.vm.findClass RL = some m.cls := hown
  have hts : ∀ w ∈ wsL_law, w.before #[Value.ref b] s = true := fun w h => hts0 w (wsL_law_in w h)
  have hbA : ¬ (fun q : Nat => s.heap.size ≤ q) b := Nat.not_le.mpr hbl
  have hKx : va_K D vwCl (tyX cI cZ) s := hK.sub [0, 1] rfl
  have hPx := va_P_l hP
  have hPm := va_P_r hP
  have hDx := va_D_l hD
  have hTx := tpA_nar (tpA_kept hT0 hS) (B := fun q => s.heap.size ≤ q ∧ notin (mw cI cZ h2 a2 τ) q) (fun q h => h.1)
  refine lv_aload_n hx hb dL_law_731 rfl (lv_at hl 1 rfl) ?_
  refine lv_aload_n hx hb dL_law_732 rfl (lv_at hl 0 rfl) ?_
  refine lv_iload hx hb dL_law_733 (lv_at hl 4 rfl) ?_
  refine lv_iconst (v := 1) hx hb dL_law_735 (by decide) ?_
  refine lv_iadd hx hb dL_law_736 ?_
  refine lv_topi (fun y9 e9 => ?_)
  rw [show y9 = (nI (5 * j + 1)) from e9.trans (nI_add _ 1)]
  refine sc_ld hx hb hX hbl hbA hS (i := (5 * j + 1)) (by omega) hL dL_law_737 ?_
  refine lv_aload_n hx hb dL_law_738 rfl (lv_at hl 3 rfl) ?_
  refine lw_callS 3 hx hb hml hown hts hl.1 hPx hK hTx hS (fun q h => h.1) (As := [.ref h, .int (xs (5 * j + 1)), .ref o]) (rest := []) (c_L_isAdrift l hfl D cI cZ cJ h a σ o w H _ hDx hI (xs (5 * j + 1))) gL_law_L_isAdrift rfl rfl rfl (by decide +kernel) ⟨Nat.le_of_ble_eq_true rfl, Nat.le_of_ble_eq_true rfl⟩ rfl rfl (Nat.le_of_ble_eq_true rfl) dL_law_739 ⟨by show _ ≤ 1059; omega, by show _ ≤ 8724; omega⟩ (fun r1 u1 H locs hp1 hPx hS hk1 => ?_)
  obtain ⟨σ1, w1⟩ := u1
  obtain ⟨hk, hok1, hno1⟩ := hp1
  have hPm := keepW hPm hk1
  have hD : va_D (fun q : Nat => s.heap.size ≤ q) (gw cI cZ cJ h a σ1 o w1 h2 a2 τ) := va_D_ad (W := gw cI cZ cJ h a σ o w h2 a2 τ) (W' := gw cI cZ cJ h a σ1 o w1 h2 a2 τ) rfl hD
  have hDm := va_D_r hD
  refine lv_istore (lv' := [(5, .int r1), (0, .ref b), (1, .ref h), (2, .ref h2), (3, .ref o), (4, .int (nI (5 * j)))]) hx hb dL_law_742 hl (by decide) rfl (fun ls hl => ?_)
  refine lv_aload_n hx hb dL_law_744 rfl (lv_at hl 3 rfl) ?_
  refine lv_aload_n hx hb dL_law_745 rfl (lv_at hl 1 rfl) ?_
  refine lv_iload hx hb dL_law_746 (lv_at hl 5 rfl) ?_
  refine lv_iconst (v := 1) hx hb dL_law_748 (by decide) ?_
  refine lv_iadd hx hb dL_law_749 ?_
  refine lv_topi (fun y9 e9 => ?_)
  rw [show y9 = (nI (5 * j + 1)) from e9.trans (nI_add _ 1)]
  refine sc_ld hx hb hX hbl hbA hS (i := (5 * j + 1)) (by omega) hL dL_law_750 ?_
  refine wr_callV 1 hx hb hml hown hts hl.1 hPm hKx hS (fun q h => h.1) 0 1 rfl rfl (As := [.int (xs (5 * j + 1))]) (rest := []) (c_X1_isAdrift l D cI cZ h2 a2 σ τ H _ hDm hI hR (xs (5 * j + 1))) gL_law_X1_isAdrift rfl rfl rfl (by decide +kernel) ⟨Nat.le_of_ble_eq_true rfl, Nat.le_of_ble_eq_true rfl⟩ rfl rfl (Nat.le_of_ble_eq_true rfl) dL_law_751 ⟨by show _ ≤ 1059; omega, by show _ ≤ 8724; omega⟩ (fun r2 ρ H8 locs8 hp2 hPm hS8 _ hk2 => ?_)
  obtain ⟨h15, hok2, hno2⟩ := hp2
  have hPx := keepW hPx hk2
  have hP8 : va_P D vwCl (gw cI cZ cJ h a σ1 o w1 h2 a2 ρ) H8 := va_P.app hPx hPm
  refine lv_istore (lv' := [(6, .int r2), (5, .int r1), (0, .ref b), (1, .ref h), (2, .ref h2), (3, .ref o), (4, .int (nI (5 * j)))]) hx hb dL_law_754 hl (by decide) rfl (fun ls hl => ?_)
  refine lv_aload_n hx hb dL_law_756 rfl (lv_at hl 4 rfl) ?_
  refine ro_callV 0 hx hb hml hown hts hl.1 hPm hKx 0 1 rfl rfl (As := []) (rest := []) (c_X1_thrown l D cI cZ h2 a2 ρ H8) gL_law_X1_thrown rfl rfl rfl (by decide +kernel) ⟨Nat.le_of_ble_eq_true rfl, Nat.le_of_ble_eq_true rfl⟩ rfl rfl (Nat.le_of_ble_eq_true rfl) dL_law_757 ⟨by show _ ≤ 1059; omega, by show _ ≤ 8724; omega⟩ (fun r3 hr3 => ?_)
  subst hr3
  refine lv_iload hx hb dL_law_760 (lv_at hl 1 rfl) ?_
  refine lv_icmp_eq (tgt := 767) hx hb dL_law_762 (by decide) (fun c762 => ?_) (fun c762 => ?_)
  · refine lv_iload hx hb dL_law_767 (lv_at hl 1 rfl) ?_
    refine lv_if_ne (tgt := 791) hx hb dL_law_769 (by decide) (fun c769 => ?_) (fun c769 => ?_)
    · refine lv_goto (tgt := 1321) hx hb dL_law_791 (by decide) ?_
      have hK9 : ¬ goK (inR (xs (5 * j + 1)) 0 47) true true = 0 := fun z => c769 (hk.trans z)
      have es : σ1 = σ := hno1 hK9
      rw [es] at hP8
      exact kn σ ρ w1 nL nB H8 locs8 ls hI (hno2 hK9) hP8 hS8 (lv_sub hl [2, 3, 4, 5, 6] rfl)
    · have hK9 : goK (inR (xs (5 * j + 1)) 0 47) true true = 0 := hk.symm.trans c769
      obtain ⟨hw, hn1⟩ := hok1 hK9
      obtain ⟨hr2, hrel⟩ := hok2 hK9
      obtain ⟨z1, z2, z3⟩ := goK_0 hK9
      refine lv_aload_n hx hb dL_law_772 rfl (lv_at hl 5 rfl) ?_
      refine lv_iconst (v := 0) hx hb dL_law_773 (by decide) ?_
      refine va_lald hx hb hK hP8 13 2 rfl rfl (by unfold vp_in; decide) dL_law_774 ?_
      refine lv_iload hx hb dL_law_775 (lv_at hl 0 rfl) ?_
      refine lv_if_eq (tgt := 784) hx hb dL_law_777 (by decide) (fun c777 => ?_) (fun c777 => ?_)
      · refine lv_lconst (v := 0) hx hb dL_law_784 (by decide) ?_
        refine W.lcmp hx hb dL_law_785 ?_
        refine lv_if_eq (tgt := 791) hx hb dL_law_786 (by decide) (fun c786 => ?_) (fun c786 => ?_)
        · refine lv_goto (tgt := 1321) hx hb dL_law_791 (by decide) ?_
          have es := hn1
          dsimp only at es
          rw [es] at hP8
          exact kn σ ρ w1 (nL) (nB) H8 locs8 ls (hI) hrel hP8 hS8 (lv_sub hl [2, 3, 4, 5, 6] rfl)
        · exact absurd ((lg_cmp_eq _ _).mpr (show w1 0 = 0 by rw [show w1 0 = _ from hw, ← hr2, c777]; rfl)) c786
      · refine lv_lconst (v := 1) hx hb dL_law_780 (by decide) ?_
        refine lv_goto (tgt := 785) hx hb dL_law_781 (by decide) ?_
        refine W.lcmp hx hb dL_law_785 ?_
        refine lv_if_eq (tgt := 791) hx hb dL_law_786 (by decide) (fun c786 => ?_) (fun c786 => ?_)
        · refine lv_goto (tgt := 1321) hx hb dL_law_791 (by decide) ?_
          have es := hn1
          dsimp only at es
          rw [es] at hP8
          exact kn σ ρ w1 (nL) (nB) H8 locs8 ls (hI) hrel hP8 hS8 (lv_sub hl [2, 3, 4, 5, 6] rfl)
        · exact absurd ((lg_cmp_eq _ _).mpr (show w1 0 = 1 by rw [show w1 0 = _ from hw]; rcases (bI_01 _ : bI (drfW σ (tN (xs (5 * j + 1))) (bal σ (tN (xs (5 * j + 1))))) = 0 ∨ bI (drfW σ (tN (xs (5 * j + 1))) (bal σ (tN (xs (5 * j + 1))))) = 1) with z | z; exact absurd (hr2.trans z) c777; rw [z]; rfl)) c786
  · exact absurd (h15.trans hk.symm) c762
set_option maxHeartbeats 4000000 in
set_option maxRecDepth 100000 in
theorem lc_length {p : Program} {l : Launch} {e : Env} {s : State} {m : MethodId} {below : List Frame} {meth : Method} {c : Code} {D : va_G} {cI cZ cJ : ClassId} {b L : Nat} {xs : Nat → Int32} {Q : State → Prop} (hfl : l.stackTraces = false) (C0 : lw_At p s m meth c b L xs) (hL : L ≤ 2560) (hK : va_K D vwCl (tyL cI cZ cJ) s) (hT0 : tpA (fun q : Nat => s.heap.size ≤ q) s.heap s) {h : Nat} {a : Nat → Nat} {σ : St} {o : Nat} {w : Nat → Int64} {h2 : Nat} {a2 : Nat → Nat} {τ : St} {nL nB j : Nat} {H : Heap} {locs : List Loc} {ls : Array Slot} (hj : 5 * j + 5 ≤ L) (hI : inv σ nL nB) (hR : rel σ τ nL) (hP : va_P D vwCl (gw cI cZ cJ h a σ o w h2 a2 τ) H) (hD : va_D (fun q : Nat => s.heap.size ≤ q) (gw cI cZ cJ h a σ o w h2 a2 τ)) (hS : va_S (fun q : Nat => s.heap.size ≤ q) s.heap H locs) (hl : lv_has ls 7 [(0, .ref b), (1, .ref h), (2, .ref h2), (3, .ref o), (4, .int (nI (5 * j)))]) (kn : ∀ (σ' τ' : St) (w' : Nat → Int64) (nL' nB' : Nat) (H' : Heap) (locs' : List Loc) (ls' : Array Slot), inv σ' nL' nB' → rel σ' τ' nL' → va_P D vwCl (gw cI cZ cJ h a σ' o w' h2 a2 τ') H' → va_S (fun q : Nat => s.heap.size ≤ q) s.heap H' locs' → lv_has ls' 7 [(0, .ref b), (1, .ref h), (2, .ref h2), (3, .ref o), (4, .int (nI (5 * j)))] → W p l e room_1 s m #[Value.ref b] below meth c H' locs' (27 + j + 1) (484 + 6 * j + 6) Q (F0 m 1321 ls' [])) : W p l e room_1 s m #[Value.ref b] below meth c H locs (27 + j) (484 + 6 * j) Q (F0 m 794 ls []) := by
  obtain ⟨hx, hb, hr, hml, hown, hts0, hX, hbl, hlocks, hgv⟩ := C0
  have hown : s.vm.findClass RL = some m.cls := hown
  have hts : ∀ w ∈ wsL_law, w.before #[Value.ref b] s = true := fun w h => hts0 w (wsL_law_in w h)
  have hbA : ¬ (fun q : Nat => s.heap.size ≤ q) b := Nat.not_le.mpr hbl
  have hKx : va_K D vwCl (tyX cI cZ) s := hK.sub [0, 1] rfl
  have hPx := va_P_l hP
  have hPm := va_P_r hP
  have hDx := va_D_l hD
  have hTx := tpA_nar (tpA_kept hT0 hS) (B := fun q => s.heap.size ≤ q ∧ notin (mw cI cZ h2 a2 τ) q) (fun q h => h.1)
  refine lv_aload_n hx hb dL_law_794 rfl (lv_at hl 1 rfl) ?_
  refine lv_aload_n hx hb dL_law_795 rfl (lv_at hl 0 rfl) ?_
  refine lv_iload hx hb dL_law_796 (lv_at hl 4 rfl) ?_
  refine lv_iconst (v := 1) hx hb dL_law_798 (by decide) ?_
  refine lv_iadd hx hb dL_law_799 ?_
  refine lv_topi (fun y9 e9 => ?_)
  rw [show y9 = (nI (5 * j + 1)) from e9.trans (nI_add _ 1)]
  refine sc_ld hx hb hX hbl hbA hS (i := (5 * j + 1)) (by omega) hL dL_law_800 ?_
  refine lv_aload_n hx hb dL_law_801 rfl (lv_at hl 0 rfl) ?_
  refine lv_iload hx hb dL_law_802 (lv_at hl 4 rfl) ?_
  refine lv_iconst (v := 2) hx hb dL_law_804 (by decide) ?_
  refine lv_iadd hx hb dL_law_805 ?_
  refine lv_topi (fun y9 e9 => ?_)
  rw [show y9 = (nI (5 * j + 2)) from e9.trans (nI_add _ 2)]
  refine sc_ld hx hb hX hbl hbA hS (i := (5 * j + 2)) (by omega) hL dL_law_806 ?_
  refine lv_aload_n hx hb dL_law_807 rfl (lv_at hl 3 rfl) ?_
  refine lw_callS 4 hx hb hml hown hts hl.1 hPx hK hTx hS (fun q h => h.1) (As := [.ref h, .int (xs (5 * j + 1)), .int (xs (5 * j + 2)), .ref o]) (rest := []) (c_L_length l hfl D cI cZ cJ h a σ o w H _ hDx hI (xs (5 * j + 1)) (xs (5 * j + 2))) gL_law_L_length rfl rfl rfl (by decide +kernel) ⟨Nat.le_of_ble_eq_true rfl, Nat.le_of_ble_eq_true rfl⟩ rfl rfl (Nat.le_of_ble_eq_true rfl) dL_law_808 ⟨by show _ ≤ 1059; omega, by show _ ≤ 8724; omega⟩ (fun r1 u1 H locs hp1 hPx hS hk1 => ?_)
  obtain ⟨σ1, w1⟩ := u1
  obtain ⟨hk, hok1, hno1⟩ := hp1
  have hPm := keepW hPm hk1
  have hD : va_D (fun q : Nat => s.heap.size ≤ q) (gw cI cZ cJ h a σ1 o w1 h2 a2 τ) := va_D_ad (W := gw cI cZ cJ h a σ o w h2 a2 τ) (W' := gw cI cZ cJ h a σ1 o w1 h2 a2 τ) rfl hD
  have hDm := va_D_r hD
  refine lv_istore (lv' := [(5, .int r1), (0, .ref b), (1, .ref h), (2, .ref h2), (3, .ref o), (4, .int (nI (5 * j)))]) hx hb dL_law_811 hl (by decide) rfl (fun ls hl => ?_)
  refine lv_aload_n hx hb dL_law_813 rfl (lv_at hl 3 rfl) ?_
  refine lv_aload_n hx hb dL_law_814 rfl (lv_at hl 1 rfl) ?_
  refine lv_iload hx hb dL_law_815 (lv_at hl 5 rfl) ?_
  refine lv_iconst (v := 1) hx hb dL_law_817 (by decide) ?_
  refine lv_iadd hx hb dL_law_818 ?_
  refine lv_topi (fun y9 e9 => ?_)
  rw [show y9 = (nI (5 * j + 1)) from e9.trans (nI_add _ 1)]
  refine sc_ld hx hb hX hbl hbA hS (i := (5 * j + 1)) (by omega) hL dL_law_819 ?_
  refine lv_aload_n hx hb dL_law_820 rfl (lv_at hl 1 rfl) ?_
  refine lv_iload hx hb dL_law_821 (lv_at hl 5 rfl) ?_
  refine lv_iconst (v := 2) hx hb dL_law_823 (by decide) ?_
  refine lv_iadd hx hb dL_law_824 ?_
  refine lv_topi (fun y9 e9 => ?_)
  rw [show y9 = (nI (5 * j + 2)) from e9.trans (nI_add _ 2)]
  refine sc_ld hx hb hX hbl hbA hS (i := (5 * j + 2)) (by omega) hL dL_law_825 ?_
  refine wr_callV 2 hx hb hml hown hts hl.1 hPm hKx hS (fun q h => h.1) 0 1 rfl rfl (As := [.int (xs (5 * j + 1)), .int (xs (5 * j + 2))]) (rest := []) (c_X1_length l D cI cZ h2 a2 σ τ H _ hDm hI hR (xs (5 * j + 1)) (xs (5 * j + 2))) gL_law_X1_length rfl rfl rfl (by decide +kernel) ⟨Nat.le_of_ble_eq_true rfl, Nat.le_of_ble_eq_true rfl⟩ rfl rfl (Nat.le_of_ble_eq_true rfl) dL_law_826 ⟨by show _ ≤ 1059; omega, by show _ ≤ 8724; omega⟩ (fun r2 ρ H8 locs8 hp2 hPm hS8 _ hk2 => ?_)
  obtain ⟨h15, hok2, hno2⟩ := hp2
  have hPx := keepW hPx hk2
  have hP8 : va_P D vwCl (gw cI cZ cJ h a σ1 o w1 h2 a2 ρ) H8 := va_P.app hPx hPm
  refine lv_istore (lv' := [(6, .int r2), (5, .int r1), (0, .ref b), (1, .ref h), (2, .ref h2), (3, .ref o), (4, .int (nI (5 * j)))]) hx hb dL_law_829 hl (by decide) rfl (fun ls hl => ?_)
  refine lv_aload_n hx hb dL_law_831 rfl (lv_at hl 4 rfl) ?_
  refine ro_callV 0 hx hb hml hown hts hl.1 hPm hKx 0 1 rfl rfl (As := []) (rest := []) (c_X1_thrown l D cI cZ h2 a2 ρ H8) gL_law_X1_thrown rfl rfl rfl (by decide +kernel) ⟨Nat.le_of_ble_eq_true rfl, Nat.le_of_ble_eq_true rfl⟩ rfl rfl (Nat.le_of_ble_eq_true rfl) dL_law_832 ⟨by show _ ≤ 1059; omega, by show _ ≤ 8724; omega⟩ (fun r3 hr3 => ?_)
  subst hr3
  refine lv_iload hx hb dL_law_835 (lv_at hl 1 rfl) ?_
  refine lv_icmp_eq (tgt := 842) hx hb dL_law_837 (by decide) (fun c837 => ?_) (fun c837 => ?_)
  · refine lv_iload hx hb dL_law_842 (lv_at hl 1 rfl) ?_
    refine lv_if_ne (tgt := 859) hx hb dL_law_844 (by decide) (fun c844 => ?_) (fun c844 => ?_)
    · refine lv_goto (tgt := 1321) hx hb dL_law_859 (by decide) ?_
      have hK9 : ¬ goK (inR (xs (5 * j + 1)) 0 (nI nL - 1) && inR (xs (5 * j + 2)) 0 47) true true = 0 := fun z => c844 (hk.trans z)
      have es : σ1 = σ := hno1 hK9
      rw [es] at hP8
      exact kn σ ρ w1 nL nB H8 locs8 ls hI (hno2 hK9) hP8 hS8 (lv_sub hl [2, 3, 4, 5, 6] rfl)
    · have hK9 : goK (inR (xs (5 * j + 1)) 0 (nI nL - 1) && inR (xs (5 * j + 2)) 0 47) true true = 0 := hk.symm.trans c844
      obtain ⟨hw, hn1⟩ := hok1 hK9
      obtain ⟨hr2, hrel⟩ := hok2 hK9
      obtain ⟨z1, z2, z3⟩ := goK_0 hK9
      refine lv_aload_n hx hb dL_law_847 rfl (lv_at hl 5 rfl) ?_
      refine lv_iconst (v := 0) hx hb dL_law_848 (by decide) ?_
      refine va_lald hx hb hK hP8 13 2 rfl rfl (by unfold vp_in; decide) dL_law_849 ?_
      refine lv_iload hx hb dL_law_850 (lv_at hl 0 rfl) ?_
      refine lv_i2l hx hb dL_law_852 rfl ?_
      refine W.lcmp hx hb dL_law_853 ?_
      refine lv_if_eq (tgt := 859) hx hb dL_law_854 (by decide) (fun c854 => ?_) (fun c854 => ?_)
      · refine lv_goto (tgt := 1321) hx hb dL_law_859 (by decide) ?_
        have es := hn1
        dsimp only at es
        rw [es] at hP8
        exact kn σ ρ w1 (nL) (nB) H8 locs8 ls (hI) hrel hP8 hS8 (lv_sub hl [2, 3, 4, 5, 6] rfl)
      · exact absurd ((lg_cmp_eq _ _).mpr (show w1 0 = r2.toInt64 by rw [hr2]; exact hw)) c854
  · exact absurd (h15.trans hk.symm) c837
set_option maxHeartbeats 4000000 in
set_option maxRecDepth 100000 in
theorem lc_tension {p : Program} {l : Launch} {e : Env} {s : State} {m : MethodId} {below : List Frame} {meth : Method} {c : Code} {D : va_G} {cI cZ cJ : ClassId} {b L : Nat} {xs : Nat → Int32} {Q : State → Prop} (hfl : l.stackTraces = false) (C0 : lw_At p s m meth c b L xs) (hL : L ≤ 2560) (hK : va_K D vwCl (tyL cI cZ cJ) s) (hT0 : tpA (fun q : Nat => s.heap.size ≤ q) s.heap s) {h : Nat} {a : Nat → Nat} {σ : St} {o : Nat} {w : Nat → Int64} {h2 : Nat} {a2 : Nat → Nat} {τ : St} {nL nB j : Nat} {H : Heap} {locs : List Loc} {ls : Array Slot} (hj : 5 * j + 5 ≤ L) (hI : inv σ nL nB) (hR : rel σ τ nL) (hP : va_P D vwCl (gw cI cZ cJ h a σ o w h2 a2 τ) H) (hD : va_D (fun q : Nat => s.heap.size ≤ q) (gw cI cZ cJ h a σ o w h2 a2 τ)) (hS : va_S (fun q : Nat => s.heap.size ≤ q) s.heap H locs) (hl : lv_has ls 7 [(0, .ref b), (1, .ref h), (2, .ref h2), (3, .ref o), (4, .int (nI (5 * j)))]) (kn : ∀ (σ' τ' : St) (w' : Nat → Int64) (nL' nB' : Nat) (H' : Heap) (locs' : List Loc) (ls' : Array Slot), inv σ' nL' nB' → rel σ' τ' nL' → va_P D vwCl (gw cI cZ cJ h a σ' o w' h2 a2 τ') H' → va_S (fun q : Nat => s.heap.size ≤ q) s.heap H' locs' → lv_has ls' 7 [(0, .ref b), (1, .ref h), (2, .ref h2), (3, .ref o), (4, .int (nI (5 * j)))] → W p l e room_1 s m #[Value.ref b] below meth c H' locs' (27 + j + 1) (484 + 6 * j + 6) Q (F0 m 1321 ls' [])) : W p l e room_1 s m #[Value.ref b] below meth c H locs (27 + j) (484 + 6 * j) Q (F0 m 862 ls []) := by
  obtain ⟨hx, hb, hr, hml, hown, hts0, hX, hbl, hlocks, hgv⟩ := C0
  have hown : s.vm.findClass RL = some m.cls := hown
  have hts : ∀ w ∈ wsL_law, w.before #[Value.ref b] s = true := fun w h => hts0 w (wsL_law_in w h)
  have hbA : ¬ (fun q : Nat => s.heap.size ≤ q) b := Nat.not_le.mpr hbl
  have hKx : va_K D vwCl (tyX cI cZ) s := hK.sub [0, 1] rfl
  have hPx := va_P_l hP
  have hPm := va_P_r hP
  have hDx := va_D_l hD
  have hTx := tpA_nar (tpA_kept hT0 hS) (B := fun q => s.heap.size ≤ q ∧ notin (mw cI cZ h2 a2 τ) q) (fun q h => h.1)
  refine lv_aload_n hx hb dL_law_862 rfl (lv_at hl 1 rfl) ?_
  refine lv_aload_n hx hb dL_law_863 rfl (lv_at hl 0 rfl) ?_
  refine lv_iload hx hb dL_law_864 (lv_at hl 4 rfl) ?_
  refine lv_iconst (v := 1) hx hb dL_law_866 (by decide) ?_
  refine lv_iadd hx hb dL_law_867 ?_
  refine lv_topi (fun y9 e9 => ?_)
  rw [show y9 = (nI (5 * j + 1)) from e9.trans (nI_add _ 1)]
  refine sc_ld hx hb hX hbl hbA hS (i := (5 * j + 1)) (by omega) hL dL_law_868 ?_
  refine lv_aload_n hx hb dL_law_869 rfl (lv_at hl 0 rfl) ?_
  refine lv_iload hx hb dL_law_870 (lv_at hl 4 rfl) ?_
  refine lv_iconst (v := 2) hx hb dL_law_872 (by decide) ?_
  refine lv_iadd hx hb dL_law_873 ?_
  refine lv_topi (fun y9 e9 => ?_)
  rw [show y9 = (nI (5 * j + 2)) from e9.trans (nI_add _ 2)]
  refine sc_ld hx hb hX hbl hbA hS (i := (5 * j + 2)) (by omega) hL dL_law_874 ?_
  refine lv_aload_n hx hb dL_law_875 rfl (lv_at hl 3 rfl) ?_
  refine lw_callS 4 hx hb hml hown hts hl.1 hPx hK hTx hS (fun q h => h.1) (As := [.ref h, .int (xs (5 * j + 1)), .int (xs (5 * j + 2)), .ref o]) (rest := []) (c_L_tension l hfl D cI cZ cJ h a σ o w H _ hDx hI (xs (5 * j + 1)) (xs (5 * j + 2))) gL_law_L_tension rfl rfl rfl (by decide +kernel) ⟨Nat.le_of_ble_eq_true rfl, Nat.le_of_ble_eq_true rfl⟩ rfl rfl (Nat.le_of_ble_eq_true rfl) dL_law_876 ⟨by show _ ≤ 1059; omega, by show _ ≤ 8724; omega⟩ (fun r1 u1 H locs hp1 hPx hS hk1 => ?_)
  obtain ⟨σ1, w1⟩ := u1
  obtain ⟨hk, hok1, hno1⟩ := hp1
  have hPm := keepW hPm hk1
  have hD : va_D (fun q : Nat => s.heap.size ≤ q) (gw cI cZ cJ h a σ1 o w1 h2 a2 τ) := va_D_ad (W := gw cI cZ cJ h a σ o w h2 a2 τ) (W' := gw cI cZ cJ h a σ1 o w1 h2 a2 τ) rfl hD
  have hDm := va_D_r hD
  refine lv_istore (lv' := [(5, .int r1), (0, .ref b), (1, .ref h), (2, .ref h2), (3, .ref o), (4, .int (nI (5 * j)))]) hx hb dL_law_879 hl (by decide) rfl (fun ls hl => ?_)
  refine lv_aload_n hx hb dL_law_881 rfl (lv_at hl 3 rfl) ?_
  refine lv_aload_n hx hb dL_law_882 rfl (lv_at hl 1 rfl) ?_
  refine lv_iload hx hb dL_law_883 (lv_at hl 5 rfl) ?_
  refine lv_iconst (v := 1) hx hb dL_law_885 (by decide) ?_
  refine lv_iadd hx hb dL_law_886 ?_
  refine lv_topi (fun y9 e9 => ?_)
  rw [show y9 = (nI (5 * j + 1)) from e9.trans (nI_add _ 1)]
  refine sc_ld hx hb hX hbl hbA hS (i := (5 * j + 1)) (by omega) hL dL_law_887 ?_
  refine lv_aload_n hx hb dL_law_888 rfl (lv_at hl 1 rfl) ?_
  refine lv_iload hx hb dL_law_889 (lv_at hl 5 rfl) ?_
  refine lv_iconst (v := 2) hx hb dL_law_891 (by decide) ?_
  refine lv_iadd hx hb dL_law_892 ?_
  refine lv_topi (fun y9 e9 => ?_)
  rw [show y9 = (nI (5 * j + 2)) from e9.trans (nI_add _ 2)]
  refine sc_ld hx hb hX hbl hbA hS (i := (5 * j + 2)) (by omega) hL dL_law_893 ?_
  refine wr_callV 2 hx hb hml hown hts hl.1 hPm hKx hS (fun q h => h.1) 0 1 rfl rfl (As := [.int (xs (5 * j + 1)), .int (xs (5 * j + 2))]) (rest := []) (c_X1_tension l D cI cZ h2 a2 σ τ H _ hDm hI hR (xs (5 * j + 1)) (xs (5 * j + 2))) gL_law_X1_tension rfl rfl rfl (by decide +kernel) ⟨Nat.le_of_ble_eq_true rfl, Nat.le_of_ble_eq_true rfl⟩ rfl rfl (Nat.le_of_ble_eq_true rfl) dL_law_894 ⟨by show _ ≤ 1059; omega, by show _ ≤ 8724; omega⟩ (fun r2 ρ H8 locs8 hp2 hPm hS8 _ hk2 => ?_)
  obtain ⟨h15, hok2, hno2⟩ := hp2
  have hPx := keepW hPx hk2
  have hP8 : va_P D vwCl (gw cI cZ cJ h a σ1 o w1 h2 a2 ρ) H8 := va_P.app hPx hPm
  refine lv_istore (lv' := [(6, .int r2), (5, .int r1), (0, .ref b), (1, .ref h), (2, .ref h2), (3, .ref o), (4, .int (nI (5 * j)))]) hx hb dL_law_897 hl (by decide) rfl (fun ls hl => ?_)
  refine lv_aload_n hx hb dL_law_899 rfl (lv_at hl 4 rfl) ?_
  refine ro_callV 0 hx hb hml hown hts hl.1 hPm hKx 0 1 rfl rfl (As := []) (rest := []) (c_X1_thrown l D cI cZ h2 a2 ρ H8) gL_law_X1_thrown rfl rfl rfl (by decide +kernel) ⟨Nat.le_of_ble_eq_true rfl, Nat.le_of_ble_eq_true rfl⟩ rfl rfl (Nat.le_of_ble_eq_true rfl) dL_law_900 ⟨by show _ ≤ 1059; omega, by show _ ≤ 8724; omega⟩ (fun r3 hr3 => ?_)
  subst hr3
  refine lv_iload hx hb dL_law_903 (lv_at hl 1 rfl) ?_
  refine lv_icmp_eq (tgt := 910) hx hb dL_law_905 (by decide) (fun c905 => ?_) (fun c905 => ?_)
  · refine lv_iload hx hb dL_law_910 (lv_at hl 1 rfl) ?_
    refine lv_if_ne (tgt := 927) hx hb dL_law_912 (by decide) (fun c912 => ?_) (fun c912 => ?_)
    · refine lv_goto (tgt := 1321) hx hb dL_law_927 (by decide) ?_
      have hK9 : ¬ goK (inR (xs (5 * j + 1)) 0 (nI nL - 1) && inR (xs (5 * j + 2)) 0 47) true true = 0 := fun z => c912 (hk.trans z)
      have es : σ1 = σ := hno1 hK9
      rw [es] at hP8
      exact kn σ ρ w1 nL nB H8 locs8 ls hI (hno2 hK9) hP8 hS8 (lv_sub hl [2, 3, 4, 5, 6] rfl)
    · have hK9 : goK (inR (xs (5 * j + 1)) 0 (nI nL - 1) && inR (xs (5 * j + 2)) 0 47) true true = 0 := hk.symm.trans c912
      obtain ⟨hw, hn1⟩ := hok1 hK9
      obtain ⟨hr2, hrel⟩ := hok2 hK9
      obtain ⟨z1, z2, z3⟩ := goK_0 hK9
      refine lv_aload_n hx hb dL_law_915 rfl (lv_at hl 5 rfl) ?_
      refine lv_iconst (v := 0) hx hb dL_law_916 (by decide) ?_
      refine va_lald hx hb hK hP8 13 2 rfl rfl (by unfold vp_in; decide) dL_law_917 ?_
      refine lv_iload hx hb dL_law_918 (lv_at hl 0 rfl) ?_
      refine lv_i2l hx hb dL_law_920 rfl ?_
      refine W.lcmp hx hb dL_law_921 ?_
      refine lv_if_eq (tgt := 927) hx hb dL_law_922 (by decide) (fun c922 => ?_) (fun c922 => ?_)
      · refine lv_goto (tgt := 1321) hx hb dL_law_927 (by decide) ?_
        have es := hn1
        dsimp only at es
        rw [es] at hP8
        exact kn σ ρ w1 (nL) (nB) H8 locs8 ls (hI) hrel hP8 hS8 (lv_sub hl [2, 3, 4, 5, 6] rfl)
      · exact absurd ((lg_cmp_eq _ _).mpr (show w1 0 = r2.toInt64 by rw [hr2]; exact hw)) c922
  · exact absurd (h15.trans hk.symm) c905
set_option maxHeartbeats 4000000 in
set_option maxRecDepth 100000 in
theorem lc_onBollard {p : Program} {l : Launch} {e : Env} {s : State} {m : MethodId} {below : List Frame} {meth : Method} {c : Code} {D : va_G} {cI cZ cJ : ClassId} {b L : Nat} {xs : Nat → Int32} {Q : State → Prop} (hfl : l.stackTraces = false) (C0 : lw_At p s m meth c b L xs) (hL : L ≤ 2560) (hK : va_K D vwCl (tyL cI cZ cJ) s) (hT0 : tpA (fun q : Nat => s.heap.size ≤ q) s.heap s) {h : Nat} {a : Nat → Nat} {σ : St} {o : Nat} {w : Nat → Int64} {h2 : Nat} {a2 : Nat → Nat} {τ : St} {nL nB j : Nat} {H : Heap} {locs : List Loc} {ls : Array Slot} (hj : 5 * j + 5 ≤ L) (hI : inv σ nL nB) (hR : rel σ τ nL) (hP : va_P D vwCl (gw cI cZ cJ h a σ o w h2 a2 τ) H) (hD : va_D (fun q : Nat => s.heap.size ≤ q) (gw cI cZ cJ h a σ o w h2 a2 τ)) (hS : va_S (fun q : Nat => s.heap.size ≤ q) s.heap H locs) (hl : lv_has ls 7 [(0, .ref b), (1, .ref h), (2, .ref h2), (3, .ref o), (4, .int (nI (5 * j)))]) (kn : ∀ (σ' τ' : St) (w' : Nat → Int64) (nL' nB' : Nat) (H' : Heap) (locs' : List Loc) (ls' : Array Slot), inv σ' nL' nB' → rel σ' τ' nL' → va_P D vwCl (gw cI cZ cJ h a σ' o w' h2 a2 τ') H' → va_S (fun q : Nat => s.heap.size ≤ q) s.heap H' locs' → lv_has ls' 7 [(0, .ref b), (1, .ref h), (2, .ref h2), (3, .ref o), (4, .int (nI (5 * j)))] → W p l e room_1 s m #[Value.ref b] below meth c H' locs' (27 + j + 1) (484 + 6 * j + 6) Q (F0 m 1321 ls' [])) : W p l e room_1 s m #[Value.ref b] below meth c H locs (27 + j) (484 + 6 * j) Q (F0 m 930 ls []) := by
  obtain ⟨hx, hb, hr, hml, hown, hts0, hX, hbl, hlocks, hgv⟩ := C0
  have hown : s.vm.findClass RL = some m.cls := hown
  have hts : ∀ w ∈ wsL_law, w.before #[Value.ref b] s = true := fun w h => hts0 w (wsL_law_in w h)
  have hbA : ¬ (fun q : Nat => s.heap.size ≤ q) b := Nat.not_le.mpr hbl
  have hKx : va_K D vwCl (tyX cI cZ) s := hK.sub [0, 1] rfl
  have hPx := va_P_l hP
  have hPm := va_P_r hP
  have hDx := va_D_l hD
  have hTx := tpA_nar (tpA_kept hT0 hS) (B := fun q => s.heap.size ≤ q ∧ notin (mw cI cZ h2 a2 τ) q) (fun q h => h.1)
  refine lv_aload_n hx hb dL_law_930 rfl (lv_at hl 1 rfl) ?_
  refine lv_aload_n hx hb dL_law_931 rfl (lv_at hl 0 rfl) ?_
  refine lv_iload hx hb dL_law_932 (lv_at hl 4 rfl) ?_
  refine lv_iconst (v := 1) hx hb dL_law_934 (by decide) ?_
  refine lv_iadd hx hb dL_law_935 ?_
  refine lv_topi (fun y9 e9 => ?_)
  rw [show y9 = (nI (5 * j + 1)) from e9.trans (nI_add _ 1)]
  refine sc_ld hx hb hX hbl hbA hS (i := (5 * j + 1)) (by omega) hL dL_law_936 ?_
  refine lv_aload_n hx hb dL_law_937 rfl (lv_at hl 0 rfl) ?_
  refine lv_iload hx hb dL_law_938 (lv_at hl 4 rfl) ?_
  refine lv_iconst (v := 2) hx hb dL_law_940 (by decide) ?_
  refine lv_iadd hx hb dL_law_941 ?_
  refine lv_topi (fun y9 e9 => ?_)
  rw [show y9 = (nI (5 * j + 2)) from e9.trans (nI_add _ 2)]
  refine sc_ld hx hb hX hbl hbA hS (i := (5 * j + 2)) (by omega) hL dL_law_942 ?_
  refine lv_aload_n hx hb dL_law_943 rfl (lv_at hl 3 rfl) ?_
  refine lw_callS 4 hx hb hml hown hts hl.1 hPx hK hTx hS (fun q h => h.1) (As := [.ref h, .int (xs (5 * j + 1)), .int (xs (5 * j + 2)), .ref o]) (rest := []) (c_L_onBollard l hfl D cI cZ cJ h a σ o w H _ hDx hI (xs (5 * j + 1)) (xs (5 * j + 2))) gL_law_L_onBollard rfl rfl rfl (by decide +kernel) ⟨Nat.le_of_ble_eq_true rfl, Nat.le_of_ble_eq_true rfl⟩ rfl rfl (Nat.le_of_ble_eq_true rfl) dL_law_944 ⟨by show _ ≤ 1059; omega, by show _ ≤ 8724; omega⟩ (fun r1 u1 H locs hp1 hPx hS hk1 => ?_)
  obtain ⟨σ1, w1⟩ := u1
  obtain ⟨hk, hok1, hno1⟩ := hp1
  have hPm := keepW hPm hk1
  have hD : va_D (fun q : Nat => s.heap.size ≤ q) (gw cI cZ cJ h a σ1 o w1 h2 a2 τ) := va_D_ad (W := gw cI cZ cJ h a σ o w h2 a2 τ) (W' := gw cI cZ cJ h a σ1 o w1 h2 a2 τ) rfl hD
  have hDm := va_D_r hD
  refine lv_istore (lv' := [(5, .int r1), (0, .ref b), (1, .ref h), (2, .ref h2), (3, .ref o), (4, .int (nI (5 * j)))]) hx hb dL_law_947 hl (by decide) rfl (fun ls hl => ?_)
  refine lv_aload_n hx hb dL_law_949 rfl (lv_at hl 3 rfl) ?_
  refine lv_aload_n hx hb dL_law_950 rfl (lv_at hl 1 rfl) ?_
  refine lv_iload hx hb dL_law_951 (lv_at hl 5 rfl) ?_
  refine lv_iconst (v := 1) hx hb dL_law_953 (by decide) ?_
  refine lv_iadd hx hb dL_law_954 ?_
  refine lv_topi (fun y9 e9 => ?_)
  rw [show y9 = (nI (5 * j + 1)) from e9.trans (nI_add _ 1)]
  refine sc_ld hx hb hX hbl hbA hS (i := (5 * j + 1)) (by omega) hL dL_law_955 ?_
  refine lv_aload_n hx hb dL_law_956 rfl (lv_at hl 1 rfl) ?_
  refine lv_iload hx hb dL_law_957 (lv_at hl 5 rfl) ?_
  refine lv_iconst (v := 2) hx hb dL_law_959 (by decide) ?_
  refine lv_iadd hx hb dL_law_960 ?_
  refine lv_topi (fun y9 e9 => ?_)
  rw [show y9 = (nI (5 * j + 2)) from e9.trans (nI_add _ 2)]
  refine sc_ld hx hb hX hbl hbA hS (i := (5 * j + 2)) (by omega) hL dL_law_961 ?_
  refine wr_callV 2 hx hb hml hown hts hl.1 hPm hKx hS (fun q h => h.1) 0 1 rfl rfl (As := [.int (xs (5 * j + 1)), .int (xs (5 * j + 2))]) (rest := []) (c_X1_onBollard l D cI cZ h2 a2 σ τ H _ hDm hI hR (xs (5 * j + 1)) (xs (5 * j + 2))) gL_law_X1_onBollard rfl rfl rfl (by decide +kernel) ⟨Nat.le_of_ble_eq_true rfl, Nat.le_of_ble_eq_true rfl⟩ rfl rfl (Nat.le_of_ble_eq_true rfl) dL_law_962 ⟨by show _ ≤ 1059; omega, by show _ ≤ 8724; omega⟩ (fun r2 ρ H8 locs8 hp2 hPm hS8 _ hk2 => ?_)
  obtain ⟨h15, hok2, hno2⟩ := hp2
  have hPx := keepW hPx hk2
  have hP8 : va_P D vwCl (gw cI cZ cJ h a σ1 o w1 h2 a2 ρ) H8 := va_P.app hPx hPm
  refine lv_istore (lv' := [(6, .int r2), (5, .int r1), (0, .ref b), (1, .ref h), (2, .ref h2), (3, .ref o), (4, .int (nI (5 * j)))]) hx hb dL_law_965 hl (by decide) rfl (fun ls hl => ?_)
  refine lv_aload_n hx hb dL_law_967 rfl (lv_at hl 4 rfl) ?_
  refine ro_callV 0 hx hb hml hown hts hl.1 hPm hKx 0 1 rfl rfl (As := []) (rest := []) (c_X1_thrown l D cI cZ h2 a2 ρ H8) gL_law_X1_thrown rfl rfl rfl (by decide +kernel) ⟨Nat.le_of_ble_eq_true rfl, Nat.le_of_ble_eq_true rfl⟩ rfl rfl (Nat.le_of_ble_eq_true rfl) dL_law_968 ⟨by show _ ≤ 1059; omega, by show _ ≤ 8724; omega⟩ (fun r3 hr3 => ?_)
  subst hr3
  refine lv_iload hx hb dL_law_971 (lv_at hl 1 rfl) ?_
  refine lv_icmp_eq (tgt := 978) hx hb dL_law_973 (by decide) (fun c973 => ?_) (fun c973 => ?_)
  · refine lv_iload hx hb dL_law_978 (lv_at hl 1 rfl) ?_
    refine lv_if_ne (tgt := 995) hx hb dL_law_980 (by decide) (fun c980 => ?_) (fun c980 => ?_)
    · refine lv_goto (tgt := 1321) hx hb dL_law_995 (by decide) ?_
      have hK9 : ¬ goK (inR (xs (5 * j + 1)) 0 (nI nB - 1) && inR (xs (5 * j + 2)) 0 47) true true = 0 := fun z => c980 (hk.trans z)
      have es : σ1 = σ := hno1 hK9
      rw [es] at hP8
      exact kn σ ρ w1 nL nB H8 locs8 ls hI (hno2 hK9) hP8 hS8 (lv_sub hl [2, 3, 4, 5, 6] rfl)
    · have hK9 : goK (inR (xs (5 * j + 1)) 0 (nI nB - 1) && inR (xs (5 * j + 2)) 0 47) true true = 0 := hk.symm.trans c980
      obtain ⟨hw, hn1⟩ := hok1 hK9
      obtain ⟨hr2, hrel⟩ := hok2 hK9
      obtain ⟨z1, z2, z3⟩ := goK_0 hK9
      refine lv_aload_n hx hb dL_law_983 rfl (lv_at hl 5 rfl) ?_
      refine lv_iconst (v := 0) hx hb dL_law_984 (by decide) ?_
      refine va_lald hx hb hK hP8 13 2 rfl rfl (by unfold vp_in; decide) dL_law_985 ?_
      refine lv_iload hx hb dL_law_986 (lv_at hl 0 rfl) ?_
      refine lv_i2l hx hb dL_law_988 rfl ?_
      refine W.lcmp hx hb dL_law_989 ?_
      refine lv_if_eq (tgt := 995) hx hb dL_law_990 (by decide) (fun c990 => ?_) (fun c990 => ?_)
      · refine lv_goto (tgt := 1321) hx hb dL_law_995 (by decide) ?_
        have es := hn1
        dsimp only at es
        rw [es] at hP8
        exact kn σ ρ w1 (nL) (nB) H8 locs8 ls (hI) hrel hP8 hS8 (lv_sub hl [2, 3, 4, 5, 6] rfl)
      · exact absurd ((lg_cmp_eq _ _).mpr (show w1 0 = r2.toInt64 by rw [hr2]; exact hw)) c990
  · exact absurd (h15.trans hk.symm) c973
set_option maxHeartbeats 4000000 in
set_option maxRecDepth 100000 in
theorem lc_isSafe {p : Program} {l : Launch} {e : Env} {s : State} {m : MethodId} {below : List Frame} {meth : Method} {c : Code} {D : va_G} {cI cZ cJ : ClassId} {b L : Nat} {xs : Nat → Int32} {Q : State → Prop} (hfl : l.stackTraces = false) (C0 : lw_At p s m meth c b L xs) (hL : L ≤ 2560) (hK : va_K D vwCl (tyL cI cZ cJ) s) (hT0 : tpA (fun q : Nat => s.heap.size ≤ q) s.heap s) {h : Nat} {a : Nat → Nat} {σ : St} {o : Nat} {w : Nat → Int64} {h2 : Nat} {a2 : Nat → Nat} {τ : St} {nL nB j : Nat} {H : Heap} {locs : List Loc} {ls : Array Slot} (hj : 5 * j + 5 ≤ L) (hI : inv σ nL nB) (hR : rel σ τ nL) (hP : va_P D vwCl (gw cI cZ cJ h a σ o w h2 a2 τ) H) (hD : va_D (fun q : Nat => s.heap.size ≤ q) (gw cI cZ cJ h a σ o w h2 a2 τ)) (hS : va_S (fun q : Nat => s.heap.size ≤ q) s.heap H locs) (hl : lv_has ls 7 [(0, .ref b), (1, .ref h), (2, .ref h2), (3, .ref o), (4, .int (nI (5 * j)))]) (kn : ∀ (σ' τ' : St) (w' : Nat → Int64) (nL' nB' : Nat) (H' : Heap) (locs' : List Loc) (ls' : Array Slot), inv σ' nL' nB' → rel σ' τ' nL' → va_P D vwCl (gw cI cZ cJ h a σ' o w' h2 a2 τ') H' → va_S (fun q : Nat => s.heap.size ≤ q) s.heap H' locs' → lv_has ls' 7 [(0, .ref b), (1, .ref h), (2, .ref h2), (3, .ref o), (4, .int (nI (5 * j)))] → W p l e room_1 s m #[Value.ref b] below meth c H' locs' (27 + j + 1) (484 + 6 * j + 6) Q (F0 m 1321 ls' [])) : W p l e room_1 s m #[Value.ref b] below meth c H locs (27 + j) (484 + 6 * j) Q (F0 m 998 ls []) := by
  obtain ⟨hx, hb, hr, hml, hown, hts0, hX, hbl, hlocks, hgv⟩ := C0
  have hown : s.vm.findClass RL = some m.cls := hown
  have hts : ∀ w ∈ wsL_law, w.before #[Value.ref b] s = true := fun w h => hts0 w (wsL_law_in w h)
  have hbA : ¬ (fun q : Nat => s.heap.size ≤ q) b := Nat.not_le.mpr hbl
  have hKx : va_K D vwCl (tyX cI cZ) s := hK.sub [0, 1] rfl
  have hPx := va_P_l hP
  have hPm := va_P_r hP
  have hDx := va_D_l hD
  have hTx := tpA_nar (tpA_kept hT0 hS) (B := fun q => s.heap.size ≤ q ∧ notin (mw cI cZ h2 a2 τ) q) (fun q h => h.1)
  refine lv_aload_n hx hb dL_law_998 rfl (lv_at hl 1 rfl) ?_
  refine lv_aload_n hx hb dL_law_999 rfl (lv_at hl 0 rfl) ?_
  refine lv_iload hx hb dL_law_1000 (lv_at hl 4 rfl) ?_
  refine lv_iconst (v := 1) hx hb dL_law_1002 (by decide) ?_
  refine lv_iadd hx hb dL_law_1003 ?_
  refine lv_topi (fun y9 e9 => ?_)
  rw [show y9 = (nI (5 * j + 1)) from e9.trans (nI_add _ 1)]
  refine sc_ld hx hb hX hbl hbA hS (i := (5 * j + 1)) (by omega) hL dL_law_1004 ?_
  refine lv_aload_n hx hb dL_law_1005 rfl (lv_at hl 3 rfl) ?_
  refine lw_callS 3 hx hb hml hown hts hl.1 hPx hK hTx hS (fun q h => h.1) (As := [.ref h, .int (xs (5 * j + 1)), .ref o]) (rest := []) (c_L_isSafe l hfl D cI cZ cJ h a σ o w H _ hDx hI (xs (5 * j + 1))) gL_law_L_isSafe rfl rfl rfl (by decide +kernel) ⟨Nat.le_of_ble_eq_true rfl, Nat.le_of_ble_eq_true rfl⟩ rfl rfl (Nat.le_of_ble_eq_true rfl) dL_law_1006 ⟨by show _ ≤ 1059; omega, by show _ ≤ 8724; omega⟩ (fun r1 u1 H locs hp1 hPx hS hk1 => ?_)
  obtain ⟨σ1, w1⟩ := u1
  obtain ⟨hk, hok1, hno1⟩ := hp1
  have hPm := keepW hPm hk1
  have hD : va_D (fun q : Nat => s.heap.size ≤ q) (gw cI cZ cJ h a σ1 o w1 h2 a2 τ) := va_D_ad (W := gw cI cZ cJ h a σ o w h2 a2 τ) (W' := gw cI cZ cJ h a σ1 o w1 h2 a2 τ) rfl hD
  have hDm := va_D_r hD
  refine lv_istore (lv' := [(5, .int r1), (0, .ref b), (1, .ref h), (2, .ref h2), (3, .ref o), (4, .int (nI (5 * j)))]) hx hb dL_law_1009 hl (by decide) rfl (fun ls hl => ?_)
  refine lv_aload_n hx hb dL_law_1011 rfl (lv_at hl 3 rfl) ?_
  refine lv_aload_n hx hb dL_law_1012 rfl (lv_at hl 1 rfl) ?_
  refine lv_iload hx hb dL_law_1013 (lv_at hl 5 rfl) ?_
  refine lv_iconst (v := 1) hx hb dL_law_1015 (by decide) ?_
  refine lv_iadd hx hb dL_law_1016 ?_
  refine lv_topi (fun y9 e9 => ?_)
  rw [show y9 = (nI (5 * j + 1)) from e9.trans (nI_add _ 1)]
  refine sc_ld hx hb hX hbl hbA hS (i := (5 * j + 1)) (by omega) hL dL_law_1017 ?_
  refine wr_callV 1 hx hb hml hown hts hl.1 hPm hKx hS (fun q h => h.1) 0 1 rfl rfl (As := [.int (xs (5 * j + 1))]) (rest := []) (c_X1_isSafe l D cI cZ h2 a2 σ τ H _ hDm hI hR (xs (5 * j + 1))) gL_law_X1_isSafe rfl rfl rfl (by decide +kernel) ⟨Nat.le_of_ble_eq_true rfl, Nat.le_of_ble_eq_true rfl⟩ rfl rfl (Nat.le_of_ble_eq_true rfl) dL_law_1018 ⟨by show _ ≤ 1059; omega, by show _ ≤ 8724; omega⟩ (fun r2 ρ H8 locs8 hp2 hPm hS8 _ hk2 => ?_)
  obtain ⟨h15, hok2, hno2⟩ := hp2
  have hPx := keepW hPx hk2
  have hP8 : va_P D vwCl (gw cI cZ cJ h a σ1 o w1 h2 a2 ρ) H8 := va_P.app hPx hPm
  refine lv_istore (lv' := [(6, .int r2), (5, .int r1), (0, .ref b), (1, .ref h), (2, .ref h2), (3, .ref o), (4, .int (nI (5 * j)))]) hx hb dL_law_1021 hl (by decide) rfl (fun ls hl => ?_)
  refine lv_aload_n hx hb dL_law_1023 rfl (lv_at hl 4 rfl) ?_
  refine ro_callV 0 hx hb hml hown hts hl.1 hPm hKx 0 1 rfl rfl (As := []) (rest := []) (c_X1_thrown l D cI cZ h2 a2 ρ H8) gL_law_X1_thrown rfl rfl rfl (by decide +kernel) ⟨Nat.le_of_ble_eq_true rfl, Nat.le_of_ble_eq_true rfl⟩ rfl rfl (Nat.le_of_ble_eq_true rfl) dL_law_1024 ⟨by show _ ≤ 1059; omega, by show _ ≤ 8724; omega⟩ (fun r3 hr3 => ?_)
  subst hr3
  refine lv_iload hx hb dL_law_1027 (lv_at hl 1 rfl) ?_
  refine lv_icmp_eq (tgt := 1034) hx hb dL_law_1029 (by decide) (fun c1029 => ?_) (fun c1029 => ?_)
  · refine lv_iload hx hb dL_law_1034 (lv_at hl 1 rfl) ?_
    refine lv_if_ne (tgt := 1058) hx hb dL_law_1036 (by decide) (fun c1036 => ?_) (fun c1036 => ?_)
    · refine lv_goto (tgt := 1321) hx hb dL_law_1058 (by decide) ?_
      have hK9 : ¬ goK (inR (xs (5 * j + 1)) 0 47) true true = 0 := fun z => c1036 (hk.trans z)
      have es : σ1 = σ := hno1 hK9
      rw [es] at hP8
      exact kn σ ρ w1 nL nB H8 locs8 ls hI (hno2 hK9) hP8 hS8 (lv_sub hl [2, 3, 4, 5, 6] rfl)
    · have hK9 : goK (inR (xs (5 * j + 1)) 0 47) true true = 0 := hk.symm.trans c1036
      obtain ⟨hw, hn1⟩ := hok1 hK9
      obtain ⟨hr2, hrel⟩ := hok2 hK9
      obtain ⟨z1, z2, z3⟩ := goK_0 hK9
      refine lv_aload_n hx hb dL_law_1039 rfl (lv_at hl 5 rfl) ?_
      refine lv_iconst (v := 0) hx hb dL_law_1040 (by decide) ?_
      refine va_lald hx hb hK hP8 13 2 rfl rfl (by unfold vp_in; decide) dL_law_1041 ?_
      refine lv_iload hx hb dL_law_1042 (lv_at hl 0 rfl) ?_
      refine lv_if_eq (tgt := 1051) hx hb dL_law_1044 (by decide) (fun c1044 => ?_) (fun c1044 => ?_)
      · refine lv_lconst (v := 0) hx hb dL_law_1051 (by decide) ?_
        refine W.lcmp hx hb dL_law_1052 ?_
        refine lv_if_eq (tgt := 1058) hx hb dL_law_1053 (by decide) (fun c1053 => ?_) (fun c1053 => ?_)
        · refine lv_goto (tgt := 1321) hx hb dL_law_1058 (by decide) ?_
          have es := hn1
          dsimp only at es
          rw [es] at hP8
          exact kn σ ρ w1 (nL) (nB) H8 locs8 ls (hI) hrel hP8 hS8 (lv_sub hl [2, 3, 4, 5, 6] rfl)
        · exact absurd ((lg_cmp_eq _ _).mpr (show w1 0 = 0 by rw [show w1 0 = _ from hw, ← hr2, c1044]; rfl)) c1053
      · refine lv_lconst (v := 1) hx hb dL_law_1047 (by decide) ?_
        refine lv_goto (tgt := 1052) hx hb dL_law_1048 (by decide) ?_
        refine W.lcmp hx hb dL_law_1052 ?_
        refine lv_if_eq (tgt := 1058) hx hb dL_law_1053 (by decide) (fun c1053 => ?_) (fun c1053 => ?_)
        · refine lv_goto (tgt := 1321) hx hb dL_law_1058 (by decide) ?_
          have es := hn1
          dsimp only at es
          rw [es] at hP8
          exact kn σ ρ w1 (nL) (nB) H8 locs8 ls (hI) hrel hP8 hS8 (lv_sub hl [2, 3, 4, 5, 6] rfl)
        · exact absurd ((lg_cmp_eq _ _).mpr (show w1 0 = 1 by rw [show w1 0 = _ from hw]; rcases (bI_01 _ : bI (safe_ σ (tN (xs (5 * j + 1)))) = 0 ∨ bI (safe_ σ (tN (xs (5 * j + 1)))) = 1) with z | z; exact absurd (hr2.trans z) c1044; rw [z]; rfl)) c1053
  · exact absurd (h15.trans hk.symm) c1029
set_option maxHeartbeats 4000000 in
set_option maxRecDepth 100000 in
theorem lc_firstUnsafe {p : Program} {l : Launch} {e : Env} {s : State} {m : MethodId} {below : List Frame} {meth : Method} {c : Code} {D : va_G} {cI cZ cJ : ClassId} {b L : Nat} {xs : Nat → Int32} {Q : State → Prop} (hfl : l.stackTraces = false) (C0 : lw_At p s m meth c b L xs) (hL : L ≤ 2560) (hK : va_K D vwCl (tyL cI cZ cJ) s) (hT0 : tpA (fun q : Nat => s.heap.size ≤ q) s.heap s) {h : Nat} {a : Nat → Nat} {σ : St} {o : Nat} {w : Nat → Int64} {h2 : Nat} {a2 : Nat → Nat} {τ : St} {nL nB j : Nat} {H : Heap} {locs : List Loc} {ls : Array Slot} (hj : 5 * j + 5 ≤ L) (hI : inv σ nL nB) (hR : rel σ τ nL) (hP : va_P D vwCl (gw cI cZ cJ h a σ o w h2 a2 τ) H) (hD : va_D (fun q : Nat => s.heap.size ≤ q) (gw cI cZ cJ h a σ o w h2 a2 τ)) (hS : va_S (fun q : Nat => s.heap.size ≤ q) s.heap H locs) (hl : lv_has ls 7 [(0, .ref b), (1, .ref h), (2, .ref h2), (3, .ref o), (4, .int (nI (5 * j)))]) (kn : ∀ (σ' τ' : St) (w' : Nat → Int64) (nL' nB' : Nat) (H' : Heap) (locs' : List Loc) (ls' : Array Slot), inv σ' nL' nB' → rel σ' τ' nL' → va_P D vwCl (gw cI cZ cJ h a σ' o w' h2 a2 τ') H' → va_S (fun q : Nat => s.heap.size ≤ q) s.heap H' locs' → lv_has ls' 7 [(0, .ref b), (1, .ref h), (2, .ref h2), (3, .ref o), (4, .int (nI (5 * j)))] → W p l e room_1 s m #[Value.ref b] below meth c H' locs' (27 + j + 1) (484 + 6 * j + 6) Q (F0 m 1321 ls' [])) : W p l e room_1 s m #[Value.ref b] below meth c H locs (27 + j) (484 + 6 * j) Q (F0 m 1061 ls []) := by
  obtain ⟨hx, hb, hr, hml, hown, hts0, hX, hbl, hlocks, hgv⟩ := C0
  have hown : s.vm.findClass RL = some m.cls := hown
  have hts : ∀ w ∈ wsL_law, w.before #[Value.ref b] s = true := fun w h => hts0 w (wsL_law_in w h)
  have hbA : ¬ (fun q : Nat => s.heap.size ≤ q) b := Nat.not_le.mpr hbl
  have hKx : va_K D vwCl (tyX cI cZ) s := hK.sub [0, 1] rfl
  have hPx := va_P_l hP
  have hPm := va_P_r hP
  have hDx := va_D_l hD
  have hTx := tpA_nar (tpA_kept hT0 hS) (B := fun q => s.heap.size ≤ q ∧ notin (mw cI cZ h2 a2 τ) q) (fun q h => h.1)
  refine lv_aload_n hx hb dL_law_1061 rfl (lv_at hl 1 rfl) ?_
  refine lv_aload_n hx hb dL_law_1062 rfl (lv_at hl 0 rfl) ?_
  refine lv_iload hx hb dL_law_1063 (lv_at hl 4 rfl) ?_
  refine lv_iconst (v := 1) hx hb dL_law_1065 (by decide) ?_
  refine lv_iadd hx hb dL_law_1066 ?_
  refine lv_topi (fun y9 e9 => ?_)
  rw [show y9 = (nI (5 * j + 1)) from e9.trans (nI_add _ 1)]
  refine sc_ld hx hb hX hbl hbA hS (i := (5 * j + 1)) (by omega) hL dL_law_1067 ?_
  refine lv_aload_n hx hb dL_law_1068 rfl (lv_at hl 3 rfl) ?_
  refine lw_callS 3 hx hb hml hown hts hl.1 hPx hK hTx hS (fun q h => h.1) (As := [.ref h, .int (xs (5 * j + 1)), .ref o]) (rest := []) (c_L_firstUnsafe l hfl D cI cZ cJ h a σ o w H _ hDx hI (xs (5 * j + 1))) gL_law_L_firstUnsafe rfl rfl rfl (by decide +kernel) ⟨Nat.le_of_ble_eq_true rfl, Nat.le_of_ble_eq_true rfl⟩ rfl rfl (Nat.le_of_ble_eq_true rfl) dL_law_1069 ⟨by show _ ≤ 1059; omega, by show _ ≤ 8724; omega⟩ (fun r1 u1 H locs hp1 hPx hS hk1 => ?_)
  obtain ⟨σ1, w1⟩ := u1
  obtain ⟨hk, hok1, hno1⟩ := hp1
  have hPm := keepW hPm hk1
  have hD : va_D (fun q : Nat => s.heap.size ≤ q) (gw cI cZ cJ h a σ1 o w1 h2 a2 τ) := va_D_ad (W := gw cI cZ cJ h a σ o w h2 a2 τ) (W' := gw cI cZ cJ h a σ1 o w1 h2 a2 τ) rfl hD
  have hDm := va_D_r hD
  refine lv_istore (lv' := [(5, .int r1), (0, .ref b), (1, .ref h), (2, .ref h2), (3, .ref o), (4, .int (nI (5 * j)))]) hx hb dL_law_1072 hl (by decide) rfl (fun ls hl => ?_)
  refine lv_aload_n hx hb dL_law_1074 rfl (lv_at hl 3 rfl) ?_
  refine lv_aload_n hx hb dL_law_1075 rfl (lv_at hl 1 rfl) ?_
  refine lv_iload hx hb dL_law_1076 (lv_at hl 5 rfl) ?_
  refine lv_iconst (v := 1) hx hb dL_law_1078 (by decide) ?_
  refine lv_iadd hx hb dL_law_1079 ?_
  refine lv_topi (fun y9 e9 => ?_)
  rw [show y9 = (nI (5 * j + 1)) from e9.trans (nI_add _ 1)]
  refine sc_ld hx hb hX hbl hbA hS (i := (5 * j + 1)) (by omega) hL dL_law_1080 ?_
  refine wr_callV 1 hx hb hml hown hts hl.1 hPm hKx hS (fun q h => h.1) 0 1 rfl rfl (As := [.int (xs (5 * j + 1))]) (rest := []) (c_X1_firstUnsafe l D cI cZ h2 a2 σ τ H _ hDm hI hR (xs (5 * j + 1))) gL_law_X1_firstUnsafe rfl rfl rfl (by decide +kernel) ⟨Nat.le_of_ble_eq_true rfl, Nat.le_of_ble_eq_true rfl⟩ rfl rfl (Nat.le_of_ble_eq_true rfl) dL_law_1081 ⟨by show _ ≤ 1059; omega, by show _ ≤ 8724; omega⟩ (fun r2 ρ H8 locs8 hp2 hPm hS8 _ hk2 => ?_)
  obtain ⟨h15, hok2, hno2⟩ := hp2
  have hPx := keepW hPx hk2
  have hP8 : va_P D vwCl (gw cI cZ cJ h a σ1 o w1 h2 a2 ρ) H8 := va_P.app hPx hPm
  refine lv_istore (lv' := [(6, .int r2), (5, .int r1), (0, .ref b), (1, .ref h), (2, .ref h2), (3, .ref o), (4, .int (nI (5 * j)))]) hx hb dL_law_1084 hl (by decide) rfl (fun ls hl => ?_)
  refine lv_aload_n hx hb dL_law_1086 rfl (lv_at hl 4 rfl) ?_
  refine ro_callV 0 hx hb hml hown hts hl.1 hPm hKx 0 1 rfl rfl (As := []) (rest := []) (c_X1_thrown l D cI cZ h2 a2 ρ H8) gL_law_X1_thrown rfl rfl rfl (by decide +kernel) ⟨Nat.le_of_ble_eq_true rfl, Nat.le_of_ble_eq_true rfl⟩ rfl rfl (Nat.le_of_ble_eq_true rfl) dL_law_1087 ⟨by show _ ≤ 1059; omega, by show _ ≤ 8724; omega⟩ (fun r3 hr3 => ?_)
  subst hr3
  refine lv_iload hx hb dL_law_1090 (lv_at hl 1 rfl) ?_
  refine lv_icmp_eq (tgt := 1097) hx hb dL_law_1092 (by decide) (fun c1092 => ?_) (fun c1092 => ?_)
  · refine lv_iload hx hb dL_law_1097 (lv_at hl 1 rfl) ?_
    refine lv_if_ne (tgt := 1114) hx hb dL_law_1099 (by decide) (fun c1099 => ?_) (fun c1099 => ?_)
    · refine lv_goto (tgt := 1321) hx hb dL_law_1114 (by decide) ?_
      have hK9 : ¬ goK (inR (xs (5 * j + 1)) 0 47) true true = 0 := fun z => c1099 (hk.trans z)
      have es : σ1 = σ := hno1 hK9
      rw [es] at hP8
      exact kn σ ρ w1 nL nB H8 locs8 ls hI (hno2 hK9) hP8 hS8 (lv_sub hl [2, 3, 4, 5, 6] rfl)
    · have hK9 : goK (inR (xs (5 * j + 1)) 0 47) true true = 0 := hk.symm.trans c1099
      obtain ⟨hw, hn1⟩ := hok1 hK9
      obtain ⟨hr2, hrel⟩ := hok2 hK9
      obtain ⟨z1, z2, z3⟩ := goK_0 hK9
      refine lv_aload_n hx hb dL_law_1102 rfl (lv_at hl 5 rfl) ?_
      refine lv_iconst (v := 0) hx hb dL_law_1103 (by decide) ?_
      refine va_lald hx hb hK hP8 13 2 rfl rfl (by unfold vp_in; decide) dL_law_1104 ?_
      refine lv_iload hx hb dL_law_1105 (lv_at hl 0 rfl) ?_
      refine lv_i2l hx hb dL_law_1107 rfl ?_
      refine W.lcmp hx hb dL_law_1108 ?_
      refine lv_if_eq (tgt := 1114) hx hb dL_law_1109 (by decide) (fun c1109 => ?_) (fun c1109 => ?_)
      · refine lv_goto (tgt := 1321) hx hb dL_law_1114 (by decide) ?_
        have es := hn1
        dsimp only at es
        rw [es] at hP8
        exact kn σ ρ w1 (nL) (nB) H8 locs8 ls (hI) hrel hP8 hS8 (lv_sub hl [2, 3, 4, 5, 6] rfl)
      · exact absurd ((lg_cmp_eq _ _).mpr (show w1 0 = r2.toInt64 by rw [hr2]; exact hw)) c1109
  · exact absurd (h15.trans hk.symm) c1092
set_option maxHeartbeats 4000000 in
set_option maxRecDepth 100000 in
theorem lc_tend {p : Program} {l : Launch} {e : Env} {s : State} {m : MethodId} {below : List Frame} {meth : Method} {c : Code} {D : va_G} {cI cZ cJ : ClassId} {b L : Nat} {xs : Nat → Int32} {Q : State → Prop} (hfl : l.stackTraces = false) (C0 : lw_At p s m meth c b L xs) (hL : L ≤ 2560) (hK : va_K D vwCl (tyL cI cZ cJ) s) (hT0 : tpA (fun q : Nat => s.heap.size ≤ q) s.heap s) {h : Nat} {a : Nat → Nat} {σ : St} {o : Nat} {w : Nat → Int64} {h2 : Nat} {a2 : Nat → Nat} {τ : St} {nL nB j : Nat} {H : Heap} {locs : List Loc} {ls : Array Slot} (hj : 5 * j + 5 ≤ L) (hI : inv σ nL nB) (hR : rel σ τ nL) (hP : va_P D vwCl (gw cI cZ cJ h a σ o w h2 a2 τ) H) (hD : va_D (fun q : Nat => s.heap.size ≤ q) (gw cI cZ cJ h a σ o w h2 a2 τ)) (hS : va_S (fun q : Nat => s.heap.size ≤ q) s.heap H locs) (hl : lv_has ls 7 [(0, .ref b), (1, .ref h), (2, .ref h2), (3, .ref o), (4, .int (nI (5 * j)))]) (kn : ∀ (σ' τ' : St) (w' : Nat → Int64) (nL' nB' : Nat) (H' : Heap) (locs' : List Loc) (ls' : Array Slot), inv σ' nL' nB' → rel σ' τ' nL' → va_P D vwCl (gw cI cZ cJ h a σ' o w' h2 a2 τ') H' → va_S (fun q : Nat => s.heap.size ≤ q) s.heap H' locs' → lv_has ls' 7 [(0, .ref b), (1, .ref h), (2, .ref h2), (3, .ref o), (4, .int (nI (5 * j)))] → W p l e room_1 s m #[Value.ref b] below meth c H' locs' (27 + j + 1) (484 + 6 * j + 6) Q (F0 m 1321 ls' [])) : W p l e room_1 s m #[Value.ref b] below meth c H locs (27 + j) (484 + 6 * j) Q (F0 m 1117 ls []) := by
  obtain ⟨hx, hb, hr, hml, hown, hts0, hX, hbl, hlocks, hgv⟩ := C0
  have hown : s.vm.findClass RL = some m.cls := hown
  have hts : ∀ w ∈ wsL_law, w.before #[Value.ref b] s = true := fun w h => hts0 w (wsL_law_in w h)
  have hbA : ¬ (fun q : Nat => s.heap.size ≤ q) b := Nat.not_le.mpr hbl
  have hKx : va_K D vwCl (tyX cI cZ) s := hK.sub [0, 1] rfl
  have hPx := va_P_l hP
  have hPm := va_P_r hP
  have hDx := va_D_l hD
  have hTx := tpA_nar (tpA_kept hT0 hS) (B := fun q => s.heap.size ≤ q ∧ notin (mw cI cZ h2 a2 τ) q) (fun q h => h.1)
  refine lv_aload_n hx hb dL_law_1117 rfl (lv_at hl 1 rfl) ?_
  refine lv_aload_n hx hb dL_law_1118 rfl (lv_at hl 0 rfl) ?_
  refine lv_iload hx hb dL_law_1119 (lv_at hl 4 rfl) ?_
  refine lv_iconst (v := 1) hx hb dL_law_1121 (by decide) ?_
  refine lv_iadd hx hb dL_law_1122 ?_
  refine lv_topi (fun y9 e9 => ?_)
  rw [show y9 = (nI (5 * j + 1)) from e9.trans (nI_add _ 1)]
  refine sc_ld hx hb hX hbl hbA hS (i := (5 * j + 1)) (by omega) hL dL_law_1123 ?_
  refine lv_aload_n hx hb dL_law_1124 rfl (lv_at hl 0 rfl) ?_
  refine lv_iload hx hb dL_law_1125 (lv_at hl 4 rfl) ?_
  refine lv_iconst (v := 2) hx hb dL_law_1127 (by decide) ?_
  refine lv_iadd hx hb dL_law_1128 ?_
  refine lv_topi (fun y9 e9 => ?_)
  rw [show y9 = (nI (5 * j + 2)) from e9.trans (nI_add _ 2)]
  refine sc_ld hx hb hX hbl hbA hS (i := (5 * j + 2)) (by omega) hL dL_law_1129 ?_
  refine lv_aload_n hx hb dL_law_1130 rfl (lv_at hl 0 rfl) ?_
  refine lv_iload hx hb dL_law_1131 (lv_at hl 4 rfl) ?_
  refine lv_iconst (v := 3) hx hb dL_law_1133 (by decide) ?_
  refine lv_iadd hx hb dL_law_1134 ?_
  refine lv_topi (fun y9 e9 => ?_)
  rw [show y9 = (nI (5 * j + 3)) from e9.trans (nI_add _ 3)]
  refine sc_ld hx hb hX hbl hbA hS (i := (5 * j + 3)) (by omega) hL dL_law_1135 ?_
  refine lv_aload_n hx hb dL_law_1136 rfl (lv_at hl 3 rfl) ?_
  refine lw_callS 5 hx hb hml hown hts hl.1 hPx hK hTx hS (fun q h => h.1) (As := [.ref h, .int (xs (5 * j + 1)), .int (xs (5 * j + 2)), .int (xs (5 * j + 3)), .ref o]) (rest := []) (c_L_tend l hfl D cI cZ cJ h a σ o w H _ hDx hI (xs (5 * j + 1)) (xs (5 * j + 2)) (xs (5 * j + 3))) gL_law_L_tend rfl rfl rfl (by decide +kernel) ⟨Nat.le_of_ble_eq_true rfl, Nat.le_of_ble_eq_true rfl⟩ rfl rfl (Nat.le_of_ble_eq_true rfl) dL_law_1137 ⟨by show _ ≤ 1059; omega, by show _ ≤ 8724; omega⟩ (fun r1 u1 H locs hp1 hPx hS hk1 => ?_)
  obtain ⟨σ1, w1⟩ := u1
  obtain ⟨hk, hok1, hno1⟩ := hp1
  have hPm := keepW hPm hk1
  have hD : va_D (fun q : Nat => s.heap.size ≤ q) (gw cI cZ cJ h a σ1 o w1 h2 a2 τ) := va_D_ad (W := gw cI cZ cJ h a σ o w h2 a2 τ) (W' := gw cI cZ cJ h a σ1 o w1 h2 a2 τ) rfl hD
  have hDm := va_D_r hD
  refine lv_istore (lv' := [(5, .int r1), (0, .ref b), (1, .ref h), (2, .ref h2), (3, .ref o), (4, .int (nI (5 * j)))]) hx hb dL_law_1140 hl (by decide) rfl (fun ls hl => ?_)
  refine lv_aload_n hx hb dL_law_1142 rfl (lv_at hl 3 rfl) ?_
  refine lv_aload_n hx hb dL_law_1143 rfl (lv_at hl 1 rfl) ?_
  refine lv_iload hx hb dL_law_1144 (lv_at hl 5 rfl) ?_
  refine lv_iconst (v := 1) hx hb dL_law_1146 (by decide) ?_
  refine lv_iadd hx hb dL_law_1147 ?_
  refine lv_topi (fun y9 e9 => ?_)
  rw [show y9 = (nI (5 * j + 1)) from e9.trans (nI_add _ 1)]
  refine sc_ld hx hb hX hbl hbA hS (i := (5 * j + 1)) (by omega) hL dL_law_1148 ?_
  refine lv_aload_n hx hb dL_law_1149 rfl (lv_at hl 1 rfl) ?_
  refine lv_iload hx hb dL_law_1150 (lv_at hl 5 rfl) ?_
  refine lv_iconst (v := 2) hx hb dL_law_1152 (by decide) ?_
  refine lv_iadd hx hb dL_law_1153 ?_
  refine lv_topi (fun y9 e9 => ?_)
  rw [show y9 = (nI (5 * j + 2)) from e9.trans (nI_add _ 2)]
  refine sc_ld hx hb hX hbl hbA hS (i := (5 * j + 2)) (by omega) hL dL_law_1154 ?_
  refine lv_aload_n hx hb dL_law_1155 rfl (lv_at hl 1 rfl) ?_
  refine lv_iload hx hb dL_law_1156 (lv_at hl 5 rfl) ?_
  refine lv_iconst (v := 3) hx hb dL_law_1158 (by decide) ?_
  refine lv_iadd hx hb dL_law_1159 ?_
  refine lv_topi (fun y9 e9 => ?_)
  rw [show y9 = (nI (5 * j + 3)) from e9.trans (nI_add _ 3)]
  refine sc_ld hx hb hX hbl hbA hS (i := (5 * j + 3)) (by omega) hL dL_law_1160 ?_
  refine wr_callV 3 hx hb hml hown hts hl.1 hPm hKx hS (fun q h => h.1) 0 1 rfl rfl (As := [.int (xs (5 * j + 1)), .int (xs (5 * j + 2)), .int (xs (5 * j + 3))]) (rest := []) (c_X1_tend l D cI cZ h2 a2 σ τ H _ hDm hI hR (xs (5 * j + 1)) (xs (5 * j + 2)) (xs (5 * j + 3))) gL_law_X1_tend rfl rfl rfl (by decide +kernel) ⟨Nat.le_of_ble_eq_true rfl, Nat.le_of_ble_eq_true rfl⟩ rfl rfl (Nat.le_of_ble_eq_true rfl) dL_law_1161 ⟨by show _ ≤ 1059; omega, by show _ ≤ 8724; omega⟩ (fun r2 ρ H8 locs8 hp2 hPm hS8 _ hk2 => ?_)
  obtain ⟨h15, hok2, hno2⟩ := hp2
  have hPx := keepW hPx hk2
  have hP8 : va_P D vwCl (gw cI cZ cJ h a σ1 o w1 h2 a2 ρ) H8 := va_P.app hPx hPm
  refine lv_istore (lv' := [(6, .int r2), (5, .int r1), (0, .ref b), (1, .ref h), (2, .ref h2), (3, .ref o), (4, .int (nI (5 * j)))]) hx hb dL_law_1164 hl (by decide) rfl (fun ls hl => ?_)
  refine lv_aload_n hx hb dL_law_1166 rfl (lv_at hl 4 rfl) ?_
  refine ro_callV 0 hx hb hml hown hts hl.1 hPm hKx 0 1 rfl rfl (As := []) (rest := []) (c_X1_thrown l D cI cZ h2 a2 ρ H8) gL_law_X1_thrown rfl rfl rfl (by decide +kernel) ⟨Nat.le_of_ble_eq_true rfl, Nat.le_of_ble_eq_true rfl⟩ rfl rfl (Nat.le_of_ble_eq_true rfl) dL_law_1167 ⟨by show _ ≤ 1059; omega, by show _ ≤ 8724; omega⟩ (fun r3 hr3 => ?_)
  subst hr3
  refine lv_iload hx hb dL_law_1170 (lv_at hl 1 rfl) ?_
  refine lv_icmp_eq (tgt := 1177) hx hb dL_law_1172 (by decide) (fun c1172 => ?_) (fun c1172 => ?_)
  · refine lv_iload hx hb dL_law_1177 (lv_at hl 1 rfl) ?_
    refine lv_if_ne (tgt := 1194) hx hb dL_law_1179 (by decide) (fun c1179 => ?_) (fun c1179 => ?_)
    · refine lv_goto (tgt := 1321) hx hb dL_law_1194 (by decide) ?_
      have hK9 : ¬ goK (inR (xs (5 * j + 1)) 0 (nI nL - 1) && inR (xs (5 * j + 2)) 0 47) (inR (xs (5 * j + 3)) (-100) 100) (decide (¬ σ 13 (tN (xs (5 * j + 1))) = 0)) = 0 := fun z => c1179 (hk.trans z)
      have es : σ1 = σ := hno1 hK9
      rw [es] at hP8
      exact kn σ ρ w1 nL nB H8 locs8 ls hI (hno2 hK9) hP8 hS8 (lv_sub hl [2, 3, 4, 5, 6] rfl)
    · have hK9 : goK (inR (xs (5 * j + 1)) 0 (nI nL - 1) && inR (xs (5 * j + 2)) 0 47) (inR (xs (5 * j + 3)) (-100) 100) (decide (¬ σ 13 (tN (xs (5 * j + 1))) = 0)) = 0 := hk.symm.trans c1179
      obtain ⟨hw, hn1⟩ := hok1 hK9
      obtain ⟨hr2, hrel⟩ := hok2 hK9
      obtain ⟨z1, z2, z3⟩ := goK_0 hK9
      refine lv_aload_n hx hb dL_law_1182 rfl (lv_at hl 5 rfl) ?_
      refine lv_iconst (v := 0) hx hb dL_law_1183 (by decide) ?_
      refine va_lald hx hb hK hP8 13 2 rfl rfl (by unfold vp_in; decide) dL_law_1184 ?_
      refine lv_iload hx hb dL_law_1185 (lv_at hl 0 rfl) ?_
      refine lv_i2l hx hb dL_law_1187 rfl ?_
      refine W.lcmp hx hb dL_law_1188 ?_
      refine lv_if_eq (tgt := 1194) hx hb dL_law_1189 (by decide) (fun c1189 => ?_) (fun c1189 => ?_)
      · refine lv_goto (tgt := 1321) hx hb dL_law_1194 (by decide) ?_
        have es := hn1
        dsimp only at es
        rw [es] at hP8
        exact kn (st σ 12 (upd (σ 12) (tN (xs (5 * j + 1))) (tdR σ (xs (5 * j + 1)) (xs (5 * j + 2)) (xs (5 * j + 3))))) ρ w1 (nL) (nB) H8 locs8 ls (inv_tend hI (and_sp z1).1 (and_sp z1).2 z2) hrel hP8 hS8 (lv_sub hl [2, 3, 4, 5, 6] rfl)
      · exact absurd ((lg_cmp_eq _ _).mpr (show w1 0 = r2.toInt64 by rw [hr2]; exact hw)) c1189
  · exact absurd (h15.trans hk.symm) c1172
set_option maxHeartbeats 4000000 in
set_option maxRecDepth 100000 in
theorem lc_tendAll {p : Program} {l : Launch} {e : Env} {s : State} {m : MethodId} {below : List Frame} {meth : Method} {c : Code} {D : va_G} {cI cZ cJ : ClassId} {b L : Nat} {xs : Nat → Int32} {Q : State → Prop} (hfl : l.stackTraces = false) (C0 : lw_At p s m meth c b L xs) (hL : L ≤ 2560) (hK : va_K D vwCl (tyL cI cZ cJ) s) (hT0 : tpA (fun q : Nat => s.heap.size ≤ q) s.heap s) {h : Nat} {a : Nat → Nat} {σ : St} {o : Nat} {w : Nat → Int64} {h2 : Nat} {a2 : Nat → Nat} {τ : St} {nL nB j : Nat} {H : Heap} {locs : List Loc} {ls : Array Slot} (hj : 5 * j + 5 ≤ L) (hI : inv σ nL nB) (hR : rel σ τ nL) (hP : va_P D vwCl (gw cI cZ cJ h a σ o w h2 a2 τ) H) (hD : va_D (fun q : Nat => s.heap.size ≤ q) (gw cI cZ cJ h a σ o w h2 a2 τ)) (hS : va_S (fun q : Nat => s.heap.size ≤ q) s.heap H locs) (hl : lv_has ls 7 [(0, .ref b), (1, .ref h), (2, .ref h2), (3, .ref o), (4, .int (nI (5 * j)))]) (kn : ∀ (σ' τ' : St) (w' : Nat → Int64) (nL' nB' : Nat) (H' : Heap) (locs' : List Loc) (ls' : Array Slot), inv σ' nL' nB' → rel σ' τ' nL' → va_P D vwCl (gw cI cZ cJ h a σ' o w' h2 a2 τ') H' → va_S (fun q : Nat => s.heap.size ≤ q) s.heap H' locs' → lv_has ls' 7 [(0, .ref b), (1, .ref h), (2, .ref h2), (3, .ref o), (4, .int (nI (5 * j)))] → W p l e room_1 s m #[Value.ref b] below meth c H' locs' (27 + j + 1) (484 + 6 * j + 6) Q (F0 m 1321 ls' [])) : W p l e room_1 s m #[Value.ref b] below meth c H locs (27 + j) (484 + 6 * j) Q (F0 m 1197 ls []) := by
  obtain ⟨hx, hb, hr, hml, hown, hts0, hX, hbl, hlocks, hgv⟩ := C0
  have hown : s.vm.findClass RL = some m.cls := hown
  have hts : ∀ w ∈ wsL_law, w.before #[Value.ref b] s = true := fun w h => hts0 w (wsL_law_in w h)
  have hbA : ¬ (fun q : Nat => s.heap.size ≤ q) b := Nat.not_le.mpr hbl
  have hKx : va_K D vwCl (tyX cI cZ) s := hK.sub [0, 1] rfl
  have hPx := va_P_l hP
  have hPm := va_P_r hP
  have hDx := va_D_l hD
  have hTx := tpA_nar (tpA_kept hT0 hS) (B := fun q => s.heap.size ≤ q ∧ notin (mw cI cZ h2 a2 τ) q) (fun q h => h.1)
  refine lv_aload_n hx hb dL_law_1197 rfl (lv_at hl 1 rfl) ?_
  refine lv_aload_n hx hb dL_law_1198 rfl (lv_at hl 0 rfl) ?_
  refine lv_iload hx hb dL_law_1199 (lv_at hl 4 rfl) ?_
  refine lv_iconst (v := 1) hx hb dL_law_1201 (by decide) ?_
  refine lv_iadd hx hb dL_law_1202 ?_
  refine lv_topi (fun y9 e9 => ?_)
  rw [show y9 = (nI (5 * j + 1)) from e9.trans (nI_add _ 1)]
  refine sc_ld hx hb hX hbl hbA hS (i := (5 * j + 1)) (by omega) hL dL_law_1203 ?_
  refine lv_aload_n hx hb dL_law_1204 rfl (lv_at hl 3 rfl) ?_
  refine lw_callS 3 hx hb hml hown hts hl.1 hPx hK hTx hS (fun q h => h.1) (As := [.ref h, .int (xs (5 * j + 1)), .ref o]) (rest := []) (c_L_tendAll l hfl D cI cZ cJ h a σ o w H _ hDx hI (xs (5 * j + 1))) gL_law_L_tendAll rfl rfl rfl (by decide +kernel) ⟨Nat.le_of_ble_eq_true rfl, Nat.le_of_ble_eq_true rfl⟩ rfl rfl (Nat.le_of_ble_eq_true rfl) dL_law_1205 ⟨by show _ ≤ 1059; omega, by show _ ≤ 8724; omega⟩ (fun r1 u1 H locs hp1 hPx hS hk1 => ?_)
  obtain ⟨σ1, w1⟩ := u1
  obtain ⟨hk, hok1, hno1⟩ := hp1
  have hPm := keepW hPm hk1
  have hD : va_D (fun q : Nat => s.heap.size ≤ q) (gw cI cZ cJ h a σ1 o w1 h2 a2 τ) := va_D_ad (W := gw cI cZ cJ h a σ o w h2 a2 τ) (W' := gw cI cZ cJ h a σ1 o w1 h2 a2 τ) rfl hD
  have hDm := va_D_r hD
  refine lv_istore (lv' := [(5, .int r1), (0, .ref b), (1, .ref h), (2, .ref h2), (3, .ref o), (4, .int (nI (5 * j)))]) hx hb dL_law_1208 hl (by decide) rfl (fun ls hl => ?_)
  refine lv_aload_n hx hb dL_law_1210 rfl (lv_at hl 3 rfl) ?_
  refine lv_aload_n hx hb dL_law_1211 rfl (lv_at hl 1 rfl) ?_
  refine lv_iload hx hb dL_law_1212 (lv_at hl 5 rfl) ?_
  refine lv_iconst (v := 1) hx hb dL_law_1214 (by decide) ?_
  refine lv_iadd hx hb dL_law_1215 ?_
  refine lv_topi (fun y9 e9 => ?_)
  rw [show y9 = (nI (5 * j + 1)) from e9.trans (nI_add _ 1)]
  refine sc_ld hx hb hX hbl hbA hS (i := (5 * j + 1)) (by omega) hL dL_law_1216 ?_
  refine wr_callV 1 hx hb hml hown hts hl.1 hPm hKx hS (fun q h => h.1) 0 1 rfl rfl (As := [.int (xs (5 * j + 1))]) (rest := []) (c_X1_tendAll l D cI cZ h2 a2 σ τ H _ hDm hI hR (xs (5 * j + 1))) gL_law_X1_tendAll rfl rfl rfl (by decide +kernel) ⟨Nat.le_of_ble_eq_true rfl, Nat.le_of_ble_eq_true rfl⟩ rfl rfl (Nat.le_of_ble_eq_true rfl) dL_law_1217 ⟨by show _ ≤ 1059; omega, by show _ ≤ 8724; omega⟩ (fun r2 ρ H8 locs8 hp2 hPm hS8 _ hk2 => ?_)
  obtain ⟨h15, hok2, hno2⟩ := hp2
  have hPx := keepW hPx hk2
  have hP8 : va_P D vwCl (gw cI cZ cJ h a σ1 o w1 h2 a2 ρ) H8 := va_P.app hPx hPm
  refine lv_istore (lv' := [(6, .int r2), (5, .int r1), (0, .ref b), (1, .ref h), (2, .ref h2), (3, .ref o), (4, .int (nI (5 * j)))]) hx hb dL_law_1220 hl (by decide) rfl (fun ls hl => ?_)
  refine lv_aload_n hx hb dL_law_1222 rfl (lv_at hl 4 rfl) ?_
  refine ro_callV 0 hx hb hml hown hts hl.1 hPm hKx 0 1 rfl rfl (As := []) (rest := []) (c_X1_thrown l D cI cZ h2 a2 ρ H8) gL_law_X1_thrown rfl rfl rfl (by decide +kernel) ⟨Nat.le_of_ble_eq_true rfl, Nat.le_of_ble_eq_true rfl⟩ rfl rfl (Nat.le_of_ble_eq_true rfl) dL_law_1223 ⟨by show _ ≤ 1059; omega, by show _ ≤ 8724; omega⟩ (fun r3 hr3 => ?_)
  subst hr3
  refine lv_iload hx hb dL_law_1226 (lv_at hl 1 rfl) ?_
  refine lv_icmp_eq (tgt := 1233) hx hb dL_law_1228 (by decide) (fun c1228 => ?_) (fun c1228 => ?_)
  · refine lv_iload hx hb dL_law_1233 (lv_at hl 1 rfl) ?_
    refine lv_if_ne (tgt := 1250) hx hb dL_law_1235 (by decide) (fun c1235 => ?_) (fun c1235 => ?_)
    · refine lv_goto (tgt := 1321) hx hb dL_law_1250 (by decide) ?_
      have hK9 : ¬ goK (inR (xs (5 * j + 1)) 0 47) true true = 0 := fun z => c1235 (hk.trans z)
      have es : σ1 = σ := hno1 hK9
      rw [es] at hP8
      exact kn σ ρ w1 nL nB H8 locs8 ls hI (hno2 hK9) hP8 hS8 (lv_sub hl [2, 3, 4, 5, 6] rfl)
    · have hK9 : goK (inR (xs (5 * j + 1)) 0 47) true true = 0 := hk.symm.trans c1235
      obtain ⟨hw, hn1⟩ := hok1 hK9
      obtain ⟨hr2, hrel⟩ := hok2 hK9
      obtain ⟨z1, z2, z3⟩ := goK_0 hK9
      refine lv_aload_n hx hb dL_law_1238 rfl (lv_at hl 5 rfl) ?_
      refine lv_iconst (v := 0) hx hb dL_law_1239 (by decide) ?_
      refine va_lald hx hb hK hP8 13 2 rfl rfl (by unfold vp_in; decide) dL_law_1240 ?_
      refine lv_iload hx hb dL_law_1241 (lv_at hl 0 rfl) ?_
      refine lv_i2l hx hb dL_law_1243 rfl ?_
      refine W.lcmp hx hb dL_law_1244 ?_
      refine lv_if_eq (tgt := 1250) hx hb dL_law_1245 (by decide) (fun c1245 => ?_) (fun c1245 => ?_)
      · refine lv_goto (tgt := 1321) hx hb dL_law_1250 (by decide) ?_
        have es := hn1
        dsimp only at es
        rw [es] at hP8
        exact kn (tnd σ (tN (xs (5 * j + 1)))) ρ w1 (nL) (nB) H8 locs8 ls (inv_tnd hI (by obtain ⟨t, ht, et⟩ := inR_hour z1; rw [et, tN_nI (by omega)]; exact ht)) hrel hP8 hS8 (lv_sub hl [2, 3, 4, 5, 6] rfl)
      · exact absurd ((lg_cmp_eq _ _).mpr (show w1 0 = r2.toInt64 by rw [hr2]; exact hw)) c1245
  · exact absurd (h15.trans hk.symm) c1228
set_option maxHeartbeats 4000000 in
set_option maxRecDepth 100000 in
theorem lc_plan {p : Program} {l : Launch} {e : Env} {s : State} {m : MethodId} {below : List Frame} {meth : Method} {c : Code} {D : va_G} {cI cZ cJ : ClassId} {b L : Nat} {xs : Nat → Int32} {Q : State → Prop} (hfl : l.stackTraces = false) (C0 : lw_At p s m meth c b L xs) (hL : L ≤ 2560) (hK : va_K D vwCl (tyL cI cZ cJ) s) (hT0 : tpA (fun q : Nat => s.heap.size ≤ q) s.heap s) {h : Nat} {a : Nat → Nat} {σ : St} {o : Nat} {w : Nat → Int64} {h2 : Nat} {a2 : Nat → Nat} {τ : St} {nL nB j : Nat} {H : Heap} {locs : List Loc} {ls : Array Slot} (hj : 5 * j + 5 ≤ L) (hI : inv σ nL nB) (hR : rel σ τ nL) (hP : va_P D vwCl (gw cI cZ cJ h a σ o w h2 a2 τ) H) (hD : va_D (fun q : Nat => s.heap.size ≤ q) (gw cI cZ cJ h a σ o w h2 a2 τ)) (hS : va_S (fun q : Nat => s.heap.size ≤ q) s.heap H locs) (hl : lv_has ls 7 [(0, .ref b), (1, .ref h), (2, .ref h2), (3, .ref o), (4, .int (nI (5 * j)))]) (kn : ∀ (σ' τ' : St) (w' : Nat → Int64) (nL' nB' : Nat) (H' : Heap) (locs' : List Loc) (ls' : Array Slot), inv σ' nL' nB' → rel σ' τ' nL' → va_P D vwCl (gw cI cZ cJ h a σ' o w' h2 a2 τ') H' → va_S (fun q : Nat => s.heap.size ≤ q) s.heap H' locs' → lv_has ls' 7 [(0, .ref b), (1, .ref h), (2, .ref h2), (3, .ref o), (4, .int (nI (5 * j)))] → W p l e room_1 s m #[Value.ref b] below meth c H' locs' (27 + j + 1) (484 + 6 * j + 6) Q (F0 m 1321 ls' [])) : W p l e room_1 s m #[Value.ref b] below meth c H locs (27 + j) (484 + 6 * j) Q (F0 m 1253 ls []) := by
  obtain ⟨hx, hb, hr, hml, hown, hts0, hX, hbl, hlocks, hgv⟩ := C0
  have hown : s.vm.findClass RL = some m.cls := hown
  have hts : ∀ w ∈ wsL_law, w.before #[Value.ref b] s = true := fun w h => hts0 w (wsL_law_in w h)
  have hbA : ¬ (fun q : Nat => s.heap.size ≤ q) b := Nat.not_le.mpr hbl
  have hKx : va_K D vwCl (tyX cI cZ) s := hK.sub [0, 1] rfl
  have hPx := va_P_l hP
  have hPm := va_P_r hP
  have hDx := va_D_l hD
  have hTx := tpA_nar (tpA_kept hT0 hS) (B := fun q => s.heap.size ≤ q ∧ notin (mw cI cZ h2 a2 τ) q) (fun q h => h.1)
  refine lv_aload_n hx hb dL_law_1253 rfl (lv_at hl 1 rfl) ?_
  refine lv_aload_n hx hb dL_law_1254 rfl (lv_at hl 0 rfl) ?_
  refine lv_iload hx hb dL_law_1255 (lv_at hl 4 rfl) ?_
  refine lv_iconst (v := 1) hx hb dL_law_1257 (by decide) ?_
  refine lv_iadd hx hb dL_law_1258 ?_
  refine lv_topi (fun y9 e9 => ?_)
  rw [show y9 = (nI (5 * j + 1)) from e9.trans (nI_add _ 1)]
  refine sc_ld hx hb hX hbl hbA hS (i := (5 * j + 1)) (by omega) hL dL_law_1259 ?_
  refine lv_aload_n hx hb dL_law_1260 rfl (lv_at hl 0 rfl) ?_
  refine lv_iload hx hb dL_law_1261 (lv_at hl 4 rfl) ?_
  refine lv_iconst (v := 2) hx hb dL_law_1263 (by decide) ?_
  refine lv_iadd hx hb dL_law_1264 ?_
  refine lv_topi (fun y9 e9 => ?_)
  rw [show y9 = (nI (5 * j + 2)) from e9.trans (nI_add _ 2)]
  refine sc_ld hx hb hX hbl hbA hS (i := (5 * j + 2)) (by omega) hL dL_law_1265 ?_
  refine lv_aload_n hx hb dL_law_1266 rfl (lv_at hl 3 rfl) ?_
  refine lw_callS 4 hx hb hml hown hts hl.1 hPx hK hTx hS (fun q h => h.1) (As := [.ref h, .int (xs (5 * j + 1)), .int (xs (5 * j + 2)), .ref o]) (rest := []) (c_L_plan l hfl D cI cZ cJ h a σ o w H _ hDx hI (xs (5 * j + 1)) (xs (5 * j + 2))) gL_law_L_plan rfl rfl rfl (by decide +kernel) ⟨Nat.le_of_ble_eq_true rfl, Nat.le_of_ble_eq_true rfl⟩ rfl rfl (Nat.le_of_ble_eq_true rfl) dL_law_1267 ⟨by show _ ≤ 1059; omega, by show _ ≤ 8724; omega⟩ (fun r1 u1 H locs hp1 hPx hS hk1 => ?_)
  obtain ⟨σ1, w1⟩ := u1
  obtain ⟨hk, hok1, hno1⟩ := hp1
  have hPm := keepW hPm hk1
  have hD : va_D (fun q : Nat => s.heap.size ≤ q) (gw cI cZ cJ h a σ1 o w1 h2 a2 τ) := va_D_ad (W := gw cI cZ cJ h a σ o w h2 a2 τ) (W' := gw cI cZ cJ h a σ1 o w1 h2 a2 τ) rfl hD
  have hDm := va_D_r hD
  refine lv_istore (lv' := [(5, .int r1), (0, .ref b), (1, .ref h), (2, .ref h2), (3, .ref o), (4, .int (nI (5 * j)))]) hx hb dL_law_1270 hl (by decide) rfl (fun ls hl => ?_)
  refine lv_aload_n hx hb dL_law_1272 rfl (lv_at hl 3 rfl) ?_
  refine lv_aload_n hx hb dL_law_1273 rfl (lv_at hl 1 rfl) ?_
  refine lv_iload hx hb dL_law_1274 (lv_at hl 5 rfl) ?_
  refine lv_iconst (v := 1) hx hb dL_law_1276 (by decide) ?_
  refine lv_iadd hx hb dL_law_1277 ?_
  refine lv_topi (fun y9 e9 => ?_)
  rw [show y9 = (nI (5 * j + 1)) from e9.trans (nI_add _ 1)]
  refine sc_ld hx hb hX hbl hbA hS (i := (5 * j + 1)) (by omega) hL dL_law_1278 ?_
  refine lv_aload_n hx hb dL_law_1279 rfl (lv_at hl 1 rfl) ?_
  refine lv_iload hx hb dL_law_1280 (lv_at hl 5 rfl) ?_
  refine lv_iconst (v := 2) hx hb dL_law_1282 (by decide) ?_
  refine lv_iadd hx hb dL_law_1283 ?_
  refine lv_topi (fun y9 e9 => ?_)
  rw [show y9 = (nI (5 * j + 2)) from e9.trans (nI_add _ 2)]
  refine sc_ld hx hb hX hbl hbA hS (i := (5 * j + 2)) (by omega) hL dL_law_1284 ?_
  refine wr_callV 2 hx hb hml hown hts hl.1 hPm hKx hS (fun q h => h.1) 0 1 rfl rfl (As := [.int (xs (5 * j + 1)), .int (xs (5 * j + 2))]) (rest := []) (c_X1_plan l D cI cZ h2 a2 σ τ H _ hDm hI hR (xs (5 * j + 1)) (xs (5 * j + 2))) gL_law_X1_plan rfl rfl rfl (by decide +kernel) ⟨Nat.le_of_ble_eq_true rfl, Nat.le_of_ble_eq_true rfl⟩ rfl rfl (Nat.le_of_ble_eq_true rfl) dL_law_1285 ⟨by show _ ≤ 1059; omega, by show _ ≤ 8724; omega⟩ (fun r2 ρ H8 locs8 hp2 hPm hS8 _ hk2 => ?_)
  obtain ⟨h15, hok2, hno2⟩ := hp2
  have hPx := keepW hPx hk2
  have hP8 : va_P D vwCl (gw cI cZ cJ h a σ1 o w1 h2 a2 ρ) H8 := va_P.app hPx hPm
  refine lv_istore (lv' := [(6, .int r2), (5, .int r1), (0, .ref b), (1, .ref h), (2, .ref h2), (3, .ref o), (4, .int (nI (5 * j)))]) hx hb dL_law_1288 hl (by decide) rfl (fun ls hl => ?_)
  refine lv_aload_n hx hb dL_law_1290 rfl (lv_at hl 4 rfl) ?_
  refine ro_callV 0 hx hb hml hown hts hl.1 hPm hKx 0 1 rfl rfl (As := []) (rest := []) (c_X1_thrown l D cI cZ h2 a2 ρ H8) gL_law_X1_thrown rfl rfl rfl (by decide +kernel) ⟨Nat.le_of_ble_eq_true rfl, Nat.le_of_ble_eq_true rfl⟩ rfl rfl (Nat.le_of_ble_eq_true rfl) dL_law_1291 ⟨by show _ ≤ 1059; omega, by show _ ≤ 8724; omega⟩ (fun r3 hr3 => ?_)
  subst hr3
  refine lv_iload hx hb dL_law_1294 (lv_at hl 1 rfl) ?_
  refine lv_icmp_eq (tgt := 1301) hx hb dL_law_1296 (by decide) (fun c1296 => ?_) (fun c1296 => ?_)
  · refine lv_iload hx hb dL_law_1301 (lv_at hl 1 rfl) ?_
    refine lv_if_ne (tgt := 1318) hx hb dL_law_1303 (by decide) (fun c1303 => ?_) (fun c1303 => ?_)
    · refine lv_goto (tgt := 1321) hx hb dL_law_1318 (by decide) ?_
      have hK9 : ¬ goK (inR (xs (5 * j + 1)) 0 47 && inR (xs (5 * j + 2)) 0 47) (decide ((xs (5 * j + 1)) ≤ (xs (5 * j + 2)))) true = 0 := fun z => c1303 (hk.trans z)
      have es : σ1 = σ := hno1 hK9
      rw [es] at hP8
      exact kn σ ρ w1 nL nB H8 locs8 ls hI (hno2 hK9) hP8 hS8 (lv_sub hl [2, 3, 4, 5, 6] rfl)
    · have hK9 : goK (inR (xs (5 * j + 1)) 0 47 && inR (xs (5 * j + 2)) 0 47) (decide ((xs (5 * j + 1)) ≤ (xs (5 * j + 2)))) true = 0 := hk.symm.trans c1303
      obtain ⟨hw, hn1⟩ := hok1 hK9
      obtain ⟨hr2, hrel⟩ := hok2 hK9
      obtain ⟨z1, z2, z3⟩ := goK_0 hK9
      refine lv_aload_n hx hb dL_law_1306 rfl (lv_at hl 5 rfl) ?_
      refine lv_iconst (v := 0) hx hb dL_law_1307 (by decide) ?_
      refine va_lald hx hb hK hP8 13 2 rfl rfl (by unfold vp_in; decide) dL_law_1308 ?_
      refine lv_iload hx hb dL_law_1309 (lv_at hl 0 rfl) ?_
      refine lv_i2l hx hb dL_law_1311 rfl ?_
      refine W.lcmp hx hb dL_law_1312 ?_
      refine lv_if_eq (tgt := 1318) hx hb dL_law_1313 (by decide) (fun c1313 => ?_) (fun c1313 => ?_)
      · refine lv_goto (tgt := 1321) hx hb dL_law_1318 (by decide) ?_
        obtain ⟨g9, es⟩ := hn1
        dsimp only at es
        rw [es] at hP8
        exact kn (st σ 14 g9) ρ w1 (nL) (nB) H8 locs8 ls (hI) hrel hP8 hS8 (lv_sub hl [2, 3, 4, 5, 6] rfl)
      · exact absurd ((lg_cmp_eq _ _).mpr (show w1 0 = r2.toInt64 by rw [hr2]; exact hw)) c1313
  · exact absurd (h15.trans hk.symm) c1296
