/-! The law: tend; its rows beside the new state, call by call. -/
theorem gkt1 {b : Bool} (h : goK true true b = 1) : False := by cases b <;> exact absurd h (by decide)
theorem gkt2 {b : Bool} (h : goK true true b = 2) : False := by cases b <;> exact absurd h (by decide)
theorem gkt3 {b : Bool} (h : goK true true b = 3) : b = false := by cases b <;> first | rfl | exact absurd h (by decide)
theorem line_nI {j n : Nat} (h : j < n) (hn : n < 1000) : inR (nI j) 0 (nI n - 1) = true := line_in hn (nI_pos (by omega)) (nI_lt h (by omega))
theorem sub_ti {n : Nat} {c : Int32} {k : Int} (hc : c.toInt = k) (hn : n < 100000000) (h1 : 0 ≤ k) (h2 : k ≤ 100000000) : (nI n - c).toInt = (n : Int) - k := by
  have e1 : (nI n).toInt = (n : Int) := nI_ti (by omega)
  rw [Jvm.Kit.i32_sub (by rw [e1, hc]; omega) (by rw [e1, hc]; omega), e1, hc]
theorem inR_sub {n : Nat} {c lo hi : Int32} {k x y : Int} (hc : c.toInt = k) (hx : lo.toInt = x) (hy : hi.toInt = y) (hn : n < 100000000) (h1 : 0 ≤ k) (h2 : k ≤ 100000000) (h3 : x ≤ (n : Int) - k) (h4 : (n : Int) - k ≤ y) : inR (nI n - c) lo hi = true := inR_mk hx hy (by rw [sub_ti hc hn h1 h2]; exact h3) (by rw [sub_ti hc hn h1 h2]; exact h4)
theorem inR_nI {n : Nat} {lo hi : Int32} {x y : Int} (hx : lo.toInt = x) (hy : hi.toInt = y) (hn : n < 1000000000) (h3 : x ≤ (n : Int)) (h4 : (n : Int) ≤ y) : inR (nI n) lo hi = true := inR_mk hx hy (by rw [nI_ti (by omega)]; exact h3) (by rw [nI_ti (by omega)]; exact h4)
theorem lrel_ab {σ : St} {nL nB : Nat} {bf lf mf : Nat → Int32} (hI : inv σ nL nB) (hR : lrel σ nL nB bf lf mf) (hB : nB < 4) (p lim : Int32) : lrel (abS σ nB p lim) nL (nB + 1) (upd (upd bf (2 * nB) p) (2 * nB + 1) lim) lf (upd mf 0 (nI (nB + 1))) := by
  obtain ⟨⟨a1, a2⟩, ⟨b1, b2, b3⟩, a3, a4⟩ := hR
  refine ⟨⟨a1, by omega⟩, ⟨rfl, b2, b3⟩, fun k hk => ?_, fun j hj => ?_⟩
  · by_cases e : k = nB
    · subst e
      refine ⟨?_, ?_⟩
      · rw [pk_un (by omega), pk_us]; exact (pk_us (f := σ 5) (k := k) (x := p)).symm
      · rw [pk_us]; exact (pk_us (f := σ 6) (k := k) (x := lim)).symm
    · obtain ⟨c1, c2⟩ := a3 k (by omega)
      refine ⟨?_, ?_⟩
      · rw [pk_un (by omega), pk_un (by omega), c1]; exact (pk_un (f := σ 5) (x := p) e).symm
      · rw [pk_un (by omega), pk_un (by omega), c2]; exact (pk_un (f := σ 6) (x := lim) e).symm
  · obtain ⟨⟨k, hk, e1, e2, e3⟩, e4⟩ := a4 j hj
    refine ⟨⟨k, by omega, e1, e2, ?_⟩, e4⟩
    rw [pk_un (by omega), pk_un (by omega)]; exact e3
theorem lrel_al {σ : St} {nL nB : Nat} {bf lf lg mf mg : Nat → Int32} (hI : inv σ nL nB) (hR : lrel σ nL nB bf lf mf) (hL : nL < 6) {bo : Nat} (hbo : bo < nB) {pt sf sr : Int32} (g0 : lg (6 * nL) = pt) (g1 : lg (6 * nL + 1) = nI bo) (g2 : lg (6 * nL + 2) = sf) (g3 : lg (6 * nL + 3) = sr) (g4 : lg (6 * nL + 4) = LENs (σ 5 bo - pt) 300) (g5 : lg (6 * nL + 5) = 0) (g6 : ∀ i, i < 6 * nL → lg i = lf i) (m0 : mg 0 = mf 0) (m1 : mg 1 = nI (nL + 1)) (m2 : mg 2 = mf 2) : lrel (alS σ nL pt (nI bo) sf sr) (nL + 1) nB bf lg mg := by
  obtain ⟨⟨a1, a2⟩, ⟨b1, b2, b3⟩, a3, a4⟩ := hR
  have ebo : tN (nI bo) = bo := tN_nI (by omega)
  refine ⟨⟨by omega, a2⟩, ⟨m0.trans b1, m1, m2.trans b3⟩, a3, fun j hj => ?_⟩
  by_cases e : j = nL
  · subst e
    unfold alS
    rw [ebo]
    refine ⟨⟨bo, hbo, g1, pk_us (f := σ 8) (k := j), ?_⟩, ?_, ?_, ?_, Or.inl ⟨g5, pk_us (f := σ 13) (k := j)⟩⟩
    · show upd (σ 9) j (σ 5 bo - pt) j = _
      rw [pk_us, (a3 bo hbo).1, g0]
    · rw [g2]; exact (pk_us (f := σ 10) (k := j)).symm
    · rw [g3]; exact (pk_us (f := σ 11) (k := j)).symm
    · rw [g4]; exact (pk_us (f := σ 12) (k := j)).symm
  · obtain ⟨⟨k, hk, e1, e2, e3⟩, e4, e5, e6, e7⟩ := a4 j (by omega)
    refine ⟨⟨k, hk, (g6 _ (by omega)).trans e1, ?_, ?_⟩, ?_, ?_, ?_, ?_⟩
    · show upd (σ 8) nL (nI bo) j = _
      rw [pk_un e]; exact e2
    · show upd (σ 9) nL _ j = _
      rw [pk_un e, g6 _ (by omega)]; exact e3
    · rw [g6 _ (by omega), e4]; exact (pk_un (f := σ 10) e).symm
    · rw [g6 _ (by omega), e5]; exact (pk_un (f := σ 11) e).symm
    · rw [g6 _ (by omega), e6]; exact (pk_un (f := σ 12) e).symm
    · rw [g6 _ (by omega)]
      show (_ ∧ upd (σ 13) nL 1 j = 1) ∨ (_ ∧ upd (σ 13) nL 1 j = 0)
      rw [pk_un e]; exact e7
theorem lrel_tg {σ : St} {nL nB : Nat} {bf lf mf : Nat → Int32} (hR : lrel σ nL nB bf lf mf) {k : Nat} (hk : k < nL) : lrel (st σ 13 (upd (σ 13) k (nxF σ k))) nL nB bf (upd lf (6 * k + 5) (1 - lf (6 * k + 5))) mf := by
  obtain ⟨a1, b1, a3, a4⟩ := hR
  refine ⟨a1, b1, a3, fun j hj => ?_⟩
  obtain ⟨⟨b, hb, e1, e2, e3⟩, e4, e5, e6, e7⟩ := a4 j hj
  refine ⟨⟨b, hb, by rw [pk_un (by omega)]; exact e1, e2, by rw [pk_un (by omega)]; exact e3⟩, by rw [pk_un (by omega)]; exact e4, by rw [pk_un (by omega)]; exact e5, by rw [pk_un (by omega)]; exact e6, ?_⟩
  show (_ ∧ upd (σ 13) k (nxF σ k) j = 1) ∨ (_ ∧ upd (σ 13) k (nxF σ k) j = 0)
  by_cases e : j = k
  · subst e
    rw [pk_us, pk_us]
    unfold nxF
    rcases e7 with ⟨c1, c2⟩ | ⟨c1, c2⟩
    · rw [c1, c2]; exact Or.inr ⟨by decide, by decide⟩
    · rw [c1, c2]; exact Or.inl ⟨by decide, by decide⟩
  · rw [pk_un e, pk_un (by omega)]; exact e7
theorem lrel_td {σ : St} {nL nB : Nat} {bf lf mf : Nat → Int32} (hR : lrel σ nL nB bf lf mf) {k : Nat} (hk : k < nL) (v : Int32) : lrel (st σ 12 (upd (σ 12) k v)) nL nB bf (upd lf (6 * k + 4) v) mf := by
  obtain ⟨a1, b1, a3, a4⟩ := hR
  refine ⟨a1, b1, a3, fun j hj => ?_⟩
  obtain ⟨⟨b, hb, e1, e2, e3⟩, e4, e5, e6, e7⟩ := a4 j hj
  refine ⟨⟨b, hb, by rw [pk_un (by omega)]; exact e1, e2, by rw [pk_un (by omega)]; exact e3⟩, by rw [pk_un (by omega)]; exact e4, by rw [pk_un (by omega)]; exact e5, ?_, by rw [pk_un (by omega)]; exact e7⟩
  show _ = upd (σ 12) k v j
  by_cases e : j = k
  · subst e; rw [pk_us, pk_us]
  · rw [pk_un e, pk_un (by omega)]; exact e6
theorem lrel_wi {σ : St} {nL nB : Nat} {bf lf mf : Nat → Int32} (hR : lrel σ nL nB bf lf mf) (v : Int32) : lrel (st σ 3 (fun _ => v)) nL nB bf lf (upd mf 2 v) := by
  obtain ⟨a1, ⟨b1, b2, b3⟩, a3, a4⟩ := hR
  exact ⟨a1, ⟨b1, b2, rfl⟩, a3, a4⟩
theorem mx0_if {x : Int32} : mx0 x = if x < 0 then 0 else x := by
  unfold mx0
  have e0 : (0 : Int32).toInt = 0 := rfl
  by_cases h : 0 < x
  · rw [if_pos h, if_neg (fun q => by have := i_lt.mp h; have := i_lt.mp q; omega)]
  · by_cases q : x < 0
    · rw [if_neg h, if_pos q]
    · rw [if_neg h, if_neg q]
      have a1 := Int32.not_lt.mp h
      have a2 := Int32.not_lt.mp q
      have b1 := i_le.mp a1
      have b2 := i_le.mp a2
      exact i_eq.mpr (by omega)
set_option maxHeartbeats 4000000 in
set_option maxRecDepth 100000 in
theorem c_L_tend (l : Launch) (hfl : l.stackTraces = false) (D : va_G) (cI cZ : ClassId) (h : Nat) (a : Nat → Nat) (σ : St) (Hi : Heap) (A : Nat → Prop) (hD : va_D A (xw cI cZ h a σ)) {nL nB : Nat} (hI : inv σ nL nB) (j t : Nat) (hj : j < nL) (ht48 : t < 48) (v : Int32) (hv : inR v (-100) 100 = true) : hgM l yL_tend wsL_tend ({ frames := 8, cells := 1, slots := 6, locals := 141 }) [.ref h, .int (nI j), .int (nI t), .int v] D (xw cI cZ h a σ) (tyX cI cZ) Hi (S := St) (fun ρ => xw cI cZ h a ρ) (fun r ρ => (¬ σ 13 j = 0 → r = tdR σ (nI j) (nI t) v ∧ ρ = st σ 12 (upd (σ 12) j (tdR σ (nI j) (nI t) v))) ∧ (σ 13 j = 0 → r = -5 ∧ ρ = σ)) A 1 6 := by
  unfold hgM thP
  refine cw_of (cc := cL_tend) (maxL := 5) (ret := some .int) (by decide) rfl (Nat.le_of_ble_eq_true rfl) (fun U q => q.1) ?_
  intro p e s m args below meth c he htab hB0 ls hl
  obtain ⟨hH, hP, hK, hT⟩ := hB0
  obtain ⟨hx, hb, hr, hml, hown, hts, hlocks⟩ := he
  have hown : s.vm.findClass RL = some m.cls := hown
  have hS : va_S A Hi Hi [] := va_S.rf
  have hL10 : nL ≤ 10 := hI.2.1
  have ej : tN (nI j) = j := tN_nI (by omega)
  have hb1 : (inR (nI j) 0 (nI nL - 1) && inR (nI t) 0 47) = true := ant (line_nI hj (by omega)) (hour_nI ht48)
  have hl : lv_has ls 5 [(0, .ref h), (1, .int (nI j)), (2, .int (nI t)), (3, .int v)] := hl
  refine lv_aload_n hx hb dL_tend_0 rfl (lv_at hl 0 rfl) ?_
  refine lv_iload_n hx hb dL_tend_1 rfl (lv_at hl 1 rfl) ?_
  refine lv_iload_n hx hb dL_tend_2 rfl (lv_at hl 2 rfl) ?_
  refine lv_iload_n hx hb dL_tend_3 rfl (lv_at hl 3 rfl) ?_
  refine th_callV 3 hx hb hml hown hts hl.1 hP hK hT hS (fun q h => h) 0 0 rfl rfl (As := [.int (nI j), .int (nI t), .int v]) (rest := []) (c_X0_tend l hfl D cI cZ h a σ Hi A hD hI (nI j) (nI t) v) gL_tend_X0_tend rfl rfl rfl (by decide +kernel) ⟨Nat.le_of_ble_eq_true rfl, Nat.le_of_ble_eq_true rfl⟩ rfl rfl (Nat.le_of_ble_eq_true rfl) dL_tend_4 ⟨Nat.le_of_ble_eq_true rfl, Nat.le_of_ble_eq_true rfl⟩ (fun E ce q9 H locs hxp hg hS hce hcv hcl => ?_) (fun r1 ρ H locs hp1 hP1 hS hk1 => ?_)
  · have hP9 : va_P D vwCl (xw cI cZ h a σ) H := keepG hP hg
    unfold xcp at hxp
    rw [hb1, hv, ej] at hxp
    rcases hxp with ⟨hk, rfl⟩ | ⟨hk, rfl⟩ | ⟨hk, rfl⟩
    · exact (gkt1 hk).elim
    · exact (gkt2 hk).elim
    · have hz : σ 13 j = 0 := Classical.not_not.mp (of_decide_eq_false (gkt3 hk))
      refine vx_catch (own := RL) (name := xE2) hown [] ⟨0, 7, 8, 87⟩ [] htab (fun _ h => absurd h List.not_mem_nil) (by decide) (by decide) (hts (.classLink RL 87 xE2) (by decide +kernel)) ((hT.2.2.2.1.2.1).use rfl) hce hcv hcl ?_
      refine lv_astore (lv' := [(4, .ref q9), (0, .ref h), (1, .int (nI j)), (2, .int (nI t)), (3, .int v)]) hx hb dL_tend_8 hl (by decide) rfl (fun ls hl => ?_)
      refine lv_bipush (v := (-5)) hx hb dL_tend_10 (by decide) ?_
      exact g_ret (v := (-5)) σ hx hb hr hlocks hH hS hP9 ⟨fun w => absurd hz w, fun _ => ⟨rfl, rfl⟩⟩ dL_tend_12 (Nat.le_of_ble_eq_true rfl) (Nat.le_of_ble_eq_true rfl)
  · obtain ⟨hk0, hr1, hρ⟩ := hp1
    rw [ej] at hk0 hρ
    have hnz : ¬ σ 13 j = 0 := of_decide_eq_true (goK_0 hk0).2.2
    exact g_ret (v := r1) ρ hx hb hr hlocks hH hS hP1 ⟨fun _ => ⟨hr1, hρ⟩, fun w => absurd w hnz⟩ dL_tend_7 (Nat.le_of_ble_eq_true rfl) (Nat.le_of_ble_eq_true rfl)
