set_option maxHeartbeats 4000000 in
set_option maxRecDepth 100000 in
theorem law_loop {p : Program} {l : Launch} {e : Env} {s : State} {m : MethodId} {below : List Frame} {meth : Method} {c : Code} {D : va_G} {cI cZ cJ : ClassId} {b L : Nat} {xs : Nat → Int32} {Q : State → Prop} (hfl : l.stackTraces = false) (C0 : lw_At p s m meth c b L xs) (hL : L ≤ 2560) (hK : va_K D vwCl (tyL cI cZ cJ) s) (hT0 : tpA (fun q : Nat => s.heap.size ≤ q) s.heap s) {h : Nat} {a : Nat → Nat} {o : Nat} {h2 : Nat} {a2 : Nat → Nat} (hQ : Q = lw_Z below #[Value.ref b] s) : ∀ (n j : Nat) (σ τ : St) (w : Nat → Int64) (nL nB : Nat) (H : Heap) (locs : List Loc) (ls : Array Slot), j + n = 514 → 5 * j ≤ L → inv σ nL nB → rel σ τ nL → va_P D vwCl (gw cI cZ cJ h a σ o w h2 a2 τ) H → va_D (fun q : Nat => s.heap.size ≤ q) (gw cI cZ cJ h a σ o w h2 a2 τ) → va_S (fun q : Nat => s.heap.size ≤ q) s.heap H locs → lv_has ls 7 [(0, .ref b), (1, .ref h), (2, .ref h2), (3, .ref o), (4, .int (nI (5 * j)))] → W p l e room_1 s m #[Value.ref b] below meth c H locs (27 + j) (484 + 6 * j) Q (F0 m 23 ls []) := by
  have C1 := C0
  obtain ⟨hx, hb, hr, hml, hown, hts0, hX, hbl, hlocks, hgv⟩ := C1
  have hbA : ¬ (fun q : Nat => s.heap.size ≤ q) b := Nat.not_le.mpr hbl
  intro n
  induction n with
  | zero => intro j σ τ w nL nB H locs ls hj h5; exact absurd h5 (by omega)
  | succ n ih =>
    intro j σ τ w nL nB H locs ls hj h5 hI hR hP hD hS hl
    refine lv_iload hx hb dL_law_23 (lv_at hl 4 rfl) ?_
    refine lv_aload_n hx hb dL_law_25 rfl (lv_at hl 0 rfl) ?_
    refine va_slen hx hb hX hbl hbA hS dL_law_26 ?_
    refine lv_iconst (v := 5) hx hb dL_law_27 (by decide) ?_
    refine lv_isub hx hb dL_law_28 ?_
    have eL : (Int32.ofNat L - 5).toInt = (L : Int) - 5 := by
      have e1 : (Int32.ofNat L).toInt = (L : Int) := nI_ti (n := L) (by omega)
      have e2 : (5 : Int32).toInt = 5 := rfl
      rw [Jvm.Kit.i32_sub (by omega) (by omega), e1, e2]
    have ej : (nI (5 * j)).toInt = ((5 * j : Nat) : Int) := nI_ti (by omega)
    refine lv_icmp_gt (tgt := 1327) hx hb dL_law_29 (by decide) (fun c29 => ?_) (fun c29 => ?_)
    · refine lv_iconst (v := 1) hx hb dL_law_1327 (by decide) ?_
      rw [hQ]
      refine va_forget (fun q hq => hS.2.2 q hq) ?_
      refine W.widen (k := 1059) (n := 8724) (by omega) (by omega) ?_
      exact lw_ret hx hb hr hlocks dL_law_1328
    · have hj5 : 5 * j + 5 ≤ L := by
        have q : ¬ (Int32.ofNat L - 5).toInt < (nI (5 * j)).toInt := fun z => c29 (i_lt.mpr z)
        rw [eL, ej] at q
        omega
      have kn : ∀ (σ' τ' : St) (w' : Nat → Int64) (nL' nB' : Nat) (H' : Heap) (locs' : List Loc) (ls' : Array Slot), inv σ' nL' nB' → rel σ' τ' nL' → va_P D vwCl (gw cI cZ cJ h a σ' o w' h2 a2 τ') H' → va_S (fun q : Nat => s.heap.size ≤ q) s.heap H' locs' → lv_has ls' 7 [(0, .ref b), (1, .ref h), (2, .ref h2), (3, .ref o), (4, .int (nI (5 * j)))] → W p l e room_1 s m #[Value.ref b] below meth c H' locs' (27 + j + 1) (484 + 6 * j + 6) Q (F0 m 1321 ls' []) := by
        intro σ' τ' w' nL' nB' H' locs' ls hI' hR' hP' hS' hl
        refine lv_iinc (v := (nI ((5 * j) + 5))) (lv' := [(4, .int (nI ((5 * j) + 5))), (0, .ref b), (1, .ref h), (2, .ref h2), (3, .ref o)]) hx hb dL_law_1321 hl (k := 4) rfl (by exact nI_add _ 5) (by decide) rfl (fun ls hl => ?_)
        refine lv_goto (tgt := 23) hx hb dL_law_1324 (by decide) ?_
        refine W.widen (k := 27 + (j + 1)) (n := 484 + 6 * (j + 1)) (by omega) (by omega) ?_
        exact ih (j + 1) σ' τ' w' nL' nB' H' locs' ls (by omega) (by omega) hI' hR' hP' (va_D_ad (W := gw cI cZ cJ h a σ o w h2 a2 τ) (W' := gw cI cZ cJ h a σ' o w' h2 a2 τ') rfl hD) hS' (lv_sub hl [1, 2, 3, 4, 0] rfl)
      refine lv_aload_n hx hb dL_law_32 rfl (lv_at hl 0 rfl) ?_
      refine lv_iload hx hb dL_law_33 (lv_at hl 4 rfl) ?_
      refine sc_ld hx hb hX hbl hbA hS (i := 5 * j) (by omega) hL dL_law_35 ?_
      refine lv_bipush (v := 31) hx hb dL_law_36 (by decide) ?_
      refine lv_iand hx hb dL_law_38 ?_
      obtain ⟨v, hv, ev⟩ := pk_andE (xs (5 * j)) (m := 31) 5 rfl
      rw [ev]
      have hl5 : lv_has ls 7 [(0, .ref b), (1, .ref h), (2, .ref h2), (3, .ref o), (4, .int (nI (5 * j)))] := lv_sub hl [0, 1, 2, 3, 4] rfl
      have etv : (nI v).toInt = (v : Int) := nI_ti (by omega)
      by_cases hv18 : 17 < v
      · refine lv_tableOut (tgt := 1321) hx hb dL_law_39 (Or.inr (by rw [etv]; omega)) (by decide) ?_
        refine W.widen (k := 27 + j + 1) (n := 484 + 6 * j + 6) (by omega) (by omega) ?_
        exact kn σ τ w nL nB H locs ls hI hR hP hS hl5
      · have hv17 : v ≤ 17 := by omega
        have hcs : v = 0 ∨ v = 1 ∨ v = 2 ∨ v = 3 ∨ v = 4 ∨ v = 5 ∨ v = 6 ∨ v = 7 ∨ v = 8 ∨ v = 9 ∨ v = 10 ∨ v = 11 ∨ v = 12 ∨ v = 13 ∨ v = 14 ∨ v = 15 ∨ v = 16 ∨ v = 17 := by omega
        rcases hcs with rfl | rfl | rfl | rfl | rfl | rfl | rfl | rfl | rfl | rfl | rfl | rfl | rfl | rfl | rfl | rfl | rfl | rfl
        · refine lv_tableIn (off := 85) (tgt := 124) hx hb dL_law_39 (by rw [etv]; omega) (by rw [etv]; omega) (by rw [etv]; rfl) (by decide) ?_
          exact lc_addBollard hfl C0 hL hK hT0 hj5 hI hR hP hD hS hl5 kn
        · refine lv_tableIn (off := 153) (tgt := 192) hx hb dL_law_39 (by rw [etv]; omega) (by rw [etv]; omega) (by rw [etv]; rfl) (by decide) ?_
          exact lc_addLine hfl C0 hL hK hT0 hj5 hI hR hP hD hS hl5 kn
        · refine lv_tableIn (off := 245) (tgt := 284) hx hb dL_law_39 (by rw [etv]; omega) (by rw [etv]; omega) (by rw [etv]; rfl) (by decide) ?_
          exact lc_toggle hfl C0 hL hK hT0 hj5 hI hR hP hD hS hl5 kn
        · refine lv_tableIn (off := 308) (tgt := 347) hx hb dL_law_39 (by rw [etv]; omega) (by rw [etv]; omega) (by rw [etv]; rfl) (by decide) ?_
          exact lc_setTide hfl C0 hL hK hT0 hj5 hI hR hP hD hS hl5 kn
        · refine lv_tableIn (off := 376) (tgt := 415) hx hb dL_law_39 (by rw [etv]; omega) (by rw [etv]; omega) (by rw [etv]; rfl) (by decide) ?_
          exact lc_setLoad hfl C0 hL hK hT0 hj5 hI hR hP hD hS hl5 kn
        · refine lv_tableIn (off := 444) (tgt := 483) hx hb dL_law_39 (by rw [etv]; omega) (by rw [etv]; omega) (by rw [etv]; rfl) (by decide) ?_
          exact lc_setWind hfl C0 hL hK hT0 hj5 hI hR hP hD hS hl5 kn
        · refine lv_tableIn (off := 500) (tgt := 539) hx hb dL_law_39 (by rw [etv]; omega) (by rw [etv]; omega) (by rw [etv]; rfl) (by decide) ?_
          exact lc_setPassing hfl C0 hL hK hT0 hj5 hI hR hP hD hS hl5 kn
        · refine lv_tableIn (off := 568) (tgt := 607) hx hb dL_law_39 (by rw [etv]; omega) (by rw [etv]; omega) (by rw [etv]; rfl) (by decide) ?_
          exact lc_force hfl C0 hL hK hT0 hj5 hI hR hP hD hS hl5 kn
        · refine lv_tableIn (off := 636) (tgt := 675) hx hb dL_law_39 (by rw [etv]; omega) (by rw [etv]; omega) (by rw [etv]; rfl) (by decide) ?_
          exact lc_shift hfl C0 hL hK hT0 hj5 hI hR hP hD hS hl5 kn
        · refine lv_tableIn (off := 692) (tgt := 731) hx hb dL_law_39 (by rw [etv]; omega) (by rw [etv]; omega) (by rw [etv]; rfl) (by decide) ?_
          exact lc_isAdrift hfl C0 hL hK hT0 hj5 hI hR hP hD hS hl5 kn
        · refine lv_tableIn (off := 755) (tgt := 794) hx hb dL_law_39 (by rw [etv]; omega) (by rw [etv]; omega) (by rw [etv]; rfl) (by decide) ?_
          exact lc_length hfl C0 hL hK hT0 hj5 hI hR hP hD hS hl5 kn
        · refine lv_tableIn (off := 823) (tgt := 862) hx hb dL_law_39 (by rw [etv]; omega) (by rw [etv]; omega) (by rw [etv]; rfl) (by decide) ?_
          exact lc_tension hfl C0 hL hK hT0 hj5 hI hR hP hD hS hl5 kn
        · refine lv_tableIn (off := 891) (tgt := 930) hx hb dL_law_39 (by rw [etv]; omega) (by rw [etv]; omega) (by rw [etv]; rfl) (by decide) ?_
          exact lc_onBollard hfl C0 hL hK hT0 hj5 hI hR hP hD hS hl5 kn
        · refine lv_tableIn (off := 959) (tgt := 998) hx hb dL_law_39 (by rw [etv]; omega) (by rw [etv]; omega) (by rw [etv]; rfl) (by decide) ?_
          exact lc_isSafe hfl C0 hL hK hT0 hj5 hI hR hP hD hS hl5 kn
        · refine lv_tableIn (off := 1022) (tgt := 1061) hx hb dL_law_39 (by rw [etv]; omega) (by rw [etv]; omega) (by rw [etv]; rfl) (by decide) ?_
          exact lc_firstUnsafe hfl C0 hL hK hT0 hj5 hI hR hP hD hS hl5 kn
        · refine lv_tableIn (off := 1078) (tgt := 1117) hx hb dL_law_39 (by rw [etv]; omega) (by rw [etv]; omega) (by rw [etv]; rfl) (by decide) ?_
          exact lc_tend hfl C0 hL hK hT0 hj5 hI hR hP hD hS hl5 kn
        · refine lv_tableIn (off := 1158) (tgt := 1197) hx hb dL_law_39 (by rw [etv]; omega) (by rw [etv]; omega) (by rw [etv]; rfl) (by decide) ?_
          exact lc_tendAll hfl C0 hL hK hT0 hj5 hI hR hP hD hS hl5 kn
        · refine lv_tableIn (off := 1214) (tgt := 1253) hx hb dL_law_39 (by rw [etv]; omega) (by rw [etv]; omega) (by rw [etv]; rfl) (by decide) ?_
          exact lc_plan hfl C0 hL hK hT0 hj5 hI hR hP hD hS hl5 kn
set_option maxHeartbeats 4000000 in
set_option maxRecDepth 100000 in
theorem st_R {s : State} {args : Array Value} {k : Nat} {tx : String} (h1 : (Cond.stringRef RX0 k tx).before args s = true) (h2 : (Cond.exactly (Term.string RX0 k) "java/lang/String").before args s = true) : ∃ a, vk_R RX0 k tx a s := by
  obtain ⟨a, c, cell, k9, h3, -⟩ := Cond.exactly_spec (show (Cond.exactly (Term.string RX0 k) "java/lang/String").holds args s none s [] = true from h2)
  exact ⟨a, vk_R.of h1 h3⟩
set_option maxHeartbeats 4000000 in
set_option maxRecDepth 100000 in
theorem st_tp {s : State} {args : Array Value} (hts : ∀ w ∈ lw_tbl, w.before args s = true) (hgv : (Jvm.Cond.and given_1 narrow_1).before args s = true) : tpA (fun q : Nat => s.heap.size ≤ q) s.heap s := by
  have hs := flat_of_before _ hgv
  have hA : ∀ a : Nat, a < s.heap.size → ¬ (fun q : Nat => s.heap.size ≤ q) a := fun a h => Nat.not_le.mpr h
  have r64 := st_R (k := 64) (tx := "there are 6 bollards") (hts _ (by decide +kernel)) (hs _ (by decide +kernel))
  have r73 := st_R (k := 73) (tx := "there are 10 lines") (hts _ (by decide +kernel)) (hs _ (by decide +kernel))
  have r111 := st_R (k := 111) (tx := "the line is let go") (hts _ (by decide +kernel)) (hs _ (by decide +kernel))
  have r123 := st_R (k := 123) (tx := "the last hour is before the first") (hts _ (by decide +kernel)) (hs _ (by decide +kernel))
  have r137 := st_R (k := 137) (tx := "no such hour") (hts _ (by decide +kernel)) (hs _ (by decide +kernel))
  have r140 := st_R (k := 140) (tx := "no such bollard") (hts _ (by decide +kernel)) (hs _ (by decide +kernel))
  have r142 := st_R (k := 142) (tx := "no such line") (hts _ (by decide +kernel)) (hs _ (by decide +kernel))
  have r144 := st_R (k := 144) (tx := "out of range") (hts _ (by decide +kernel)) (hs _ (by decide +kernel))
  have c1 : va_Nw (.castable xE1 xE1) s := va_Nw.of rfl (hts _ (by decide +kernel))
  have c2 : va_Nw (.castable xE2 xE2) s := va_Nw.of rfl (hts _ (by decide +kernel))
  have c3 : va_Nw (.castable xE3 xE3) s := va_Nw.of rfl (hts _ (by decide +kernel))
  have d1 : va_Nw (.declares (Bundle.initS "java/lang/Throwable")) s := va_Nw.of rfl (hts _ (by decide +kernel))
  have d2 : va_Nw (.declares (Bundle.initS "java/lang/Exception")) s := va_Nw.of rfl (hts _ (by decide +kernel))
  have d3 : va_Nw (.declares (Bundle.initS "java/lang/RuntimeException")) s := va_Nw.of rfl (hts _ (by decide +kernel))
  have n1 : va_Nc xE2 xE1 s := va_Nc.of (hs _ (by decide +kernel))
  have n2 : va_Nc xE3 xE1 s := va_Nc.of (hs _ (by decide +kernel))
  have n3 : va_Nc xE1 xE2 s := va_Nc.of (hs _ (by decide +kernel))
  have n4 : va_Nc xE3 xE2 s := va_Nc.of (hs _ (by decide +kernel))
  have n5 : va_Nc xE1 xE3 s := va_Nc.of (hs _ (by decide +kernel))
  have n6 : va_Nc xE2 xE3 s := va_Nc.of (hs _ (by decide +kernel))
  have z1 : vx_Zq Bundle.tN "UNASSIGNED_STACK" Bundle.steD (fun q : Nat => s.heap.size ≤ q) s s.heap := vx_Zqof (hts _ (by decide +kernel)) (hts _ (by decide +kernel)) (hs _ (by decide +kernel)) hA
  have z2 : vx_Zq Bundle.tN "SUPPRESSED_SENTINEL" Bundle.listD (fun q : Nat => s.heap.size ≤ q) s s.heap := vx_Zqof (hts _ (by decide +kernel)) (hts _ (by decide +kernel)) (hs _ (by decide +kernel)) hA
  exact ⟨⟨z1, z2⟩, ⟨r64, r73, r111, r123⟩, ⟨r137, r140, r142, r144⟩, ⟨c1, c2, c3⟩, ⟨d1, d2, d3⟩, n1, n2, n3, n4, n5, n6⟩
set_option maxHeartbeats 4000000 in
set_option maxRecDepth 100000 in
theorem whole_start {p : Program} {e : Env} {s : State} {m : MethodId} {below : List Frame} {meth : Method} {c : Code} (l : Launch) (hflags : l.flags = flags0) {b L : Nat} {xs : Nat → Int32} (hL : L ≤ 2560) (C0 : lw_At p s m meth c b L xs) : W p l e room_1 s m #[Value.ref b] below meth c s.heap [] 0 0 (lw_Z below #[Value.ref b] s) (entryFrame m ([Value.ref b] : List Value).toArray 7) := by
  obtain ⟨hx, hb, hr, hml, hown, hts0, hX, hbl, hlocks, hgv⟩ := id C0
  have hfl : l.stackTraces = false := by
    show (!l.flags.contains noTraceFlag) = false
    rw [hflags]
    decide +kernel
  have hT0 := st_tp hts0 hgv
  have hown : s.vm.findClass RL = some m.cls := hown
  have hts : ∀ w ∈ wsL_law, w.before #[Value.ref b] s = true := fun w h => hts0 w (wsL_law_in w h)
  have hA : ∀ q : Nat, s.heap.size ≤ q → (fun q : Nat => s.heap.size ≤ q) q := fun _ h => h
  obtain ⟨k0, iS0, hKn0⟩ := u_known (C := RX0) (T := TX0) (N := 15) (n := 15) hts0 inX0 (hts (.instantiable RX0 15) (by decide +kernel))
  obtain ⟨k1, iS1, hKn1⟩ := u_known (C := RX1) (T := TX1) (N := 16) (n := 16) hts0 inX1 (hts (.instantiable RX1 16) (by decide +kernel))
  obtain ⟨D, hKc⟩ : ∃ D : va_G, ∀ (k : Nat) (q : vw_C), vwCl[k]? = some q → u_Kn s q.1 q.2.1 q.2.2 (D.1 k) (D.2 k) := by
    refine ⟨(fun k => if k = 0 then k0 else k1, fun k => if k = 0 then iS0 else iS1), ?_⟩
    intro k q hq
    match k, hq with
    | 0, hq => cases hq; exact hKn0
    | 1, hq => cases hq; exact hKn1
    | k + 2, hq => simp [vwCl] at hq
  have hS : va_S (fun q : Nat => s.heap.size ≤ q) s.heap s.heap [] := va_S.rf
  have hK : va_K D vwCl [] s := ⟨hKc, fun k q h => by simp at h⟩
  have hP : va_P D vwCl [] s.heap := fun k q h => by simp at h
  have hD : va_D (fun q : Nat => s.heap.size ≤ q) [] := ⟨fun i j p q h => by simp at h, fun k q h => by simp at h⟩
  have hl := lv_entry ([.ref b]) (n := 7) (Nat.le_of_ble_eq_true rfl)
  rw [lg_entry_eq]
  generalize (lg_sl ([.ref b]) ++ List.replicate (7 - (lg_sl ([.ref b])).length) Slot.unset).toArray = ls at hl ⊢
  have hl : lv_has ls 7 [(0, .ref b)] := hl
  refine va_new (ci := 0) (fs := [.null, .null, .null, .int 0, .int 0, .null, .null, .int 0, .null, .null, .null, .null, .null, .null, .null]) (C := RX0) (T := TX0) (N := 15) hx hb hts0 inX0 tyX0 tyX0_ok hown (hts (.classLink RL 8 RX0) (by decide +kernel)) (hts (.instantiable RX0 15) (by decide +kernel)) (hts (.initialized RX0) (by decide +kernel)) hK hP hD hS hA rfl (fun j hj => by rcases (show j = 0 ∨ j = 1 ∨ j = 2 ∨ j = 3 ∨ j = 4 ∨ j = 5 ∨ j = 6 ∨ j = 7 ∨ j = 8 ∨ j = 9 ∨ j = 10 ∨ j = 11 ∨ j = 12 ∨ j = 13 ∨ j = 14 by omega) with rfl | rfl | rfl | rfl | rfl | rfl | rfl | rfl | rfl | rfl | rfl | rfl | rfl | rfl | rfl <;> rfl) (Nat.le_of_ble_eq_true rfl) (Nat.le_of_ble_eq_true rfl) dL_law_0 (fun h H hP hD hS => ?_)
  have hP : va_P D vwCl [(h, .inr (0, [.null, .null, .null, .int 0, .int 0, .null, .null, .int 0, .null, .null, .null, .null, .null, .null, .null]))] H := hP
  have hD : va_D (fun q : Nat => s.heap.size ≤ q) [(h, .inr (0, [.null, .null, .null, .int 0, .int 0, .null, .null, .int 0, .null, .null, .null, .null, .null, .null, .null]))] := hD
  refine lv_dup hx hb dL_law_3 rfl ?_
  have hFc := va_free (wc := [(h, .inr (0, [.null, .null, .null, .int 0, .int 0, .null, .null, .int 0, .null, .null, .null, .null, .null, .null, .null]))]) hD hS hA [0] rfl
  refine va_callv (va_runI (As := []) (rest := [.ref h]) ⟨hx, hb, hml, hown, hts⟩ (c_X0_init l D h H.size) (cwI 0 hts gL_law_X0_init rfl rfl rfl (hts (.initialized RX0) (by decide +kernel)) (hts (.methodLink RL 74 yX0_init) (by decide +kernel)) (hts (.instanceMethod yX0_init) (by decide +kernel)) rfl (by decide +kernel) ⟨Nat.le_of_ble_eq_true rfl, Nat.le_of_ble_eq_true rfl⟩) ⟨fun a U g mk q => by obtain ⟨q0, q1, qP, qK, qD⟩ := q; exact ⟨q0, q1, qP, va_K.moved (u := U) (U := U.calling g mk a) (Vm.Alike.refl U.vm) qK, qD⟩, fun U hU hW => ⟨rfl, by rw [hU], by rw [hU]; exact hP, va_K.moved hW.alike hK, hD.weaken (fun _ _ _ _ => trivial)⟩⟩ rfl rfl hl.1 rfl (lv_room (Nat.le_of_ble_eq_true rfl)) dL_law_4 ⟨Nat.le_of_ble_eq_true rfl, Nat.le_of_ble_eq_true rfl⟩) hS (fun q _ h => hFc q h) hFc (fun u t H1 locs ht hvm hw hB hz1 hk1 hS => ?_)
  obtain ⟨cI, cZ, a⟩ := u
  obtain ⟨hP1, hK1, hD1⟩ := hB
  rw [ht] at hP1
  have hKX : va_K D vwCl (tyX cI cZ) s := va_K.moved hvm.symm hK1
  have hPX : va_P D vwCl (xw cI cZ h a (fun _ _ => 0)) H1 := hP1
  have hDX : va_D (fun q : Nat => s.heap.size ≤ q) (xw cI cZ h a (fun _ _ => 0)) := hD1.weaken (fun _ _ _ h => hFc _ h)
  refine lv_astore_n (lv' := [(1, .ref h), (0, .ref b)]) hx hb dL_law_7 rfl hl (by decide) rfl (fun ls hl => ?_)
  refine va_new (ci := 1) (fs := [.null, .null, .int 0, .null, .null, .null, .null, .null, .null, .int 0, .null, .null, .null, .int 0, .null, .int 0]) (C := RX1) (T := TX1) (N := 16) hx hb hts0 inX1 tyX1 tyX1_ok hown (hts (.classLink RL 75 RX1) (by decide +kernel)) (hts (.instantiable RX1 16) (by decide +kernel)) (hts (.initialized RX1) (by decide +kernel)) hKX hPX hDX hS hA rfl (fun j hj => by rcases (show j = 0 ∨ j = 1 ∨ j = 2 ∨ j = 3 ∨ j = 4 ∨ j = 5 ∨ j = 6 ∨ j = 7 ∨ j = 8 ∨ j = 9 ∨ j = 10 ∨ j = 11 ∨ j = 12 ∨ j = 13 ∨ j = 14 ∨ j = 15 by omega) with rfl | rfl | rfl | rfl | rfl | rfl | rfl | rfl | rfl | rfl | rfl | rfl | rfl | rfl | rfl | rfl <;> rfl) (Nat.le_of_ble_eq_true rfl) (Nat.le_of_ble_eq_true rfl) dL_law_8 (fun h2 H hP hD hS => ?_)
  have hP : va_P D vwCl (xw cI cZ h a (fun _ _ => 0) ++ [(h2, .inr (1, [.null, .null, .int 0, .null, .null, .null, .null, .null, .null, .int 0, .null, .null, .null, .int 0, .null, .int 0]))]) H := hP
  have hD : va_D (fun q : Nat => s.heap.size ≤ q) (xw cI cZ h a (fun _ _ => 0) ++ [(h2, .inr (1, [.null, .null, .int 0, .null, .null, .null, .null, .null, .null, .int 0, .null, .null, .null, .int 0, .null, .int 0]))]) := hD
  refine lv_dup hx hb dL_law_11 rfl ?_
  have hPX := va_P_l hP
  have hPm := va_P_r hP
  have hDm := va_D_r hD
  have hK0 : va_K D vwCl [] s := hKX.sub [] rfl
  have hFm : ∀ q, va_A [(h2, .inr (1, [.null, .null, .int 0, .null, .null, .null, .null, .null, .null, .int 0, .null, .null, .null, .int 0, .null, .int 0]))] H.size q → s.heap.size ≤ q := by
    intro q hq
    rcases hq with ⟨k, e, hk⟩ | hq
    · exact (hDm.2 k _ hk).1
    · exact Nat.le_trans hS.1 hq
  have hNm : ∀ q, q < H.size → va_A [(h2, .inr (1, [.null, .null, .int 0, .null, .null, .null, .null, .null, .null, .int 0, .null, .null, .null, .int 0, .null, .int 0]))] H.size q → ¬ ∃ (k : Nat) (p : Nat × va_E), (xw cI cZ h a (fun _ _ => 0))[k]? = some p ∧ p.1 = q := by
    intro q hq1 hq
    rcases hq with ⟨k, e, hk⟩ | hq
    · rintro ⟨i, p, hp, hpq⟩; exact (hDm.2 k _ hk).2 i p hp hpq
    · exact absurd hq (Nat.not_le.mpr hq1)
  refine va_callv (va_runI (As := []) (rest := [.ref h2]) ⟨hx, hb, hml, hown, hts⟩ (c_X1_init l D h2 H.size) (cwI 0 hts gL_law_X1_init rfl rfl rfl (hts (.initialized RX1) (by decide +kernel)) (hts (.methodLink RL 77 yX1_init) (by decide +kernel)) (hts (.instanceMethod yX1_init) (by decide +kernel)) rfl (by decide +kernel) ⟨Nat.le_of_ble_eq_true rfl, Nat.le_of_ble_eq_true rfl⟩) ⟨fun a U g mk q => by obtain ⟨q0, q1, qP, qK, qD⟩ := q; exact ⟨q0, q1, qP, va_K.moved (u := U) (U := U.calling g mk a) (Vm.Alike.refl U.vm) qK, qD⟩, fun U hU hW => ⟨rfl, by rw [hU], by rw [hU]; exact hPm, va_K.moved hW.alike hK0, hDm.weaken (fun _ _ _ _ => trivial)⟩⟩ rfl rfl hl.1 rfl (lv_room (Nat.le_of_ble_eq_true rfl)) dL_law_12 ⟨Nat.le_of_ble_eq_true rfl, Nat.le_of_ble_eq_true rfl⟩) hS (fun q _ h => hFm q h) hFm (fun u t H2 locs ht hvm hw hB hz2 hk2 hS => ?_)
  obtain ⟨cI2, cZ2, a2⟩ := u
  obtain ⟨hP2, hK2, hD2⟩ := hB
  rw [ht] at hP2
  have hKM : va_K D vwCl (tyX cI2 cZ2) s := va_K.moved hvm.symm hK2
  have hKXM := hKX.app hKM
  obtain rfl : cI = cI2 := va_sameI hKXM 0 2 rfl rfl
  obtain rfl : cZ = cZ2 := Option.some.inj ((show s.vm.findClass _ = some cZ from (hKXM.2 1 _ rfl).2).symm.trans (show s.vm.findClass _ = some cZ2 from (hKXM.2 3 _ rfl).2))
  have hPX : va_P D vwCl (xw cI cZ h a (fun _ _ => 0)) H2 := hPX.kept (fun k q hq => hk2 q.1 (hPX k q hq).lt (fun w => hNm q.1 (hPX k q hq).lt w ⟨k, q, hq, rfl⟩))
  have hPM : va_P D vwCl (mw cI cZ h2 a2 (fun _ _ => 0)) H2 := hP2
  have hDXM : va_D (fun q : Nat => s.heap.size ≤ q) (xw cI cZ h a (fun _ _ => 0) ++ mw cI cZ h2 a2 (fun _ _ => 0)) := by
    refine va_D.app hDX (hD2.weaken (fun k q _ h => hFm q.1 h)) (fun i j x y hx9 hy9 hxy => ?_)
    rcases hD2.2 j y hy9 with ⟨k, e9, hk⟩ | hq
    · exact (hDm.2 k _ hk).2 i x hx9 hxy
    · have h9 := (va_P_l hP i x hx9).lt
      rw [hxy] at h9
      exact absurd hq (Nat.not_le.mpr h9)
  refine lv_astore_n (lv' := [(2, .ref h2), (1, .ref h), (0, .ref b)]) hx hb dL_law_15 rfl hl (by decide) rfl (fun ls hl => ?_)
  refine lv_iconst (v := 1) hx hb dL_law_16 (by decide) ?_
  have hPA := va_P.app hPX hPM
  refine va_newa (atype := .long) (ty := .long) (N' := 1) (a0 := (1, .inr (.inl (fun _ => 0)))) hx hb (hts (.arrayClass .long) (by decide +kernel)) rfl hKX hPA hDXM hS hA (fun _ => rfl) (by decide) (by decide) (by decide) (Nat.le_of_ble_eq_true rfl) (Nat.le_of_ble_eq_true rfl) dL_law_17 (fun o cJ H hK hP hD hS => ?_)
  have hK : va_K D vwCl (tyL cI cZ cJ) s := hK
  have hPo := va_P_r hP
  have hPX := va_P_l (va_P_l hP)
  have hPM := va_P_r (va_P_l hP)
  have hPG : va_P D vwCl (gw cI cZ cJ h a (fun _ _ => 0) o (fun _ => 0) h2 a2 (fun _ _ => 0)) H := va_P.app (va_P.app hPX hPo) hPM
  have hDG : va_D (fun q : Nat => s.heap.size ≤ q) (gw cI cZ cJ h a (fun _ _ => 0) o (fun _ => 0) h2 a2 (fun _ _ => 0)) := hD.sub [0, 1, 2, 3, 4, 5, 6, 7, 8, 9, 10, 11, 12, 26, 13, 14, 15, 16, 17, 18, 19, 20, 21, 22, 23, 24, 25] (by decide) rfl
  refine lv_astore_n (lv' := [(3, .ref o), (2, .ref h2), (1, .ref h), (0, .ref b)]) hx hb dL_law_19 rfl hl (by decide) rfl (fun ls hl => ?_)
  refine lv_iconst (v := 0) hx hb dL_law_20 (by decide) ?_
  refine lv_istore (lv' := [(4, .int 0), (3, .ref o), (2, .ref h2), (1, .ref h), (0, .ref b)]) hx hb dL_law_21 hl (by decide) rfl (fun ls hl => ?_)
  refine W.widen (k := 27) (n := 484) (by omega) (by omega) ?_
  have hI : inv (fun _ _ => 0) 0 0 := ⟨rfl, by omega, rfl, by omega, fun t _ => by show -200 ≤ (0 : Int32).toInt ∧ _; rw [show (0 : Int32).toInt = 0 from rfl]; omega, fun b hb => absurd hb (Nat.not_lt_zero b), fun j hj => absurd hj (Nat.not_lt_zero j)⟩
  have hR : rel (fun _ _ => 0) (fun _ _ => 0) 0 := ⟨⟨rfl, rfl, rfl, rfl, rfl, rfl, rfl, rfl⟩, ⟨rfl, rfl, rfl, rfl⟩, fun j hj => absurd hj (Nat.not_lt_zero j), fun j hj => absurd hj (Nat.not_lt_zero j), fun _ _ => rfl⟩
  exact law_loop hfl C0 hL hK hT0 rfl 514 0 (fun _ _ => 0) (fun _ _ => 0) (fun _ => 0) 0 0 H _ ls rfl (Nat.zero_le L) hI hR hPG hDG hS (lv_sub hl [4, 3, 2, 1, 0] rfl)
