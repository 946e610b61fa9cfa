/-! The law's own words: its rows beside a state of MoorWatch, and what its numbers are. -/
abbrev tyI (cI : ClassId) : List (ClassId × FieldType) := [(cI, .int)]
abbrev lw3 (cI : ClassId) (ab al am : Nat) (bf lf mf : Nat → Int32) : va_W := [(ab, .inl (cI, 8, .inl bf)), (al, .inl (cI, 36, .inl lf)), (am, .inl (cI, 3, .inl mf))]
/-- the law's rows b, l, m say what the state σ says -/
def lrel (σ : St) (nL nB : Nat) (bf lf mf : Nat → Int32) : Prop := (nL ≤ 6 ∧ nB ≤ 4) ∧ (mf 0 = nI nB ∧ mf 1 = nI nL ∧ mf 2 = σ 3 0) ∧ (∀ k, k < nB → bf (2 * k) = σ 5 k ∧ bf (2 * k + 1) = σ 6 k) ∧ (∀ j, j < nL → (∃ k, k < nB ∧ lf (6 * j + 1) = nI k ∧ σ 8 j = nI k ∧ σ 9 j = bf (2 * k) - lf (6 * j)) ∧ lf (6 * j + 2) = σ 10 j ∧ lf (6 * j + 3) = σ 11 j ∧ lf (6 * j + 4) = σ 12 j ∧ ((lf (6 * j + 5) = 0 ∧ σ 13 j = 1) ∨ (lf (6 * j + 5) = 1 ∧ σ 13 j = 0)))
theorem i64n {x : Int64} (h1 : -1000000000000 ≤ x.toInt) (h2 : x.toInt ≤ 1000000000000) : (-x).toInt = -x.toInt := by
  have q : -Int64.ofInt x.toInt = Int64.ofInt (-x.toInt) := Int64.neg_ofInt
  rw [Int64.ofInt_toInt] at q
  rw [q]
  exact Int64.toInt_ofInt_of_le (by omega) (by omega)
theorem i64_0 : (0 : Int64).toInt = 0 := rfl
theorem abs_div {M S : Int64} (h1 : -1000000000000 ≤ M.toInt) (h2 : M.toInt ≤ 1000000000000) (hM : M < 0) (hS : 0 < S.toInt) : -(-M / S) = M / S := by
  have e1 : M.toInt < 0 := by have := Int64.lt_iff_toInt_lt.mp hM; rwa [i64_0] at this
  have hne : S ≠ -1 := fun q => by rw [q] at hS; exact absurd hS (by decide)
  have e2 : (-M).toInt = -M.toInt := i64n h1 h2
  have e3 : (-M / S).toInt = (-M.toInt) / S.toInt := by rw [Int64.toInt_div_of_ne_right _ _ hne, e2, Int.tdiv_eq_ediv_of_nonneg (by omega)]
  have e4 : (M / S).toInt = -((-M.toInt) / S.toInt) := by
    rw [Int64.toInt_div_of_ne_right _ _ hne, show M.toInt = -(-M.toInt) by omega, Int.neg_tdiv, Int.tdiv_eq_ediv_of_nonneg (by omega), Int.neg_neg]
  have b1 : 0 ≤ (-M.toInt) / S.toInt := Int.ediv_nonneg (by omega) (by omega)
  have b2 : (-M.toInt) / S.toInt ≤ -M.toInt := Int.ediv_le_self _ (by omega)
  apply Int64.toInt_inj.mp
  rw [i64n (by rw [e3]; omega) (by rw [e3]; omega), e3, e4]
theorem long_lq {x y : Int32} (h1 : 0 ≤ x.toInt ∧ x.toInt ≤ 1022400) (h2 : 1 ≤ y.toInt ∧ y.toInt ≤ 1000000) : ((11 : Int64) * y.toInt64 < (20 : Int64) * x.toInt64) ↔ ¬ x * 100 ≤ y * 55 := by
  have e1 : (11 : Int64).toInt = 11 := rfl
  have e2 : (20 : Int64).toInt = 20 := rfl
  have e3 : (100 : Int32).toInt = 100 := rfl
  have e4 : (55 : Int32).toInt = 55 := rfl
  have a1 : ((11 : Int64) * y.toInt64).toInt = 11 * y.toInt := by rw [Jvm.Kit.i64_mul (by rw [e1, Int32.toInt_toInt64]; omega) (by rw [e1, Int32.toInt_toInt64]; omega), e1, Int32.toInt_toInt64]
  have a2 : ((20 : Int64) * x.toInt64).toInt = 20 * x.toInt := by rw [Jvm.Kit.i64_mul (by rw [e2, Int32.toInt_toInt64]; omega) (by rw [e2, Int32.toInt_toInt64]; omega), e2, Int32.toInt_toInt64]
  have a3 : (x * 100).toInt = x.toInt * 100 := by rw [Jvm.Kit.i32_mul (by rw [e3]; omega) (by rw [e3]; omega), e3]
  have a4 : (y * 55).toInt = y.toInt * 55 := by rw [Jvm.Kit.i32_mul (by rw [e4]; omega) (by rw [e4]; omega), e4]
  rw [Int64.lt_iff_toInt_lt, i_le, a1, a2, a3, a4]
  omega
theorem add64 (x y : Int32) : (x.toInt64 + y.toInt64).toInt32 = x + y := by rw [Int64.toInt32_add, Int32.toInt32_toInt64, Int32.toInt32_toInt64]
/-- the law's square of a way and a height, as a long -/
theorem sq64 {x y : Int32} (hx : inA x) (hy : inH y) : x.toInt64 * x.toInt64 + y.toInt64 * y.toInt64 = lN (sq2 x y) := by
  obtain ⟨a1, a2⟩ := sq_le hx.1 hx.2
  obtain ⟨b1, b2⟩ := sq_le hy.1 hy.2
  obtain ⟨c1, c2⟩ := sq2_le hx hy
  have e1 : (x.toInt64 * x.toInt64).toInt = x.toInt * x.toInt := by rw [Jvm.Kit.i64_mul (by rw [Int32.toInt_toInt64]; omega) (by rw [Int32.toInt_toInt64]; omega), Int32.toInt_toInt64]
  have e2 : (y.toInt64 * y.toInt64).toInt = y.toInt * y.toInt := by rw [Jvm.Kit.i64_mul (by rw [Int32.toInt_toInt64]; omega) (by rw [Int32.toInt_toInt64]; omega), Int32.toInt_toInt64]
  apply Int64.toInt_inj.mp
  rw [Jvm.Kit.i64_add (by omega) (by omega), e1, e2, pk_lT (by omega), c2]
theorem lrel_ln {σ : St} {nL nB : Nat} {bf lf mf : Nat → Int32} (hR : lrel σ nL nB bf lf mf) {j : Nat} (hj : j < nL) : ∃ k, k < 4 ∧ lf (6 * j + 1) = nI k ∧ ∀ s, bf (2 * k) - lf (6 * j) - s = σ 9 j - s := by
  obtain ⟨⟨h1, h2⟩, -, -, h3⟩ := hR
  obtain ⟨⟨k, hk, e1, e2, e3⟩, -⟩ := h3 j hj
  exact ⟨k, by omega, e1, fun s => by rw [e3]⟩
theorem inR_mk {v lo hi : Int32} {x y : Int} (hx : lo.toInt = x) (hy : hi.toInt = y) (h1 : x ≤ v.toInt) (h2 : v.toInt ≤ y) : inR v lo hi = true := inR_t (fun q => by have := i_lt.mp q; omega) (fun q => by have := i_lt.mp q; omega)
/-- a halving by >> -/
theorem zI_shr {z : Int} (h1 : -1000 ≤ z) (h2 : z ≤ 1000) : zI z >>> (1 &&& 31) = zI (z / 2) := by
  have e := pk_shr (zI z) (1 &&& 31) 1 (by decide)
  rw [zI_ti (by omega) (by omega)] at e
  apply zI_of
  rw [e, Int.shiftRight_eq_div_pow]
  rfl
theorem allB_mono {f : Nat → Bool} {k n : Nat} (h : allB f k = false) (hkn : k ≤ n) : allB f n = false := by
  induction n with
  | zero => have e : k = 0 := by omega
            rw [e] at h; exact h
  | succ n ih =>
    rcases Nat.lt_or_ge n k with q | q
    · have e : k = n + 1 := by omega
      rw [e] at h; exact h
    · show (allB f n && f n) = false
      rw [ih q]; rfl
