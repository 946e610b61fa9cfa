/-! Numbers and what the berth answers, as functions of its state (no machine here). -/
def zI (z : Int) : Int32 := Int32.ofInt z
theorem zI_ti {z : Int} (h1 : -2147483648 ≤ z) (h2 : z < 2147483648) : (zI z).toInt = z := Int32.toInt_ofInt_of_le (by omega) (by omega)
theorem zI_of {x : Int32} {z : Int} (h : x.toInt = z) : x = zI z := by
  have h1 := Int32.toInt_lt x
  have h2 := Int32.le_toInt x
  apply Int32.toInt_inj.mp
  rw [zI_ti (by omega) (by omega)]
  exact h
theorem nI_zI (n : Nat) : nI n = zI (n : Int) := (Int32.ofInt_eq_ofNat).symm
theorem nI_ti {n : Nat} (h : n < 2147483648) : (nI n).toInt = (n : Int) := nI_toInt (by omega)
theorem ti_nI {x : Int32} {n : Nat} (h : x.toInt = (n : Int)) : x = nI n := by
  rw [nI_zI]; exact zI_of h
theorem i_lt {x y : Int32} : x < y ↔ x.toInt < y.toInt := Int32.lt_iff_toInt_lt
theorem i_le {x y : Int32} : x ≤ y ↔ x.toInt ≤ y.toInt := Int32.le_iff_toInt_le
theorem i_eq {x y : Int32} : x = y ↔ x.toInt = y.toInt := Int32.toInt_inj.symm
theorem zI_add (a b : Int) : zI a + zI b = zI (a + b) := by
  apply Int32.toInt_inj.mp
  simp [zI]
theorem zI_sub (a b : Int) : zI a - zI b = zI (a - b) := by
  apply Int32.toInt_inj.mp
  simp [zI]
theorem zI_lt {a b : Int} (h1 : -2147483648 ≤ a) (h2 : a < 2147483648) (h3 : -2147483648 ≤ b) (h4 : b < 2147483648) : zI a < zI b ↔ a < b := by
  rw [i_lt, zI_ti h1 h2, zI_ti h3 h4]
theorem zI_le {a b : Int} (h1 : -2147483648 ≤ a) (h2 : a < 2147483648) (h3 : -2147483648 ≤ b) (h4 : b < 2147483648) : zI a ≤ zI b ↔ a ≤ b := by
  rw [i_le, zI_ti h1 h2, zI_ti h3 h4]
/-- the greatest whole number whose square is at most N -/
def isq : Nat → Nat
  | 0 => 0
  | n + 1 => if (isq n + 1) * (isq n + 1) ≤ n + 1 then isq n + 1 else isq n
theorem isq_spec : ∀ n : Nat, isq n * isq n ≤ n ∧ n < (isq n + 1) * (isq n + 1) := by
  intro n
  induction n with
  | zero => exact ⟨Nat.le_refl 0, Nat.zero_lt_one⟩
  | succ n ih =>
    obtain ⟨h1, h2⟩ := ih
    unfold isq
    by_cases h : (isq n + 1) * (isq n + 1) ≤ n + 1
    · rw [if_pos h]
      refine ⟨h, ?_⟩
      have e : (isq n + 1 + 1) * (isq n + 1 + 1) = (isq n + 1) * (isq n + 1) + 2 * (isq n + 1) + 1 := by
        rw [Nat.add_mul, Nat.mul_add]; omega
      omega
    · rw [if_neg h]
      exact ⟨by omega, by omega⟩
theorem isq_uniq {n r : Nat} (h1 : r * r ≤ n) (h2 : n < (r + 1) * (r + 1)) : isq n = r := by
  obtain ⟨a1, a2⟩ := isq_spec n
  rcases Nat.lt_trichotomy (isq n) r with h | h | h
  · have := Nat.mul_le_mul (show isq n + 1 ≤ r from h) (show isq n + 1 ≤ r from h)
    omega
  · exact h
  · have := Nat.mul_le_mul (show r + 1 ≤ isq n from h) (show r + 1 ≤ isq n from h)
    omega
theorem isq_le {n k : Nat} (h : n < (k + 1) * (k + 1)) : isq n ≤ k := by
  obtain ⟨a1, a2⟩ := isq_spec n
  rcases Nat.lt_or_ge k (isq n) with q | q
  · have := Nat.mul_le_mul (show k + 1 ≤ isq n from q) (show k + 1 ≤ isq n from q)
    omega
  · exact q
def sq2 (x y : Int32) : Nat := (x.toInt * x.toInt + y.toInt * y.toInt).toNat
def LENs (x y : Int32) : Int32 := nI (isq (sq2 x y))
theorem sq_le {a b : Int} (h1 : -b ≤ a) (h2 : a ≤ b) : 0 ≤ a * a ∧ a * a ≤ b * b := by
  have h3 := Int.mul_nonneg (show 0 ≤ b - a by omega) (show 0 ≤ b + a by omega)
  have e : (b - a) * (b + a) = b * b - a * a := by
    rw [Int.sub_mul, Int.mul_add, Int.mul_add, Int.mul_comm a b]; omega
  have h4 : 0 ≤ a * a := by
    rcases Int.le_total 0 a with q | q
    · exact Int.mul_nonneg q q
    · have := Int.mul_nonneg (show 0 ≤ -a by omega) (show 0 ≤ -a by omega)
      rwa [Int.neg_mul_neg] at this
  omega
/-- along and height as far as they can be -/
def inA (x : Int32) : Prop := -10200 ≤ x.toInt ∧ x.toInt ≤ 10200
def inH (y : Int32) : Prop := -700 ≤ y.toInt ∧ y.toInt ≤ 700
theorem sq2_le {x y : Int32} (hx : inA x) (hy : inH y) : sq2 x y ≤ 104530000 ∧ (sq2 x y : Int) = x.toInt * x.toInt + y.toInt * y.toInt := by
  obtain ⟨a1, a2⟩ := sq_le hx.1 hx.2
  obtain ⟨b1, b2⟩ := sq_le hy.1 hy.2
  unfold sq2
  omega
theorem sq2_eq {x y : Int32} (hx : inA x) (hy : inH y) : x * x + y * y = nI (sq2 x y) := by
  obtain ⟨a1, a2⟩ := sq_le hx.1 hx.2
  obtain ⟨b1, b2⟩ := sq_le hy.1 hy.2
  obtain ⟨c1, c2⟩ := sq2_le hx hy
  apply ti_nI
  have e1 : (x * x).toInt = x.toInt * x.toInt := Jvm.Kit.i32_mul (by omega) (by omega)
  have e2 : (y * y).toInt = y.toInt * y.toInt := Jvm.Kit.i32_mul (by omega) (by omega)
  rw [Jvm.Kit.i32_add (by omega) (by omega), e1, e2, c2]
theorem LENs_le {x y : Int32} (hx : inA x) (hy : inH y) : ∃ n : Nat, LENs x y = nI n ∧ n ≤ 10224 := by
  obtain ⟨c1, c2⟩ := sq2_le hx hy
  exact ⟨_, rfl, isq_le (by omega)⟩
/-- sums from left to right -/
def acc (f : Nat → Int32) (b : Int32) : Nat → Int32
  | 0 => b
  | n + 1 => acc f b n + f n
theorem acc_congr {f g : Nat → Int32} {b : Int32} : ∀ n : Nat, (∀ j, j < n → f j = g j) → acc f b n = acc g b n := by
  intro n
  induction n with
  | zero => intro _; rfl
  | succ n ih =>
    intro h
    show acc f b n + f n = acc g b n + g n
    rw [ih (fun j hj => h j (by omega)), h n (by omega)]
def allB (f : Nat → Bool) : Nat → Bool
  | 0 => true
  | n + 1 => allB f n && f n
theorem allB_congr {f g : Nat → Bool} : ∀ n : Nat, (∀ j, j < n → f j = g j) → allB f n = allB g n := by
  intro n
  induction n with
  | zero => intro _; rfl
  | succ n ih =>
    intro h
    show (allB f n && f n) = (allB g n && g n)
    rw [ih (fun j hj => h j (by omega)), h n (by omega)]
theorem allB_false {f : Nat → Bool} {j : Nat} (hj : f j = false) : ∀ n : Nat, j < n → allB f n = false := by
  intro n
  induction n with
  | zero => intro h; exact absurd h (Nat.not_lt_zero j)
  | succ n ih =>
    intro h
    show (allB f n && f n) = false
    rcases Nat.lt_or_ge j n with q | q
    · rw [ih q]; rfl
    · have e : j = n := by omega
      rw [← e, hj, Bool.and_false]
/-- halving -/
def bis (F : Int → Bool) : Nat → Int → Int → Int
  | 0, lo, _ => lo
  | n + 1, lo, hi => if lo < hi then (if F ((lo + hi) / 2) then bis F n ((lo + hi) / 2 + 1) hi else bis F n lo ((lo + hi) / 2)) else lo
theorem bis_in {F : Int → Bool} : ∀ (n : Nat) (lo hi : Int), lo ≤ hi → lo ≤ bis F n lo hi ∧ bis F n lo hi ≤ hi := by
  intro n
  induction n with
  | zero => intro lo hi h; exact ⟨Int.le_refl _, h⟩
  | succ n ih =>
    intro lo hi h
    unfold bis
    by_cases q : lo < hi
    · rw [if_pos q]
      by_cases w : F ((lo + hi) / 2) = true
      · rw [if_pos w]
        have := ih ((lo + hi) / 2 + 1) hi (by omega)
        omega
      · rw [if_neg w]
        have := ih lo ((lo + hi) / 2) (by omega)
        omega
    · rw [if_neg q]
      omega
theorem bis_end {F : Int → Bool} {n : Nat} {lo hi : Int} (h : ¬ lo < hi) : bis F n lo hi = lo := by
  cases n with
  | zero => rfl
  | succ n => unfold bis; rw [if_neg h]
theorem bis_up {F : Int → Bool} {n : Nat} {lo hi : Int} (h : lo < hi) (w : F ((lo + hi) / 2) = true) : bis F (n + 1) lo hi = bis F n ((lo + hi) / 2 + 1) hi := by
  show (if lo < hi then (if F ((lo + hi) / 2) then bis F n ((lo + hi) / 2 + 1) hi else bis F n lo ((lo + hi) / 2)) else lo) = _
  rw [if_pos h, if_pos w]
theorem bis_dn {F : Int → Bool} {n : Nat} {lo hi : Int} (h : lo < hi) (w : ¬ F ((lo + hi) / 2) = true) : bis F (n + 1) lo hi = bis F n lo ((lo + hi) / 2) := by
  show (if lo < hi then (if F ((lo + hi) / 2) then bis F n ((lo + hi) / 2 + 1) hi else bis F n lo ((lo + hi) / 2)) else lo) = _
  rw [if_pos h, if_neg w]
/-- a state: each field of MoorWatch by its number; a number stands at place 0 -/
abbrev St : Type := Nat → Nat → Int32
def st (σ : St) (k : Nat) (f : Nat → Int32) : St := fun j => cond (Nat.beq j k) f (σ j)
def ht (σ : St) (t : Nat) : Int32 := 300 + σ 0 t + σ 1 t
def len_ (σ : St) (j t : Nat) (s : Int32) : Int32 := LENs (σ 9 j - s) (ht σ t)
def tens_ (σ : St) (j : Nat) (L : Int32) : Int32 := if σ 13 j = 0 then 0 else σ 10 j * (if 0 < L - σ 12 j then L - σ 12 j else 0)
def tn_ (σ : St) (j t : Nat) (s : Int32) : Int32 := tens_ σ j (len_ σ j t s)
def pull_ (σ : St) (j t : Nat) (s : Int32) : Int32 := if len_ σ j t s ≤ 0 then 0 else ((tn_ σ j t s).toInt64 * (σ 9 j - s).toInt64 / (len_ σ j t s).toInt64).toInt32
def nL_ (σ : St) : Nat := (σ 7 0).toNatClampNeg
def nB_ (σ : St) : Nat := (σ 4 0).toNatClampNeg
def frc (σ : St) (t : Nat) (s : Int32) : Int32 := acc (fun j => pull_ σ j t s) (σ 3 0 + σ 2 t) (nL_ σ)
def balZ (σ : St) (t : Nat) : Int := bis (fun z => decide (0 < frc σ t (zI z))) 401 (-200) 200
def bal (σ : St) (t : Nat) : Int32 := zI (balZ σ t)
def drfW (σ : St) (t : Nat) (s : Int32) : Bool := (decide (s = 200) && decide (0 < frc σ t s)) || (decide (s = -200) && decide (frc σ t s < 0))
def lnH (σ : St) (t : Nat) (s : Int32) : Bool := allB (fun j => decide (tn_ σ j t s * 100 ≤ σ 11 j * 55)) (nL_ σ)
def sumOn_ (σ : St) (b : Int32) (t : Nat) (s : Int32) : Int32 := acc (fun j => if σ 8 j = b then tn_ σ j t s else 0) 0 (nL_ σ)
def blH (σ : St) (t : Nat) (s : Int32) : Bool := allB (fun k => decide (sumOn_ σ (nI k) t s ≤ σ 6 k)) (nB_ σ)
def safeW (σ : St) (t : Nat) (s : Int32) : Bool := !drfW σ t s && (lnH σ t s && blH σ t s)
def safe_ (σ : St) (t : Nat) : Bool := safeW σ t (bal σ t)
/-- the set lengths when n lines have been tended -/
def tdS (σ : St) (t : Nat) (s : Int32) : Nat → Nat → Int32
  | 0 => σ 12
  | n + 1 => if σ 13 n = 0 then tdS σ t s n else upd (tdS σ t s n) n (len_ σ n t s)
def tdC (σ : St) (t : Nat) (s : Int32) : Nat → Int32 := acc (fun j => if σ 13 j = 0 then 0 else if len_ σ j t s = σ 12 j then 0 else 1) 0
def tnd (σ : St) (t : Nat) : St := st σ 12 (tdS σ t (bal σ t) (nL_ σ))
def plR : Nat → St → Nat → Nat → Int32
  | 0, _, _, c => nI c
  | n + 1, σ, t, c => if safe_ σ t then plR n σ (t + 1) c else if safe_ (tnd σ t) t then plR n (tnd σ t) (t + 1) (c + 1) else -1
theorem bal_in (σ : St) (t : Nat) : -200 ≤ balZ σ t ∧ balZ σ t ≤ 200 := bis_in 401 (-200) 200 (by omega)
theorem bal_ti (σ : St) (t : Nat) : (bal σ t).toInt = balZ σ t := zI_ti (by have := bal_in σ t; omega) (by have := bal_in σ t; omega)
theorem tdS_hi {σ : St} {t : Nat} {s : Int32} : ∀ (n j : Nat), n ≤ j → tdS σ t s n j = σ 12 j := by
  intro n
  induction n with
  | zero => intro j _; rfl
  | succ n ih =>
    intro j hj
    unfold tdS
    by_cases q : σ 13 n = 0
    · rw [if_pos q]; exact ih j (by omega)
    · rw [if_neg q]
      show upd (tdS σ t s n) n (len_ σ n t s) j = σ 12 j
      unfold upd
      rw [if_neg (by omega)]
      exact ih j (by omega)
theorem tdS_lo {σ : St} {t : Nat} {s : Int32} : ∀ (n j : Nat), j < n → tdS σ t s n j = if σ 13 j = 0 then σ 12 j else len_ σ j t s := by
  intro n
  induction n with
  | zero => intro j h; exact absurd h (Nat.not_lt_zero j)
  | succ n ih =>
    intro j hj
    unfold tdS
    rcases Nat.lt_or_ge j n with q | q
    · by_cases w : σ 13 n = 0
      · rw [if_pos w]; exact ih j q
      · rw [if_neg w]
        show upd (tdS σ t s n) n (len_ σ n t s) j = _
        unfold upd
        rw [if_neg (by omega)]
        exact ih j q
    · have e : j = n := by omega
      subst e
      by_cases w : σ 13 j = 0
      · rw [if_pos w, if_pos w]; exact tdS_hi j j (Nat.le_refl j)
      · rw [if_neg w, if_neg w]
        show upd (tdS σ t s j) j (len_ σ j t s) j = _
        unfold upd
        rw [if_pos rfl]
/-- what holds of every state that calls can make; nL lines, nB bollards -/
def inv (σ : St) (nL nB : Nat) : Prop := σ 7 0 = nI nL ∧ nL ≤ 10 ∧ σ 4 0 = nI nB ∧ nB ≤ 6 ∧ (∀ t, t < 48 → -200 ≤ (σ 0 t).toInt ∧ (σ 0 t).toInt ≤ 200 ∧ -200 ≤ (σ 1 t).toInt ∧ (σ 1 t).toInt ≤ 200) ∧ (∀ b, b < nB → -5000 ≤ (σ 5 b).toInt ∧ (σ 5 b).toInt ≤ 5000) ∧ (∀ j, j < nL → (∃ b, b < nB ∧ σ 8 j = nI b) ∧ (-10000 ≤ (σ 9 j).toInt ∧ (σ 9 j).toInt ≤ 10000) ∧ (1 ≤ (σ 10 j).toInt ∧ (σ 10 j).toInt ≤ 100) ∧ (1 ≤ (σ 11 j).toInt ∧ (σ 11 j).toInt ≤ 1000000) ∧ (0 ≤ (σ 12 j).toInt ∧ (σ 12 j).toInt ≤ 20000) ∧ (σ 13 j = 0 ∨ σ 13 j = 1))
def inS (s : Int32) : Prop := -200 ≤ s.toInt ∧ s.toInt ≤ 200
theorem inv_nL {σ : St} {nL nB : Nat} (h : inv σ nL nB) : nL_ σ = nL := by unfold nL_; rw [h.1]; exact nI_clamp (by have := h.2.1; omega)
theorem inv_nB {σ : St} {nL nB : Nat} (h : inv σ nL nB) : nB_ σ = nB := by unfold nB_; rw [h.2.2.1]; exact nI_clamp (by have := h.2.2.2.1; omega)
theorem inv_ht {σ : St} {nL nB : Nat} (h : inv σ nL nB) {t : Nat} (ht48 : t < 48) : inH (ht σ t) := by
  obtain ⟨a1, a2, a3, a4⟩ := h.2.2.2.2.1 t ht48
  have e0 : (300 : Int32).toInt = 300 := rfl
  have e1 : ((300 : Int32) + σ 0 t).toInt = 300 + (σ 0 t).toInt := by rw [Jvm.Kit.i32_add (by omega) (by omega), e0]
  have e2 : (ht σ t).toInt = 300 + (σ 0 t).toInt + (σ 1 t).toInt := by unfold ht; rw [Jvm.Kit.i32_add (by omega) (by omega), e1]
  exact ⟨by omega, by omega⟩
theorem inv_al {σ : St} {nL nB : Nat} (h : inv σ nL nB) {j : Nat} (hj : j < nL) {s : Int32} (hs : inS s) : inA (σ 9 j - s) := by
  obtain ⟨-, ⟨a1, a2⟩, -⟩ := h.2.2.2.2.2.2 j hj
  obtain ⟨b1, b2⟩ := hs
  have e : (σ 9 j - s).toInt = (σ 9 j).toInt - s.toInt := Jvm.Kit.i32_sub (by omega) (by omega)
  exact ⟨by omega, by omega⟩
theorem inv_len {σ : St} {nL nB : Nat} (h : inv σ nL nB) {j : Nat} (hj : j < nL) {t : Nat} (ht48 : t < 48) {s : Int32} (hs : inS s) : ∃ n : Nat, len_ σ j t s = nI n ∧ n ≤ 10224 := LENs_le (inv_al h hj hs) (inv_ht h ht48)
theorem bal_inS (σ : St) (t : Nat) : inS (bal σ t) := by
  have := bal_in σ t
  have e := bal_ti σ t
  exact ⟨by omega, by omega⟩
/-- a tension is from 0 to 1022400 -/
theorem inv_tn {σ : St} {nL nB : Nat} (h : inv σ nL nB) {j : Nat} (hj : j < nL) {t : Nat} (ht48 : t < 48) {s : Int32} (hs : inS s) : 0 ≤ (tn_ σ j t s).toInt ∧ (tn_ σ j t s).toInt ≤ 1022400 := by
  obtain ⟨n, e, hn⟩ := inv_len h hj ht48 hs
  obtain ⟨-, -, ⟨k1, k2⟩, -, ⟨z1, z2⟩, -⟩ := h.2.2.2.2.2.2 j hj
  have en : (nI n).toInt = (n : Int) := nI_ti (by omega)
  unfold tn_ tens_
  rw [e]
  have e0 : (0 : Int32).toInt = 0 := rfl
  by_cases q : σ 13 j = 0
  · rw [if_pos q, e0]; omega
  · rw [if_neg q]
    have ed : (nI n - σ 12 j).toInt = (n : Int) - (σ 12 j).toInt := by rw [Jvm.Kit.i32_sub (by omega) (by omega), en]
    by_cases w : 0 < nI n - σ 12 j
    · rw [if_pos w]
      have w1 : 0 < (nI n - σ 12 j).toInt := by have := i_lt.mp w; rwa [e0] at this
      have m1 : 0 ≤ (σ 10 j).toInt * (nI n - σ 12 j).toInt := Int.mul_nonneg (by omega) (by omega)
      have m2 : (σ 10 j).toInt * (nI n - σ 12 j).toInt ≤ 100 * 10224 := Int.mul_le_mul k2 (by omega) (by omega) (by omega)
      rw [Jvm.Kit.i32_mul (by omega) (by omega)]
      omega
    · rw [if_neg w]
      have em : (σ 10 j * 0).toInt = (σ 10 j).toInt * (0 : Int32).toInt := Jvm.Kit.i32_mul (by rw [e0]; omega) (by rw [e0]; omega)
      rw [em, e0]
      omega
