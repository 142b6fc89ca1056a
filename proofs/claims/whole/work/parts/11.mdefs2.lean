def fld {σ : Type} (g : σ → Int → σ) (z : σ) : Nat → σ
  | 0 => z
  | n + 1 => g (fld g z n) (n : Int)
theorem fld_s {σ : Type} {g : σ → Int → σ} {z : σ} {k : Int} (h : 0 ≤ k) : fld g z (k + 1).toNat = g (fld g z k.toNat) k := by
  rw [show (k + 1).toNat = k.toNat + 1 by omega]
  show g (fld g z k.toNat) ((k.toNat : Nat) : Int) = _
  rw [Int.toNat_of_nonneg h]
theorem mW_c {E : Ev} {I1 I2 : Nat → Int} {A1 A2 : Nat → Int → Int} (h1 : I1 = I2) (h2 : A1 = A2) : mW E I1 A1 = mW E I2 A2 := by rw [h1, h2]
theorem st1_2 {I : Nat → Int} {k : Nat} {a b : Int} : st1 (st1 I k a) k b = st1 I k b := by
  funext i
  by_cases h : i = k
  · subst h; rw [st1_s, st1_s]
  · rw [st1_n h, st1_n h, st1_n h]
theorem mDueB_t {P f : Int → Int} {d : Int} (h : mDue P f d) : mDueB P f d = iShl 1 d := if_pos h
theorem mDueB_f {P f : Int → Int} {d : Int} (h : ¬ mDue P f d) : mDueB P f d = 0 := if_neg h
def mDues (P f : Int → Int) (n : Nat) : Int := fld (fun a d => iOr a (mDueB P f d)) 0 n
theorem mDues_r (P f : Int → Int) (n : Nat) : -2147483648 ≤ mDues P f n ∧ mDues P f n ≤ 2147483647 := by
  cases n with
  | zero =>
    show (-2147483648 : Int) ≤ 0 ∧ (0 : Int) ≤ 2147483647
    omega
  | succ n => exact iOr_r _ _
def mGr (V : Int → Int) (x : Int) (n : Nat) : Int := fld (fun b v => if b = 0 then 0 else 1 - mFallI V x v) 1 n
def mGreen (V Wn : Int → Int) (nv n : Nat) : Int := fld (fun a k => iOr a (if mGr V (Wn k) nv = 0 then 0 else iShl 1 k)) 0 n
/-- what is noted of the past -/
def mNote (P f : Int → Int) (d : Int) : Int → Int := if d = 20 then cpI f (cpI P P 35 0 665) 0 (35 * 19) 35 else cpI f P 0 (35 * d) 35
/-- a night of x inches -/
def mPsP (V f : Int → Int) (x q : Int) : Int → Int := fun k => if 13 ≤ k ∧ k < 13 + 2 * q ∧ k % 2 = 0 then f k + mFallI V x (f (k - 1)) else f k
def mPsV (V f : Int → Int) (x np v : Int) : Int → Int := fun k =>
  if 1 ≤ k ∧ k < 1 + 3 * v ∧ k % 3 = 1 then f k + mFallI V x ((k - 1) / 3)
  else if 1 ≤ k ∧ k < 1 + 3 * v ∧ k % 3 = 0 then (if 999999 < f k + mFo V x ((k - 3) / 3) then 999999 else f k + mFo V x ((k - 3) / 3))
  else mPsP V f x np k
def mPass (V f : Int → Int) (x nv np : Int) : Int → Int := up1 (mPsV V f x np nv) 0 (f 0 + 1)
theorem mPsP_0 {V f : Int → Int} {x : Int} : mPsP V f x 0 = f := by
  funext k
  unfold mPsP
  rw [if_neg (by omega)]
theorem mPsP_old {V f : Int → Int} {x q k : Int} (h : 13 + 2 * q ≤ k ∨ k < 13 ∨ k % 2 = 1) : mPsP V f x q k = f k := by
  unfold mPsP
  rw [if_neg (by omega)]
theorem mPsP_s {V f : Int → Int} {x q : Int} (hq : 0 ≤ q) : up1 (mPsP V f x q) (13 + 2 * q + 1) (f (13 + 2 * q + 1) + mFallI V x (f (13 + 2 * q))) = mPsP V f x (q + 1) := by
  funext k
  by_cases h : k = 13 + 2 * q + 1
  · subst h
    rw [up1_s]
    unfold mPsP
    rw [if_pos (by omega)]
    congr 3
    omega
  · rw [up1_n h]
    unfold mPsP
    by_cases h2 : 13 ≤ k ∧ k < 13 + 2 * q ∧ k % 2 = 0
    · rw [if_pos h2, if_pos (by omega)]
    · rw [if_neg h2, if_neg (by omega)]
theorem mPsV_a {V f : Int → Int} {x np v k : Int} (h : 1 ≤ k ∧ k < 1 + 3 * v ∧ k % 3 = 1) : mPsV V f x np v k = f k + mFallI V x ((k - 1) / 3) := if_pos h
theorem mPsV_b {V f : Int → Int} {x np v k : Int} (h : 1 ≤ k ∧ k < 1 + 3 * v ∧ k % 3 = 0) : mPsV V f x np v k = if 999999 < f k + mFo V x ((k - 3) / 3) then 999999 else f k + mFo V x ((k - 3) / 3) := by
  have h1 : ¬ (1 ≤ k ∧ k < 1 + 3 * v ∧ k % 3 = 1) := by omega
  unfold mPsV
  rw [if_neg h1, if_pos h]
theorem mPsV_c {V f : Int → Int} {x np v k : Int} (h : 1 + 3 * v ≤ k ∨ k < 1 ∨ k % 3 = 2) : mPsV V f x np v k = mPsP V f x np k := by
  have h1 : ¬ (1 ≤ k ∧ k < 1 + 3 * v ∧ k % 3 = 1) := by omega
  have h2 : ¬ (1 ≤ k ∧ k < 1 + 3 * v ∧ k % 3 = 0) := by omega
  unfold mPsV
  rw [if_neg h1, if_neg h2]
theorem mPsV_0 {V f : Int → Int} {x np : Int} : mPsV V f x np 0 = mPsP V f x np := by
  funext k
  exact mPsV_c (by omega)
theorem mPsV_old {V f : Int → Int} {x np v k : Int} (h : 1 + 3 * v ≤ k ∨ k < 1 ∨ k % 3 = 2) (hk : k < 13) : mPsV V f x np v k = f k := by
  rw [mPsV_c h, mPsP_old (by omega)]
theorem mPsV_s {V f : Int → Int} {x np v : Int} (hv : 0 ≤ v) (h4 : v < 4) : up1 (up1 (mPsV V f x np v) (1 + 3 * v) (f (1 + 3 * v) + mFallI V x v)) (1 + 3 * v + 2) (if 999999 < f (1 + 3 * v + 2) + mFo V x v then 999999 else f (1 + 3 * v + 2) + mFo V x v) = mPsV V f x np (v + 1) := by
  funext k
  by_cases h : k = 1 + 3 * v + 2
  · subst h
    rw [up1_s, mPsV_b (by omega), show (1 + 3 * v + 2 - 3) / 3 = v by omega]
  · rw [up1_n h]
    by_cases h1 : k = 1 + 3 * v
    · subst h1
      rw [up1_s, mPsV_a (by omega), show (1 + 3 * v - 1) / 3 = v by omega]
    · rw [up1_n h1]
      by_cases h2 : 1 ≤ k ∧ k < 1 + 3 * v ∧ k % 3 = 1
      · rw [mPsV_a h2, mPsV_a (by omega)]
      · by_cases h3 : 1 ≤ k ∧ k < 1 + 3 * v ∧ k % 3 = 0
        · rw [mPsV_b h3, mPsV_b (by omega)]
        · rw [mPsV_c (by omega), mPsV_c (by omega)]
/-- what the tale holds lies in its bounds -/
def mOk (A : Nat → Int → Int) : Prop := (∀ k, 0 ≤ A 3 k ∧ A 3 k ≤ 40) ∧ (∀ k, 0 ≤ A 2 k ∧ A 2 k ≤ 40) ∧ (0 ≤ A 1 0 ∧ A 1 0 ≤ 20) ∧ (0 ≤ A 1 1 ∧ A 1 1 ≤ 4) ∧ (0 ≤ A 1 2 ∧ A 1 2 ≤ 6) ∧ (0 ≤ A 1 3 ∧ A 1 3 ≤ 5) ∧ (∀ v, 0 ≤ v ∧ v < A 1 1 → 0 < A 3 (5 * v + 4)) ∧ (∀ d, 0 ≤ d ∧ d < A 1 3 → 0 ≤ A 5 (2 * d) ∧ A 5 (2 * d) < A 1 1) ∧ (∀ k, 0 ≤ A 4 k ∧ A 4 k ≤ 999)
theorem mOk_st {A : Nat → Int → Int} {j : Nat} {f : Int → Int} (hj : 5 < j) (h : mOk A) : mOk (stA A j f) := by
  unfold mOk
  rw [stA_n (show (1 : Nat) ≠ j by omega), stA_n (show (2 : Nat) ≠ j by omega), stA_n (show (3 : Nat) ≠ j by omega), stA_n (show (4 : Nat) ≠ j by omega), stA_n (show (5 : Nat) ≠ j by omega)]
  exact h
/-- a row of what stands: its numbers lie in 0 .. B, its homes are villages -/
def rOk (nv np : Int) (f : Int → Int) (B : Int) : Prop := (∀ k, 0 ≤ f k ∧ f k ≤ B) ∧ ∀ q, 0 ≤ q ∧ q < np → f (13 + 2 * q) < nv
theorem rOk_w {nv np B C : Int} {f : Int → Int} (h : rOk nv np f B) (hc : B ≤ C) : rOk nv np f C := ⟨fun k => by have := h.1 k; omega, h.2⟩
theorem rOk_pass {V f : Int → Int} {x nv np B : Int} (h4 : nv ≤ 4) (hV : ∀ k, 0 ≤ V k ∧ V k ≤ 40) (hx : 0 ≤ x ∧ x ≤ 40) (hB : B ≤ 900000) (h : rOk nv np f B) : rOk nv np (mPass V f x nv np) (B + 40) := by
  refine ⟨fun k => ?_, fun q hq => ?_⟩
  · have h1 := h.1 k
    have h0 := h.1 0
    unfold mPass up1
    split
    · omega
    · unfold mPsV
      split
      · have := mFallI_r (V := V) (x := x) (v := (k - 1) / 3)
        omega
      · split
        · have := mFo_40 (V := V) (x := x) (v := (k - 3) / 3) hV (by omega)
          split <;> omega
        · unfold mPsP
          split
          · have := mFallI_r (V := V) (x := x) (v := f (k - 1))
            omega
          · omega
  · have h2 := h.2 q hq
    unfold mPass
    by_cases h3 : nv ≤ 4
    · rw [up1_n (by omega), mPsV_c (by omega), mPsP_old (by omega)]
      exact h2
    · omega
