/-! THE REFERENCE'S WORDS, as numbers: V its villages, P its debts, f a row of what stands (now, tried) -/
def mFo (V : Int → Int) (x v : Int) : Int := if V (5 * v) < x then x - V (5 * v) else 0
def mLow (a b : Int) : Int := if a < b then a else b
def mHigh (a b : Int) : Int := if a < b then b else a
def mMid (V : Int → Int) (v : Int) : Int :=
  if V (5 * v + 3) < mLow (V (5 * v + 1)) (V (5 * v + 2)) then mLow (V (5 * v + 1)) (V (5 * v + 2))
  else if mHigh (V (5 * v + 1)) (V (5 * v + 2)) < V (5 * v + 3) then mHigh (V (5 * v + 1)) (V (5 * v + 2)) else V (5 * v + 3)
def mFall (V : Int → Int) (x v : Int) : Prop := 0 < mFo V x v ∧ mMid V v ≤ mFo V x v
def mFallI (V : Int → Int) (x v : Int) : Int := if 0 < mFo V x v ∧ mMid V v ≤ mFo V x v then 1 else 0
theorem mFallI_t {V : Int → Int} {x v : Int} (h : mFall V x v) : mFallI V x v = 1 := if_pos h
theorem mFallI_f {V : Int → Int} {x v : Int} (h : ¬ mFall V x v) : mFallI V x v = 0 := if_neg h
theorem mFallI_r {V : Int → Int} {x v : Int} : 0 ≤ mFallI V x v ∧ mFallI V x v ≤ 1 := by
  unfold mFallI
  split <;> omega
def mPole (f : Int → Int) (v : Int) : Int := if f (1 + 3 * v) - f (1 + 3 * v + 1) < 0 then 0 else f (1 + 3 * v) - f (1 + 3 * v + 1)
def mAge (V f : Int → Int) (q : Int) : Int := f (13 + 2 * q + 1) / V (5 * f (13 + 2 * q) + 4)
def mSince (P f : Int → Int) (d : Int) : Int := if f (25 + 2 * d) = 0 then 0 else f (1 + 3 * P (2 * d) + 2) - f (25 + 2 * d + 1)
def mDue (P f : Int → Int) (d : Int) : Prop := 0 < f (25 + 2 * d) ∧ f (25 + 2 * d) ≤ mSince P f d
def mDueB (P f : Int → Int) (d : Int) : Int := if 0 < f (25 + 2 * d) ∧ f (25 + 2 * d) ≤ mSince P f d then iShl 1 d else 0
def mDueIn (P f : Int → Int) : Nat → Int
  | 0 => 0
  | n + 1 => iOr (mDueIn P f n) (mDueB P f (n : Int))
theorem mFo_r {V : Int → Int} {x v : Int} (h : ∀ k, 0 ≤ V k ∧ V k ≤ 40) (hx : -1000 ≤ x ∧ x ≤ 1000) : 0 ≤ mFo V x v ∧ mFo V x v ≤ 1000 := by
  have h1 := h (5 * v)
  unfold mFo
  split <;> omega
theorem mFo_40 {V : Int → Int} {x v : Int} (h : ∀ k, 0 ≤ V k ∧ V k ≤ 40) (hx : -1000 ≤ x ∧ x ≤ 40) : 0 ≤ mFo V x v ∧ mFo V x v ≤ 40 := by
  have h1 := h (5 * v)
  unfold mFo
  split <;> omega
theorem mMid_r {V : Int → Int} {v : Int} (h : ∀ k, 0 ≤ V k ∧ V k ≤ 40) : 0 ≤ mMid V v ∧ mMid V v ≤ 40 := by
  have h1 := h (5 * v + 1)
  have h2 := h (5 * v + 2)
  have h3 := h (5 * v + 3)
  unfold mMid mLow mHigh
  repeat' split
  all_goals omega
theorem mSince_r {P f : Int → Int} {d : Int} (h : ∀ k, 0 ≤ f k ∧ f k ≤ 900000) : -900000 ≤ mSince P f d ∧ mSince P f d ≤ 900000 := by
  have h1 := h (1 + 3 * P (2 * d) + 2)
  have h2 := h (25 + 2 * d + 1)
  unfold mSince
  split <;> omega
theorem mPole_r {f : Int → Int} {v : Int} (h : ∀ k, 0 ≤ f k ∧ f k ≤ 900000) : 0 ≤ mPole f v ∧ mPole f v ≤ 900000 := by
  have h1 := h (1 + 3 * v)
  have h2 := h (1 + 3 * v + 1)
  unfold mPole
  split <;> omega
theorem mAge_r {V f : Int → Int} {q : Int} (h : ∀ k, 0 ≤ f k ∧ f k ≤ 900000) (hy : 0 < V (5 * f (13 + 2 * q) + 4)) : 0 ≤ mAge V f q ∧ mAge V f q ≤ 900000 := by
  have h1 := h (13 + 2 * q + 1)
  unfold mAge
  refine ⟨Int.ediv_nonneg h1.1 (by omega), ?_⟩
  exact Int.le_trans (Int.ediv_le_self _ h1.1) h1.2
theorem mDueIn_r (P f : Int → Int) (n : Nat) : -2147483648 ≤ mDueIn P f n ∧ mDueIn P f n ≤ 2147483647 := by
  cases n with
  | zero =>
    show (-2147483648 : Int) ≤ 0 ∧ (0 : Int) ≤ 2147483647
    omega
  | succ n => exact iOr_r _ _
/-- a stretch of one row laid into another -/
def cpI (f g : Int → Int) (x y n : Int) : Int → Int := fun k => if y ≤ k ∧ k < y + n then f (x + (k - y)) else g k
theorem cpI_0 {f g : Int → Int} {x y : Int} : cpI f g x y 0 = g := by
  funext k
  unfold cpI
  rw [if_neg (by omega)]
theorem cpI_s {f g : Int → Int} {x y n : Int} (hn : 0 ≤ n) : up1 (cpI f g x y n) (y + n) (f (x + n)) = cpI f g x y (n + 1) := by
  funext k
  unfold cpI up1
  by_cases h : k = y + n
  · subst h
    rw [if_pos rfl, if_pos (by omega)]
    congr 1
    omega
  · rw [if_neg h]
    show (if y ≤ k ∧ k < y + n then f (x + (k - y)) else g k) = _
    by_cases h2 : y ≤ k ∧ k < y + n
    · rw [if_pos h2, if_pos (by omega)]
    · rw [if_neg h2, if_neg (by omega)]
theorem stA_id {A : Nat → Int → Int} {j : Nat} : stA A j (A j) = A := by
  funext i
  by_cases h : i = j
  · subst h; exact stA_s
  · exact stA_n h
theorem stA_2 {A : Nat → Int → Int} {j : Nat} {f g : Int → Int} : stA (stA A j f) j g = stA A j g := by
  funext i
  by_cases h : i = j
  · subst h; rw [stA_s, stA_s]
  · rw [stA_n h, stA_n h, stA_n h]
theorem st2_A {A : Nat → Int → Int} {j : Nat} {f : Int → Int} {k v : Int} : st2 (stA A j f) j k v = stA A j (up1 f k v) := by
  unfold st2
  rw [stA_2, stA_s]
