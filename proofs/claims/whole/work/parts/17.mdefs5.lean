def mNightR (A : Nat → Int → Int) (n : Int) : Int := if mBar A n = 0 then mNgt A n 0 else mBar A n
def mNightI (I : Nat → Int) (A : Nat → Int → Int) (n : Int) : Nat → Int := if mBar A n = 0 then ndI I else I
def mNightA (I : Nat → Int) (A : Nat → Int → Int) (n : Int) : Nat → Int → Int := if mBar A n = 0 then stA (ndA I A) 11 (mNgt A n) else A
theorem mBar_r (A : Nat → Int → Int) (n : Int) : -2147483648 ≤ mBar A n ∧ mBar A n ≤ 2147483647 := by
  unfold mBar
  repeat' split
  all_goals omega
theorem mBar_0 {A : Nat → Int → Int} {n : Int} (h : mBar A n = 0) : (1 ≤ n ∧ n ≤ 60) ∧ 0 < A 1 0 ∧ A 11 0 ≤ 9000 := by
  unfold mBar at h
  repeat' split at h
  all_goals omega
def mMoveP (A : Nat → Int → Int) (q v : Int) : Prop := (0 ≤ q ∧ q < A 1 2) ∧ (0 ≤ v ∧ v < A 1 1)
def mMoveR (A : Nat → Int → Int) (q v : Int) : Int := if (0 ≤ q ∧ q < A 1 2) ∧ (0 ≤ v ∧ v < A 1 1) then mAge (A 3) (up1 (A 11) (13 + 2 * q) v) q else -1000000001
def mMoveI (I : Nat → Int) (A : Nat → Int → Int) (q v : Int) : Nat → Int := if (0 ≤ q ∧ q < A 1 2) ∧ (0 ≤ v ∧ v < A 1 1) then ndI I else I
def mMoveA (I : Nat → Int) (A : Nat → Int → Int) (q v : Int) : Nat → Int → Int := if (0 ≤ q ∧ q < A 1 2) ∧ (0 ≤ v ∧ v < A 1 1) then stA (ndA I A) 11 (up1 (A 11) (13 + 2 * q) v) else A
def mSawF (A : Nat → Int → Int) (v k : Int) : Int → Int := up1 (A 11) (1 + 3 * v + 1) (A 11 (1 + 3 * v + 1) + k)
def mSawR (A : Nat → Int → Int) (v k : Int) : Int := if 0 ≤ v ∧ v < A 1 1 then (if 1 ≤ k ∧ k ≤ 99 then mPole (mSawF A v k) v else -1000000002) else -1000000001
def mSawI (I : Nat → Int) (A : Nat → Int → Int) (v k : Int) : Nat → Int := if 0 ≤ v ∧ v < A 1 1 then (if 1 ≤ k ∧ k ≤ 99 then ndI I else I) else I
def mSawA (I : Nat → Int) (A : Nat → Int → Int) (v k : Int) : Nat → Int → Int := if 0 ≤ v ∧ v < A 1 1 then (if 1 ≤ k ∧ k ≤ 99 then stA (ndA I A) 11 (mSawF A v k) else A) else A
def mPayF (A : Nat → Int → Int) (d : Int) : Int → Int := up1 (up1 (A 11) (25 + 2 * d) 0) (25 + 2 * d + 1) 0
def mDueQ (A : Nat → Int → Int) (d : Int) : Prop := 0 < A 11 (25 + 2 * d) ∧ A 11 (25 + 2 * d) ≤ mSince (A 5) (A 11) d
def mPayR (A : Nat → Int → Int) (d : Int) : Int := if 0 ≤ d ∧ d < A 1 3 then (if 0 < A 11 (25 + 2 * d) ∧ A 11 (25 + 2 * d) ≤ mSince (A 5) (A 11) d then mSince (A 5) (A 11) d else -1000000003) else -1000000001
def mPayI (I : Nat → Int) (A : Nat → Int → Int) (d : Int) : Nat → Int := if 0 ≤ d ∧ d < A 1 3 then (if 0 < A 11 (25 + 2 * d) ∧ A 11 (25 + 2 * d) ≤ mSince (A 5) (A 11) d then ndI I else I) else I
def mPayA (I : Nat → Int) (A : Nat → Int → Int) (d : Int) : Nat → Int → Int := if 0 ≤ d ∧ d < A 1 3 then (if 0 < A 11 (25 + 2 * d) ∧ A 11 (25 + 2 * d) ≤ mSince (A 5) (A 11) d then stA (ndA I A) 11 (mPayF A d) else A) else A
def mLendF (A : Nat → Int → Int) (d x : Int) : Int → Int := up1 (up1 (A 11) (25 + 2 * d) x) (25 + 2 * d + 1) (A 11 (1 + 3 * A 5 (2 * d) + 2))
def mOpen (f : Int → Int) (n : Nat) : Int := fld (fun a k => iOr a (if 0 < f (25 + 2 * k) then iShl 1 k else 0)) 0 n
def mLendR (A : Nat → Int → Int) (d x : Int) : Int := if 0 ≤ d ∧ d < A 1 3 then (if 1 ≤ x ∧ x ≤ 999 then (if A 11 (25 + 2 * d) = 0 then mOpen (mLendF A d x) (A 1 3).toNat else -1000000003) else -1000000002) else -1000000001
def mLendI (I : Nat → Int) (A : Nat → Int → Int) (d x : Int) : Nat → Int := if 0 ≤ d ∧ d < A 1 3 then (if 1 ≤ x ∧ x ≤ 999 then (if A 11 (25 + 2 * d) = 0 then ndI I else I) else I) else I
def mLendA (I : Nat → Int) (A : Nat → Int → Int) (d x : Int) : Nat → Int → Int := if 0 ≤ d ∧ d < A 1 3 then (if 1 ≤ x ∧ x ≤ 999 then (if A 11 (25 + 2 * d) = 0 then stA (ndA I A) 11 (mLendF A d x) else A) else A) else A
def mSayR (I : Nat → Int) (A : Nat → Int → Int) (q x : Int) : Int := if 0 ≤ q ∧ q < A 1 2 then (if 0 ≤ x ∧ x ≤ 9999 then (if I 4 = 6 then -1000000004 else I 4 + 1) else -1000000002) else -1000000001
def mSayI (I : Nat → Int) (A : Nat → Int → Int) (q x : Int) : Nat → Int := if 0 ≤ q ∧ q < A 1 2 then (if 0 ≤ x ∧ x ≤ 9999 then (if I 4 = 6 then I else st1 I 4 (I 4 + 1)) else I) else I
def mSayA (I : Nat → Int) (A : Nat → Int → Int) (q x : Int) : Nat → Int → Int := if 0 ≤ q ∧ q < A 1 2 then (if 0 ≤ x ∧ x ≤ 9999 then (if I 4 = 6 then A else st2 (st2 A 16 (2 * I 4) q) 16 (2 * I 4 + 1) x) else A) else A
def mWrR (I : Nat → Int) (A : Nat → Int → Int) (q x : Int) : Int := if 0 ≤ q ∧ q < A 1 1 then (if 0 ≤ x ∧ x ≤ 9999 then (if I 5 = 15 then -1000000004 else I 5 + 1) else -1000000002) else -1000000001
def mWrI (I : Nat → Int) (A : Nat → Int → Int) (q x : Int) : Nat → Int := if 0 ≤ q ∧ q < A 1 1 then (if 0 ≤ x ∧ x ≤ 9999 then (if I 5 = 15 then I else st1 I 5 (I 5 + 1)) else I) else I
def mWrA (I : Nat → Int) (A : Nat → Int → Int) (q x : Int) : Nat → Int → Int := if 0 ≤ q ∧ q < A 1 1 then (if 0 ≤ x ∧ x ≤ 9999 then (if I 5 = 15 then A else st2 (st2 A 17 (2 * I 5) q) 17 (2 * I 5 + 1) x) else A) else A
/-- the first entry from k on that is wrong, of n more -/
def mJud (f B : Int → Int) (k : Int) : Nat → Int
  | 0 => -1
  | n + 1 => if mPole f (B (2 * k)) = B (2 * k + 1) then mJud f B (k + 1) n else k
def mOldR (A : Nat → Int → Int) (q n : Int) : Int := if 0 ≤ q ∧ q < A 1 2 then (if 0 ≤ n ∧ n ≤ 200 then mAge (A 3) (mTry A 0 n) q else -1000000002) else -1000000001
def mMildR (A : Nat → Int → Int) (q m n : Int) : Int := if 0 ≤ q ∧ q < A 1 2 then (if (0 ≤ m ∧ m ≤ 40) ∧ (0 ≤ n ∧ n ≤ 200) then mAge (A 3) (mTry A 0 n) q - mAge (A 3) (mTry A m n) q else -1000000002) else -1000000001
def mMilDR (A : Nat → Int → Int) (m n : Int) : Int := if (0 ≤ m ∧ m ≤ 40) ∧ (0 ≤ n ∧ n ≤ 200) then (if 0 < A 1 0 then iAnd (mDues (A 5) (mTry A 0 n) (A 1 3).toNat) (iXor (mDues (A 5) (mTry A m n) (A 1 3).toNat) (-1)) else 0) else -1000000002
def mOlderR (A : Nat → Int → Int) (q v : Int) : Int := if (0 ≤ q ∧ q < A 1 2) ∧ (0 ≤ v ∧ v < A 1 1) then A 11 (13 + 2 * q + 1) / A 3 (5 * v + 4) - mAge (A 3) (A 11) q + 1000 else -1000000001
/-- the first night from k on, of n more, at whose beginning a debt is due -/
def mDueT (A : Nat → Int → Int) (d : Int) (k : Int) : Nat → Int
  | 0 => -1
  | n + 1 => if 0 < mTry A 0 k (25 + 2 * d) ∧ mTry A 0 k (25 + 2 * d) ≤ mSince (A 5) (mTry A 0 k) d then k else mDueT A d (k + 1) n
def mDueR (A : Nat → Int → Int) (d : Int) : Int := if 0 ≤ d ∧ d < A 1 3 then (if A 11 (25 + 2 * d) = 0 then -1000000003 else mDueT A d 0 201) else -1000000001
def mFeaT (A : Nat → Int → Int) (v u : Int) (k : Int) : Nat → Int
  | 0 => -1
  | n + 1 => if mPole (mTry A 0 k) v % A 3 (5 * v + 4) = mPole (mTry A 0 k) u % A 3 (5 * u + 4) then k else mFeaT A v u (k + 1) n
def mFeaR (A : Nat → Int → Int) (v u : Int) : Int := if (0 ≤ v ∧ v < A 1 1) ∧ (0 ≤ u ∧ u < A 1 1) ∧ v ≠ u then mFeaT A v u 0 201 else -1000000001
theorem rOk_try {A : Nat → Int → Int} {m n : Int} (hok : mOk A) (hr : rOk (A 1 1) (A 1 2) (A 11) 500000) (hm : 0 ≤ m) (hn : n ≤ 300) : rOk (A 1 1) (A 1 2) (mTry A m n) 900000 := by
  obtain ⟨hV, hWn, hl0, hl1, hl2, hl3, hY, hPl, hPe⟩ := hok
  exact rOk_w (rOk_go n.toNat hl1.2 hV hWn hm (by omega) hr) (by omega)
theorem rOk_ngt {A : Nat → Int → Int} {n : Int} (hok : mOk A) (hr : rOk (A 1 1) (A 1 2) (A 11) 500000) (hn : n ≤ 300) : rOk (A 1 1) (A 1 2) (mNgt A n) 900000 := rOk_try (m := 0) hok hr (by decide) hn
theorem mTry_0 {A : Nat → Int → Int} {m : Int} : mTry A m 0 = A 11 := rfl
theorem mTry_s {A : Nat → Int → Int} {m k : Int} (h : 0 ≤ k) : mTry A m (k + 1) = mPass (A 3) (mTry A m k) (mIn (A 2) (mTry A m k 0) (A 1 0) m) (A 1 1) (A 1 2) := mGo_s h
