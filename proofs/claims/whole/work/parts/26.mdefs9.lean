def mx0 (z : Int) : Int := if z < 0 then 0 else z
theorem mx0_r (z : Int) : 0 ≤ mx0 z ∧ z ≤ mx0 z ∧ (mx0 z = 0 ∨ mx0 z = z) := by
  unfold mx0
  split <;> omega
def mDepJ (V Wn : Int → Int) (pl : Int) (g : Int → Int) (k s : Int) (n : Nat) : Int → Int := fld (fun g j => if 0 < s then up1 g (mx0 (k - mFo V (Wn j) pl)) (g (mx0 (k - mFo V (Wn j) pl)) + s) else g) g n
theorem mDepJ_s {V Wn : Int → Int} {pl : Int} {g : Int → Int} {k s j : Int} (h : 0 ≤ j) (hs : 0 < s) : mDepJ V Wn pl g k s (j + 1).toNat = up1 (mDepJ V Wn pl g k s j.toNat) (mx0 (k - mFo V (Wn j) pl)) (mDepJ V Wn pl g k s j.toNat (mx0 (k - mFo V (Wn j) pl)) + s) := by
  refine (fld_s (g := fun (g : Int → Int) j => if 0 < s then up1 g (mx0 (k - mFo V (Wn j) pl)) (g (mx0 (k - mFo V (Wn j) pl)) + s) else g) (z := g) h).trans ?_
  rw [if_pos hs]
  rfl
theorem mDepJ_0 {V Wn : Int → Int} {pl : Int} {g : Int → Int} {k s : Int} (n : Nat) (hs : s ≤ 0) : mDepJ V Wn pl g k s n = g := by
  induction n with
  | zero => rfl
  | succ n ih =>
    show (if 0 < s then _ else mDepJ V Wn pl g k s n) = g
    rw [if_neg (by omega), ih]
def mDepK (V Wn : Int → Int) (pl l : Int) (h : Int → Int) (n : Nat) : Int → Int := fld (fun g i => mDepJ V Wn pl g (i + 1) (iDv (h (i + 1)) l) l.toNat) (fun t => if t = 0 then h 0 else 0) n
theorem mDepK_s {V Wn h : Int → Int} {pl l k : Int} (hk : 1 ≤ k) : mDepK V Wn pl l h (k + 1 - 1).toNat = mDepJ V Wn pl (mDepK V Wn pl l h (k - 1).toNat) k (iDv (h k) l) l.toNat := by
  have h1 := fld_s (g := fun (g : Int → Int) i => mDepJ V Wn pl g (i + 1) (iDv (h (i + 1)) l) l.toNat) (z := fun t => if t = 0 then h 0 else 0) (k := k - 1) (by omega)
  rw [show k + 1 - 1 = k - 1 + 1 by omega]
  refine h1.trans ?_
  rw [show k - 1 + 1 = k by omega]
  rfl
def mHeap (V Wn : Int → Int) (pl l lk : Int) (n : Nat) : Int → Int := fld (fun h _ => mDepK V Wn pl l h 999) (up1 (fun _ => 0) (mx0 lk) 1000000) n
theorem mHeap_s {V Wn : Int → Int} {pl l lk k : Int} (hk : 0 ≤ k) : mHeap V Wn pl l lk (k + 1).toNat = mDepK V Wn pl l (mHeap V Wn pl l lk k.toNat) 999 := fld_s (g := fun (h : Int → Int) _ => mDepK V Wn pl l h 999) (z := up1 (fun _ => 0) (mx0 lk) 1000000) hk
def mChaR (A : Nat → Int → Int) (d n : Int) : Int := if 0 ≤ d ∧ d < A 1 3 then (if 0 ≤ n ∧ n ≤ 30 then (if A 11 (25 + 2 * d) = 0 then -1000000003 else mHeap (A 3) (A 2) (A 5 (2 * d)) (A 1 0) (A 11 (25 + 2 * d) - mSince (A 5) (A 11) d) n.toNat 0) else -1000000002) else -1000000001
def zr (f : Int → Int) (z : Int → Int) (k : Int) : Int → Int := fun t => if 0 ≤ t ∧ t < k then z t else f t
theorem zr_0 {f z : Int → Int} : zr f z 0 = f := by
  funext t
  unfold zr
  rw [if_neg (by omega)]
theorem zr_s {f z : Int → Int} {k : Int} (hk : 0 ≤ k) : up1 (zr f z k) k (z k) = zr f z (k + 1) := by
  funext t
  by_cases h : t = k
  · subst h
    rw [up1_s]
    unfold zr
    rw [if_pos (by omega)]
  · rw [up1_n h]
    unfold zr
    by_cases h2 : 0 ≤ t ∧ t < k
    · rw [if_pos h2, if_pos (by omega)]
    · rw [if_neg h2, if_neg (by omega)]
theorem zr_in {f z : Int → Int} {k t : Int} (h : 0 ≤ t ∧ t < k) : zr f z k t = z t := if_pos h
theorem mAlike_b {A : Nat → Int → Int} {g : Int → Int} {q k : Int} (n : Nat) : 0 ≤ mAlike A g q k n ∧ mAlike A g q k n ≤ n := by
  induction n with
  | zero => exact ⟨Int.le_refl 0, Int.le_refl 0⟩
  | succ n ih =>
    show 0 ≤ mAlike A g q k n + (if mTB A q (g n) = mTB A q (g k) then 1 else 0) ∧ mAlike A g q k n + (if mTB A q (g n) = mTB A q (g k) then 1 else 0) ≤ ((n + 1 : Nat) : Int)
    split <;> omega
