def xAt (Wn : Int → Int) (l f0 n m : Int) : Int := iMx 0 ((if 0 < l then Wn ((f0 + n) % l) else 0) - m)
theorem xAt_r {Wn : Int → Int} {l f0 n m : Int} (h : ∀ k, 0 ≤ Wn k ∧ Wn k ≤ 40) (hm : 0 ≤ m) : 0 ≤ xAt Wn l f0 n m ∧ xAt Wn l f0 n m ≤ 40 := by
  have h1 := h ((f0 + n) % l)
  have h2 := iMx_r 0 ((if 0 < l then Wn ((f0 + n) % l) else 0) - m)
  unfold xAt
  have h3 : 0 ≤ (if 0 < l then Wn ((f0 + n) % l) else 0) ∧ (if 0 < l then Wn ((f0 + n) % l) else 0) ≤ 40 := by split <;> omega
  omega
/-- what a debt lacks behind so many nights -/
def xLk (A : Nat → Int → Int) (l m v a : Int) (n : Nat) : Int := fld (fun a k => a - iMx 0 (xAt (A 9) l (A 17 0) k m - A 10 v)) a n
theorem xLk_r {A : Nat → Int → Int} {l m v a : Int} (n : Nat) (h : ∀ k, 0 ≤ A 9 k ∧ A 9 k ≤ 40) (hd : ∀ k, 0 ≤ A 10 k ∧ A 10 k ≤ 40) (hm : 0 ≤ m) : a - 40 * n ≤ xLk A l m v a n ∧ xLk A l m v a n ≤ a := by
  induction n with
  | zero => show a - 40 * ((0 : Nat) : Int) ≤ a ∧ a ≤ a; omega
  | succ n ih =>
    have h1 := xAt_r (Wn := A 9) (l := l) (f0 := A 17 0) (n := (n : Int)) (m := m) h hm
    have h2 := hd v
    have h3 := iMx_r 0 (xAt (A 9) l (A 17 0) n m - A 10 v)
    show a - 40 * ((n + 1 : Nat) : Int) ≤ xLk A l m v a n - iMx 0 (xAt (A 9) l (A 17 0) n m - A 10 v) ∧ xLk A l m v a n - iMx 0 (xAt (A 9) l (A 17 0) n m - A 10 v) ≤ a
    omega
theorem xLk_s {A : Nat → Int → Int} {l m v a k : Int} (h : 0 ≤ k) : xLk A l m v a (k + 1).toNat = xLk A l m v a k.toNat - iMx 0 (xAt (A 9) l (A 17 0) k m - A 10 v) := fld_s (g := fun a k => a - iMx 0 (xAt (A 9) l (A 17 0) k m - A 10 v)) h
def xTil (A : Nat → Int → Int) (l v a k : Int) : Nat → Int
  | 0 => -1
  | n + 1 => if xLk A l 0 v a k.toNat ≤ 0 then k else xTil A l v a (k + 1) n
def xFls (A : Nat → Int → Int) (l m v a : Int) (n : Nat) : Int := fld (fun a k => if A 11 v ≤ xAt (A 9) l (A 17 0) k m then a + 1 else a) a n
theorem xFls_r {A : Nat → Int → Int} {l m v a : Int} (n : Nat) : a ≤ xFls A l m v a n ∧ xFls A l m v a n ≤ a + n := by
  induction n with
  | zero => show a ≤ a ∧ a ≤ a + ((0 : Nat) : Int); omega
  | succ n ih =>
    show a ≤ (if A 11 v ≤ xAt (A 9) l (A 17 0) n m then xFls A l m v a n + 1 else xFls A l m v a n) ∧ (if A 11 v ≤ xAt (A 9) l (A 17 0) n m then xFls A l m v a n + 1 else xFls A l m v a n) ≤ a + ((n + 1 : Nat) : Int)
    split <;> omega
theorem xFls_s {A : Nat → Int → Int} {l m v a k : Int} (h : 0 ≤ k) : xFls A l m v a (k + 1).toNat = if A 11 v ≤ xAt (A 9) l (A 17 0) k m then xFls A l m v a k.toNat + 1 else xFls A l m v a k.toNat := fld_s (g := fun a k => if A 11 v ≤ xAt (A 9) l (A 17 0) k m then a + 1 else a) h
def xYr (A : Nat → Int → Int) (x v : Int) : Int := if 0 < A 12 v then x / A 12 v else 0
def xFy (A : Nat → Int → Int) (x v : Int) : Int := if 0 < A 12 v then x % A 12 v else 0
theorem xFy_r {A : Nat → Int → Int} {x v : Int} (h : ∀ k, 0 ≤ A 12 k ∧ A 12 k ≤ 40) : 0 ≤ xFy A x v ∧ xFy A x v ≤ 40 := by
  have h1 := h v
  unfold xFy
  split
  · have e1 := Int.emod_nonneg x (show A 12 v ≠ 0 by omega)
    have e2 := Int.emod_lt_of_pos x (show 0 < A 12 v by omega)
    omega
  · omega
def xDbN (A : Nat → Int → Int) (l n m : Int) (k : Nat) : Int := fld (fun a d => if A 17 (25 + d) ≠ 0 ∧ xLk A l m (A 15 d) (xLack A d) n.toNat ≤ 0 then iOr a (iShl 1 d) else a) 0 k
theorem xDbN_r (A : Nat → Int → Int) (l m q : Int) (n : Nat) : -2147483648 ≤ xDbN A l q m n ∧ xDbN A l q m n ≤ 2147483647 := by
  induction n with
  | zero => show (-2147483648 : Int) ≤ 0 ∧ (0 : Int) ≤ 2147483647; omega
  | succ n ih =>
    show -2147483648 ≤ (if A 17 (25 + n) ≠ 0 ∧ xLk A l m (A 15 n) (xLack A n) q.toNat ≤ 0 then iOr (xDbN A l q m n) (iShl 1 n) else xDbN A l q m n) ∧ (if A 17 (25 + n) ≠ 0 ∧ xLk A l m (A 15 n) (xLack A n) q.toNat ≤ 0 then iOr (xDbN A l q m n) (iShl 1 n) else xDbN A l q m n) ≤ 2147483647
    split
    · exact iOr_r _ _
    · exact ih
def xFea (A : Nat → Int → Int) (l v u k : Int) : Nat → Int
  | 0 => -1
  | n + 1 => if xFy A (iMx 0 (xFls A l 0 v (A 17 (1 + v)) k.toNat - A 17 (9 + v))) v = xFy A (iMx 0 (xFls A l 0 u (A 17 (1 + u)) k.toNat - A 17 (9 + u))) u then k else xFea A l v u (k + 1) n
def xLng (A : Nat → Int → Int) (l v : Int) (n : Nat) : Int × Int := fld (fun b k => (iMx b.1 (if A 11 v ≤ xAt (A 9) l (A 17 0) k 0 then 0 else b.2 + 1), if A 11 v ≤ xAt (A 9) l (A 17 0) k 0 then 0 else b.2 + 1)) (0, 0) n
def xDepJ (Wn : Int → Int) (dv k s : Int) (g : Int → Int) (n : Nat) : Int → Int := fld (fun g j => if 0 < s then up1 g (iMx 0 (k - iMx 0 (Wn j - dv))) (g (iMx 0 (k - iMx 0 (Wn j - dv))) + s) else g) g n
theorem xDepJ_s {Wn g : Int → Int} {dv k s j : Int} (h : 0 ≤ j) (hs : 0 < s) : xDepJ Wn dv k s g (j + 1).toNat = up1 (xDepJ Wn dv k s g j.toNat) (iMx 0 (k - iMx 0 (Wn j - dv))) (xDepJ Wn dv k s g j.toNat (iMx 0 (k - iMx 0 (Wn j - dv))) + s) := by
  refine (fld_s (g := fun (g : Int → Int) j => if 0 < s then up1 g (iMx 0 (k - iMx 0 (Wn j - dv))) (g (iMx 0 (k - iMx 0 (Wn j - dv))) + s) else g) (z := g) h).trans ?_
  rw [if_pos hs]
  rfl
theorem xDepJ_0 {Wn g : Int → Int} {dv k s : Int} (n : Nat) (hs : s ≤ 0) : xDepJ Wn dv k s g n = g := by
  induction n with
  | zero => rfl
  | succ n ih =>
    show (if 0 < s then _ else xDepJ Wn dv k s g n) = g
    rw [if_neg (by omega), ih]
def xPart (Wn : Int → Int) (dv l : Int) (g : Int → Int) (n : Nat) : Int → Int := fld (fun g i => xDepJ Wn dv (i + 1) (iDv (g (i + 1)) l) (up1 g (i + 1) 0) l.toNat) g n
theorem xPart_s {Wn g : Int → Int} {dv l k : Int} (hk : 1 ≤ k) : xPart Wn dv l g (k + 1 - 1).toNat = xDepJ Wn dv k (iDv (xPart Wn dv l g (k - 1).toNat k) l) (up1 (xPart Wn dv l g (k - 1).toNat) k 0) l.toNat := by
  refine (fld_1 (g := fun (g : Int → Int) i => xDepJ Wn dv (i + 1) (iDv (g (i + 1)) l) (up1 g (i + 1) 0) l.toNat) (z := g) hk).trans ?_
  rw [show k - 1 + 1 = k by omega]
  rfl
def xCha (Wn : Int → Int) (dv l lk : Int) (n : Nat) : Int → Int := fld (fun g _ => xPart Wn dv l g lk.toNat) (up1 zZ lk 1000000) n
theorem xCha_s {Wn : Int → Int} {dv l lk k : Int} (hk : 0 ≤ k) : xCha Wn dv l lk (k + 1).toNat = xPart Wn dv l (xCha Wn dv l lk k.toNat) lk.toNat := fld_s (g := fun (g : Int → Int) _ => xPart Wn dv l g lk.toNat) hk
