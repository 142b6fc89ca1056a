/-! THE CLASS'S WORDS, as numbers -/
/-- a flag that goes down and stays down -/
def fg (p : Int → Int) (n : Nat) : Int := fld (fun b k => if b = 0 then 0 else p k) 1 n
theorem fg_s {p : Int → Int} {k : Int} (h : 0 ≤ k) : fg p (k + 1).toNat = if fg p k.toNat = 0 then 0 else p k := fld_s (g := fun b k => if b = 0 then 0 else p k) (z := 1) h
theorem fg_0 {p : Int → Int} {k n : Nat} (h : fg p k = 0) (hk : k ≤ n) : fg p n = 0 := by
  induction n with
  | zero => rw [show k = 0 by omega] at h; exact h
  | succ n ih =>
    by_cases he : k = n + 1
    · rw [← he]; exact h
    · show (if fg p n = 0 then 0 else p n) = 0
      rw [if_pos (ih (by omega))]
def xAge (A : Nat → Int → Int) (q : Int) : Int := if 0 < A 12 (A 17 (13 + q)) then A 17 (19 + q) / A 12 (A 17 (13 + q)) else 0
def xSince (A : Nat → Int → Int) (d : Int) : Int := if A 17 (25 + d) = 0 then 0 else A 17 (5 + A 15 d) - A 17 (30 + d)
def xLack (A : Nat → Int → Int) (d : Int) : Int := iMx 0 (A 17 (25 + d) - xSince A d)
def xDueP (A : Nat → Int → Int) (d : Int) : Prop := A 17 (25 + d) ≠ 0 ∧ xLack A d = 0
def xDueN (A : Nat → Int → Int) (n : Nat) : Int := fld (fun a d => if A 17 (25 + d) ≠ 0 ∧ xLack A d = 0 then iOr a (iShl 1 d) else a) 0 n
def xOpen (A : Nat → Int → Int) (n : Nat) : Int := fld (fun a d => if A 17 (25 + d) ≠ 0 then iOr a (iShl 1 d) else a) 0 n
theorem xSince_r {A : Nat → Int → Int} {d : Int} (h : ∀ k, 0 ≤ A 17 k ∧ A 17 k ≤ 900000) : -900000 ≤ xSince A d ∧ xSince A d ≤ 900000 := by
  have h1 := h (5 + A 15 d)
  have h2 := h (30 + d)
  unfold xSince
  split <;> omega
theorem xLack_r {A : Nat → Int → Int} {d : Int} (h : ∀ k, 0 ≤ A 17 k ∧ A 17 k ≤ 900000) : 0 ≤ xLack A d ∧ xLack A d ≤ 1800000 := by
  have h1 := h (25 + d)
  have h2 := xSince_r (A := A) (d := d) h
  have h3 := iMx_r 0 (A 17 (25 + d) - xSince A d)
  unfold xLack
  omega
theorem xDueN_r (A : Nat → Int → Int) (n : Nat) : -2147483648 ≤ xDueN A n ∧ xDueN A n ≤ 2147483647 := by
  induction n with
  | zero => show (-2147483648 : Int) ≤ 0 ∧ (0 : Int) ≤ 2147483647; omega
  | succ n ih =>
    show -2147483648 ≤ (if A 17 (25 + n) ≠ 0 ∧ xLack A n = 0 then iOr (xDueN A n) (iShl 1 n) else xDueN A n) ∧ (if A 17 (25 + n) ≠ 0 ∧ xLack A n = 0 then iOr (xDueN A n) (iShl 1 n) else xDueN A n) ≤ 2147483647
    split
    · exact iOr_r _ _
    · exact ih
/-- is there a fall anywhere, as 1 or 0 -/
def xAny (F : Int → Int) (x : Int) (n : Nat) : Int := fld (fun b v => if F v ≤ x then 1 else b) 0 n
theorem xAny_b {F : Int → Int} {x : Int} (n : Nat) : (xAny F x n = 0 ∧ ∀ v : Int, 0 ≤ v ∧ v < n → ¬ F v ≤ x) ∨ (xAny F x n = 1 ∧ ∃ v : Int, (0 ≤ v ∧ v < n) ∧ F v ≤ x) := by
  induction n with
  | zero => exact Or.inl ⟨rfl, fun v hv => by omega⟩
  | succ n ih =>
    have e : xAny F x (n + 1) = if F n ≤ x then 1 else xAny F x n := rfl
    by_cases h : F n ≤ x
    · exact Or.inr ⟨by rw [e, if_pos h], (n : Int), by omega, h⟩
    · rw [e, if_neg h]
      rcases ih with ⟨h1, h2⟩ | ⟨h1, v, h2, h3⟩
      · refine Or.inl ⟨h1, fun v hv => ?_⟩
        by_cases hv2 : v = n
        · subst hv2; exact h
        · exact h2 v (by omega)
      · exact Or.inr ⟨h1, v, by omega, h3⟩
def xGreen (F Wn : Int → Int) (nv : Nat) (n : Nat) : Int := fld (fun a k => if xAny F (Wn k) nv = 0 then iOr a (iShl 1 k) else a) 0 n
/-- all persons of a village live through a fall -/
def sA (v : Int) (f : Int → Int) (n : Nat) : Int → Int := fld (fun g q => if g (13 + q) = v then up1 g (19 + q) (g (19 + q) + 1) else g) f n
def sV (F D : Int → Int) (np x : Int) (f : Int → Int) (v : Int) : Int → Int :=
  if F v ≤ x then sA v (up1 (up1 f (5 + v) (f (5 + v) + iMx 0 (x - D v))) (1 + v) (up1 f (5 + v) (f (5 + v) + iMx 0 (x - D v)) (1 + v) + 1)) np.toNat else up1 f (5 + v) (f (5 + v) + iMx 0 (x - D v))
def sN (F D : Int → Int) (np x : Int) (f : Int → Int) (n : Nat) : Int → Int := fld (fun g v => sV F D np x g v) f n
def xSnow (F D : Int → Int) (nv np x : Int) (f : Int → Int) : Int → Int := up1 (sN F D np x f nv.toNat) 0 (sN F D np x f nv.toNat 0 + 1)
def xBeg (H B S : Int → Int) (np nd : Nat) : Int → Int := fld (fun g d => up1 g (25 + d) (S d)) (fld (fun g q => up1 (up1 g (13 + q) (H q)) (19 + q) (B q)) zZ np) nd
def xJud (f P B : Int → Int) (k : Int) : Nat → Int
  | 0 => -1
  | n + 1 => if iMx 0 (f (1 + P k) - f (9 + P k)) = B k then xJud f P B (k + 1) n else k
def xTB (A : Nat → Int → Int) (w q : Int) : Int :=
  if 0 < A 12 (A 17 (13 + q)) then (A 14 q + (if w / 10 = A 17 (13 + q) then iMx 0 (A 17 (1 + A 17 (13 + q)) - w % 10) else iMx 0 (A 17 (1 + A 17 (13 + q)) - A 17 (9 + A 17 (13 + q))))) / A 12 (A 17 (13 + q)) else 0
theorem xTB_r {A : Nat → Int → Int} {w q : Int} (hf : ∀ k, 0 ≤ A 17 k ∧ A 17 k ≤ 900000) (hb : ∀ k, 0 ≤ A 14 k ∧ A 14 k ≤ 999) (hw : 0 ≤ w) : 0 ≤ xTB A w q ∧ xTB A w q ≤ 1000000 := by
  have h1 := hf (1 + A 17 (13 + q))
  have h2 := hf (9 + A 17 (13 + q))
  have h3 := hb q
  have h4 := iMx_r 0 (A 17 (1 + A 17 (13 + q)) - w % 10)
  have h5 := iMx_r 0 (A 17 (1 + A 17 (13 + q)) - A 17 (9 + A 17 (13 + q)))
  unfold xTB
  split
  · have key : ∀ x : Int, 0 ≤ x ∧ x ≤ 1000000 → 0 ≤ x / A 12 (A 17 (13 + q)) ∧ x / A 12 (A 17 (13 + q)) ≤ 1000000 := fun x hx => ⟨Int.ediv_nonneg hx.1 (by omega), Int.le_trans (Int.ediv_le_self _ hx.1) hx.2⟩
    apply key
    split <;> omega
  · omega
def xFit (A : Nat → Int → Int) (w : Int) (n : Nat) : Int := fg (fun k => if xTB A w (A 22 k) = A 23 k then 1 else 0) n
def xLays (A : Nat → Int → Int) (c : Int) (n : Nat) : Int × (Int → Int) := fld (fun t w => if xFit A w c.toNat = 0 then t else (t.1 + 1, up1 t.2 t.1 w)) (0, A 24) n
theorem xLays_s {A : Nat → Int → Int} {g w : Int} (h : 0 ≤ w) : xLays A g (w + 1).toNat = if xFit A w g.toNat = 0 then xLays A g w.toNat else ((xLays A g w.toNat).1 + 1, up1 (xLays A g w.toNat).2 (xLays A g w.toNat).1 w) := fld_s (g := fun (c : Int × (Int → Int)) w => if xFit A w g.toNat = 0 then c else (c.1 + 1, up1 c.2 c.1 w)) (z := (0, A 24)) h
theorem xLays_b {A : Nat → Int → Int} {g : Int} (n : Nat) : (0 ≤ (xLays A g n).1 ∧ (xLays A g n).1 ≤ n) ∧ ∀ k, 0 ≤ k ∧ k < (xLays A g n).1 → 0 ≤ (xLays A g n).2 k ∧ (xLays A g n).2 k < n := by
  induction n with
  | zero => exact ⟨⟨Int.le_refl 0, Int.le_refl 0⟩, fun k hk => absurd hk (by show ¬ (0 ≤ k ∧ k < 0); omega)⟩
  | succ n ih =>
    have hs := xLays_s (A := A) (g := g) (w := (n : Int)) (by omega)
    rw [show ((n : Int) + 1).toNat = n + 1 by omega, show ((n : Int)).toNat = n by omega] at hs
    rw [hs]
    split
    · exact ⟨by omega, fun k hk => by have := ih.2 k hk; omega⟩
    · refine ⟨by dsimp only; omega, fun k hk => ?_⟩
      dsimp only at hk ⊢
      unfold up1
      split
      · omega
      · have := ih.2 k (by omega)
        omega
def xCnt (f : Int → Int) (z : Int) (n : Nat) : Int := fld (fun a i => if f i = z then a + 1 else a) 0 n
theorem xCnt_b {f : Int → Int} {z : Int} (n : Nat) : 0 ≤ xCnt f z n ∧ xCnt f z n ≤ n := by
  induction n with
  | zero => exact ⟨Int.le_refl 0, Int.le_refl 0⟩
  | succ n ih =>
    show 0 ≤ (if f n = z then xCnt f z n + 1 else xCnt f z n) ∧ (if f n = z then xCnt f z n + 1 else xCnt f z n) ≤ ((n + 1 : Nat) : Int)
    split <;> omega
def xGrt (f : Int → Int) (c : Int) (n : Nat) : Int := fld (fun g i => iMx g (xCnt f (f i) c.toNat)) 0 n
theorem xGrt_b {f : Int → Int} {c : Int} (hc : 0 ≤ c) (n : Nat) : 0 ≤ xGrt f c n ∧ xGrt f c n ≤ c := by
  induction n with
  | zero => exact ⟨Int.le_refl 0, hc⟩
  | succ n ih =>
    have h1 := xCnt_b (f := f) (z := f n) c.toNat
    have h2 := iMx_r (xGrt f c n) (xCnt f (f n) c.toNat)
    show 0 ≤ iMx (xGrt f c n) (xCnt f (f n) c.toNat) ∧ iMx (xGrt f c n) (xCnt f (f n) c.toNat) ≤ c
    omega
theorem iAnd_mNx (s : Int) : iAnd (s * 1103515245 + 12345) 2147483647 = mNx s := by
  unfold iAnd
  show (iI (s * 1103515245 + 12345) &&& 2147483647).toInt = _
  rw [iI_and31, iI_t (by omega), mNx_eq]
theorem fg_no {p : Int → Int} {n : Nat} (hp : ∀ k, p k = 0 ∨ p k = 1) (h : ¬ fg p n = 1) : fg p n = 0 := by
  cases n with
  | zero => exact absurd rfl h
  | succ n =>
    have e : fg p (n + 1) = if fg p n = 0 then 0 else p n := rfl
    rw [e] at h ⊢
    split at h <;> rename_i h1
    · rw [if_pos h1]
    · rw [if_neg h1]
      rcases hp n with h2 | h2
      · exact h2
      · exact absurd h2 h
theorem stA_of {A B : Nat → Int → Int} {j : Nat} {f : Int → Int} (h1 : ∀ i, i ≠ j → B i = A i) (h2 : B j = f) : B = stA A j f := by
  funext i
  by_cases hi : i = j
  · subst hi; rw [stA_s, h2]
  · rw [stA_n hi, h1 i hi]
theorem sA_lo {v : Int} {f : Int → Int} {t : Int} (n : Nat) (h : t < 19) : sA v f n t = f t := by
  induction n with
  | zero => rfl
  | succ n ih =>
    show (if sA v f n (13 + n) = v then up1 (sA v f n) (19 + n) (sA v f n (19 + n) + 1) else sA v f n) t = f t
    split
    · rw [up1_n (by omega)]; exact ih
    · exact ih
theorem xFit_b {A : Nat → Int → Int} {w : Int} (n : Nat) : xFit A w n = 0 ∨ xFit A w n = 1 := by
  by_cases h : xFit A w n = 1
  · exact Or.inr h
  · exact Or.inl (fg_no (fun k => by split <;> omega) h)
