/-! WHAT A ROW SAYS, on both sides -/
section RowQ
variable {I : Nat → Int} {A B : Nat → Int → Int} {b : Int} {f h : Int → Int}
theorem age_eq (T : Tal I A B) (H : Row (I 10) (I 11) (I 12) (B 5) b f h) {q : Int} (hq : 0 ≤ q ∧ q < I 11) : (if 0 < A 12 (h (13 + q)) then h (19 + q) / A 12 (h (13 + q)) else 0) = mAge (B 3) f q := by
  obtain ⟨h1, h2, h3, h4, h5, h6, h7, h8, g0, gv, gq, gd⟩ := H
  have hN := Tal_n T
  obtain ⟨e1, e2⟩ := gq q (by omega)
  have w1 := h5 q hq
  have w0 := h2 (13 + 2 * q)
  have e3 := (T.2.2.2.1.2.2 (f (13 + 2 * q)) ⟨w0.1, w1⟩).2.2
  have e4 := T.1.2.2.2.2.2.2.1 (f (13 + 2 * q)) (by have := T.2.1.2.1; omega)
  unfold mAge
  rw [e1, e2, e3, if_pos e4]
theorem since_eq (T : Tal I A B) (H : Row (I 10) (I 11) (I 12) (B 5) b f h) {d : Int} (hd : 0 ≤ d ∧ d < I 12) : (if h (25 + d) = 0 then 0 else h (5 + A 15 d) - h (30 + d)) = mSince (B 5) f d := by
  obtain ⟨h1, h2, h3, h4, h5, h6, h7, h8, g0, gv, gq, gd⟩ := H
  have hN := Tal_n T
  obtain ⟨e1, e2⟩ := gd d (by omega)
  have hp := Tal_pl T d hd
  have e3 := T.2.2.2.2.2.1 d hd
  unfold mSince
  rw [e1]
  by_cases hz : f (25 + 2 * d) = 0
  · rw [if_pos hz, if_pos hz]
  · rw [if_neg hz, if_neg hz, e2 hz, e3, (gv (B 5 (2 * d)) (by omega)).2.1]
theorem lack_eq (T : Tal I A B) (H : Row (I 10) (I 11) (I 12) (B 5) b f h) {d : Int} (hd : 0 ≤ d ∧ d < I 12) : iMx 0 (h (25 + d) - (if h (25 + d) = 0 then 0 else h (5 + A 15 d) - h (30 + d))) = mx0 (f (25 + 2 * d) - mSince (B 5) f d) := by
  have hN := Tal_n T
  rw [since_eq T H hd, (H.2.2.2.2.2.2.2.2.2.2.2 d (by omega)).1]
  unfold iMx mx0
  split <;> split <;> omega
theorem lack_le (T : Tal I A B) (H : Row (I 10) (I 11) (I 12) (B 5) b f h) {d : Int} (hd : 0 ≤ d ∧ d < I 12) : f (25 + 2 * d) - mSince (B 5) f d ≤ 999 := by
  obtain ⟨h1, h2, h3, h4, h5, h6, h7, h8, g0, gv, gq, gd⟩ := H
  have hN := Tal_n T
  have a1 := h7 d (by omega)
  have a2 := h8 d hd
  unfold mSince
  split <;> omega
theorem due_iff (T : Tal I A B) (H : Row (I 10) (I 11) (I 12) (B 5) b f h) {d : Int} (hd : 0 ≤ d ∧ d < I 12) : (h (25 + d) ≠ 0 ∧ iMx 0 (h (25 + d) - (if h (25 + d) = 0 then 0 else h (5 + A 15 d) - h (30 + d))) = 0) ↔ (0 < f (25 + 2 * d) ∧ f (25 + 2 * d) ≤ mSince (B 5) f d) := by
  have hN := Tal_n T
  rw [lack_eq T H hd, (H.2.2.2.2.2.2.2.2.2.2.2 d (by omega)).1]
  have h0 := H.2.1 (25 + 2 * d)
  have hm := mx0_r (f (25 + 2 * d) - mSince (B 5) f d)
  omega
end RowQ
theorem iOr_0 {a : Int} (h : -2147483648 ≤ a ∧ a ≤ 2147483647) : iOr a 0 = a := by
  unfold iOr
  rw [show iI 0 = (0 : Int32) from rfl, Int32.or_zero, iI_t h]
section Sets
variable {I : Nat → Int} {A B : Nat → Int → Int} {b : Int} {f h : Int → Int}
theorem dues_eq (T : Tal I A B) (H : Row (I 10) (I 11) (I 12) (B 5) b f h) (n : Nat) (hn : (n : Int) ≤ I 12) : xDueN (stA A 17 h) n = mDues (B 5) f n := by
  induction n with
  | zero => rfl
  | succ n ih =>
    have ih := ih (by omega)
    have hd := due_iff T H (d := (n : Int)) (by omega)
    show (if stA A 17 h 17 (25 + n) ≠ 0 ∧ xLack (stA A 17 h) n = 0 then iOr (xDueN (stA A 17 h) n) (iShl 1 n) else xDueN (stA A 17 h) n) = iOr (mDues (B 5) f n) (mDueB (B 5) f n)
    rw [ih]
    by_cases hc : 0 < f (25 + 2 * n) ∧ f (25 + 2 * n) ≤ mSince (B 5) f n
    · rw [mDueB_t hc]
      exact if_pos (hd.mpr hc)
    · rw [mDueB_f hc, iOr_0 (mDues_r _ _ _)]
      exact if_neg (fun q => hc (hd.mp q))
theorem open_eq (H : Row (I 10) (I 11) (I 12) (B 5) b f h) (n : Nat) (hn : n ≤ 5) : xOpen (stA A 17 h) n = mOpen f n := by
  induction n with
  | zero => rfl
  | succ n ih =>
    have ih := ih (by omega)
    have e := (H.2.2.2.2.2.2.2.2.2.2.2 n (by omega)).1
    have h0 := H.2.1 (25 + 2 * n)
    have hr : -2147483648 ≤ mOpen f n ∧ mOpen f n ≤ 2147483647 := by
      cases n with
      | zero => show (-2147483648 : Int) ≤ 0 ∧ (0 : Int) ≤ 2147483647; omega
      | succ n => exact iOr_r _ _
    show (if h (25 + n) ≠ 0 then iOr (xOpen (stA A 17 h) n) (iShl 1 n) else xOpen (stA A 17 h) n) = iOr (mOpen f n) (if 0 < f (25 + 2 * n) then iShl 1 n else 0)
    rw [ih, e]
    by_cases hc : 0 < f (25 + 2 * n)
    · rw [if_pos hc, if_pos (by omega)]
    · rw [if_neg hc, if_neg (by omega), iOr_0 hr]
theorem any_eq (T : Tal I A B) {x : Int} (n : Nat) (hn : (n : Int) ≤ I 10) : (xAny (A 11) x n = 0 ↔ mGr (B 3) x n = 1) ∧ (mGr (B 3) x n = 0 ∨ mGr (B 3) x n = 1) := by
  induction n with
  | zero => exact ⟨⟨fun _ => rfl, fun _ => rfl⟩, Or.inr rfl⟩
  | succ n ih =>
    obtain ⟨i1, i2⟩ := ih (by omega)
    have hf := fall_eq (x := x) T.2.2.2.1 (v := (n : Int)) (by omega)
    have ex : xAny (A 11) x (n + 1) = if A 11 n ≤ x then 1 else xAny (A 11) x n := rfl
    have em : mGr (B 3) x (n + 1) = if mGr (B 3) x n = 0 then 0 else 1 - mFallI (B 3) x n := rfl
    rw [ex, em]
    by_cases hc : A 11 n ≤ x
    · rw [if_pos hc, mFallI_t (hf.mp hc)]
      split <;> omega
    · rw [if_neg hc, mFallI_f (fun q => hc (hf.mpr q))]
      rcases i2 with i2 | i2
      · rw [if_pos i2]
        rw [i2] at i1
        exact ⟨⟨fun q => absurd (i1.mp q) (by decide), fun q => absurd q (by decide)⟩, Or.inl rfl⟩
      · rw [i2, if_neg (by decide)]
        exact ⟨⟨fun _ => rfl, fun _ => i1.mpr i2⟩, Or.inr rfl⟩
theorem green_eq (T : Tal I A B) (n : Nat) (hn : (n : Int) ≤ I 9) : xGreen (A 11) (A 9) (I 10).toNat n = mGreen (B 3) (B 2) (I 10).toNat n := by
  have hN := Tal_n T
  induction n with
  | zero => rfl
  | succ n ih =>
    have ih := ih (by omega)
    have e9 := T.2.2.1 n (by omega)
    have ha := any_eq (x := A 9 n) T (I 10).toNat (by omega)
    have hr : -2147483648 ≤ mGreen (B 3) (B 2) (I 10).toNat n ∧ mGreen (B 3) (B 2) (I 10).toNat n ≤ 2147483647 := by
      cases n with
      | zero => show (-2147483648 : Int) ≤ 0 ∧ (0 : Int) ≤ 2147483647; omega
      | succ n => exact iOr_r _ _
    show (if xAny (A 11) (A 9 n) (I 10).toNat = 0 then iOr (xGreen (A 11) (A 9) (I 10).toNat n) (iShl 1 n) else xGreen (A 11) (A 9) (I 10).toNat n) = iOr (mGreen (B 3) (B 2) (I 10).toNat n) (if mGr (B 3) (B 2 n) (I 10).toNat = 0 then 0 else iShl 1 n)
    rw [ih]
    rw [← e9]
    by_cases hc : xAny (A 11) (A 9 n) (I 10).toNat = 0
    · rw [if_pos hc, ha.1.mp hc, if_neg (by decide)]
    · rw [if_neg hc]
      rcases ha.2 with h2 | h2
      · rw [if_pos h2, iOr_0 hr]
      · exact absurd (ha.1.mpr h2) hc
theorem pole_eq (H : Row (I 10) (I 11) (I 12) (B 5) b f h) {v : Int} (hv : 0 ≤ v ∧ v < 4) : iMx 0 (h (1 + v) - h (9 + v)) = mPole f v := by
  obtain ⟨e1, e2, e3⟩ := H.2.2.2.2.2.2.2.2.2.1 v hv
  rw [e1, e3]
  unfold iMx mPole
  split <;> split <;> omega
theorem jud_eq (H : Row (I 10) (I 11) (I 12) (B 5) b f h) {P W Bk : Int → Int} (n : Nat) : ∀ k : Int, 0 ≤ k → (∀ t, k ≤ t ∧ t < k + n → P t = Bk (2 * t) ∧ W t = Bk (2 * t + 1) ∧ 0 ≤ P t ∧ P t < 4) → xJud h P W k n = mJud f Bk k n := by
  induction n with
  | zero => intro k _ _; rfl
  | succ n ih =>
    intro k hk hp
    obtain ⟨e1, e2, e3, e4⟩ := hp k (by omega)
    show (if iMx 0 (h (1 + P k) - h (9 + P k)) = W k then xJud h P W (k + 1) n else k) = if mPole f (Bk (2 * k)) = Bk (2 * k + 1) then mJud f Bk (k + 1) n else k
    rw [pole_eq H ⟨e3, e4⟩, e2, ← e1, ih (k + 1) (by omega) (fun t ht => hp t (by omega))]
end Sets
