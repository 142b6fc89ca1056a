/-! TRIALS, on both sides -/
theorem xLk_0 {A : Nat → Int → Int} {l m v a : Int} (n : Nat) : xLk A l m v a n = a + xLk A l m v 0 n := by
  induction n with
  | zero => show a = a + 0; omega
  | succ n ih =>
    show xLk A l m v a n - iMx 0 (xAt (A 9) l (A 17 0) n m - A 10 v) = a + (xLk A l m v 0 n - iMx 0 (xAt (A 9) l (A 17 0) n m - A 10 v))
    rw [ih]; omega
theorem xLk_le0 {A : Nat → Int → Int} {l m v : Int} (n : Nat) : xLk A l m v 0 n ≤ 0 := by
  induction n with
  | zero => exact Int.le_refl 0
  | succ n ih =>
    show xLk A l m v 0 n - iMx 0 (xAt (A 9) l (A 17 0) n m - A 10 v) ≤ 0
    have := iMx_r 0 (xAt (A 9) l (A 17 0) n m - A 10 v)
    omega
section Tr
variable {I : Nat → Int} {A B : Nat → Int → Int} {b m : Int}
theorem at_eq (T : Tal I A B) (h0 : 0 < I 9) (H : Row (I 10) (I 11) (I 12) (B 5) b (B 11) (A 17)) {n : Int} : xAt (A 9) (I 9) (A 17 0) n m = mIn (B 2) (B 11 0 + n) (B 1 0) m := by
  unfold xAt
  rw [in_eq T h0, H.2.2.2.2.2.2.2.2.1]
def tG (B : Nat → Int → Int) (m : Int) (n : Nat) : Int → Int := mGo (B 3) (B 2) (B 1 0) (B 1 1) (B 1 2) m (B 11) n
theorem try_at (T : Tal I A B) (h0 : 0 < I 9) (H : Row (I 10) (I 11) (I 12) (B 5) b (B 11) (A 17)) (hm : 0 ≤ m) (hb : b ≤ 500000) (n : Nat) (hn : n ≤ 300) :
    tG B m n 0 = B 11 0 + n ∧ (∀ k, 0 ≤ tG B m n k ∧ tG B m n k ≤ 363399 + (b + 40 * n)) ∧
    (∀ v, 0 ≤ v ∧ v < I 10 → tG B m n (1 + 3 * v) = xFls A (I 9) m v (B 11 (1 + 3 * v)) n ∧ tG B m n (1 + 3 * v + 2) = B 11 (1 + 3 * v + 2) - xLk A (I 9) m v 0 n ∧ tG B m n (1 + 3 * v + 1) = B 11 (1 + 3 * v + 1)) ∧
    (∀ q, 0 ≤ q ∧ q < I 11 → tG B m n (13 + 2 * q) = B 11 (13 + 2 * q) ∧ tG B m n (13 + 2 * q + 1) = xFls A (I 9) m (B 11 (13 + 2 * q)) (B 11 (13 + 2 * q + 1)) n) ∧ (∀ k, 25 ≤ k → tG B m n k = B 11 k) := by
  have hN := Tal_n T
  have hT := T.2.2.2.1
  induction n with
  | zero =>
    refine ⟨by show B 11 0 = B 11 0 + 0; omega, fun k => ?_, fun v _ => ⟨rfl, by show B 11 (1 + 3 * v + 2) = B 11 (1 + 3 * v + 2) - 0; omega, rfl⟩, fun q _ => ⟨rfl, rfl⟩, fun k _ => rfl⟩
    have := H.2.1 k
    show 0 ≤ B 11 k ∧ B 11 k ≤ _
    omega
  | succ n ih =>
    obtain ⟨i0, iu, iv, iq, id⟩ := ih (by omega)
    have e : tG B m (n + 1) = mPass (B 3) (tG B m n) (xAt (A 9) (I 9) (A 17 0) n m) (I 10) (I 11) := by
      rw [at_eq T h0 H, T.2.1.2.1, T.2.1.2.2.1, ← i0]
      rfl
    have hx := xAt_r (Wn := A 9) (l := I 9) (f0 := A 17 0) (n := (n : Int)) (m := m) T.2.2.2.2.2.2.2.1 hm
    rw [e]
    refine ⟨by rw [ps_0, i0]; omega, fun k => ?_, fun v hv => ?_, fun q hq => ?_, fun k hk => ?_⟩
    · have a1 := ps_le (V := B 3) (f := tG B m n) (x := xAt (A 9) (I 9) (A 17 0) n m) (nv := I 10) (np := I 11) hN.2.1.2 T.1.1 hx iu (by omega) k
      have a2 := iu k
      omega
    · obtain ⟨e1, e2, e3⟩ := iv v hv
      refine ⟨?_, ?_, ?_⟩
      · rw [ps_a hv, e1, ← le1_eq hT hv]
        show _ = if A 11 v ≤ xAt (A 9) (I 9) (A 17 0) n m then xFls A (I 9) m v (B 11 (1 + 3 * v)) n + 1 else xFls A (I 9) m v (B 11 (1 + 3 * v)) n
        by_cases hc : A 11 v ≤ xAt (A 9) (I 9) (A 17 0) n m
        · rw [if_pos hc, le1_t hc]
        · rw [if_neg hc, le1_f hc]; omega
      · rw [ps_b hv T.1.1 hx (iu _).2 (by omega), e2, ← fo_eq hT hv]
        show _ = B 11 (1 + 3 * v + 2) - (xLk A (I 9) m v 0 n - iMx 0 (xAt (A 9) (I 9) (A 17 0) n m - A 10 v))
        omega
      · rw [ps_c (by omega), e3]
    · obtain ⟨e1, e2⟩ := iq q hq
      have w1 := H.2.2.2.2.1 q hq
      have w0 := H.2.1 (13 + 2 * q)
      refine ⟨by rw [ps_n (by omega) (by omega) (by omega), e1], ?_⟩
      rw [ps_q hN.2.1.2 hq, e1, e2, ← le1_eq hT ⟨w0.1, w1⟩]
      show _ = if A 11 (B 11 (13 + 2 * q)) ≤ xAt (A 9) (I 9) (A 17 0) n m then xFls A (I 9) m (B 11 (13 + 2 * q)) (B 11 (13 + 2 * q + 1)) n + 1 else xFls A (I 9) m (B 11 (13 + 2 * q)) (B 11 (13 + 2 * q + 1)) n
      by_cases hc : A 11 (B 11 (13 + 2 * q)) ≤ xAt (A 9) (I 9) (A 17 0) n m
      · rw [if_pos hc, le1_t hc]
      · rw [if_neg hc, le1_f hc]; omega
    · rw [ps_n (by omega) (by omega) (by omega), id k hk]
theorem dueB_iff (T : Tal I A B) (h0 : 0 < I 9) (H : Row (I 10) (I 11) (I 12) (B 5) b (B 11) (A 17)) (hm : 0 ≤ m) (hb : b ≤ 500000) (n : Nat) (hn : n ≤ 300) {d : Int} (hd : 0 ≤ d ∧ d < I 12) : (0 < tG B m n (25 + 2 * d) ∧ tG B m n (25 + 2 * d) ≤ mSince (B 5) (tG B m n) d) ↔ (A 17 (25 + d) ≠ 0 ∧ xLk A (I 9) m (A 15 d) (xLack A d) n ≤ 0) := by
  obtain ⟨i0, iu, iv, iq, id⟩ := try_at T h0 H hm hb n hn
  have hN := Tal_n T
  have hp := Tal_pl T d hd
  have eo := (H.2.2.2.2.2.2.2.2.2.2.2 d (by omega)).1
  have el : xLack A d = mx0 (B 11 (25 + 2 * d) - mSince (B 5) (B 11) d) := lack_eq T H hd
  have e1 := id (25 + 2 * d) (by omega)
  have e2 := id (25 + 2 * d + 1) (by omega)
  have e3 := (iv (B 5 (2 * d)) hp).2.1
  have e5 := T.2.2.2.2.2.1 d hd
  have hle := xLk_le0 (A := A) (l := I 9) (m := m) (v := B 5 (2 * d)) n
  have hm0 := mx0_r (B 11 (25 + 2 * d) - mSince (B 5) (B 11) d)
  have h00 := H.2.1 (25 + 2 * d)
  rw [xLk_0 (a := xLack A d), el, e5, eo, e1]
  by_cases hz : B 11 (25 + 2 * d) = 0
  · exact ⟨fun q => absurd q.1 (by omega), fun q => absurd hz q.1⟩
  · have es : mSince (B 5) (tG B m n) d = mSince (B 5) (B 11) d - xLk A (I 9) m (B 5 (2 * d)) 0 n := by
      unfold mSince
      rw [e1, if_neg hz, if_neg hz, e3, e2]; omega
    rw [es]
    omega
theorem til_eq (T : Tal I A B) (h0 : 0 < I 9) (H : Row (I 10) (I 11) (I 12) (B 5) b (B 11) (A 17)) (hb : b ≤ 500000) {d : Int} (hd : 0 ≤ d ∧ d < I 12) (ho : A 17 (25 + d) ≠ 0) (n : Nat) : ∀ k : Int, 0 ≤ k ∧ k + n ≤ 300 → xTil A (I 9) (A 15 d) (xLack A d) k n = mDueT B d k n := by
  induction n with
  | zero => intro k _; rfl
  | succ n ih =>
    intro k hk
    have hi := dueB_iff (m := 0) T h0 H (by decide) hb k.toNat (by omega) hd
    show (if xLk A (I 9) 0 (A 15 d) (xLack A d) k.toNat ≤ 0 then k else xTil A (I 9) (A 15 d) (xLack A d) (k + 1) n) = if 0 < tG B 0 k.toNat (25 + 2 * d) ∧ tG B 0 k.toNat (25 + 2 * d) ≤ mSince (B 5) (tG B 0 k.toNat) d then k else mDueT B d (k + 1) n
    rw [ih (k + 1) (by omega)]
    by_cases hc : xLk A (I 9) 0 (A 15 d) (xLack A d) k.toNat ≤ 0
    · rw [if_pos hc, if_pos (hi.mpr ⟨ho, hc⟩)]
    · rw [if_neg hc, if_neg (fun q => hc (hi.mp q).2)]
theorem dbn_eq (T : Tal I A B) (h0 : 0 < I 9) (H : Row (I 10) (I 11) (I 12) (B 5) b (B 11) (A 17)) (hm : 0 ≤ m) (hb : b ≤ 500000) {z : Int} (hz : 0 ≤ z ∧ z ≤ 300) (n : Nat) (hn : (n : Int) ≤ I 12) : xDbN A (I 9) z m n = mDues (B 5) (tG B m z.toNat) n := by
  induction n with
  | zero => rfl
  | succ n ih =>
    have ih := ih (by omega)
    have hi := dueB_iff T h0 H hm hb z.toNat (by omega) (d := (n : Int)) (by omega)
    show (if A 17 (25 + n) ≠ 0 ∧ xLk A (I 9) m (A 15 n) (xLack A n) z.toNat ≤ 0 then iOr (xDbN A (I 9) z m n) (iShl 1 n) else xDbN A (I 9) z m n) = iOr (mDues (B 5) (tG B m z.toNat) n) (mDueB (B 5) (tG B m z.toNat) n)
    rw [ih]
    by_cases hc : 0 < tG B m z.toNat (25 + 2 * n) ∧ tG B m z.toNat (25 + 2 * n) ≤ mSince (B 5) (tG B m z.toNat) n
    · rw [mDueB_t hc, if_pos (hi.mp hc)]
    · rw [mDueB_f hc, iOr_0 (mDues_r _ _ _), if_neg (fun q => hc (hi.mpr q))]
theorem agb_eq (T : Tal I A B) (h0 : 0 < I 9) (H : Row (I 10) (I 11) (I 12) (B 5) b (B 11) (A 17)) (hm : 0 ≤ m) (hb : b ≤ 500000) {z q : Int} (hz : 0 ≤ z ∧ z ≤ 300) (hq : 0 ≤ q ∧ q < I 11) : xAgB I A q z m = mAge (B 3) (tG B m z.toNat) q := by
  obtain ⟨i0, iu, iv, iq, id⟩ := try_at T h0 H hm hb z.toNat (by omega)
  have hN := Tal_n T
  obtain ⟨e1, e2⟩ := iq q hq
  obtain ⟨g1, g2⟩ := H.2.2.2.2.2.2.2.2.2.2.1 q (by omega)
  have w1 := H.2.2.2.2.1 q hq
  have w0 := H.2.1 (13 + 2 * q)
  have e3 := (T.2.2.2.1.2.2 (B 11 (13 + 2 * q)) ⟨w0.1, w1⟩).2.2
  have e4 := T.1.2.2.2.2.2.2.1 (B 11 (13 + 2 * q)) (by have := T.2.1.2.1; omega)
  unfold xAgB xYr mAge
  rw [e1, e2, g1, g2, e3, if_pos e4]
theorem fy_eq (T : Tal I A B) {x v : Int} (hv : 0 ≤ v ∧ v < I 10) : xFy A x v = x % B 3 (5 * v + 4) := by
  have e3 := (T.2.2.2.1.2.2 v hv).2.2
  have e4 := T.1.2.2.2.2.2.2.1 v (by have := T.2.1.2.1; omega)
  unfold xFy
  rw [e3, if_pos e4]
theorem tpole_eq (T : Tal I A B) (h0 : 0 < I 9) (H : Row (I 10) (I 11) (I 12) (B 5) b (B 11) (A 17)) (hb : b ≤ 500000) {v : Int} (hv : 0 ≤ v ∧ v < I 10) (n : Nat) (hn : n ≤ 300) : iMx 0 (xFls A (I 9) 0 v (A 17 (1 + v)) n - A 17 (9 + v)) = mPole (tG B 0 n) v := by
  obtain ⟨i0, iu, iv, iq, id⟩ := try_at (m := 0) T h0 H (by decide) hb n hn
  have hN := Tal_n T
  obtain ⟨e1, e2, e3⟩ := iv v hv
  obtain ⟨g1, g2, g3⟩ := H.2.2.2.2.2.2.2.2.2.1 v (by omega)
  unfold mPole iMx
  rw [e1, e3, g1, g3]
  split <;> split <;> omega
theorem fea_eq (T : Tal I A B) (h0 : 0 < I 9) (H : Row (I 10) (I 11) (I 12) (B 5) b (B 11) (A 17)) (hb : b ≤ 500000) {v u : Int} (hv : 0 ≤ v ∧ v < I 10) (hu : 0 ≤ u ∧ u < I 10) (n : Nat) : ∀ k : Int, 0 ≤ k ∧ k + n ≤ 300 → xFea A (I 9) v u k n = mFeaT B v u k n := by
  induction n with
  | zero => intro k _; rfl
  | succ n ih =>
    intro k hk
    have p1 := tpole_eq T h0 H hb hv k.toNat (by omega)
    have p2 := tpole_eq T h0 H hb hu k.toNat (by omega)
    show (if xFy A (iMx 0 (xFls A (I 9) 0 v (A 17 (1 + v)) k.toNat - A 17 (9 + v))) v = xFy A (iMx 0 (xFls A (I 9) 0 u (A 17 (1 + u)) k.toNat - A 17 (9 + u))) u then k else xFea A (I 9) v u (k + 1) n) = if mPole (tG B 0 k.toNat) v % B 3 (5 * v + 4) = mPole (tG B 0 k.toNat) u % B 3 (5 * u + 4) then k else mFeaT B v u (k + 1) n
    rw [ih (k + 1) (by omega), p1, p2, fy_eq T hv, fy_eq T hu]
theorem at0_eq (T : Tal I A B) (h0 : 0 < I 9) (H : Row (I 10) (I 11) (I 12) (B 5) b (B 11) (A 17)) {n : Int} : xAt (A 9) (I 9) (A 17 0) n 0 = mAt B n := by
  rw [at_eq T h0 H]
  unfold mIn mAt
  have := T.1.2.1 ((B 11 0 + n) % B 1 0)
  rw [if_neg (by omega)]; omega
theorem fallAt (T : Tal I A B) (h0 : 0 < I 9) (H : Row (I 10) (I 11) (I 12) (B 5) b (B 11) (A 17)) {v n : Int} (hv : 0 ≤ v ∧ v < I 10) : (A 11 v ≤ xAt (A 9) (I 9) (A 17 0) n 0 ∧ mFallI (B 3) (mAt B n) v = 1) ∨ (¬ A 11 v ≤ xAt (A 9) (I 9) (A 17 0) n 0 ∧ mFallI (B 3) (mAt B n) v = 0) := by
  rw [at0_eq T h0 H]
  have hf := fall_eq (x := mAt B n) T.2.2.2.1 hv
  by_cases hc : A 11 v ≤ mAt B n
  · exact Or.inl ⟨hc, mFallI_t (hf.mp hc)⟩
  · exact Or.inr ⟨hc, mFallI_f (fun q => hc (hf.mpr q))⟩
theorem lng_eq (T : Tal I A B) (h0 : 0 < I 9) (H : Row (I 10) (I 11) (I 12) (B 5) b (B 11) (A 17)) {v : Int} (hv : 0 ≤ v ∧ v < I 10) (n : Nat) : xLng A (I 9) v n = mLong B v n := by
  induction n with
  | zero => rfl
  | succ n ih =>
    show (iMx (xLng A (I 9) v n).1 (if A 11 v ≤ xAt (A 9) (I 9) (A 17 0) n 0 then 0 else (xLng A (I 9) v n).2 + 1), if A 11 v ≤ xAt (A 9) (I 9) (A 17 0) n 0 then 0 else (xLng A (I 9) v n).2 + 1) = (if (mLong B v n).1 < (if mFallI (B 3) (mAt B n) v = 0 then (mLong B v n).2 + 1 else 0) then (if mFallI (B 3) (mAt B n) v = 0 then (mLong B v n).2 + 1 else 0) else (mLong B v n).1, if mFallI (B 3) (mAt B n) v = 0 then (mLong B v n).2 + 1 else 0)
    rw [ih]
    rcases fallAt (n := (n : Int)) T h0 H hv with ⟨h1, h2⟩ | ⟨h1, h2⟩
    · rw [if_pos h1, h2, if_neg (show ¬ (1 : Int) = 0 by decide)]
      rfl
    · rw [if_neg h1, h2, if_pos rfl]
      rfl
end Tr
