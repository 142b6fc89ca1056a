/-! CALL BY CALL -/
section Cl
variable {I J : Nat → Int} {A B : Nat → Int → Int} {b : Int}
theorem k_feed (H : Rel b I J A B) (v : Int) : mFeedR I v = mFeedR J v ∧ Rel b (mFeedI I v) (mFeedI J v) (mFeedA I A v) (mFeedA J B v) := by
  have H0 := H
  obtain ⟨⟨t1, t2, t3, t4, t5⟩, H'⟩ := H
  unfold mFeedR mFeedI mFeedA
  rw [← t1]
  by_cases h1 : 0 ≤ v ∧ v ≤ 255
  · rw [if_pos h1, if_pos h1, if_pos h1, if_pos h1, if_pos h1]
    by_cases h2 : I 0 = 240
    · rw [if_pos h2, if_pos h2, if_pos h2, if_pos h2, if_pos h2]
      exact ⟨rfl, H0⟩
    · rw [if_neg h2, if_neg h2, if_neg h2, if_neg h2, if_neg h2]
      refine ⟨rfl, ⟨rfl, ?_, ?_, fun k => ?_, t5⟩, H'⟩
      · show 0 ≤ I 0 + 1 ∧ I 0 + 1 ≤ 240
        omega
      · rw [st2_a, st2_a, t3]
      · rw [st2_a]
        have := t4 k
        unfold up1
        split <;> omega
  · rw [if_neg h1, if_neg h1, if_neg h1, if_neg h1, if_neg h1]
    exact ⟨rfl, H0⟩
theorem k_fault (H : Rel b I J A B) : I 1 = J 1 := H.1.2.2.2.2
theorem stA_own {A : Nat → Int → Int} : stA A 17 (A 17) = A := stA_id
theorem k_told (H : Rel b I J A B) (w : Int) : xToldR I A w = mToldR J B w := by
  obtain ⟨⟨t1, t2, t3, t4, t5⟩, T, R, ⟨p1, p2, p3, p4, p5, p6⟩, d1, ⟨s1, s2, s3, s4, s5⟩, ⟨k1, k2, k3, k4, k5⟩, M, Q⟩ := H
  have hN := Tal_n T
  have e := T.2.1
  have ed := dues_eq T R (I 12).toNat (by omega)
  rw [stA_own] at ed
  have eg := green_eq T (I 9).toNat (by omega)
  unfold xToldR mToldR
  rw [ed, eg, e.1, e.2.1, e.2.2.1, e.2.2.2, t1, s1, k1, p1, R.2.2.2.2.2.2.2.2.1]
theorem k_winter (H : Rel b I J A B) (k : Int) : xWinR I A k = mWinR B k := by
  obtain ⟨t, T, H'⟩ := H
  have e := T.2.1.1
  unfold xWinR mWinR
  rw [← e]
  by_cases h1 : 0 ≤ k ∧ k ≤ 9999
  · rw [if_pos h1, if_pos h1]
    by_cases h2 : 0 < I 9
    · rw [if_pos h2, if_pos h2]
      exact T.2.2.1 _ ⟨Int.emod_nonneg k (by omega), Int.emod_lt_of_pos k h2⟩
    · rw [if_neg h2, if_neg h2]
  · rw [if_neg h1, if_neg h1]
theorem k_village (H : Rel b I J A B) (hb : b ≤ 60000) (v w : Int) : xVilR I A v w = mVilR B v w := by
  obtain ⟨t, T, R, H'⟩ := H
  have hN := Tal_n T
  have e := T.2.1.2.1
  unfold xVilR mVilR
  rw [← e]
  by_cases h1 : 0 ≤ v ∧ v < I 10
  · rw [if_pos h1, if_pos h1]
    obtain ⟨a1, a2, a3⟩ := T.2.2.2.1.2.2 v h1
    obtain ⟨g1, g2, g3⟩ := R.2.2.2.2.2.2.2.2.2.1 v (by omega)
    have hp := pole_eq R (v := v) (by omega)
    have hm : iMn (B 11 (1 + 3 * v + 2)) 999999 = B 11 (1 + 3 * v + 2) := by
      have h2 := R.2.1 (1 + 3 * v + 2)
      have h3 := iMn_r (B 11 (1 + 3 * v + 2)) 999999
      omega
    unfold xVil mVil
    rw [hp, a1, a2, a3, g1, g2, g3, hm]
    rfl
  · rw [if_neg h1, if_neg h1]
theorem k_person (H : Rel b I J A B) (v w : Int) : xPerR I A v w = mPerR B v w := by
  obtain ⟨t, T, R, H'⟩ := H
  have hN := Tal_n T
  have e := T.2.1.2.2.1
  unfold xPerR mPerR
  rw [← e]
  by_cases h1 : 0 ≤ v ∧ v < I 11
  · rw [if_pos h1, if_pos h1]
    obtain ⟨g1, g2⟩ := R.2.2.2.2.2.2.2.2.2.2.1 v (by omega)
    have ha : xAge A v = mAge (B 3) (B 11) v := age_eq T R h1
    unfold xPer
    rw [ha, g1, g2]
    by_cases h2 : 0 ≤ w ∧ w ≤ 2
    · rw [if_pos h2]
      rcases (show w = 0 ∨ w = 1 ∨ w = 2 by omega) with rfl | rfl | rfl
      · rw [if_pos rfl, if_neg (by decide)]; congr 1; omega
      · rw [if_neg (by decide), if_pos rfl, if_neg (by decide)]
      · rw [if_neg (by decide), if_neg (by decide), if_pos rfl, if_pos rfl]
    · rw [if_neg h2, if_neg (by omega), if_neg (by omega), if_neg (by omega)]
  · rw [if_neg h1, if_neg h1]
theorem k_debt (H : Rel b I J A B) (v w : Int) : xDebR I A v w = mDebR B v w := by
  obtain ⟨t, T, R, H'⟩ := H
  have hN := Tal_n T
  have e := T.2.1.2.2.2
  unfold xDebR mDebR
  rw [← e]
  by_cases h1 : 0 ≤ v ∧ v < I 12
  · rw [if_pos h1, if_pos h1]
    have g1 := (R.2.2.2.2.2.2.2.2.2.2.2 v (by omega)).1
    have a1 := T.2.2.2.2.2.1 v h1
    have hs : xSince A v = mSince (B 5) (B 11) v := since_eq T R h1
    have hd : (A 17 (25 + v) ≠ 0 ∧ xLack A v = 0) ↔ (0 < B 11 (25 + 2 * v) ∧ B 11 (25 + 2 * v) ≤ mSince (B 5) (B 11) v) := due_iff T R h1
    have hq : (if A 17 (25 + v) ≠ 0 ∧ xLack A v = 0 then (1 : Int) else 0) = if 0 < B 11 (25 + 2 * v) ∧ B 11 (25 + 2 * v) ≤ mSince (B 5) (B 11) v then 1 else 0 := by
      by_cases hc : 0 < B 11 (25 + 2 * v) ∧ B 11 (25 + 2 * v) ≤ mSince (B 5) (B 11) v
      · rw [if_pos hc, if_pos (hd.mpr hc)]
      · rw [if_neg hc, if_neg (fun q => hc (hd.mp q))]
    unfold xDeb
    rw [hq, hs, a1, g1]
  · rw [if_neg h1, if_neg h1]
theorem bar_eq (H : Rel b I J A B) (n : Int) : xBar I A n = mBar B n := by
  obtain ⟨t, T, R, H'⟩ := H
  unfold xBar mBar
  rw [T.2.1.1, R.2.2.2.2.2.2.2.2.1]
theorem k_night (H : Rel b I J A B) (hb : b ≤ 60000) (n : Int) : xNightR I A n = mNightR B n ∧ Rel b (xNightI I A n) (mNightI J B n) (xNightA I A n) (mNightA J B n) := by
  unfold xNightR mNightR xNightI mNightI xNightA mNightA
  rw [bar_eq H n]
  by_cases h : mBar B n = 0
  · rw [if_pos h, if_pos h, if_pos h, if_pos h, if_pos h, if_pos h]
    have h1 := mBar_0 h
    have T := H.2.1
    have R := H.2.2.1
    obtain ⟨R', -⟩ := Row_ngt T (by have := T.2.1.1; omega) (by omega) R n.toNat (by omega)
    exact ⟨R'.2.2.2.2.2.2.2.2.1, Rel_deed (Int.le_refl _) H R'⟩
  · rw [if_neg h, if_neg h, if_neg h, if_neg h, if_neg h, if_neg h]
    exact ⟨rfl, H⟩
theorem k_move (H : Rel b I J A B) (hb : 0 ≤ b) (q v : Int) : xMoveR I A q v = mMoveR B q v ∧ Rel b (xMoveI I q v) (mMoveI J B q v) (xMoveA I A q v) (mMoveA J B q v) := by
  have T := H.2.1
  have R := H.2.2.1
  have hN := Tal_n T
  unfold xMoveR mMoveR xMoveI mMoveI xMoveA mMoveA
  rw [← T.2.1.2.2.1, ← T.2.1.2.1]
  by_cases h : (0 ≤ q ∧ q < I 11) ∧ (0 ≤ v ∧ v < I 10)
  · rw [if_pos h, if_pos h, if_pos h, if_pos h, if_pos h, if_pos h]
    have R' := Row_move hb (p := q) (by omega) h.2 hN.2.1.2 (Tal_pl T) hN.2.2.2.2 R
    exact ⟨age_eq T R' h.1, Rel_deed (Int.le_refl _) H R'⟩
  · rw [if_neg h, if_neg h, if_neg h, if_neg h, if_neg h, if_neg h]
    exact ⟨rfl, H⟩
theorem k_saw (H : Rel b I J A B) (hb : 0 ≤ b) (v k : Int) : xSawR I A v k = mSawR B v k ∧ Rel (b + 100) (xSawI I v k) (mSawI J B v k) (xSawA I A v k) (mSawA J B v k) := by
  have T := H.2.1
  have R := H.2.2.1
  have hN := Tal_n T
  unfold xSawR mSawR xSawI mSawI xSawA mSawA
  rw [← T.2.1.2.1]
  by_cases h : 0 ≤ v ∧ v < I 10
  · rw [if_pos h, if_pos h, if_pos h, if_pos h, if_pos h, if_pos h]
    by_cases h2 : 1 ≤ k ∧ k ≤ 99
    · rw [if_pos h2, if_pos h2, if_pos h2, if_pos h2, if_pos h2, if_pos h2]
      have R' := Row_w (b' := b + 100) (by omega) (Row_saw (v := v) (k := k) (by omega) (by omega) (Tal_pl T) hN.2.2.2.2 R)
      have e3 := (R.2.2.2.2.2.2.2.2.2.1 v (by omega)).2.2
      exact ⟨pole_eq R' (by omega), Rel_deed (by omega) H R'⟩
    · rw [if_neg h2, if_neg h2, if_neg h2, if_neg h2, if_neg h2, if_neg h2]
      exact ⟨rfl, Rel_w (by omega) H⟩
  · rw [if_neg h, if_neg h, if_neg h, if_neg h, if_neg h, if_neg h]
    exact ⟨rfl, Rel_w (by omega) H⟩
theorem k_pay (H : Rel b I J A B) (hb : 0 ≤ b) (d : Int) : xPayR I A d = mPayR B d ∧ Rel b (xPayI I A d) (mPayI J B d) (xPayA I A d) (mPayA J B d) := by
  have T := H.2.1
  have R := H.2.2.1
  have hN := Tal_n T
  unfold xPayR mPayR xPayI mPayI xPayA mPayA
  rw [← T.2.1.2.2.2]
  by_cases h : 0 ≤ d ∧ d < I 12
  · rw [if_pos h, if_pos h, if_pos h, if_pos h, if_pos h, if_pos h]
    have hs : xSince A d = mSince (B 5) (B 11) d := since_eq T R h
    have hd : (A 17 (25 + d) ≠ 0 ∧ xLack A d = 0) ↔ (0 < B 11 (25 + 2 * d) ∧ B 11 (25 + 2 * d) ≤ mSince (B 5) (B 11) d) := due_iff T R h
    by_cases hc : 0 < B 11 (25 + 2 * d) ∧ B 11 (25 + 2 * d) ≤ mSince (B 5) (B 11) d
    · have hx := hd.mpr hc
      rw [if_pos hc, if_pos hc, if_pos hc, if_pos hx, if_pos hx, if_pos hx]
      exact ⟨hs, Rel_deed (Int.le_refl _) H (Row_pay hb (d := d) (by omega) hN.2.1.2 (Tal_pl T) hN.2.2.2.2 R)⟩
    · have hx : ¬ (A 17 (25 + d) ≠ 0 ∧ xLack A d = 0) := fun q => hc (hd.mp q)
      rw [if_neg hc, if_neg hc, if_neg hc, if_neg hx, if_neg hx, if_neg hx]
      exact ⟨rfl, H⟩
  · rw [if_neg h, if_neg h, if_neg h, if_neg h, if_neg h, if_neg h]
    exact ⟨rfl, H⟩
theorem k_lend (H : Rel b I J A B) (hb : 0 ≤ b) (d x : Int) : xLendR I A d x = mLendR B d x ∧ Rel b (xLendI I A d x) (mLendI J B d x) (xLendA I A d x) (mLendA J B d x) := by
  have T := H.2.1
  have R := H.2.2.1
  have hN := Tal_n T
  unfold xLendR mLendR xLendI mLendI xLendA mLendA
  rw [← T.2.1.2.2.2]
  by_cases h : 0 ≤ d ∧ d < I 12
  · rw [if_pos h, if_pos h, if_pos h, if_pos h, if_pos h, if_pos h]
    have g1 := (R.2.2.2.2.2.2.2.2.2.2.2 d (by omega)).1
    rw [g1]
    by_cases h2 : 1 ≤ x ∧ x ≤ 999
    · rw [if_pos h2, if_pos h2, if_pos h2, if_pos h2, if_pos h2, if_pos h2]
      by_cases h3 : B 11 (25 + 2 * d) = 0
      · rw [if_pos h3, if_pos h3, if_pos h3, if_pos h3, if_pos h3, if_pos h3]
        have R' := Row_lend hb h h2 hN.2.1.2 hN.2.2.1.2 (Tal_pl T) hN.2.2.2.2 R
        rw [← T.2.2.2.2.2.1 d h] at R'
        have e : Row (I 10) (I 11) (I 12) (B 5) b (mLendF B d x) (xLendF A d x) := by
          unfold mLendF xLendF
          rw [← T.2.2.2.2.2.1 d h]
          exact R'
        exact ⟨open_eq e _ (by omega), Rel_deed (Int.le_refl _) H e⟩
      · rw [if_neg h3, if_neg h3, if_neg h3, if_neg h3, if_neg h3, if_neg h3]
        exact ⟨rfl, H⟩
    · rw [if_neg h2, if_neg h2, if_neg h2, if_neg h2, if_neg h2, if_neg h2]
      exact ⟨rfl, H⟩
  · rw [if_neg h, if_neg h, if_neg h, if_neg h, if_neg h, if_neg h]
    exact ⟨rfl, H⟩
theorem k_drift (H : Rel b I J A B) (hb : 0 ≤ b ∧ b ≤ 60000) (n : Int) : xDriftR I A n = mDriftR J B n ∧ Rel (b + 100) (xDriftI I A n) (mDriftI J B n) (xDriftA I A n) (mDriftA J B n) := by
  unfold xDriftR mDriftR xDriftI mDriftI xDriftA mDriftA
  rw [bar_eq H n]
  by_cases h : mBar B n = 0
  · rw [if_pos h, if_pos h, if_pos h, if_pos h, if_pos h, if_pos h]
    have h1 := mBar_0 h
    have T := H.2.1
    have R := H.2.2.1
    have e15 : I 15 = J 3 := H.2.2.2.2.1
    obtain ⟨r1, r2, -⟩ := Row_dr (s := J 3) T R hb.1 n.toNat (by omega) (by omega)
    rw [T.2.1.2.1, T.2.1.2.2.1] at r1 r2
    have ex : xDrf I A n.toNat = xDr (A 11) (A 10) (B 1 1) (B 1 2) (J 3) (A 17) n.toNat := by
      unfold xDrf
      rw [e15, T.2.1.2.1, T.2.1.2.2.1]
    have r2' : Row (I 10) (I 11) (I 12) (B 5) (b + 100) (mDrf J B n).2 (xDrf I A n.toNat).2 := by
      rw [ex, T.2.1.2.1, T.2.1.2.2.1]
      exact Row_w (by omega) r2
    have r1' : (xDrf I A n.toNat).1 = (mDrf J B n).1 := by
      rw [ex]; exact r1
    refine ⟨r2'.2.2.2.2.2.2.2.2.1, ?_⟩
    obtain ⟨q1, q2, q3, q4, q5, q6⟩ := Rel_deed (b' := b + 100) (by omega) H r2'
    exact ⟨q1, q2, q3, q4, r1', q6⟩
  · rw [if_neg h, if_neg h, if_neg h, if_neg h, if_neg h, if_neg h]
    exact ⟨rfl, Rel_w (by omega) H⟩
theorem k_undo (H : Rel b I J A B) : (if I 13 = 0 then -1000000003 else I 13 - 1) = (if J 2 = 0 then -1000000003 else J 2 - 1) ∧ Rel b (xUndoI I) (if J 2 = 0 then J else st1 J 2 (J 2 - 1)) (xUndoA I A) (if J 2 = 0 then B else stA B 11 (fun k => B 13 (35 * (J 2 - 1) + k))) := by
  have H0 := H
  obtain ⟨t, T, R, ⟨p1, p2, p3, p4, p5, p6⟩, d, S, K, M, Q⟩ := H
  unfold xUndoI xUndoA
  rw [p1]
  by_cases h : J 2 = 0
  · rw [if_pos h, if_pos h, if_pos h, if_pos h, if_pos h]
    exact ⟨rfl, H0⟩
  · rw [if_neg h, if_neg h, if_neg h, if_neg h, if_neg h]
    have hr := p6 (J 2 - 1) (by omega)
    rw [show (I 14 + 20 - J 2 + (J 2 - 1)) % 20 = (I 14 + 20 - 1) % 20 by omega] at hr
    refine ⟨rfl, t, T, hr, ⟨rfl, ?_, ?_, p4, p5, fun i hi => ?_⟩, d, S, K, M, Q⟩
    · show 0 ≤ J 2 - 1 ∧ J 2 - 1 ≤ 20
      omega
    · show 0 ≤ (I 14 + 20 - 1) % 20 ∧ (I 14 + 20 - 1) % 20 < 20
      omega
    · have hi2 : 0 ≤ i ∧ i < J 2 - 1 := hi
      have hq := p6 i (by omega)
      show Row (I 10) (I 11) (I 12) (B 5) b (fun k => B 13 (35 * i + k)) (fun k => A 18 (((I 14 + 20 - 1) % 20 + 20 - (J 2 - 1) + i) % 20 * 35 + k))
      rw [show ((I 14 + 20 - 1) % 20 + 20 - (J 2 - 1) + i) % 20 = (I 14 + 20 - J 2 + i) % 20 by omega]
      exact hq
end Cl
