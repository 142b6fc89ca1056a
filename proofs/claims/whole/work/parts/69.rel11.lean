section Cm
variable {I J : Nat → Int} {A B : Nat → Int → Int} {b : Int}
theorem k_due (H : Rel b I J A B) (hb : b ≤ 60000) (d : Int) : xDueR I A d = mDueR B d := by
  have T := H.2.1
  have R := H.2.2.1
  have hN := Tal_n T
  unfold xDueR mDueR
  rw [← T.2.1.2.2.2]
  by_cases h : 0 ≤ d ∧ d < I 12
  · have g1 := (R.2.2.2.2.2.2.2.2.2.2.2 d (by omega)).1
    rw [if_pos h, if_pos h, ← g1]
    by_cases h2 : A 17 (25 + d) = 0
    · rw [if_pos h2, if_pos h2]
    · rw [if_neg h2, if_neg h2]
      exact til_eq T (T.2.2.2.2.2.2.1 (by omega)) R (by omega) h h2 201 0 (by omega)
  · rw [if_neg h, if_neg h]
theorem k_old (H : Rel b I J A B) (hb : b ≤ 60000) (q n : Int) : xOldR I A q n = mOldR B q n := by
  have T := H.2.1
  have R := H.2.2.1
  unfold xOldR mOldR
  rw [← T.2.1.2.2.1]
  by_cases h : 0 ≤ q ∧ q < I 11
  · rw [if_pos h, if_pos h]
    by_cases h2 : 0 ≤ n ∧ n ≤ 200
    · rw [if_pos h2, if_pos h2]
      exact agb_eq T (T.2.2.2.2.2.2.1 (by omega)) R (by decide) (by omega) (by omega) h
    · rw [if_neg h2, if_neg h2]
  · rw [if_neg h, if_neg h]
theorem k_feast (H : Rel b I J A B) (hb : b ≤ 60000) (v u : Int) : xFeaR I A v u = mFeaR B v u := by
  have T := H.2.1
  have R := H.2.2.1
  unfold xFeaR mFeaR
  rw [← T.2.1.2.1]
  by_cases h : (0 ≤ v ∧ v < I 10) ∧ (0 ≤ u ∧ u < I 10) ∧ v ≠ u
  · rw [if_pos h, if_pos h]
    exact fea_eq T (T.2.2.2.2.2.2.1 (by omega)) R (by omega) h.1 h.2.1 201 0 (by omega)
  · rw [if_neg h, if_neg h]
theorem k_mild (H : Rel b I J A B) (hb : b ≤ 60000) (q m n : Int) : xMildR I A q m n = mMildR B q m n := by
  have T := H.2.1
  have R := H.2.2.1
  unfold xMildR mMildR
  rw [← T.2.1.2.2.1]
  by_cases h : 0 ≤ q ∧ q < I 11
  · rw [if_pos h, if_pos h]
    by_cases h2 : (0 ≤ m ∧ m ≤ 40) ∧ (0 ≤ n ∧ n ≤ 200)
    · rw [if_pos h2, if_pos h2]
      have h0 := T.2.2.2.2.2.2.1 (by omega)
      rw [agb_eq (m := 0) T h0 R (by decide) (by omega) (by omega) h, agb_eq (m := m) T h0 R (by omega) (by omega) (by omega) h]
      rfl
    · rw [if_neg h2, if_neg h2]
  · rw [if_neg h, if_neg h]
theorem k_mildDebts (H : Rel b I J A B) (hb : b ≤ 60000) (m n : Int) : xMilDR I A m n = mMilDR B m n := by
  have T := H.2.1
  have R := H.2.2.1
  have hN := Tal_n T
  unfold xMilDR mMilDR
  rw [← T.2.1.2.2.2, ← T.2.1.1]
  by_cases h2 : (0 ≤ m ∧ m ≤ 40) ∧ (0 ≤ n ∧ n ≤ 200)
  · rw [if_pos h2, if_pos h2]
    by_cases h0 : 0 < I 9
    · rw [if_pos h0, dbn_eq (m := 0) T h0 R (by decide) (by omega) (by omega) _ (by omega), dbn_eq (m := m) T h0 R (by omega) (by omega) (by omega) _ (by omega)]
      rfl
    · have hz : I 12 = 0 := by
        by_cases hd : 0 < I 12
        · exact absurd (T.2.2.2.2.2.2.1 (Or.inr (Or.inr hd))) h0
        · omega
      rw [if_neg h0, hz]
      show iAnd 0 (iXor 0 (-1)) = 0
      decide
  · rw [if_neg h2, if_neg h2]
theorem k_older (H : Rel b I J A B) (q v : Int) : xOlderR I A q v = mOlderR B q v := by
  have T := H.2.1
  have R := H.2.2.1
  have hN := Tal_n T
  unfold xOlderR mOlderR
  rw [← T.2.1.2.2.1, ← T.2.1.2.1]
  by_cases h : (0 ≤ q ∧ q < I 11) ∧ (0 ≤ v ∧ v < I 10)
  · rw [if_pos h, if_pos h]
    have ha : xAge A q = mAge (B 3) (B 11) q := age_eq T R h.1
    have g2 := (R.2.2.2.2.2.2.2.2.2.2.1 q (by omega)).2
    have e3 := (T.2.2.2.1.2.2 v h.2).2.2
    have e4 := T.1.2.2.2.2.2.2.1 v (by have := T.2.1.2.1; omega)
    unfold xYr
    rw [ha, g2, e3, if_pos e4]
  · rw [if_neg h, if_neg h]
theorem k_chance (H : Rel b I J A B) (d n : Int) : xChaR I A d n = mChaR B d n := by
  have T := H.2.1
  have R := H.2.2.1
  have hN := Tal_n T
  unfold xChaR mChaR
  rw [← T.2.1.2.2.2, ← T.2.1.1]
  by_cases h : 0 ≤ d ∧ d < I 12
  · have g1 := (R.2.2.2.2.2.2.2.2.2.2.2 d (by omega)).1
    rw [if_pos h, if_pos h, ← g1]
    by_cases h2 : 0 ≤ n ∧ n ≤ 30
    · rw [if_pos h2, if_pos h2]
      by_cases h3 : A 17 (25 + d) = 0
      · rw [if_pos h3, if_pos h3]
      · rw [if_neg h3, if_neg h3]
        have el : xLack A d = mx0 (B 11 (25 + 2 * d) - mSince (B 5) (B 11) d) := lack_eq T R h
        have e2 := lack_le T R h
        rw [el, g1, T.2.2.2.2.2.1 d h]
        exact (cha_eq T (Tal_pl T d h) e2 n.toNat 0 (by decide)).1
    · rw [if_neg h2, if_neg h2]
  · rw [if_neg h, if_neg h]
theorem k_poles (H : Rel b I J A B) : xPol A (I 9) (I 10).toNat = mPoles B (B 1 1).toNat := by
  have T := H.2.1
  have hN := Tal_n T
  rw [← T.2.1.2.1]
  exact pol_eq T H.2.2.1 _ (by omega)
theorem k_longest (H : Rel b I J A B) (v : Int) : xLongR I A v = mLongR B v := by
  have T := H.2.1
  unfold xLongR mLongR
  rw [← T.2.1.2.1]
  by_cases h : 0 ≤ v ∧ v < I 10
  · rw [if_pos h, if_pos h, lng_eq T (T.2.2.2.2.2.2.1 (by omega)) H.2.2.1 h 100]
  · rw [if_neg h, if_neg h]
theorem k_say (H : Rel b I J A B) (q x : Int) : xSayR I q x = mSayR J B q x ∧ Rel b (xSayI I q x) (mSayI J B q x) (xSayA I A q x) (mSayA J B q x) := by
  have H0 := H
  obtain ⟨t, T, R, P, d, ⟨s1, s2, s3, s4, s5⟩, K, M, Q⟩ := H
  unfold xSayR mSayR xSayI mSayI xSayA mSayA
  rw [← T.2.1.2.2.1, ← s1]
  by_cases h : 0 ≤ q ∧ q < I 11
  · rw [if_pos h, if_pos h, if_pos h, if_pos h, if_pos h, if_pos h]
    by_cases h2 : 0 ≤ x ∧ x ≤ 9999
    · rw [if_pos h2, if_pos h2, if_pos h2, if_pos h2, if_pos h2, if_pos h2]
      by_cases h3 : I 16 = 6
      · have h4 : ¬ I 16 < 6 := by omega
        rw [if_pos h3, if_pos h3, if_pos h3, if_neg h4, if_neg h4, if_neg h4]
        exact ⟨rfl, H0⟩
      · have h4 : I 16 < 6 := by omega
        have hN := Tal_n T
        rw [if_neg h3, if_neg h3, if_neg h3, if_pos h4, if_pos h4, if_pos h4]
        have e22 : st2 (st2 A 22 (I 16) q) 23 (I 16) x 22 = up1 (A 22) (I 16) q := by rw [st2_n (by decide), st2_a]
        have e23 : st2 (st2 A 22 (I 16) q) 23 (I 16) x 23 = up1 (A 23) (I 16) x := by rw [st2_a, st2_n (by decide)]
        have e16 : st2 (st2 B 16 (2 * I 16) q) 16 (2 * I 16 + 1) x 16 = up1 (up1 (B 16) (2 * I 16) q) (2 * I 16 + 1) x := by rw [st2_a, st2_a]
        have hS : RSay (st1 I 16 (I 16 + 1)) (st1 J 4 (I 16 + 1)) (st2 (st2 A 22 (I 16) q) 23 (I 16) x) (st2 (st2 B 16 (2 * I 16) q) 16 (2 * I 16 + 1) x) := by
          refine ⟨rfl, ?_, fun k hk => ?_, fun k => ?_, fun k => ?_⟩
          · show 0 ≤ I 16 + 1 ∧ I 16 + 1 ≤ 6
            omega
          · have hk2 : 0 ≤ k ∧ k < I 16 + 1 := hk
            rw [e22, e23, e16]
            show _ ∧ _ ∧ _ ∧ _ < I 11
            by_cases he : k = I 16
            · subst he
              rw [up1_s, up1_s, up1_s, up1_n (by omega), up1_s]
              exact ⟨rfl, rfl, h.1, h.2⟩
            · rw [up1_n he, up1_n he, up1_n (by omega), up1_n (by omega), up1_n (by omega), up1_n (by omega)]
              exact s3 k (by omega)
          · rw [e23]
            have := s4 k
            unfold up1
            split <;> omega
          · rw [e16]
            have := s5 k
            unfold up1
            split
            · omega
            · split <;> omega
        exact ⟨rfl, t, T, R, P, d, hS, K, M, Q⟩
    · rw [if_neg h2, if_neg h2, if_neg h2, if_neg h2, if_neg h2, if_neg h2]
      exact ⟨rfl, H0⟩
  · rw [if_neg h, if_neg h, if_neg h, if_neg h, if_neg h, if_neg h]
    exact ⟨rfl, H0⟩
theorem k_write (H : Rel b I J A B) (q x : Int) : xWrR I q x = mWrR J B q x ∧ Rel b (xWrI I q x) (mWrI J B q x) (xWrA I A q x) (mWrA J B q x) := by
  have H0 := H
  obtain ⟨t, T, R, P, d, S, ⟨s1, s2, s3, s4, s5⟩, M, Q⟩ := H
  unfold xWrR mWrR xWrI mWrI xWrA mWrA
  rw [← T.2.1.2.1, ← s1]
  by_cases h : 0 ≤ q ∧ q < I 10
  · rw [if_pos h, if_pos h, if_pos h, if_pos h, if_pos h, if_pos h]
    by_cases h2 : 0 ≤ x ∧ x ≤ 9999
    · rw [if_pos h2, if_pos h2, if_pos h2, if_pos h2, if_pos h2, if_pos h2]
      by_cases h3 : I 17 = 15
      · have h4 : ¬ I 17 < 15 := by omega
        rw [if_pos h3, if_pos h3, if_pos h3, if_neg h4, if_neg h4, if_neg h4]
        exact ⟨rfl, H0⟩
      · have h4 : I 17 < 15 := by omega
        have hN := Tal_n T
        rw [if_neg h3, if_neg h3, if_neg h3, if_pos h4, if_pos h4, if_pos h4]
        have e22 : st2 (st2 A 26 (I 17) q) 27 (I 17) x 26 = up1 (A 26) (I 17) q := by rw [st2_n (by decide), st2_a]
        have e23 : st2 (st2 A 26 (I 17) q) 27 (I 17) x 27 = up1 (A 27) (I 17) x := by rw [st2_a, st2_n (by decide)]
        have e16 : st2 (st2 B 17 (2 * I 17) q) 17 (2 * I 17 + 1) x 17 = up1 (up1 (B 17) (2 * I 17) q) (2 * I 17 + 1) x := by rw [st2_a, st2_a]
        have hS : RBook (st1 I 17 (I 17 + 1)) (st1 J 5 (I 17 + 1)) (st2 (st2 A 26 (I 17) q) 27 (I 17) x) (st2 (st2 B 17 (2 * I 17) q) 17 (2 * I 17 + 1) x) := by
          refine ⟨rfl, ?_, fun k hk => ?_, fun k => ?_, fun k => ?_⟩
          · show 0 ≤ I 17 + 1 ∧ I 17 + 1 ≤ 15
            omega
          · have hk2 : 0 ≤ k ∧ k < I 17 + 1 := hk
            rw [e22, e23, e16]
            show _ ∧ _ ∧ _ ∧ _ < I 10
            by_cases he : k = I 17
            · subst he
              rw [up1_s, up1_s, up1_s, up1_n (by omega), up1_s]
              exact ⟨rfl, rfl, h.1, h.2⟩
            · rw [up1_n he, up1_n he, up1_n (by omega), up1_n (by omega), up1_n (by omega), up1_n (by omega)]
              exact s3 k (by omega)
          · rw [e23]
            have := s4 k
            unfold up1
            split <;> omega
          · rw [e16]
            have := s5 k
            unfold up1
            split
            · omega
            · split <;> omega
        exact ⟨rfl, t, T, R, P, d, S, hS, M, Q⟩
    · rw [if_neg h2, if_neg h2, if_neg h2, if_neg h2, if_neg h2, if_neg h2]
      exact ⟨rfl, H0⟩
  · rw [if_neg h, if_neg h, if_neg h, if_neg h, if_neg h, if_neg h]
    exact ⟨rfl, H0⟩
theorem k_sawn (H : Rel b I J A B) (i : Int) : xSawnR I A i = mSawnR J B i := by
  have T := H.2.1
  obtain ⟨l1, l2⟩ := lays_eq T H.2.2.1 H.2.2.2.2.2.1 (10 * B 1 1).toNat
  have e : (I 10 * 10).toNat = (10 * B 1 1).toNat := by rw [T.2.1.2.1]; congr 1; omega
  unfold xSawnR mSawnR
  rw [e, l1]
  by_cases h : i = -1
  · rw [if_pos h, if_pos h]
  · rw [if_neg h, if_neg h]
    by_cases h2 : 0 ≤ i ∧ i < (mLays B (J 4) (10 * B 1 1).toNat).1
    · rw [if_pos h2, if_pos (by omega)]
      exact l2 i h2
    · rw [if_neg h2, if_neg (by omega)]
theorem k_ask (H : Rel b I J A B) : (xAsk A (xLays A (I 16) (I 10 * 10).toNat).2 (xLays A (I 16) (I 10 * 10).toNat).1 (I 11).toNat).1 = mAskR J B := by
  have T := H.2.1
  have hN := Tal_n T
  obtain ⟨l1, l2⟩ := lays_eq T H.2.2.1 H.2.2.2.2.2.1 (10 * B 1 1).toNat
  have e : (I 10 * 10).toNat = (10 * B 1 1).toNat := by rw [T.2.1.2.1]; congr 1; omega
  have hb := (mLays_b (A := B) (g := J 4) (10 * B 1 1).toNat).1
  unfold mAskR
  rw [e, l1, ask_eq T H.2.2.1 hb.1 l2 (I 11).toNat (by omega), T.2.1.2.2.1]
theorem k_tear (H : Rel b I J A B) : I 16 + I 17 = J 4 + J 5 ∧ Rel b (st1 (st1 I 16 0) 17 0) (st1 (st1 J 4 0) 5 0) A B := by
  obtain ⟨t, T, R, P, d, ⟨s1, s2, s3, s4, s5⟩, ⟨k1, k2, k3, k4, k5⟩, M, Q⟩ := H
  refine ⟨by omega, t, T, R, P, d, ⟨rfl, by show (0 : Int) ≤ 0 ∧ (0 : Int) ≤ 6; decide, fun k hk => ?_, s4, s5⟩, ⟨rfl, by show (0 : Int) ≤ 0 ∧ (0 : Int) ≤ 15; decide, fun k hk => ?_, k4, k5⟩, M, Q⟩
  · have : 0 ≤ k ∧ k < 0 := hk
    omega
  · have : 0 ≤ k ∧ k < 0 := hk
    omega
theorem k_judge (H : Rel b I J A B) : xJud (A 17) (A 26) (A 27) 0 (I 17).toNat = mJud (B 11) (B 17) 0 (J 5).toNat := by
  obtain ⟨t, T, R, P, d, S, ⟨k1, k2, k3, k4, k5⟩, M, Q⟩ := H
  have hN := Tal_n T
  rw [← k1]
  exact jud_eq R _ 0 (by decide) (fun t ht => by have := k3 t (by omega); omega)
theorem k_seed (H : Rel b I J A B) (v : Int) : (if v < 0 then -1000000002 else I 15) = (if v < 0 then -1000000002 else J 3) ∧ Rel b (if v < 0 then I else st1 I 15 v) (if v < 0 then J else st1 J 3 v) A B := by
  have H0 := H
  obtain ⟨t, T, R, P, d, S, K, M, Q⟩ := H
  by_cases h : v < 0
  · rw [if_pos h, if_pos h, if_pos h, if_pos h]
    exact ⟨rfl, H0⟩
  · rw [if_neg h, if_neg h, if_neg h, if_neg h]
    exact ⟨d, t, T, R, P, rfl, S, K, M, Q⟩
theorem past_0 (H : RPast b I J A B) : ∀ {I' J' : Nat → Int}, I' 13 = 0 → J' 2 = 0 → I' 14 = 0 → RPast b I' J' A B := fun h1 h2 h3 => by
  obtain ⟨p1, p2, p3, p4, p5, p6⟩ := H
  exact ⟨by omega, by omega, by omega, p4, p5, fun i hi => by omega⟩
theorem k_keep (H : Rel b I J A B) (i : Int) : (if 0 ≤ i ∧ i < 2 then (1 : Int) else -1000000001) = (if 0 ≤ i ∧ i ≤ 1 then 1 else -1000000001) ∧ Rel b (if 0 ≤ i ∧ i < 2 then st1 (st1 I 13 0) 14 0 else I) (if 0 ≤ i ∧ i ≤ 1 then st1 J 2 0 else J) (xKeepA I A i) (if 0 ≤ i ∧ i ≤ 1 then st2 (st2 (stA B 14 (cpI (B 11) (B 14) 0 (35 * i) 35)) 15 i (J 3)) 21 i 1 else B) := by
  have H0 := H
  obtain ⟨t, T, R, P, d, S, K, ⟨i1, i2, i3, i4⟩, Q⟩ := H
  unfold xKeepA
  by_cases h : 0 ≤ i ∧ i < 2
  · have h' : 0 ≤ i ∧ i ≤ 1 := by omega
    have hN := Tal_n T
    rw [if_pos h, if_pos h, if_pos h, if_pos h', if_pos h', if_pos h']
    have e28 : st2 (st2 (stA A 20 (cpI (A 17) (A 20) 0 (i * 35) 35)) 19 i (I 15)) 28 i 1 28 = up1 (A 28) i 1 := by rw [st2_a]; rfl
    have e19 : st2 (st2 (stA A 20 (cpI (A 17) (A 20) 0 (i * 35) 35)) 19 i (I 15)) 28 i 1 19 = up1 (A 19) i (I 15) := by rw [st2_n (by decide), st2_a]; rfl
    have e21 : st2 (st2 (stA B 14 (cpI (B 11) (B 14) 0 (35 * i) 35)) 15 i (J 3)) 21 i 1 21 = up1 (B 21) i 1 := by rw [st2_a]; rfl
    have e15 : st2 (st2 (stA B 14 (cpI (B 11) (B 14) 0 (35 * i) 35)) 15 i (J 3)) 21 i 1 15 = up1 (B 15) i (J 3) := by rw [st2_n (by decide), st2_a]; rfl
    have bM := cpI_b (f := B 11) (g := B 14) (x := 0) (y := 35 * i) (n := 35) R.2.1 i1
    have bX := cpI_b (f := A 17) (g := A 20) (x := 0) (y := i * 35) (n := 35) R.2.2.1 i2
    refine ⟨rfl, t, T, R, past_0 P rfl rfl rfl, d, S, K, ⟨bM, bX, fun j => ?_, fun j hj => ?_⟩, Q⟩
    · rw [e21]
      have := i3 j
      unfold up1
      split <;> omega
    · rw [e28, e21, e19, e15]
      show _ ∧ (_ → _ ∧ Row (I 10) (I 11) (I 12) (B 5) b (fun k => cpI (B 11) (B 14) 0 (35 * i) 35 (35 * j + k)) (fun k => cpI (A 17) (A 20) 0 (i * 35) 35 (j * 35 + k)))
      by_cases he : j = i
      · subst he
        rw [up1_s, up1_s, up1_s, up1_s]
        refine ⟨rfl, fun _ => ⟨d, ?_⟩⟩
        refine Row_c hN.2.1.2 hN.2.2.1.2 hN.2.2.2.2 (Tal_pl T) (fun k => bM _) (fun k => bX _) (fun k hk => ⟨?_, ?_⟩) R
        · show cpI (B 11) (B 14) 0 (35 * j) 35 (35 * j + k) = B 11 k
          unfold cpI
          rw [if_pos (by omega)]
          congr 1; omega
        · show cpI (A 17) (A 20) 0 (j * 35) 35 (j * 35 + k) = A 17 k
          unfold cpI
          rw [if_pos (by omega)]
          congr 1; omega
      · obtain ⟨q1, q2⟩ := i4 j hj
        rw [up1_n he, up1_n he, up1_n he, up1_n he]
        refine ⟨q1, fun hz => ⟨(q2 hz).1, ?_⟩⟩
        refine Row_c hN.2.1.2 hN.2.2.1.2 hN.2.2.2.2 (Tal_pl T) (fun k => bM _) (fun k => bX _) (fun k hk => ⟨?_, ?_⟩) (q2 hz).2
        · show cpI (B 11) (B 14) 0 (35 * i) 35 (35 * j + k) = B 14 (35 * j + k)
          unfold cpI
          rw [if_neg (by omega)]
        · show cpI (A 17) (A 20) 0 (i * 35) 35 (j * 35 + k) = A 20 (j * 35 + k)
          unfold cpI
          rw [if_neg (by omega)]
  · have h' : ¬ (0 ≤ i ∧ i ≤ 1) := by omega
    rw [if_neg h, if_neg h, if_neg h, if_neg h', if_neg h', if_neg h']
    exact ⟨rfl, H0⟩
theorem k_goBack (H : Rel b I J A B) (i : Int) : (if 0 ≤ i ∧ i < 2 then (if A 28 i = 0 then (-1000000003 : Int) else 1) else -1000000001) = (if 0 ≤ i ∧ i ≤ 1 then (if B 21 i = 0 then -1000000003 else 1) else -1000000001) ∧ Rel b (xBackI I A i) (if 0 ≤ i ∧ i ≤ 1 then (if B 21 i = 0 then J else st1 (st1 J 3 (B 15 i)) 2 0) else J) (xBackA A i) (if 0 ≤ i ∧ i ≤ 1 then (if B 21 i = 0 then B else stA B 11 (fun k => B 14 (35 * i + k))) else B) := by
  have H0 := H
  obtain ⟨t, T, R, P, d, S, K, ⟨i1, i2, i3, i4⟩, Q⟩ := H
  unfold xBackI xBackA
  by_cases h : 0 ≤ i ∧ i < 2
  · have h' : 0 ≤ i ∧ i ≤ 1 := by omega
    obtain ⟨q1, q2⟩ := i4 i h
    rw [if_pos h, if_pos h, if_pos h, if_pos h', if_pos h', if_pos h', ← q1]
    by_cases hz : A 28 i = 0
    · rw [if_pos hz, if_pos hz, if_pos hz, if_pos hz, if_pos hz]
      exact ⟨rfl, H0⟩
    · rw [if_neg hz, if_neg hz, if_neg hz, if_neg hz, if_neg hz]
      exact ⟨rfl, t, T, (q2 hz).2, past_0 P rfl rfl rfl, (q2 hz).1, S, K, ⟨i1, i2, i3, i4⟩, Q⟩
  · have h' : ¬ (0 ≤ i ∧ i ≤ 1) := by omega
    rw [if_neg h, if_neg h, if_neg h, if_neg h', if_neg h', if_neg h']
    exact ⟨rfl, H0⟩
end Cm
