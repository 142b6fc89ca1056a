/-- the tale, on both sides -/
def Tal (I : Nat → Int) (A B : Nat → Int → Int) : Prop := mOk B ∧ (I 9 = B 1 0 ∧ I 10 = B 1 1 ∧ I 11 = B 1 2 ∧ I 12 = B 1 3) ∧ (∀ k, 0 ≤ k ∧ k < I 9 → A 9 k = B 2 k) ∧ TalV (I 10) (A 11) (A 10) (A 12) (B 3) ∧ (∀ q, 0 ≤ q ∧ q < I 11 → A 14 q = B 4 (2 * q + 1)) ∧ (∀ d, 0 ≤ d ∧ d < I 12 → A 15 d = B 5 (2 * d)) ∧ (0 < I 10 ∨ 0 < I 11 ∨ 0 < I 12 → 0 < I 9) ∧
  (∀ k, 0 ≤ A 9 k ∧ A 9 k ≤ 40) ∧ (∀ k, 0 ≤ A 10 k ∧ A 10 k ≤ 40) ∧ (∀ k, 0 ≤ A 11 k ∧ A 11 k ≤ 80) ∧ (∀ k, 0 ≤ A 12 k ∧ A 12 k ≤ 40) ∧ (∀ k, 0 ≤ A 14 k ∧ A 14 k ≤ 999)
theorem in_eq {I : Nat → Int} {A B : Nat → Int → Int} {z m : Int} (T : Tal I A B) (h0 : 0 < I 9) : iMx 0 ((if 0 < I 9 then A 9 (z % I 9) else 0) - m) = mIn (B 2) z (B 1 0) m := by
  have e1 := Int.emod_nonneg z (show I 9 ≠ 0 by omega)
  have e2 := Int.emod_lt_of_pos z h0
  have e3 := T.2.2.1 (z % I 9) ⟨e1, e2⟩
  have e4 := T.2.1.1
  unfold mIn iMx
  rw [if_pos h0, e3, e4]
  by_cases h : B 2 (z % B 1 0) - m < 0
  · rw [if_pos h, if_neg (by omega)]
  · rw [if_neg h]
    split <;> omega
theorem in_eq0 {I : Nat → Int} {A B : Nat → Int → Int} {z : Int} (T : Tal I A B) (h0 : 0 < I 9) : (if 0 < I 9 then A 9 (z % I 9) else 0) = mIn (B 2) z (B 1 0) 0 := by
  rw [← in_eq T h0]
  have h1 : 0 ≤ (if 0 < I 9 then A 9 (z % I 9) else 0) := by
    rw [if_pos h0]
    exact (T.2.2.2.2.2.2.2.1 _).1
  have h2 := iMx_r 0 ((if 0 < I 9 then A 9 (z % I 9) else 0) - 0)
  omega
theorem Tal_pl {I : Nat → Int} {A B : Nat → Int → Int} (T : Tal I A B) : ∀ d, 0 ≤ d ∧ d < I 12 → 0 ≤ B 5 (2 * d) ∧ B 5 (2 * d) < I 10 := fun d hd => by
  have e := T.2.1
  have := T.1.2.2.2.2.2.2.2.1 d (by omega)
  omega
theorem Tal_n {I : Nat → Int} {A B : Nat → Int → Int} (T : Tal I A B) : (0 ≤ I 9 ∧ I 9 ≤ 20) ∧ (0 ≤ I 10 ∧ I 10 ≤ 4) ∧ (0 ≤ I 11 ∧ I 11 ≤ 6) ∧ (0 ≤ I 12 ∧ I 12 ≤ 5) := by
  have e := T.2.1
  have e0 := T.1.2.2.1
  have e1 := T.1.2.2.2.1
  have e2 := T.1.2.2.2.2.1
  have e3 := T.1.2.2.2.2.2.1
  omega
theorem Row_ngt {I : Nat → Int} {A B : Nat → Int → Int} {b : Int} (T : Tal I A B) (h0 : 0 < I 9) (hb : b ≤ 600000) (H : Row (I 10) (I 11) (I 12) (B 5) b (B 11) (A 17)) (n : Nat) (hn : B 11 0 + n ≤ 9060) : Row (I 10) (I 11) (I 12) (B 5) b (mGo (B 3) (B 2) (B 1 0) (B 1 1) (B 1 2) 0 (B 11) n) (xNgt I A n) ∧ mGo (B 3) (B 2) (B 1 0) (B 1 1) (B 1 2) 0 (B 11) n 0 = B 11 0 + n := by
  induction n with
  | zero => exact ⟨H, by show B 11 0 = B 11 0 + 0; omega⟩
  | succ n ih =>
    obtain ⟨h1, h2⟩ := ih (by omega)
    have hN := Tal_n T
    have e : xNgt I A (n + 1) = xSnow (A 11) (A 10) (I 10) (I 11) (if 0 < I 9 then A 9 (xNgt I A n 0 % I 9) else 0) (xNgt I A n) := rfl
    have e2 : mGo (B 3) (B 2) (B 1 0) (B 1 1) (B 1 2) 0 (B 11) (n + 1) = mPass (B 3) (mGo (B 3) (B 2) (B 1 0) (B 1 1) (B 1 2) 0 (B 11) n) (mIn (B 2) (mGo (B 3) (B 2) (B 1 0) (B 1 1) (B 1 2) 0 (B 11) n 0) (B 1 0) 0) (B 1 1) (B 1 2) := rfl
    have e3 : xNgt I A n 0 = mGo (B 3) (B 2) (B 1 0) (B 1 1) (B 1 2) 0 (B 11) n 0 := h1.2.2.2.2.2.2.2.2.1
    rw [e, e2, in_eq0 T h0, e3, ← T.2.1.2.1, ← T.2.1.2.2.1]
    rw [← T.2.1.2.1, ← T.2.1.2.2.1] at h1 h2
    refine ⟨Row_pass T.2.2.2.1 hN.2.2.1 (Tal_pl T) hN.2.2.2.2 (mIn_r T.1.2.1 (by decide)) hb (by omega) h1, ?_⟩
    rw [ps_0, h2]; omega
theorem drS_comm {V f : Int → Int} {x nv np u : Int} (hu : 0 ≤ u ∧ u < nv) (hn : nv ≤ 4) : mPass V (up1 f (1 + 3 * u + 1) (f (1 + 3 * u + 1) + 1)) x nv np = up1 (mPass V f x nv np) (1 + 3 * u + 1) (mPass V f x nv np (1 + 3 * u + 1) + 1) := by
  rw [ps_c (by omega)]
  funext k
  by_cases hk : k = 1 + 3 * u + 1
  · subst hk
    rw [ps_c (by omega), up1_s, up1_s]
  · rw [up1_n hk]
    unfold mPass
    by_cases k0 : k = 0
    · subst k0; rw [up1_s, up1_s, up1_n (by omega)]
    · rw [up1_n k0, up1_n k0]
      by_cases ka : 1 ≤ k ∧ k < 1 + 3 * nv ∧ k % 3 = 1
      · rw [mPsV_a ka, mPsV_a ka, up1_n hk]
      · by_cases kb : 1 ≤ k ∧ k < 1 + 3 * nv ∧ k % 3 = 0
        · rw [mPsV_b kb, mPsV_b kb, up1_n hk]
        · rw [mPsV_c (by omega), mPsV_c (by omega)]
          unfold mPsP
          by_cases kc : 13 ≤ k ∧ k < 13 + 2 * np ∧ k % 2 = 0
          · rw [if_pos kc, if_pos kc, up1_n hk, up1_n (by omega)]
          · rw [if_neg kc, if_neg kc, up1_n hk]
theorem Row_drS {I : Nat → Int} {A B : Nat → Int → Int} {b s : Int} {f h : Int → Int} (T : Tal I A B) (hb : 0 ≤ b ∧ b + 1 ≤ 600000) (h9 : f 0 < 9060) (H : Row (I 10) (I 11) (I 12) (B 5) b f h) : (xDrS (A 11) (A 10) (I 10) (I 11) (s, h)).1 = (mDrS (B 3) (I 10) (I 11) (s, f)).1 ∧ Row (I 10) (I 11) (I 12) (B 5) (b + 1) (mDrS (B 3) (I 10) (I 11) (s, f)).2 (xDrS (A 11) (A 10) (I 10) (I 11) (s, h)).2 ∧ (mDrS (B 3) (I 10) (I 11) (s, f)).2 0 = f 0 + 1 := by
  have hN := Tal_n T
  have hx := mNx_r s
  have R1 := Row_pass (x := mNx s / 65536 % 41) T.2.2.2.1 hN.2.2.1 (Tal_pl T) hN.2.2.2.2 (by omega) (by omega) h9 H
  unfold xDrS mDrS
  dsimp only
  by_cases hv : 0 < I 10
  · rw [if_pos hv, if_pos hv]
    by_cases h4 : mNx (mNx s) / 65536 % 4 = 0
    · rw [if_pos h4, if_pos h4]
      have hy := mNx_r (mNx (mNx s))
      have e1 := Int.emod_nonneg (mNx (mNx (mNx s)) / 65536) (show I 10 ≠ 0 by omega)
      have e2 := Int.emod_lt_of_pos (mNx (mNx (mNx s)) / 65536) hv
      dsimp only
      rw [drS_comm ⟨e1, e2⟩ hN.2.1.2]
      refine ⟨rfl, Row_saw ⟨e1, by omega⟩ (by decide) (Tal_pl T) hN.2.2.2.2 R1, ?_⟩
      rw [up1_n (by omega), ps_0]
    · rw [if_neg h4, if_neg h4]
      exact ⟨rfl, Row_w (by omega) R1, (by show mPass (B 3) f (mNx s / 65536 % 41) (I 10) (I 11) 0 = f 0 + 1; exact ps_0)⟩
  · rw [if_neg hv, if_neg hv]
    exact ⟨rfl, Row_w (by omega) R1, (by show mPass (B 3) f (mNx s / 65536 % 41) (I 10) (I 11) 0 = f 0 + 1; exact ps_0)⟩
theorem Row_dr {I : Nat → Int} {A B : Nat → Int → Int} {b s : Int} {f h : Int → Int} (T : Tal I A B) (H : Row (I 10) (I 11) (I 12) (B 5) b f h) (hb : 0 ≤ b) (n : Nat) (hn : f 0 + n ≤ 9060) (hb2 : b + n ≤ 600000) : (xDr (A 11) (A 10) (I 10) (I 11) s h n).1 = (mDr (B 3) (I 10) (I 11) s f n).1 ∧ Row (I 10) (I 11) (I 12) (B 5) (b + n) (mDr (B 3) (I 10) (I 11) s f n).2 (xDr (A 11) (A 10) (I 10) (I 11) s h n).2 ∧ (mDr (B 3) (I 10) (I 11) s f n).2 0 = f 0 + n := by
  induction n with
  | zero => exact ⟨rfl, Row_w (by omega) H, by show f 0 = f 0 + 0; omega⟩
  | succ n ih =>
    obtain ⟨h1, h2, h3⟩ := ih (by omega) (by omega)
    have ex : xDr (A 11) (A 10) (I 10) (I 11) s h (n + 1) = xDrS (A 11) (A 10) (I 10) (I 11) ((mDr (B 3) (I 10) (I 11) s f n).1, (xDr (A 11) (A 10) (I 10) (I 11) s h n).2) := by
      rw [← h1]; rfl
    have em : mDr (B 3) (I 10) (I 11) s f (n + 1) = mDrS (B 3) (I 10) (I 11) ((mDr (B 3) (I 10) (I 11) s f n).1, (mDr (B 3) (I 10) (I 11) s f n).2) := rfl
    rw [ex, em]
    obtain ⟨g1, g2, g3⟩ := Row_drS (s := (mDr (B 3) (I 10) (I 11) s f n).1) T (by omega) (by omega) h2
    exact ⟨g1, Row_w (by omega) g2, by rw [g3, h3]; omega⟩
