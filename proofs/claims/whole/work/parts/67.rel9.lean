/-! THE WHOLE RELATION -/
theorem Row_c {nv np nd b : Int} {Pl f h f' h' : Int → Int} (hnv : nv ≤ 4) (hnp : np ≤ 6) (hnd : nd ≤ 5) (hPl : ∀ d, 0 ≤ d ∧ d < nd → 0 ≤ Pl (2 * d) ∧ Pl (2 * d) < nv) (hf : ∀ k, 0 ≤ f' k ∧ f' k ≤ 363399 + b) (hh : ∀ k, 0 ≤ h' k ∧ h' k ≤ 363399 + b) (e : ∀ k, 0 ≤ k ∧ k < 35 → f' k = f k ∧ h' k = h k) (H : Row nv np nd Pl b f h) : Row nv np nd Pl b f' h' := by
  obtain ⟨h1, h2, h3, h4, h5, h6, h7, h8, g0, gv, gq, gd⟩ := H
  have ef := fun k hk => (e k hk).1
  have eh := fun k hk => (e k hk).2
  refine ⟨by rw [ef 0 (by omega)]; exact h1, hf, hh, fun k hk => by rw [ef k hk, ef 0 (by omega)]; exact h4 k hk, fun q hq => by rw [ef _ (by omega)]; exact h5 q hq, fun q hq => by rw [ef _ (by omega)]; exact h6 q hq, fun d hd => by rw [ef _ (by omega)]; exact h7 d hd, fun d hd => ?_, by rw [ef 0 (by omega), eh 0 (by omega)]; exact g0, fun v hv => ?_, fun q hq => ?_, fun d hd => ?_⟩
  · have := hPl d hd
    rw [ef _ (by omega), ef _ (by omega)]; exact h8 d hd
  · rw [eh _ (by omega), ef _ (by omega), eh _ (by omega), ef _ (by omega), eh _ (by omega), ef _ (by omega)]; exact gv v hv
  · rw [eh _ (by omega), ef _ (by omega), eh _ (by omega), ef _ (by omega)]; exact gq q hq
  · rw [eh _ (by omega), ef _ (by omega), eh _ (by omega), ef _ (by omega)]; exact gd d hd
theorem cpI_b {f g : Int → Int} {x y n c : Int} (hf : ∀ k, 0 ≤ f k ∧ f k ≤ c) (hg : ∀ k, 0 ≤ g k ∧ g k ≤ c) (k : Int) : 0 ≤ cpI f g x y n k ∧ cpI f g x y n k ≤ c := by
  unfold cpI
  split
  · exact hf _
  · exact hg _
theorem note_b {P f : Int → Int} {d c : Int} (hf : ∀ k, 0 ≤ f k ∧ f k ≤ c) (hP : ∀ k, 0 ≤ P k ∧ P k ≤ c) (k : Int) : 0 ≤ mNote P f d k ∧ mNote P f d k ≤ c := by
  unfold mNote
  split
  · exact cpI_b hf (cpI_b hP hP) k
  · exact cpI_b hf hP k
def RTxt (I J : Nat → Int) (A B : Nat → Int → Int) : Prop := I 0 = J 0 ∧ (0 ≤ I 0 ∧ I 0 ≤ 240) ∧ A 0 = B 0 ∧ (∀ k, 0 ≤ A 0 k ∧ A 0 k ≤ 255) ∧ I 1 = J 1
def RPast (b : Int) (I J : Nat → Int) (A B : Nat → Int → Int) : Prop := I 13 = J 2 ∧ (0 ≤ J 2 ∧ J 2 ≤ 20) ∧ (0 ≤ I 14 ∧ I 14 < 20) ∧ (∀ k, 0 ≤ B 13 k ∧ B 13 k ≤ 363399 + b) ∧ (∀ k, 0 ≤ A 18 k ∧ A 18 k ≤ 363399 + b) ∧ ∀ i, 0 ≤ i ∧ i < J 2 → Row (I 10) (I 11) (I 12) (B 5) b (fun k => B 13 (35 * i + k)) (fun k => A 18 ((I 14 + 20 - J 2 + i) % 20 * 35 + k))
def RBook (I J : Nat → Int) (A B : Nat → Int → Int) : Prop := I 17 = J 5 ∧ (0 ≤ I 17 ∧ I 17 ≤ 15) ∧ (∀ k, 0 ≤ k ∧ k < I 17 → A 26 k = B 17 (2 * k) ∧ A 27 k = B 17 (2 * k + 1) ∧ 0 ≤ A 26 k ∧ A 26 k < I 10) ∧ (∀ k, 0 ≤ A 27 k ∧ A 27 k ≤ 9999) ∧ (∀ k, 0 ≤ B 17 k ∧ B 17 k ≤ 9999)
def RImg (b : Int) (I : Nat → Int) (A B : Nat → Int → Int) : Prop := (∀ k, 0 ≤ B 14 k ∧ B 14 k ≤ 363399 + b) ∧ (∀ k, 0 ≤ A 20 k ∧ A 20 k ≤ 363399 + b) ∧ (∀ i, 0 ≤ B 21 i ∧ B 21 i ≤ 1) ∧ ∀ i, 0 ≤ i ∧ i < 2 → A 28 i = B 21 i ∧ (A 28 i ≠ 0 → A 19 i = B 15 i ∧ Row (I 10) (I 11) (I 12) (B 5) b (fun k => B 14 (35 * i + k)) (fun k => A 20 (i * 35 + k)))
def RRdr (J : Nat → Int) (A : Nat → Int → Int) : Prop := (0 ≤ J 6 ∧ J 6 ≤ 240) ∧ (0 ≤ J 7 ∧ J 7 ≤ 3) ∧ (∀ k, 0 ≤ A 1 k ∧ A 1 k ≤ 40) ∧ (∀ k, 0 ≤ A 2 k ∧ A 2 k ≤ 40) ∧ (∀ k, 0 ≤ A 3 k ∧ A 3 k ≤ 80) ∧ (∀ k, 0 ≤ A 4 k ∧ A 4 k ≤ 40) ∧ (∀ k, 0 ≤ A 6 k ∧ A 6 k ≤ 999)
def Rel (b : Int) (I J : Nat → Int) (A B : Nat → Int → Int) : Prop := RTxt I J A B ∧ Tal I A B ∧ Row (I 10) (I 11) (I 12) (B 5) b (B 11) (A 17) ∧ RPast b I J A B ∧ I 15 = J 3 ∧ RSay I J A B ∧ RBook I J A B ∧ RImg b I A B ∧ RRdr J A
theorem RPast_w {b b' : Int} {I J : Nat → Int} {A B : Nat → Int → Int} (hb : b ≤ b') (H : RPast b I J A B) : RPast b' I J A B := by
  obtain ⟨h1, h2, h3, h4, h5, h6⟩ := H
  exact ⟨h1, h2, h3, fun k => by have := h4 k; omega, fun k => by have := h5 k; omega, fun i hi => Row_w hb (h6 i hi)⟩
theorem RImg_w {b b' : Int} {I : Nat → Int} {A B : Nat → Int → Int} (hb : b ≤ b') (H : RImg b I A B) : RImg b' I A B := by
  obtain ⟨h1, h2, h3, h4⟩ := H
  exact ⟨fun k => by have := h1 k; omega, fun k => by have := h2 k; omega, h3, fun i hi => ⟨(h4 i hi).1, fun q => ⟨((h4 i hi).2 q).1, Row_w hb ((h4 i hi).2 q).2⟩⟩⟩
theorem Rel_w {b b' : Int} {I J : Nat → Int} {A B : Nat → Int → Int} (hb : b ≤ b') (H : Rel b I J A B) : Rel b' I J A B := by
  obtain ⟨h1, h2, h3, h4, h5, h6, h7, h8, h9⟩ := H
  exact ⟨h1, h2, Row_w hb h3, RPast_w hb h4, h5, h6, h7, RImg_w hb h8, h9⟩
theorem Rel_same {b : Int} {I J : Nat → Int} {A B A' B' : Nat → Int → Int} (ha : xSame A A') (hb : mSame B B') (H : Rel b I J A B) : Rel b I J A' B' := by
  have a := fun j h1 h2 h3 => ha j h1 h2 h3
  have c := fun j h1 h2 h3 h4 => hb j h1 h2 h3 h4
  unfold Rel RTxt RPast RSay RBook RImg RRdr Tal mOk
  rw [a 0 (by decide) (by decide) (by decide), a 1 (by decide) (by decide) (by decide), a 2 (by decide) (by decide) (by decide), a 3 (by decide) (by decide) (by decide), a 4 (by decide) (by decide) (by decide), a 6 (by decide) (by decide) (by decide), a 9 (by decide) (by decide) (by decide), a 10 (by decide) (by decide) (by decide), a 11 (by decide) (by decide) (by decide), a 12 (by decide) (by decide) (by decide), a 14 (by decide) (by decide) (by decide), a 15 (by decide) (by decide) (by decide), a 17 (by decide) (by decide) (by decide), a 18 (by decide) (by decide) (by decide), a 19 (by decide) (by decide) (by decide), a 20 (by decide) (by decide) (by decide), a 22 (by decide) (by decide) (by decide), a 23 (by decide) (by decide) (by decide), a 26 (by decide) (by decide) (by decide), a 27 (by decide) (by decide) (by decide), a 28 (by decide) (by decide) (by decide)]
  rw [c 0 (by decide) (by decide) (by decide) (by decide), c 1 (by decide) (by decide) (by decide) (by decide), c 2 (by decide) (by decide) (by decide) (by decide), c 3 (by decide) (by decide) (by decide) (by decide), c 4 (by decide) (by decide) (by decide) (by decide), c 5 (by decide) (by decide) (by decide) (by decide), c 11 (by decide) (by decide) (by decide) (by decide), c 13 (by decide) (by decide) (by decide) (by decide), c 14 (by decide) (by decide) (by decide) (by decide), c 15 (by decide) (by decide) (by decide) (by decide), c 16 (by decide) (by decide) (by decide) (by decide), c 17 (by decide) (by decide) (by decide) (by decide), c 21 (by decide) (by decide) (by decide) (by decide)]
  exact H
theorem Rel_ok {b : Int} {I J : Nat → Int} {A B : Nat → Int → Int} (hb : b ≤ 60000) (H : Rel b I J A B) : xOk I A ∧ mOk B ∧ rOk (B 1 1) (B 1 2) (B 11) 500000 := by
  obtain ⟨⟨t1, t2, t3, t4, t5⟩, T, R, ⟨p1, p2, p3, p4, p5, p6⟩, d1, ⟨s1, s2, s3, s4, s5⟩, ⟨k1, k2, k3, k4, k5⟩, ⟨i1, i2, i3, i4⟩, Q⟩ := H
  have hN := Tal_n T
  have hT := id T
  obtain ⟨m0, m1, m2, m3, m4, m5, m6, x9, x10, x11, x12, x14⟩ := hT
  have hR := id R
  obtain ⟨h1, h2, h3, h4, h5, h6, h7, h8, g0, gv, gq, gd⟩ := hR
  refine ⟨⟨t2, t4, hN.1, hN.2.1, hN.2.2.1, hN.2.2.2, m6, x9, x10, x11, x12, x14, fun d hd => ?_, fun k => by have := h3 k; omega, by rw [g0]; exact h1, fun t ht => ?_, by omega, p3, s2, fun k hk => (s3 k hk).2.2, s4, k2, fun k hk => ?_, k4, fun d hd => ?_, fun i hi => ?_⟩, m0, fun k => by have := h2 k; omega, fun q hq => ?_⟩
  · have := Tal_pl T d hd
    have := m5 d hd
    omega
  · have e1 := (gq (t - 13) (by omega)).1
    rw [show 13 + (t - 13) = t by omega] at e1
    have := h6 (t - 13) (by omega)
    omega
  · have := k3 k hk; omega
  · have e1 : xLack A d = mx0 (B 11 (25 + 2 * d) - mSince (B 5) (B 11) d) := lack_eq T R hd
    have e2 := lack_le T R hd
    have e3 := mx0_r (B 11 (25 + 2 * d) - mSince (B 5) (B 11) d)
    omega
  · have e1 := (i4 i hi).1
    have e2 := i3 i
    omega
  · have e1 := m1.2.1
    have e2 := m1.2.2.1
    rw [← e1]
    exact h5 q (by omega)
/-- a deed: what stood is noted, another row stands -/
theorem Rel_deed {b b' : Int} {I J : Nat → Int} {A B : Nat → Int → Int} {f' h' : Int → Int} (hb : b ≤ b') (H : Rel b I J A B) (R' : Row (I 10) (I 11) (I 12) (B 5) b' f' h') : Rel b' (xnI I) (ndI J) (stA (xnA I A) 17 h') (stA (ndA J B) 11 f') := by
  have H := Rel_w hb H
  obtain ⟨t, T, R, ⟨p1, p2, p3, p4, p5, p6⟩, d, S, K, M, Q⟩ := H
  have hN := Tal_n T
  have hU := iMn_r 20 (I 13 + 1)
  have hJ : ndI J 2 = if J 2 = 20 then 20 else J 2 + 1 := rfl
  have hI : xnI I 13 = iMn 20 (I 13 + 1) := rfl
  have hI4 : xnI I 14 = (I 14 + 1) % 20 := rfl
  refine ⟨t, T, R', ⟨?_, ?_, ?_, fun k => ?_, fun k => ?_, fun i hi => ?_⟩, d, S, K, M, Q⟩
  · rw [hJ, hI]; split <;> omega
  · rw [hJ]; split <;> omega
  · rw [hI4]; omega
  · exact note_b R.2.1 p4 k
  · exact cpI_b R.2.2.1 p5 k
  · show Row (I 10) (I 11) (I 12) (B 5) b' (fun k => mNote (B 13) (B 11) (J 2) (35 * i + k)) (fun k => cpI (A 17) (A 18) 0 (I 14 * 35) 35 ((xnI I 14 + 20 - ndI J 2 + i) % 20 * 35 + k))
    have hbM : ∀ k, 0 ≤ mNote (B 13) (B 11) (J 2) k ∧ mNote (B 13) (B 11) (J 2) k ≤ 363399 + b' := fun k => note_b R.2.1 p4 k
    have hbX : ∀ k, 0 ≤ cpI (A 17) (A 18) 0 (I 14 * 35) 35 k ∧ cpI (A 17) (A 18) 0 (I 14 * 35) 35 k ≤ 363399 + b' := fun k => cpI_b R.2.2.1 p5 k
    rw [hJ] at hi
    rw [hJ, hI4]
    by_cases hd : J 2 = 20
    · rw [if_pos hd] at hi ⊢
      by_cases hl : i = 19
      · subst hl
        refine Row_c hN.2.1.2 hN.2.2.1.2 hN.2.2.2.2 (Tal_pl T) (fun k => hbM _) (fun k => hbX _) (fun k hk => ⟨?_, ?_⟩) R
        · show mNote (B 13) (B 11) (J 2) (35 * 19 + k) = B 11 k
          unfold mNote
          rw [if_pos hd]
          unfold cpI
          rw [if_pos (by omega)]
          congr 1; omega
        · show cpI (A 17) (A 18) 0 (I 14 * 35) 35 (((I 14 + 1) % 20 + 20 - 20 + 19) % 20 * 35 + k) = A 17 k
          rw [show ((I 14 + 1) % 20 + 20 - 20 + 19) % 20 = I 14 by omega]
          unfold cpI
          rw [if_pos (by omega)]
          congr 1; omega
      · have hr := p6 (i + 1) (by omega)
        refine Row_c hN.2.1.2 hN.2.2.1.2 hN.2.2.2.2 (Tal_pl T) (fun k => hbM _) (fun k => hbX _) (fun k hk => ⟨?_, ?_⟩) hr
        · show mNote (B 13) (B 11) (J 2) (35 * i + k) = B 13 (35 * (i + 1) + k)
          unfold mNote
          rw [if_pos hd]
          unfold cpI
          rw [if_neg (by omega), if_pos (by omega)]
          congr 1; omega
        · show cpI (A 17) (A 18) 0 (I 14 * 35) 35 (((I 14 + 1) % 20 + 20 - 20 + i) % 20 * 35 + k) = A 18 ((I 14 + 20 - J 2 + (i + 1)) % 20 * 35 + k)
          have es : ((I 14 + 1) % 20 + 20 - 20 + i) % 20 = (I 14 + 20 - J 2 + (i + 1)) % 20 := by omega
          have hne : (I 14 + 20 - J 2 + (i + 1)) % 20 ≠ I 14 := by omega
          rw [es]
          unfold cpI
          rw [if_neg (by omega)]
    · rw [if_neg hd] at hi ⊢
      by_cases hl : i = J 2
      · subst hl
        refine Row_c hN.2.1.2 hN.2.2.1.2 hN.2.2.2.2 (Tal_pl T) (fun k => hbM _) (fun k => hbX _) (fun k hk => ⟨?_, ?_⟩) R
        · show mNote (B 13) (B 11) (J 2) (35 * J 2 + k) = B 11 k
          unfold mNote
          rw [if_neg hd]
          unfold cpI
          rw [if_pos (by omega)]
          congr 1; omega
        · show cpI (A 17) (A 18) 0 (I 14 * 35) 35 (((I 14 + 1) % 20 + 20 - (J 2 + 1) + J 2) % 20 * 35 + k) = A 17 k
          rw [show ((I 14 + 1) % 20 + 20 - (J 2 + 1) + J 2) % 20 = I 14 by omega]
          unfold cpI
          rw [if_pos (by omega)]
          congr 1; omega
      · have hr := p6 i (by omega)
        refine Row_c hN.2.1.2 hN.2.2.1.2 hN.2.2.2.2 (Tal_pl T) (fun k => hbM _) (fun k => hbX _) (fun k hk => ⟨?_, ?_⟩) hr
        · show mNote (B 13) (B 11) (J 2) (35 * i + k) = B 13 (35 * i + k)
          unfold mNote
          rw [if_neg hd]
          unfold cpI
          rw [if_neg (by omega)]
        · show cpI (A 17) (A 18) 0 (I 14 * 35) 35 (((I 14 + 1) % 20 + 20 - (J 2 + 1) + i) % 20 * 35 + k) = A 18 ((I 14 + 20 - J 2 + i) % 20 * 35 + k)
          have es : ((I 14 + 1) % 20 + 20 - (J 2 + 1) + i) % 20 = (I 14 + 20 - J 2 + i) % 20 := by omega
          have hne : (I 14 + 20 - J 2 + i) % 20 ≠ I 14 := by omega
          rw [es]
          unfold cpI
          rw [if_neg (by omega)]
