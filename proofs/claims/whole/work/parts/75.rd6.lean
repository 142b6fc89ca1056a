section KV
variable {b : Int} {I J : Nat → Int} {A B : Nat → Int → Int}
theorem zD_o {B : Nat → Int → Int} {j : Nat} (h : j < 6 ∨ 10 < j) : zD B j = B j := by
  unfold zD
  rw [stA_n (by omega), stA_n (by omega), stA_n (by omega), stA_n (by omega), stA_n (by omega)]
theorem k_valley (H : Rel b I J A B) (hb : 0 ≤ b) : xValR I A = mValR J B ∧ Rel b (xValI I A) (mValI J B) (xValA I A) (mValA J B) := by
  obtain ⟨⟨t1, t2, t3, t4, t5⟩, T, R, P, d, ⟨s1, s2, s3, s4, s5⟩, ⟨k1, k2, k3, k4, k5⟩, ⟨i1, i2, i3, i4⟩, q1, q2, x1, x2, x3, x4, x6⟩ := H
  have hR : Rd (rP J B) (xU I A) := by
    have h := read_eq (T := A 0) (n := I 0) (A := A) (B := B) t2.2 ⟨x1, x2, x3, x4, x6⟩
    unfold xU rP
    rw [← t3, ← t1]
    exact h
  have gs := rP_gd (I := J) (A := B) (by omega)
  have gu : uGd A (xU I A) := uGd_read t2
  obtain ⟨g1, g2, _, _, gB⟩ := gs
  have hB : ∀ j : Nat, j < 6 ∨ 10 < j → (rP J B).2.2 j = B j := fun j hj => (gB j hj).trans (zD_o hj)
  obtain ⟨_, u5, u6, u7, u8, uA⟩ := gu
  unfold xValR xValI xValA mValR mValI mValA
  obtain ⟨s, es⟩ : ∃ z, z = rP J B := ⟨_, rfl⟩
  obtain ⟨u, eu⟩ : ∃ z, z = xU I A := ⟨_, rfl⟩
  rw [← es] at hR g1 g2 hB
  rw [← eu] at hR u5 u6 u7 u8 uA
  rw [← es, ← eu]
  obtain ⟨⟨y1, y2, y3, y4, y6⟩, hR⟩ := hR
  rcases hR with ⟨hz, hu, hT⟩ | ⟨hz, hk, hf⟩
  · have hu0 : u.1.2.1 = 0 := by rw [hu]
    rw [if_pos hu0, if_pos hu0, if_pos hu0, if_pos hz, if_pos hz, if_pos hz]
    obtain ⟨⟨e0, e1, e2, e3⟩, ⟨n5, n6, n7, n8⟩, hn, w1, w2, w3, w4, b8, b7, b9, z9⟩ := hT
    refine ⟨e1, ?_⟩
    obtain ⟨t, c5, c6, c7, c8, C⟩ := u
    obtain ⟨a, w, Bs⟩ := s
    have hu : t = (-1, 0, a) := hu
    subst hu
    have e0 : c5 = Bs 6 0 := e0
    have e1 : c6 = Bs 6 1 := e1
    have e2 : c7 = Bs 6 2 := e2
    have e3 : c8 = Bs 6 3 := e3
    have n5 : 0 ≤ c5 ∧ c5 ≤ 20 := n5
    have n6 : 0 ≤ c6 ∧ c6 ≤ 4 := n6
    have n7 : 0 ≤ c7 ∧ c7 ≤ 6 := n7
    have n8 : 0 ≤ c8 ∧ c8 ≤ 5 := n8
    have w1 : ∀ k, 0 ≤ k ∧ k < c5 → C 1 k = Bs 7 k := w1
    have w2 : ∀ v, 0 ≤ v ∧ v < c6 → C 2 v = Bs 8 (5 * v) ∧ C 3 v = Bs 8 (5 * v) + mm1 (mMid (Bs 8) v) ∧ C 4 v = Bs 8 (5 * v + 4) ∧ 0 < Bs 8 (5 * v + 4) := w2
    have w3 : ∀ q, 0 ≤ q ∧ q < c7 → C 5 q = Bs 9 (2 * q) ∧ C 6 q = Bs 9 (2 * q + 1) ∧ 0 ≤ Bs 9 (2 * q) ∧ Bs 9 (2 * q) < c6 := w3
    have w4 : ∀ d, 0 ≤ d ∧ d < c8 → C 7 d = Bs 10 (2 * d) ∧ C 8 d = Bs 10 (2 * d + 1) ∧ (0 ≤ Bs 10 (2 * d) ∧ Bs 10 (2 * d) < c6) ∧ (1 ≤ Bs 10 (2 * d + 1) ∧ Bs 10 (2 * d + 1) ≤ 999) := w4
    have hB : ∀ j : Nat, j < 6 ∨ 10 < j → Bs j = B j := hB
    have uA : ∀ j : Nat, j = 0 ∨ 8 < j → C j = A j := uA
    have hrow : Row c6 c7 c8 (Bs 10) b (nowF (Bs 9) (Bs 10) c8.toNat) (xBeg (C 5) (C 6) (C 8) c7.toNat c8.toNat) :=
      Row_new hb n6 n7 n8 b9 z9 w3 (fun d hd => ⟨(w4 d hd).2.1, (w4 d hd).2.2.2⟩) (fun d hd => (w4 d hd).2.2.1)
    rw [e3] at hrow
    have v28 : ∀ i, 0 ≤ i ∧ i < 2 → up1 (up1 (C 28) 0 0) 1 0 i = 0 := fun i hi => by
      by_cases h : i = 1
      · subst h; rw [up1_s]
      · rw [up1_n h, show i = 0 by omega, up1_s]
    have v21 : ∀ i, 0 ≤ i ∧ i < 2 → up1 (up1 (Bs 21) 0 0) 1 0 i = 0 := fun i hi => by
      by_cases h : i = 1
      · subst h; rw [up1_s]
      · rw [up1_n h, show i = 0 by omega, up1_s]
    have a28 : xNewA ((-1, 0, a), c5, c6, c7, c8, C) 28 = up1 (up1 (C 28) 0 0) 1 0 := by
      unfold xNewA
      rw [st2_a, st2_a]
      rfl
    have a21 : vA Bs 21 = up1 (up1 (Bs 21) 0 0) 1 0 := by
      unfold vA
      rw [st2_a, st2_a]
      rfl
    refine ⟨⟨rfl, by show (0 : Int) ≤ 0 ∧ (0 : Int) ≤ 240; decide, ?_, ?_, rfl⟩, ⟨?_, ?_, ?_, ?_, ?_, ?_, ?_, ?_⟩, ?_, ⟨rfl, by show (0 : Int) ≤ 0 ∧ (0 : Int) ≤ 20; decide, by show (0 : Int) ≤ 0 ∧ (0 : Int) < 20; decide, ?_, ?_, ?_⟩, d, ⟨rfl, by show (0 : Int) ≤ 0 ∧ (0 : Int) ≤ 6; decide, ?_, ?_, ?_⟩, ⟨rfl, by show (0 : Int) ≤ 0 ∧ (0 : Int) ≤ 15; decide, ?_, ?_, ?_⟩, ⟨?_, ?_, ?_, ?_⟩, ?_⟩
    · show C 0 = Bs 0
      rw [uA 0 (by omega), hB 0 (by omega), t3]
    · show ∀ k, 0 ≤ C 0 k ∧ C 0 k ≤ 255
      rw [uA 0 (by omega)]; exact t4
    · show (∀ k, 0 ≤ Bs 8 k ∧ Bs 8 k ≤ 40) ∧ (∀ k, 0 ≤ Bs 7 k ∧ Bs 7 k ≤ 40) ∧ (0 ≤ Bs 6 0 ∧ Bs 6 0 ≤ 20) ∧ (0 ≤ Bs 6 1 ∧ Bs 6 1 ≤ 4) ∧ (0 ≤ Bs 6 2 ∧ Bs 6 2 ≤ 6) ∧ (0 ≤ Bs 6 3 ∧ Bs 6 3 ≤ 5) ∧ (∀ v, 0 ≤ v ∧ v < Bs 6 1 → 0 < Bs 8 (5 * v + 4)) ∧ (∀ d, 0 ≤ d ∧ d < Bs 6 3 → 0 ≤ Bs 10 (2 * d) ∧ Bs 10 (2 * d) < Bs 6 1) ∧ (∀ k, 0 ≤ Bs 9 k ∧ Bs 9 k ≤ 999)
      rw [← e0, ← e1, ← e2, ← e3]
      exact ⟨b8, b7, n5, n6, n7, n8, fun v hv => (w2 v hv).2.2.2, fun d hd => (w4 d hd).2.2.1, b9⟩
    · exact ⟨e0, e1, e2, e3⟩
    · exact w1
    · exact ⟨n6, b8, fun v hv => ⟨(w2 v hv).1, (w2 v hv).2.1, (w2 v hv).2.2.1⟩⟩
    · exact fun q hq => (w3 q hq).2.1
    · exact fun d hd => (w4 d hd).1
    · exact hn
    · exact ⟨y1, y2, y3, y4, y6⟩
    · show Row c6 c7 c8 (Bs 10) b (nowF (Bs 9) (Bs 10) (Bs 6 3).toNat) (xBeg (C 5) (C 6) (C 8) c7.toNat c8.toNat)
      rw [e3]; rw [← e3] at hrow ⊢; exact hrow
    · show ∀ k, 0 ≤ Bs 13 k ∧ Bs 13 k ≤ 363399 + b
      rw [hB 13 (by omega)]; exact P.2.2.2.1
    · show ∀ k, 0 ≤ C 18 k ∧ C 18 k ≤ 363399 + b
      rw [uA 18 (by omega)]; exact P.2.2.2.2.1
    · intro i hi
      have hi : 0 ≤ i ∧ i < 0 := hi
      omega
    · intro i hi
      have hi : 0 ≤ i ∧ i < 0 := hi
      omega
    · show ∀ k, 0 ≤ C 23 k ∧ C 23 k ≤ 9999
      rw [uA 23 (by omega)]; exact s4
    · show ∀ k, 0 ≤ Bs 16 k ∧ Bs 16 k ≤ 9999
      rw [hB 16 (by omega)]; exact s5
    · intro i hi
      have hi : 0 ≤ i ∧ i < 0 := hi
      omega
    · show ∀ k, 0 ≤ C 27 k ∧ C 27 k ≤ 9999
      rw [uA 27 (by omega)]; exact k4
    · show ∀ k, 0 ≤ Bs 17 k ∧ Bs 17 k ≤ 9999
      rw [hB 17 (by omega)]; exact k5
    · show ∀ k, 0 ≤ Bs 14 k ∧ Bs 14 k ≤ 363399 + b
      rw [hB 14 (by omega)]; exact i1
    · show ∀ k, 0 ≤ C 20 k ∧ C 20 k ≤ 363399 + b
      rw [uA 20 (by omega)]; exact i2
    · rw [a21, hB 21 (by omega)]
      exact up1_b (up1_b i3 (by decide)) (by decide)
    · intro i hi
      rw [a28, a21, v28 i hi, v21 i hi]
      exact ⟨rfl, fun h => absurd rfl h⟩
    · exact ⟨g1, by show (0 : Int) ≤ 0 ∧ (0 : Int) ≤ 3; decide, y1, y2, y3, y4, y6⟩
  · have hu0 : ¬ u.1.2.1 = 0 := by rw [hk]; exact hz
    rw [if_neg hu0, if_neg hu0, if_neg hu0, if_neg hz, if_neg hz, if_neg hz]
    refine ⟨by rw [hk], ?_⟩
    obtain ⟨t, c5, c6, c7, c8, C⟩ := u
    obtain ⟨a, w, Bs⟩ := s
    have hB : ∀ j : Nat, j < 6 ∨ 10 < j → Bs j = B j := hB
    have uA : ∀ j : Nat, j = 0 ∨ 8 < j → C j = A j := uA
    have hT : Tal (xRdI I (t, c5, c6, c7, c8, C)) C Bs := by
      unfold Tal mOk
      rw [hB 1 (by omega), hB 2 (by omega), hB 3 (by omega), hB 4 (by omega), hB 5 (by omega), uA 9 (by omega), uA 10 (by omega), uA 11 (by omega), uA 12 (by omega), uA 14 (by omega), uA 15 (by omega)]
      exact T
    have hrow : Row (I 10) (I 11) (I 12) (Bs 5) b (Bs 11) (C 17) := by
      rw [hB 5 (by omega), hB 11 (by omega), uA 17 (by omega)]; exact R
    refine ⟨⟨rfl, by show (0 : Int) ≤ 0 ∧ (0 : Int) ≤ 240; decide, ?_, ?_, hf⟩, hT, hrow, ?_, d, ?_, ?_, ?_, ?_⟩
    · show C 0 = Bs 0
      rw [uA 0 (by omega), hB 0 (by omega), t3]
    · show ∀ k, 0 ≤ C 0 k ∧ C 0 k ≤ 255
      rw [uA 0 (by omega)]; exact t4
    · show RPast b (xRdI I (t, c5, c6, c7, c8, C)) (jI (st1 (st1 J 0 0) 1 a) a w) C Bs
      unfold RPast
      rw [hB 13 (by omega), uA 18 (by omega), hB 5 (by omega)]
      exact P
    · show RSay (xRdI I (t, c5, c6, c7, c8, C)) (jI (st1 (st1 J 0 0) 1 a) a w) C Bs
      unfold RSay
      rw [uA 22 (by omega), uA 23 (by omega), hB 16 (by omega)]
      exact ⟨s1, s2, s3, s4, s5⟩
    · show RBook (xRdI I (t, c5, c6, c7, c8, C)) (jI (st1 (st1 J 0 0) 1 a) a w) C Bs
      unfold RBook
      rw [uA 26 (by omega), uA 27 (by omega), hB 17 (by omega)]
      exact ⟨k1, k2, k3, k4, k5⟩
    · show RImg b (xRdI I (t, c5, c6, c7, c8, C)) C Bs
      unfold RImg
      rw [uA 20 (by omega), uA 28 (by omega), uA 19 (by omega), hB 14 (by omega), hB 15 (by omega), hB 21 (by omega), hB 5 (by omega)]
      exact ⟨i1, i2, i3, i4⟩
    · exact ⟨g1, g2, y1, y2, y3, y4, y6⟩
end KV
