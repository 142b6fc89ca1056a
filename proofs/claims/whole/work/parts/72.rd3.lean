def XB (A : Nat → Int → Int) : Prop := (∀ k, 0 ≤ A 1 k ∧ A 1 k ≤ 40) ∧ (∀ k, 0 ≤ A 2 k ∧ A 2 k ≤ 40) ∧ (∀ k, 0 ≤ A 3 k ∧ A 3 k ≤ 80) ∧ (∀ k, 0 ≤ A 4 k ∧ A 4 k ≤ 40) ∧ (∀ k, 0 ≤ A 6 k ∧ A 6 k ≤ 999)
/-- the tale as read so far, on both sides -/
def RdT (c5 c6 c7 c8 : Int) (A Bs : Nat → Int → Int) : Prop :=
  (c5 = Bs 6 0 ∧ c6 = Bs 6 1 ∧ c7 = Bs 6 2 ∧ c8 = Bs 6 3) ∧ ((0 ≤ c5 ∧ c5 ≤ 20) ∧ (0 ≤ c6 ∧ c6 ≤ 4) ∧ (0 ≤ c7 ∧ c7 ≤ 6) ∧ (0 ≤ c8 ∧ c8 ≤ 5)) ∧ (0 < c6 ∨ 0 < c7 ∨ 0 < c8 → 0 < c5) ∧
  (∀ k, 0 ≤ k ∧ k < c5 → A 1 k = Bs 7 k) ∧ (∀ v, 0 ≤ v ∧ v < c6 → A 2 v = Bs 8 (5 * v) ∧ A 3 v = Bs 8 (5 * v) + mm1 (mMid (Bs 8) v) ∧ A 4 v = Bs 8 (5 * v + 4) ∧ 0 < Bs 8 (5 * v + 4)) ∧
  (∀ q, 0 ≤ q ∧ q < c7 → A 5 q = Bs 9 (2 * q) ∧ A 6 q = Bs 9 (2 * q + 1) ∧ 0 ≤ Bs 9 (2 * q) ∧ Bs 9 (2 * q) < c6) ∧ (∀ d, 0 ≤ d ∧ d < c8 → A 7 d = Bs 10 (2 * d) ∧ A 8 d = Bs 10 (2 * d + 1) ∧ (0 ≤ Bs 10 (2 * d) ∧ Bs 10 (2 * d) < c6) ∧ (1 ≤ Bs 10 (2 * d + 1) ∧ Bs 10 (2 * d + 1) ≤ 999)) ∧
  (∀ k, 0 ≤ Bs 8 k ∧ Bs 8 k ≤ 40) ∧ (∀ k, 0 ≤ Bs 7 k ∧ Bs 7 k ≤ 40) ∧ (∀ k, 0 ≤ Bs 9 k ∧ Bs 9 k ≤ 999) ∧ (∀ k, ¬ (0 ≤ k ∧ k < 2 * c7) → Bs 9 k = 0)
def Rd (s : PS) (u : CS) : Prop := XB u.2.2.2.2.2 ∧ ((s.2.1 = 0 ∧ u.1 = (-1, 0, s.1) ∧ RdT u.2.1 u.2.2.1 u.2.2.2.1 u.2.2.2.2.1 u.2.2.2.2.2 s.2.2) ∨ (s.2.1 ≠ 0 ∧ u.1.2.1 = s.2.1 ∧ u.1.1 = s.1))
theorem Rd_f {a k c5 c6 c7 c8 : Int} {A Bs : Nat → Int → Int} (hk : k ≠ 0) (hB : XB A) : Rd (a, k, Bs) ((a, k, a), c5, c6, c7, c8, A) := ⟨hB, Or.inr ⟨hk, rfl, rfl⟩⟩
theorem Sy_0 {a : Int} {t : CT} (h : Sy a 0 t) : t = (-1, 0, a) := by
  rcases h with ⟨_, h⟩ | ⟨h, _⟩
  · exact h
  · exact absurd rfl h
theorem vil_eq {T : Int → Int} {n a c5 c6 c7 c8 : Int} {A Bs : Nat → Int → Int} (h5 : 0 < c5) (hB : XB A) (H : RdT c5 c6 c7 c8 A Bs) : Rd (rVil T n (a, 0, Bs)) (cVilU T n ((-1, 0, a), c5, c6, c7, c8, A)) := by
  obtain ⟨⟨e0, e1, e2, e3⟩, ⟨n5, n6, n7, n8⟩, hn, w1, w2, w3, w4, b8, b7, b9, z9⟩ := H
  obtain ⟨x1, x2, x3, x4, x6⟩ := hB
  by_cases hf : c6 = 4
  · have em : rVil T n (a, 0, Bs) = (a, 3, Bs) := if_pos (show Bs 6 1 = 4 by omega)
    have ex : cVilU T n ((-1, 0, a), c5, c6, c7, c8, A) = ((a, 3, a), c5, c6, c7, c8, A) := by
      unfold cVilU
      dsimp only
      rw [if_neg (show ¬ c6 < 4 by omega), if_neg (show ¬ c6 < 4 by omega), if_neg (show ¬ c6 < 4 by omega), if_neg (fun q => (show ¬ c6 < 4 by omega) q.1), if_neg (fun q => (show ¬ c6 < 4 by omega) q.1)]
    rw [em, ex]
    exact Rd_f (by decide) ⟨x1, x2, x3, x4, x6⟩
  · have hlt : c6 < 4 := by omega
    have s0 : Sy (a + 1) 0 (-1, 0, a + 1) := Or.inl ⟨rfl, rfl⟩
    obtain ⟨a1, ea1⟩ : ∃ z, z = pNumA T n 0 40 (a + 1) 0 := ⟨_, rfl⟩
    obtain ⟨f1, ef1⟩ : ∃ z, z = pNumW T n 0 40 (a + 1) 0 := ⟨_, rfl⟩
    obtain ⟨V0, eV0⟩ : ∃ z, z = pNumV T n (a + 1) 0 := ⟨_, rfl⟩
    have s1 := Sy_num (T := T) (n := n) (lo := 0) (hi := 40) s0
    rw [← ea1, ← ef1] at s1
    obtain ⟨t1, et1⟩ : ∃ z, z = cNum T n 0 40 (-1, 0, a + 1) := ⟨_, rfl⟩
    rw [← et1] at s1
    obtain ⟨a2, ea2⟩ : ∃ z, z = pNumA T n 0 40 a1 f1 := ⟨_, rfl⟩
    obtain ⟨f2, ef2⟩ : ∃ z, z = pNumW T n 0 40 a1 f1 := ⟨_, rfl⟩
    obtain ⟨V1, eV1⟩ : ∃ z, z = pNumV T n a1 f1 := ⟨_, rfl⟩
    have s2 := Sy_num (T := T) (n := n) (lo := 0) (hi := 40) s1
    rw [← ea2, ← ef2] at s2
    obtain ⟨t2, et2⟩ : ∃ z, z = cNum T n 0 40 t1 := ⟨_, rfl⟩
    rw [← et2] at s2
    obtain ⟨a3, ea3⟩ : ∃ z, z = pNumA T n 0 40 a2 f2 := ⟨_, rfl⟩
    obtain ⟨f3, ef3⟩ : ∃ z, z = pNumW T n 0 40 a2 f2 := ⟨_, rfl⟩
    obtain ⟨V2, eV2⟩ : ∃ z, z = pNumV T n a2 f2 := ⟨_, rfl⟩
    have s3 := Sy_num (T := T) (n := n) (lo := 0) (hi := 40) s2
    rw [← ea3, ← ef3] at s3
    obtain ⟨t3, et3⟩ : ∃ z, z = cNum T n 0 40 t2 := ⟨_, rfl⟩
    rw [← et3] at s3
    obtain ⟨a4, ea4⟩ : ∃ z, z = pNumA T n 0 40 a3 f3 := ⟨_, rfl⟩
    obtain ⟨f4, ef4⟩ : ∃ z, z = pNumW T n 0 40 a3 f3 := ⟨_, rfl⟩
    obtain ⟨V3, eV3⟩ : ∃ z, z = pNumV T n a3 f3 := ⟨_, rfl⟩
    have s4 := Sy_num (T := T) (n := n) (lo := 0) (hi := 40) s3
    rw [← ea4, ← ef4] at s4
    obtain ⟨t4, et4⟩ : ∃ z, z = cNum T n 0 40 t3 := ⟨_, rfl⟩
    rw [← et4] at s4
    obtain ⟨a5, ea5⟩ : ∃ z, z = pNumA T n 1 40 a4 f4 := ⟨_, rfl⟩
    obtain ⟨f5, ef5⟩ : ∃ z, z = pNumW T n 1 40 a4 f4 := ⟨_, rfl⟩
    obtain ⟨V4, eV4⟩ : ∃ z, z = pNumV T n a4 f4 := ⟨_, rfl⟩
    have s5 := Sy_num (T := T) (n := n) (lo := 1) (hi := 40) s4
    rw [← ea5, ← ef5] at s5
    obtain ⟨t5, et5⟩ : ∃ z, z = cNum T n 1 40 t4 := ⟨_, rfl⟩
    rw [← et5] at s5
    obtain ⟨a6, ea6⟩ : ∃ z, z = pWordA T n 59 a5 f5 := ⟨_, rfl⟩
    obtain ⟨f6, ef6⟩ : ∃ z, z = pWordW T n 59 a5 f5 := ⟨_, rfl⟩
    have s6 := Sy_end (T := T) (n := n) s5
    rw [← ea6, ← ef6] at s6
    have eV : cV T n (-1, 0, a + 1) = cEnd T n t5 := by
      rw [et5, et4, et3, et2, et1]; rfl
    obtain ⟨t6, et6⟩ : ∃ z, z = cEnd T n t5 := ⟨_, rfl⟩
    rw [← et6] at s6 eV
    have em : rVil T n (a, 0, Bs) = (a6, f6, st2 (st2 (st2 (st2 (st2 (st2 Bs 8 (5 * c6) V0) 8 (5 * c6 + 1) V1) 8 (5 * c6 + 2) V2) 8 (5 * c6 + 3) V3) 8 (5 * c6 + 4) V4) 6 1 (st2 (st2 (st2 (st2 (st2 Bs 8 (5 * c6) V0) 8 (5 * c6 + 1) V1) 8 (5 * c6 + 2) V2) 8 (5 * c6 + 3) V3) 8 (5 * c6 + 4) V4 6 1 + 1)) := by
      have e : rVil T n (a, 0, Bs) = rInc 1 (rWord T n 59 (rNum T n 1 40 8 (5 * Bs 6 1 + 4) (fld (fun t i => rNum T n 0 40 8 (5 * Bs 6 1 + (i + 1)) t) (rNum T n 0 40 8 (5 * Bs 6 1) (a + 1, 0, Bs)) 3))) := if_neg (show ¬ Bs 6 1 = 4 by omega)
      rw [e, ← e1, ea6, ef6, ea5, ef5, eV4, ea4, ef4, eV3, ea3, ef3, eV2, ea2, ef2, eV1, ea1, ef1, eV0]
      rfl
    have ex : cVilU T n ((-1, 0, a), c5, c6, c7, c8, A) = (t6, c5, if c6 < 4 ∧ t6.2.1 = 0 then c6 + 1 else c6, c7, c8, if c6 < 4 ∧ t6.2.1 = 0 then cVA T n c6 (-1, 0, a + 1) A else A) := by
      unfold cVilU
      dsimp only
      rw [eV, if_pos hlt, if_pos hlt, if_pos hlt]
    rw [em, ex]
    by_cases hz : f6 = 0
    · have z5 : f5 = 0 := pWord_0 (T := T) (n := n) (c := 59) (a := a5) (by rw [← ef6]; exact hz)
      have r4 := pNum_0 (T := T) (n := n) (lo := 1) (hi := 40) (a := a4) (w := f4) (by rw [← ef5]; exact z5)
      rw [← eV4] at r4
      have r3 := pNum_0 (T := T) (n := n) (lo := 0) (hi := 40) (a := a3) (w := f3) (by rw [← ef4]; exact r4.1)
      rw [← eV3] at r3
      have r2 := pNum_0 (T := T) (n := n) (lo := 0) (hi := 40) (a := a2) (w := f2) (by rw [← ef3]; exact r3.1)
      rw [← eV2] at r2
      have r1 := pNum_0 (T := T) (n := n) (lo := 0) (hi := 40) (a := a1) (w := f1) (by rw [← ef2]; exact r2.1)
      rw [← eV1] at r1
      have r0 := pNum_0 (T := T) (n := n) (lo := 0) (hi := 40) (a := a + 1) (w := 0) (by rw [← ef1]; exact r1.1)
      rw [← eV0] at r0
      rw [hz] at s6
      have ht6 := Sy_0 s6
      have k6 : t6.2.1 = 0 := by rw [ht6]
      have v0 : cNv T n (-1, 0, a + 1) = V0 := by rw [eV0]; exact Sy_v s0
      rw [r1.1] at s1 eV1
      have v1 : cNv T n t1 = V1 := by rw [eV1]; exact Sy_v s1
      rw [r2.1] at s2 eV2
      have v2 : cNv T n t2 = V2 := by rw [eV2]; exact Sy_v s2
      rw [r3.1] at s3 eV3
      have v3 : cNv T n t3 = V3 := by rw [eV3]; exact Sy_v s3
      rw [r4.1] at s4 eV4
      have v4 : cNv T n t4 = V4 := by rw [eV4]; exact Sy_v s4
      have eA : cVA T n c6 (-1, 0, a + 1) A = st2 (st2 (st2 A 2 c6 V0) 3 c6 (V0 + iMx 1 (cMid V1 V2 V3))) 4 c6 V4 := by
        unfold cVA
        rw [← et1, ← et2, ← et3, ← et4, v0, v1, v2, v3, v4]
      rw [if_pos ⟨hlt, k6⟩, if_pos ⟨hlt, k6⟩, eA, mm1_eq]
      have hmid := cMid_r V1 V2 V3
      have hmm : 1 ≤ mm1 (cMid V1 V2 V3) ∧ mm1 (cMid V1 V2 V3) ≤ 40 := by
        unfold mm1
        split <;> omega
      obtain ⟨W, eW⟩ : ∃ z, z = up1 (up1 (up1 (up1 (up1 (Bs 8) (5 * c6) V0) (5 * c6 + 1) V1) (5 * c6 + 2) V2) (5 * c6 + 3) V3) (5 * c6 + 4) V4 := ⟨_, rfl⟩
      have lo : ∀ t, t < 5 * c6 → W t = Bs 8 t := fun t ht => by
        rw [eW, up1_n (by omega), up1_n (by omega), up1_n (by omega), up1_n (by omega), up1_n (by omega)]
      have g0 : W (5 * c6) = V0 := by rw [eW, up1_n (by omega), up1_n (by omega), up1_n (by omega), up1_n (by omega), up1_s]
      have g1 : W (5 * c6 + 1) = V1 := by rw [eW, up1_n (by omega), up1_n (by omega), up1_n (by omega), up1_s]
      have g2 : W (5 * c6 + 2) = V2 := by rw [eW, up1_n (by omega), up1_n (by omega), up1_s]
      have g3 : W (5 * c6 + 3) = V3 := by rw [eW, up1_n (by omega), up1_s]
      have g4 : W (5 * c6 + 4) = V4 := by rw [eW, up1_s]
      obtain ⟨B5, eB5⟩ : ∃ z, z = st2 (st2 (st2 (st2 (st2 Bs 8 (5 * c6) V0) 8 (5 * c6 + 1) V1) 8 (5 * c6 + 2) V2) 8 (5 * c6 + 3) V3) 8 (5 * c6 + 4) V4 := ⟨_, rfl⟩
      rw [← eB5]
      have q8 : B5 8 = W := by rw [eB5, eW, st2_a, st2_a, st2_a, st2_a, st2_a]
      have qj : ∀ j : Nat, j ≠ 8 → B5 j = Bs j := fun j hj => by rw [eB5, st2_n hj, st2_n hj, st2_n hj, st2_n hj, st2_n hj]
      have p8 : st2 B5 6 1 (B5 6 1 + 1) 8 = W := by rw [st2_n (by decide), q8]
      have p7 : st2 B5 6 1 (B5 6 1 + 1) 7 = Bs 7 := by rw [st2_n (by decide), qj 7 (by decide)]
      have p9 : st2 B5 6 1 (B5 6 1 + 1) 9 = Bs 9 := by rw [st2_n (by decide), qj 9 (by decide)]
      have p10 : st2 B5 6 1 (B5 6 1 + 1) 10 = Bs 10 := by rw [st2_n (by decide), qj 10 (by decide)]
      have p61 : st2 B5 6 1 (B5 6 1 + 1) 6 1 = c6 + 1 := by rw [st2_s, qj 6 (by decide), e1]
      have p6 : ∀ t : Int, t ≠ 1 → st2 B5 6 1 (B5 6 1 + 1) 6 t = Bs 6 t := fun t ht => by rw [st2_k ht, qj 6 (by decide)]
      obtain ⟨C, eC⟩ : ∃ z, z = st2 (st2 (st2 A 2 c6 V0) 3 c6 (V0 + mm1 (cMid V1 V2 V3))) 4 c6 V4 := ⟨_, rfl⟩
      have c1 : C 1 = A 1 := by rw [eC, st2_n (by decide), st2_n (by decide), st2_n (by decide)]
      have c2 : C 2 = up1 (A 2) c6 V0 := by rw [eC, st2_n (by decide), st2_n (by decide), st2_a]
      have c3 : C 3 = up1 (A 3) c6 (V0 + mm1 (cMid V1 V2 V3)) := by rw [eC, st2_n (by decide), st2_a, st2_n (by decide)]
      have c4 : C 4 = up1 (A 4) c6 V4 := by rw [eC, st2_a, st2_n (by decide), st2_n (by decide)]
      have cj : ∀ j : Nat, 4 < j → C j = A j := fun j hj => by rw [eC, st2_n (by omega), st2_n (by omega), st2_n (by omega)]
      rw [← eC]
      refine ⟨⟨by show ∀ k, 0 ≤ C 1 k ∧ C 1 k ≤ 40; rw [c1]; exact x1, fun k => by show 0 ≤ C 2 k ∧ C 2 k ≤ 40; rw [c2]; exact up1_b x2 (by omega) k, fun k => by show 0 ≤ C 3 k ∧ C 3 k ≤ 80; rw [c3]; exact up1_b x3 (by omega) k, fun k => by show 0 ≤ C 4 k ∧ C 4 k ≤ 40; rw [c4]; exact up1_b x4 (by omega) k, by show ∀ k, 0 ≤ C 6 k ∧ C 6 k ≤ 999; rw [cj 6 (by decide)]; exact x6⟩, Or.inl ⟨hz, ht6, ?_⟩⟩
      show RdT c5 (c6 + 1) c7 c8 C (st2 B5 6 1 (B5 6 1 + 1))
      unfold RdT
      rw [p8, p7, p9, p10, p61, p6 0 (by decide), p6 2 (by decide), p6 3 (by decide), c1, c2, c3, c4, cj 5 (by decide), cj 6 (by decide), cj 7 (by decide), cj 8 (by decide)]
      refine ⟨⟨e0, rfl, e2, e3⟩, ⟨n5, by omega, n7, n8⟩, fun _ => h5, w1, fun v hv => ?_, fun q hq => ?_, fun d hd => ?_, fun k => ?_, b7, b9, z9⟩
      · by_cases he : v = c6
        · subst he
          rw [up1_s, up1_s, up1_s, g0, g4]
          refine ⟨rfl, ?_, rfl, by omega⟩
          unfold mMid
          rw [g1, g2, g3, ← mid_eq]
        · obtain ⟨y1, y2, y3, y4⟩ := w2 v (by omega)
          rw [up1_n he, up1_n he, up1_n he, lo (5 * v) (by omega), lo (5 * v + 4) (by omega)]
          refine ⟨y1, ?_, y3, y4⟩
          have e : mMid W v = mMid (Bs 8) v := by
            unfold mMid
            rw [lo (5 * v + 1) (by omega), lo (5 * v + 2) (by omega), lo (5 * v + 3) (by omega)]
          rw [e]; exact y2
      · have := w3 q hq; omega
      · have := w4 d hd; omega
      · rw [eW]
        exact up1_b (up1_b (up1_b (up1_b (up1_b b8 (by omega)) (by omega)) (by omega)) (by omega)) (by omega) k
    · rcases s6 with ⟨q, _⟩ | ⟨q1, q2, q3⟩
      · exact absurd q hz
      · have k6 : ¬ t6.2.1 = 0 := by rw [q2]; exact hz
        rw [if_neg (fun q => k6 q.2), if_neg (fun q => k6 q.2)]
        exact ⟨⟨x1, x2, x3, x4, x6⟩, Or.inr ⟨hz, q2, q3⟩⟩
