/-- a village's number and another number, to the clause's end -/
theorem two_eq {T : Int → Int} {n lo nv a : Int} (hn : nv ≤ 999) : ∃ (a3 f3 V0 V1 : Int) (t3 : CT), (∀ (j : Nat) (k1 k2 : Int) (Bs : Nat → Int → Int), Bs 6 1 = nv → rWord T n 59 (rNum T n lo 999 j k2 (rTold T n j k1 (a + 1, 0, Bs))) = (a3, f3, st2 (st2 Bs j k1 V0) j k2 V1)) ∧ cP T n lo nv (-1, 0, a + 1) = t3 ∧ Sy a3 f3 t3 ∧ (f3 = 0 → (0 ≤ V0 ∧ V0 ≤ nv - 1) ∧ (lo ≤ V1 ∧ V1 ≤ 999) ∧ ∀ (j : Nat) (c : Int) (A : Nat → Int → Int), cPA T n nv j c (-1, 0, a + 1) A = st2 (st2 A j c V0) (j + 1) c V1) := by
  have s0 : Sy (a + 1) 0 (-1, 0, a + 1) := Or.inl ⟨rfl, rfl⟩
  obtain ⟨k1, k2, k3⟩ := tl_eq (T := T) (n := n) (nv := nv) (a := a + 1) (w := 0) hn
  have s1 := Sy_num (T := T) (n := n) (lo := 0) (hi := nv - 1) s0
  have s2 := Sy_num (T := T) (n := n) (lo := lo) (hi := 999) s1
  have s3 := Sy_end (T := T) (n := n) s2
  refine ⟨_, _, pNumV T n (a + 1) 0, pNumV T n (pNumA T n 0 (nv - 1) (a + 1) 0) (pNumW T n 0 (nv - 1) (a + 1) 0), _, ?_, rfl, s3, ?_⟩
  · intro j q1 q2 Bs hB
    unfold rWord rNum rTold
    dsimp only
    rw [hB, k1, k2, k3]
  · intro hz
    have z2 := pWord_0 hz
    have r2 := pNum_0 z2
    have r1 := pNum_0 r2.1
    refine ⟨⟨r1.2.1, r1.2.2.1⟩, ⟨r2.2.1, r2.2.2.1⟩, fun j c A => ?_⟩
    rw [r2.1] at s1
    have e := Sy_v (T := T) (n := n) s1
    unfold cPA
    rw [e, r2.1]
    rfl
theorem per_eq {T : Int → Int} {n a c5 c6 c7 c8 : Int} {A Bs : Nat → Int → Int} (h5 : 0 < c5) (hB : XB A) (H : RdT c5 c6 c7 c8 A Bs) : Rd (rPer T n (a, 0, Bs)) (cPerU T n ((-1, 0, a), c5, c6, c7, c8, A)) := by
  obtain ⟨⟨e0, e1, e2, e3⟩, ⟨n5, n6, n7, n8⟩, hn, w1, w2, w3, w4, b8, b7, b9, z9⟩ := H
  obtain ⟨x1, x2, x3, x4, x6⟩ := hB
  by_cases hf : c7 = 6
  · have em : rPer T n (a, 0, Bs) = (a, 3, Bs) := if_pos (show Bs 6 2 = 6 by omega)
    have ex : cPerU T n ((-1, 0, a), c5, c6, c7, c8, A) = ((a, 3, a), c5, c6, c7, c8, A) := by
      unfold cPerU
      dsimp only
      rw [if_neg (show ¬ c7 < 6 by omega), if_neg (show ¬ c7 < 6 by omega), if_neg (show ¬ c7 < 6 by omega), if_neg (fun q => (show ¬ c7 < 6 by omega) q.1), if_neg (fun q => (show ¬ c7 < 6 by omega) q.1)]
    rw [em, ex]
    exact Rd_f (by decide) ⟨x1, x2, x3, x4, x6⟩
  · have hlt : c7 < 6 := by omega
    obtain ⟨a3, f3, V0, V1, t3, hr, ht, s3, hz3⟩ := two_eq (T := T) (n := n) (lo := 0) (nv := c6) (a := a) (by omega)
    have em : rPer T n (a, 0, Bs) = (a3, f3, st2 (st2 (st2 Bs 9 (2 * c7) V0) 9 (2 * c7 + 1) V1) 6 2 (st2 (st2 Bs 9 (2 * c7) V0) 9 (2 * c7 + 1) V1 6 2 + 1)) := by
      have e : rPer T n (a, 0, Bs) = rInc 2 (rWord T n 59 (rNum T n 0 999 9 (2 * Bs 6 2 + 1) (rTold T n 9 (2 * Bs 6 2) (a + 1, 0, Bs)))) := if_neg (show ¬ Bs 6 2 = 6 by omega)
      rw [e, ← e2, hr 9 (2 * c7) (2 * c7 + 1) Bs e1.symm]
      rfl
    have ex : cPerU T n ((-1, 0, a), c5, c6, c7, c8, A) = (t3, c5, c6, if c7 < 6 ∧ t3.2.1 = 0 then c7 + 1 else c7, c8, if c7 < 6 ∧ t3.2.1 = 0 then cPA T n c6 5 c7 (-1, 0, a + 1) A else A) := by
      unfold cPerU
      dsimp only
      rw [ht, if_pos hlt, if_pos hlt, if_pos hlt]
    rw [em, ex]
    by_cases hz : f3 = 0
    · obtain ⟨v0, v1, hA⟩ := hz3 hz
      have hA5 : cPA T n c6 5 c7 (-1, 0, a + 1) A = st2 (st2 A 5 c7 V0) 6 c7 V1 := hA 5 c7 A
      rw [hz] at s3
      have ht3 := Sy_0 s3
      have k3 : t3.2.1 = 0 := by rw [ht3]
      rw [if_pos ⟨hlt, k3⟩, if_pos ⟨hlt, k3⟩, hA5]
      obtain ⟨W, eW⟩ : ∃ z, z = up1 (up1 (Bs 9) (2 * c7) V0) (2 * c7 + 1) V1 := ⟨_, rfl⟩
      have lo : ∀ t, t < 2 * c7 → W t = Bs 9 t := fun t ht => by rw [eW, up1_n (by omega), up1_n (by omega)]
      have g0 : W (2 * c7) = V0 := by rw [eW, up1_n (by omega), up1_s]
      have g1 : W (2 * c7 + 1) = V1 := by rw [eW, up1_s]
      obtain ⟨B5, eB5⟩ : ∃ z, z = st2 (st2 Bs 9 (2 * c7) V0) 9 (2 * c7 + 1) V1 := ⟨_, rfl⟩
      rw [← eB5]
      have q9 : B5 9 = W := by rw [eB5, eW, st2_a, st2_a]
      have qj : ∀ j : Nat, j ≠ 9 → B5 j = Bs j := fun j hj => by rw [eB5, st2_n hj, st2_n hj]
      have p9 : st2 B5 6 2 (B5 6 2 + 1) 9 = W := by rw [st2_n (by decide), q9]
      have p7 : st2 B5 6 2 (B5 6 2 + 1) 7 = Bs 7 := by rw [st2_n (by decide), qj 7 (by decide)]
      have p8 : st2 B5 6 2 (B5 6 2 + 1) 8 = Bs 8 := by rw [st2_n (by decide), qj 8 (by decide)]
      have p10 : st2 B5 6 2 (B5 6 2 + 1) 10 = Bs 10 := by rw [st2_n (by decide), qj 10 (by decide)]
      have p62 : st2 B5 6 2 (B5 6 2 + 1) 6 2 = c7 + 1 := by rw [st2_s, qj 6 (by decide), e2]
      have p6 : ∀ t : Int, t ≠ 2 → st2 B5 6 2 (B5 6 2 + 1) 6 t = Bs 6 t := fun t ht => by rw [st2_k ht, qj 6 (by decide)]
      obtain ⟨C, eC⟩ : ∃ z, z = st2 (st2 A 5 c7 V0) 6 c7 V1 := ⟨_, rfl⟩
      have c5' : C 5 = up1 (A 5) c7 V0 := by rw [eC, st2_n (by decide), st2_a]
      have c6' : C 6 = up1 (A 6) c7 V1 := by rw [eC, st2_a, st2_n (by decide)]
      have cj : ∀ j : Nat, j ≠ 5 → j ≠ 6 → C j = A j := fun j h1 h2 => by rw [eC, st2_n h2, st2_n h1]
      rw [← eC]
      refine ⟨⟨by show ∀ k, 0 ≤ C 1 k ∧ C 1 k ≤ 40; rw [cj 1 (by decide) (by decide)]; exact x1, by show ∀ k, 0 ≤ C 2 k ∧ C 2 k ≤ 40; rw [cj 2 (by decide) (by decide)]; exact x2, by show ∀ k, 0 ≤ C 3 k ∧ C 3 k ≤ 80; rw [cj 3 (by decide) (by decide)]; exact x3, by show ∀ k, 0 ≤ C 4 k ∧ C 4 k ≤ 40; rw [cj 4 (by decide) (by decide)]; exact x4, fun k => by show 0 ≤ C 6 k ∧ C 6 k ≤ 999; rw [c6']; exact up1_b x6 (by omega) k⟩, Or.inl ⟨hz, ht3, ?_⟩⟩
      show RdT c5 c6 (c7 + 1) c8 C (st2 B5 6 2 (B5 6 2 + 1))
      unfold RdT
      rw [p8, p7, p9, p10, p62, p6 0 (by decide), p6 1 (by decide), p6 3 (by decide), c5', c6', cj 1 (by decide) (by decide), cj 2 (by decide) (by decide), cj 3 (by decide) (by decide), cj 4 (by decide) (by decide), cj 7 (by decide) (by decide), cj 8 (by decide) (by decide)]
      refine ⟨⟨e0, e1, rfl, e3⟩, ⟨n5, n6, by omega, n8⟩, fun _ => h5, w1, w2, fun q hq => ?_, w4, b8, b7, fun k => ?_, fun k hk => ?_⟩
      · by_cases he : q = c7
        · subst he
          rw [up1_s, up1_s, g0, g1]
          exact ⟨rfl, rfl, by omega, by omega⟩
        · have y := w3 q (by omega)
          rw [up1_n he, up1_n he, lo (2 * q) (by omega), lo (2 * q + 1) (by omega)]
          exact y
      · rw [eW]
        exact up1_b (up1_b b9 (by omega)) (by omega) k
      · rw [eW, up1_n (by omega), up1_n (by omega)]
        exact z9 k (by omega)
    · rcases s3 with ⟨q, _⟩ | ⟨q1, q2, q3⟩
      · exact absurd q hz
      · have k3 : ¬ t3.2.1 = 0 := by rw [q2]; exact hz
        rw [if_neg (fun q => k3 q.2), if_neg (fun q => k3 q.2)]
        exact ⟨⟨x1, x2, x3, x4, x6⟩, Or.inr ⟨hz, q2, q3⟩⟩
theorem deb_eq {T : Int → Int} {n a c5 c6 c7 c8 : Int} {A Bs : Nat → Int → Int} (h5 : 0 < c5) (hB : XB A) (H : RdT c5 c6 c7 c8 A Bs) : Rd (rDeb T n (a, 0, Bs)) (cDebU T n ((-1, 0, a), c5, c6, c7, c8, A)) := by
  obtain ⟨⟨e0, e1, e2, e3⟩, ⟨n5, n6, n7, n8⟩, hn, w1, w2, w3, w4, b8, b7, b9, z9⟩ := H
  obtain ⟨x1, x2, x3, x4, x6⟩ := hB
  by_cases hf : c8 = 5
  · have em : rDeb T n (a, 0, Bs) = (a, 3, Bs) := if_pos (show Bs 6 3 = 5 by omega)
    have ex : cDebU T n ((-1, 0, a), c5, c6, c7, c8, A) = ((a, 3, a), c5, c6, c7, c8, A) := by
      unfold cDebU
      dsimp only
      rw [if_neg (show ¬ c8 < 5 by omega), if_neg (show ¬ c8 < 5 by omega), if_neg (show ¬ c8 < 5 by omega), if_neg (fun q => (show ¬ c8 < 5 by omega) q.1), if_neg (fun q => (show ¬ c8 < 5 by omega) q.1)]
    rw [em, ex]
    exact Rd_f (by decide) ⟨x1, x2, x3, x4, x6⟩
  · have hlt : c8 < 5 := by omega
    obtain ⟨a3, f3, V0, V1, t3, hr, ht, s3, hz3⟩ := two_eq (T := T) (n := n) (lo := 1) (nv := c6) (a := a) (by omega)
    have em : rDeb T n (a, 0, Bs) = (a3, f3, st2 (st2 (st2 Bs 10 (2 * c8) V0) 10 (2 * c8 + 1) V1) 6 3 (st2 (st2 Bs 10 (2 * c8) V0) 10 (2 * c8 + 1) V1 6 3 + 1)) := by
      have e : rDeb T n (a, 0, Bs) = rInc 3 (rWord T n 59 (rNum T n 1 999 10 (2 * Bs 6 3 + 1) (rTold T n 10 (2 * Bs 6 3) (a + 1, 0, Bs)))) := if_neg (show ¬ Bs 6 3 = 5 by omega)
      rw [e, ← e3, hr 10 (2 * c8) (2 * c8 + 1) Bs e1.symm]
      rfl
    have ex : cDebU T n ((-1, 0, a), c5, c6, c7, c8, A) = (t3, c5, c6, c7, if c8 < 5 ∧ t3.2.1 = 0 then c8 + 1 else c8, if c8 < 5 ∧ t3.2.1 = 0 then cPA T n c6 7 c8 (-1, 0, a + 1) A else A) := by
      unfold cDebU
      dsimp only
      rw [ht, if_pos hlt, if_pos hlt, if_pos hlt]
    rw [em, ex]
    by_cases hz : f3 = 0
    · obtain ⟨v0, v1, hA⟩ := hz3 hz
      have hA5 : cPA T n c6 7 c8 (-1, 0, a + 1) A = st2 (st2 A 7 c8 V0) 8 c8 V1 := hA 7 c8 A
      rw [hz] at s3
      have ht3 := Sy_0 s3
      have k3 : t3.2.1 = 0 := by rw [ht3]
      rw [if_pos ⟨hlt, k3⟩, if_pos ⟨hlt, k3⟩, hA5]
      obtain ⟨W, eW⟩ : ∃ z, z = up1 (up1 (Bs 10) (2 * c8) V0) (2 * c8 + 1) V1 := ⟨_, rfl⟩
      have lo : ∀ t, t < 2 * c8 → W t = Bs 10 t := fun t ht => by rw [eW, up1_n (by omega), up1_n (by omega)]
      have g0 : W (2 * c8) = V0 := by rw [eW, up1_n (by omega), up1_s]
      have g1 : W (2 * c8 + 1) = V1 := by rw [eW, up1_s]
      obtain ⟨B5, eB5⟩ : ∃ z, z = st2 (st2 Bs 10 (2 * c8) V0) 10 (2 * c8 + 1) V1 := ⟨_, rfl⟩
      rw [← eB5]
      have q10 : B5 10 = W := by rw [eB5, eW, st2_a, st2_a]
      have qj : ∀ j : Nat, j ≠ 10 → B5 j = Bs j := fun j hj => by rw [eB5, st2_n hj, st2_n hj]
      have p10 : st2 B5 6 3 (B5 6 3 + 1) 10 = W := by rw [st2_n (by decide), q10]
      have p7 : st2 B5 6 3 (B5 6 3 + 1) 7 = Bs 7 := by rw [st2_n (by decide), qj 7 (by decide)]
      have p8 : st2 B5 6 3 (B5 6 3 + 1) 8 = Bs 8 := by rw [st2_n (by decide), qj 8 (by decide)]
      have p9 : st2 B5 6 3 (B5 6 3 + 1) 9 = Bs 9 := by rw [st2_n (by decide), qj 9 (by decide)]
      have p63 : st2 B5 6 3 (B5 6 3 + 1) 6 3 = c8 + 1 := by rw [st2_s, qj 6 (by decide), e3]
      have p6 : ∀ t : Int, t ≠ 3 → st2 B5 6 3 (B5 6 3 + 1) 6 t = Bs 6 t := fun t ht => by rw [st2_k ht, qj 6 (by decide)]
      obtain ⟨C, eC⟩ : ∃ z, z = st2 (st2 A 7 c8 V0) 8 c8 V1 := ⟨_, rfl⟩
      have c7' : C 7 = up1 (A 7) c8 V0 := by rw [eC, st2_n (by decide), st2_a]
      have c8' : C 8 = up1 (A 8) c8 V1 := by rw [eC, st2_a, st2_n (by decide)]
      have cj : ∀ j : Nat, j ≠ 7 → j ≠ 8 → C j = A j := fun j h1 h2 => by rw [eC, st2_n h2, st2_n h1]
      rw [← eC]
      refine ⟨⟨by show ∀ k, 0 ≤ C 1 k ∧ C 1 k ≤ 40; rw [cj 1 (by decide) (by decide)]; exact x1, by show ∀ k, 0 ≤ C 2 k ∧ C 2 k ≤ 40; rw [cj 2 (by decide) (by decide)]; exact x2, by show ∀ k, 0 ≤ C 3 k ∧ C 3 k ≤ 80; rw [cj 3 (by decide) (by decide)]; exact x3, by show ∀ k, 0 ≤ C 4 k ∧ C 4 k ≤ 40; rw [cj 4 (by decide) (by decide)]; exact x4, by show ∀ k, 0 ≤ C 6 k ∧ C 6 k ≤ 999; rw [cj 6 (by decide) (by decide)]; exact x6⟩, Or.inl ⟨hz, ht3, ?_⟩⟩
      show RdT c5 c6 c7 (c8 + 1) C (st2 B5 6 3 (B5 6 3 + 1))
      unfold RdT
      rw [p8, p7, p9, p10, p63, p6 0 (by decide), p6 1 (by decide), p6 2 (by decide), c7', c8', cj 1 (by decide) (by decide), cj 2 (by decide) (by decide), cj 3 (by decide) (by decide), cj 4 (by decide) (by decide), cj 5 (by decide) (by decide), cj 6 (by decide) (by decide)]
      refine ⟨⟨e0, e1, e2, rfl⟩, ⟨n5, n6, n7, by omega⟩, fun _ => h5, w1, w2, w3, fun q hq => ?_, b8, b7, b9, z9⟩
      by_cases he : q = c8
      · subst he
        rw [up1_s, up1_s, g0, g1]
        exact ⟨rfl, rfl, by omega, by omega⟩
      · have y := w4 q (by omega)
        rw [up1_n he, up1_n he, lo (2 * q) (by omega), lo (2 * q + 1) (by omega)]
        exact y
    · rcases s3 with ⟨q, _⟩ | ⟨q1, q2, q3⟩
      · exact absurd q hz
      · have k3 : ¬ t3.2.1 = 0 := by rw [q2]; exact hz
        rw [if_neg (fun q => k3 q.2), if_neg (fun q => k3 q.2)]
        exact ⟨⟨x1, x2, x3, x4, x6⟩, Or.inr ⟨hz, q2, q3⟩⟩
