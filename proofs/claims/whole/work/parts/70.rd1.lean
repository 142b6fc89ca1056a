/-! READING, on both sides: T the letters, n their number -/
def Sy (a w : Int) (t : CT) : Prop := (w = 0 ∧ t = (-1, 0, a)) ∨ (w ≠ 0 ∧ t.2.1 = w ∧ t.1 = a)
theorem pNumW_n {T : Int → Int} {n lo hi a w : Int} (h : w ≠ 0) : pNumW T n lo hi a w = w := if_neg h
theorem pNumA_n {T : Int → Int} {n lo hi a w : Int} (h : w ≠ 0) : pNumA T n lo hi a w = a := if_neg h
theorem pWordW_n {T : Int → Int} {n c a w : Int} (h : w ≠ 0) : pWordW T n c a w = w := if_neg h
theorem pWordA_n {T : Int → Int} {n c a w : Int} (h : w ≠ 0) : pWordA T n c a w = a := if_neg h
/-- a number read without a fault lies in its bounds -/
theorem pNum_0 {T : Int → Int} {n lo hi a w : Int} (h : pNumW T n lo hi a w = 0) : w = 0 ∧ lo ≤ pNumV T n a w ∧ pNumV T n a w ≤ hi ∧ pNumA T n lo hi a w = (pRun T n (pSk T n a) (pSk T n a) 0).1 := by
  by_cases hw : w = 0
  · subst hw
    unfold pNumW at h
    rw [if_pos rfl] at h
    by_cases h1 : 48 ≤ pLook T n (pSk T n a) ∧ pLook T n (pSk T n a) ≤ 57
    · rw [if_pos h1] at h
      by_cases h2 : (pRun T n (pSk T n a) (pSk T n a) 0).1 - pSk T n a ≤ 3 ∧ lo ≤ (pRun T n (pSk T n a) (pSk T n a) 0).2 ∧ (pRun T n (pSk T n a) (pSk T n a) 0).2 ≤ hi
      · unfold pNumV pNumA
        rw [if_pos rfl, if_pos h1, if_pos rfl, if_pos h1, if_pos h2]
        exact ⟨rfl, h2.2.1, h2.2.2, rfl⟩
      · rw [if_neg h2] at h; exact absurd h (by decide)
    · rw [if_neg h1] at h; exact absurd h (by decide)
  · rw [pNumW_n hw] at h; exact absurd h hw
theorem pNum_f {T : Int → Int} {n lo hi a : Int} (h : pNumW T n lo hi a 0 ≠ 0) : pNumA T n lo hi a 0 = pSk T n a := by
  unfold pNumW at h
  rw [if_pos rfl] at h
  unfold pNumA
  rw [if_pos rfl]
  by_cases h1 : 48 ≤ pLook T n (pSk T n a) ∧ pLook T n (pSk T n a) ≤ 57
  · rw [if_pos h1] at h ⊢
    by_cases h2 : (pRun T n (pSk T n a) (pSk T n a) 0).1 - pSk T n a ≤ 3 ∧ lo ≤ (pRun T n (pSk T n a) (pSk T n a) 0).2 ∧ (pRun T n (pSk T n a) (pSk T n a) 0).2 ≤ hi
    · rw [if_pos h2] at h; exact absurd rfl h
    · rw [if_neg h2]
  · rw [if_neg h1]
theorem Sy_num {T : Int → Int} {n lo hi a w : Int} {t : CT} (h : Sy a w t) : Sy (pNumA T n lo hi a w) (pNumW T n lo hi a w) (cNum T n lo hi t) := by
  rcases h with ⟨h1, h2⟩ | ⟨h1, h2, h3⟩
  · subst h1 h2
    by_cases hz : pNumW T n lo hi a 0 = 0
    · refine Or.inl ⟨hz, ?_⟩
      unfold cNum
      dsimp only
      rw [if_neg (fun q => q.2 hz), hz, if_pos rfl, (pNum_0 hz).2.2.2]
    · refine Or.inr ⟨hz, rfl, ?_⟩
      unfold cNum
      dsimp only
      rw [if_pos ⟨rfl, hz⟩, pNum_f hz]
  · rw [pNumW_n h1, pNumA_n h1]
    refine Or.inr ⟨h1, ?_, ?_⟩
    · show pNumW T n lo hi t.2.2 t.2.1 = w
      rw [h2, pNumW_n h1]
    · show (if t.2.1 = 0 ∧ _ then _ else t.1) = a
      rw [if_neg (fun q => h1 (by rw [← h2]; exact q.1)), h3]
theorem Sy_v {T : Int → Int} {n a : Int} {t : CT} (h : Sy a 0 t) : cNv T n t = pNumV T n a 0 := by
  rcases h with ⟨_, h2⟩ | ⟨h1, _⟩
  · subst h2; rfl
  · exact absurd rfl h1
theorem Sy_end {T : Int → Int} {n a w : Int} {t : CT} (h : Sy a w t) : Sy (pWordA T n 59 a w) (pWordW T n 59 a w) (cEnd T n t) := by
  rcases h with ⟨h1, h2⟩ | ⟨h1, h2, h3⟩
  · subst h1 h2
    by_cases hz : pLook T n (pSk T n a) = 59
    · have e1 : pWordW T n 59 a 0 = 0 := by unfold pWordW; rw [if_pos rfl, if_pos hz]
      refine Or.inl ⟨e1, ?_⟩
      unfold cEnd
      dsimp only
      rw [if_neg (fun q => q.2 e1), e1]
    · have e1 : pWordW T n 59 a 0 = 1 := by unfold pWordW; rw [if_pos rfl, if_neg hz]
      have e2 : pWordA T n 59 a 0 = pSk T n a := by unfold pWordA; rw [if_pos rfl, if_neg hz]
      refine Or.inr ⟨by rw [e1]; decide, rfl, ?_⟩
      unfold cEnd
      dsimp only
      rw [if_pos ⟨rfl, by rw [e1]; decide⟩, e2]
  · rw [pWordW_n h1, pWordA_n h1]
    refine Or.inr ⟨h1, ?_, ?_⟩
    · show pWordW T n 59 t.2.2 t.2.1 = w
      rw [h2, pWordW_n h1]
    · show (if t.2.1 = 0 ∧ _ then _ else t.1) = a
      rw [if_neg (fun q => h1 (by rw [← h2]; exact q.1)), h3]
theorem pWord_0 {T : Int → Int} {n c a w : Int} (h : pWordW T n c a w = 0) : w = 0 := by
  by_cases hw : w = 0
  · exact hw
  · rw [pWordW_n hw] at h; exact absurd h hw
theorem pSkW_0 {T : Int → Int} {n a : Int} : pSkW T n a 0 = pSk T n a := if_pos rfl
theorem pSkW_n {T : Int → Int} {n a w : Int} (h : w ≠ 0) : pSkW T n a w = a := if_neg h
theorem n_v {T : Int → Int} {n a : Int} (h1 : 48 ≤ pLook T n (pSk T n a) ∧ pLook T n (pSk T n a) ≤ 57) : pNumV T n a 0 = (pRun T n (pSk T n a) (pSk T n a) 0).2 := by
  unfold pNumV
  rw [if_pos rfl, if_pos h1]
theorem n_1 {T : Int → Int} {n lo hi a : Int} (h1 : ¬ (48 ≤ pLook T n (pSk T n a) ∧ pLook T n (pSk T n a) ≤ 57)) : pNumW T n lo hi a 0 = 1 := by
  unfold pNumW
  rw [if_pos rfl, if_neg h1]
theorem n_2 {T : Int → Int} {n lo hi a : Int} (h1 : 48 ≤ pLook T n (pSk T n a) ∧ pLook T n (pSk T n a) ≤ 57) (h2 : (pRun T n (pSk T n a) (pSk T n a) 0).1 - pSk T n a ≤ 3 ∧ lo ≤ (pRun T n (pSk T n a) (pSk T n a) 0).2 ∧ (pRun T n (pSk T n a) (pSk T n a) 0).2 ≤ hi) : pNumW T n lo hi a 0 = 0 := by
  unfold pNumW
  rw [if_pos rfl, if_pos h1, if_pos h2]
theorem n_3 {T : Int → Int} {n lo hi a : Int} (h1 : 48 ≤ pLook T n (pSk T n a) ∧ pLook T n (pSk T n a) ≤ 57) (h2 : ¬ ((pRun T n (pSk T n a) (pSk T n a) 0).1 - pSk T n a ≤ 3 ∧ lo ≤ (pRun T n (pSk T n a) (pSk T n a) 0).2 ∧ (pRun T n (pSk T n a) (pSk T n a) 0).2 ≤ hi)) : pNumW T n lo hi a 0 = 2 := by
  unfold pNumW
  rw [if_pos rfl, if_pos h1, if_neg h2]
theorem n_sk {T : Int → Int} {n lo hi a : Int} : pNumW T n lo hi (pSk T n a) 0 = pNumW T n lo hi a 0 ∧ pNumA T n lo hi (pSk T n a) 0 = pNumA T n lo hi a 0 ∧ pNumV T n (pSk T n a) 0 = pNumV T n a 0 := by
  unfold pNumW pNumA pNumV
  rw [pSk_2]
  exact ⟨rfl, rfl, rfl⟩
/-- a village's number that must be told: the same as a number below that many -/
theorem tl_eq {T : Int → Int} {n nv a w : Int} (hn : nv ≤ 999) : tlV T n a w = pNumV T n a w ∧ tlW T n nv a w = pNumW T n 0 (nv - 1) a w ∧ tlA T n nv a w = pNumA T n 0 (nv - 1) a w := by
  by_cases hw : w = 0
  · subst hw
    obtain ⟨k1, k2, k3⟩ := n_sk (T := T) (n := n) (lo := 0) (hi := 999) (a := a)
    have hv : tlV T n a 0 = pNumV T n a 0 := by
      unfold tlV
      rw [pSkW_0, k3]
    have hr := pRun_v (T := T) (n := n) (f := pSk T n a)
    unfold tlW tlA
    rw [hv, pSkW_0, k1, k2]
    by_cases h1 : 48 ≤ pLook T n (pSk T n a) ∧ pLook T n (pSk T n a) ≤ 57
    · rw [n_v h1]
      by_cases h2 : (pRun T n (pSk T n a) (pSk T n a) 0).1 - pSk T n a ≤ 3
      · have e9 : pNumW T n 0 999 a 0 = 0 := n_2 h1 ⟨h2, hr⟩
        rw [e9]
        by_cases h3 : nv ≤ (pRun T n (pSk T n a) (pSk T n a) 0).2
        · have e8 : pNumW T n 0 (nv - 1) a 0 = 2 := n_3 h1 (by omega)
          rw [if_pos ⟨rfl, h3⟩, if_pos ⟨rfl, h3⟩, e8, pNum_f (show pNumW T n 0 (nv - 1) a 0 ≠ 0 by rw [e8]; decide)]
          exact ⟨rfl, rfl, rfl⟩
        · have e8 : pNumW T n 0 (nv - 1) a 0 = 0 := n_2 h1 (by omega)
          rw [if_neg (fun q => h3 q.2), if_neg (fun q => h3 q.2), e8, (pNum_0 e9).2.2.2, (pNum_0 e8).2.2.2]
          exact ⟨rfl, rfl, rfl⟩
      · have e9 : pNumW T n 0 999 a 0 = 2 := n_3 h1 (fun q => h2 q.1)
        have e8 : pNumW T n 0 (nv - 1) a 0 = 2 := n_3 h1 (fun q => h2 q.1)
        rw [pNum_f (show pNumW T n 0 (nv - 1) a 0 ≠ 0 by rw [e8]; decide), pNum_f (show pNumW T n 0 999 a 0 ≠ 0 by rw [e9]; decide), e9, e8, if_neg (fun q => absurd q.1 (by decide)), if_neg (fun q => absurd q.1 (by decide))]
        exact ⟨rfl, rfl, rfl⟩
    · have e9 : pNumW T n 0 999 a 0 = 1 := n_1 h1
      have e8 : pNumW T n 0 (nv - 1) a 0 = 1 := n_1 h1
      rw [pNum_f (show pNumW T n 0 (nv - 1) a 0 ≠ 0 by rw [e8]; decide), pNum_f (show pNumW T n 0 999 a 0 ≠ 0 by rw [e9]; decide), e9, e8, if_neg (fun q => absurd q.1 (by decide)), if_neg (fun q => absurd q.1 (by decide))]
      exact ⟨rfl, rfl, rfl⟩
  · unfold tlW tlA tlV
    rw [pSkW_n hw, pNumW_n hw, pNumW_n hw, pNumA_n hw, pNumA_n hw, if_neg (fun q => hw q.1), if_neg (fun q => hw q.1)]
    exact ⟨rfl, rfl, rfl⟩
theorem mid_eq (a b c : Int) : cMid a b c = if c < mLow a b then mLow a b else if mHigh a b < c then mHigh a b else c := by
  unfold cMid iMx iMn mLow mHigh
  repeat' split
  all_goals omega
theorem mm1_eq (z : Int) : iMx 1 z = mm1 z := by
  unfold iMx mm1
  split <;> split <;> omega
