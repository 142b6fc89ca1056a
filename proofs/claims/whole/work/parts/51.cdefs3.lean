/-! THE CLASS'S READER, the clauses: (faultAt, kind, at), numbers, villages, persons, debts, arrays -/
abbrev CS : Type := CT × Int × Int × Int × Int × (Nat → Int → Int)
theorem cWin_s {T : Int → Int} {n i c : Int} {s : CT} {g : Int → Int} (h : 0 ≤ i ∧ i < 20) : cWin T n (20 - i).toNat i s c g = if (cNum T n 0 40 s).2.1 = 0 then (if pLook T n (pSk T n (cNum T n 0 40 s).2.2) = 44 ∧ i ≠ 19 then cWin T n (20 - (i + 1)).toNat (i + 1) ((cNum T n 0 40 s).1, (cNum T n 0 40 s).2.1, pSk T n (cNum T n 0 40 s).2.2 + 1) (i + 1) (up1 g i (cNv T n s)) else (cEnd T n ((cNum T n 0 40 s).1, (cNum T n 0 40 s).2.1, pSk T n (cNum T n 0 40 s).2.2), i + 1, up1 g i (cNv T n s))) else (cNum T n 0 40 s, c, g) := by
  rw [show (20 - i).toNat = (20 - (i + 1)).toNat + 1 by omega]
  rfl
def cWinU (T : Int → Int) (n : Int) (u : CS) : CS := ((cWin T n 20 0 (u.1.1, u.1.2.1, u.1.2.2 + 1) u.2.1 (u.2.2.2.2.2 1)).1, (cWin T n 20 0 (u.1.1, u.1.2.1, u.1.2.2 + 1) u.2.1 (u.2.2.2.2.2 1)).2.1, u.2.2.1, u.2.2.2.1, u.2.2.2.2.1, stA u.2.2.2.2.2 1 (cWin T n 20 0 (u.1.1, u.1.2.1, u.1.2.2 + 1) u.2.1 (u.2.2.2.2.2 1)).2.2)
def cVilU (T : Int → Int) (n : Int) (u : CS) : CS := ((if u.2.2.1 < 4 then (cV T n (u.1.1, 0, u.1.2.2 + 1)).1 else u.1.2.2, if u.2.2.1 < 4 then (cV T n (u.1.1, 0, u.1.2.2 + 1)).2.1 else 3, if u.2.2.1 < 4 then (cV T n (u.1.1, 0, u.1.2.2 + 1)).2.2 else u.1.2.2), u.2.1, if u.2.2.1 < 4 ∧ (cV T n (u.1.1, 0, u.1.2.2 + 1)).2.1 = 0 then u.2.2.1 + 1 else u.2.2.1, u.2.2.2.1, u.2.2.2.2.1, if u.2.2.1 < 4 ∧ (cV T n (u.1.1, 0, u.1.2.2 + 1)).2.1 = 0 then cVA T n u.2.2.1 (u.1.1, 0, u.1.2.2 + 1) u.2.2.2.2.2 else u.2.2.2.2.2)
def cPerU (T : Int → Int) (n : Int) (u : CS) : CS := ((if u.2.2.2.1 < 6 then (cP T n 0 u.2.2.1 (u.1.1, 0, u.1.2.2 + 1)).1 else u.1.2.2, if u.2.2.2.1 < 6 then (cP T n 0 u.2.2.1 (u.1.1, 0, u.1.2.2 + 1)).2.1 else 3, if u.2.2.2.1 < 6 then (cP T n 0 u.2.2.1 (u.1.1, 0, u.1.2.2 + 1)).2.2 else u.1.2.2), u.2.1, u.2.2.1, if u.2.2.2.1 < 6 ∧ (cP T n 0 u.2.2.1 (u.1.1, 0, u.1.2.2 + 1)).2.1 = 0 then u.2.2.2.1 + 1 else u.2.2.2.1, u.2.2.2.2.1, if u.2.2.2.1 < 6 ∧ (cP T n 0 u.2.2.1 (u.1.1, 0, u.1.2.2 + 1)).2.1 = 0 then cPA T n u.2.2.1 5 u.2.2.2.1 (u.1.1, 0, u.1.2.2 + 1) u.2.2.2.2.2 else u.2.2.2.2.2)
def cDebU (T : Int → Int) (n : Int) (u : CS) : CS := ((if u.2.2.2.2.1 < 5 then (cP T n 1 u.2.2.1 (u.1.1, 0, u.1.2.2 + 1)).1 else u.1.2.2, if u.2.2.2.2.1 < 5 then (cP T n 1 u.2.2.1 (u.1.1, 0, u.1.2.2 + 1)).2.1 else 3, if u.2.2.2.2.1 < 5 then (cP T n 1 u.2.2.1 (u.1.1, 0, u.1.2.2 + 1)).2.2 else u.1.2.2), u.2.1, u.2.2.1, u.2.2.2.1, if u.2.2.2.2.1 < 5 ∧ (cP T n 1 u.2.2.1 (u.1.1, 0, u.1.2.2 + 1)).2.1 = 0 then u.2.2.2.2.1 + 1 else u.2.2.2.2.1, if u.2.2.2.2.1 < 5 ∧ (cP T n 1 u.2.2.1 (u.1.1, 0, u.1.2.2 + 1)).2.1 = 0 then cPA T n u.2.2.1 7 u.2.2.2.2.1 (u.1.1, 0, u.1.2.2 + 1) u.2.2.2.2.2 else u.2.2.2.2.2)
def cFaU (k : Int) (u : CS) : CS := ((u.1.2.2, k, u.1.2.2), u.2)
def cSkU (T : Int → Int) (n : Int) (u : CS) : CS := ((u.1.1, u.1.2.1, pSk T n u.1.2.2), u.2)
def cClU (T : Int → Int) (n x : Int) (u : CS) : CS := if x = 110 then cFaU 3 u else if x = 118 then cVilU T n u else if x = 112 then cPerU T n u else if x = 100 then cDebU T n u else cFaU 1 u
def cLoop (T : Int → Int) (n : Int) : Nat → CS → CS
  | 0, u => u
  | m + 1, u => if u.1.2.1 = 0 then (if pLook T n (pSk T n u.1.2.2) = -1 then cSkU T n u else cLoop T n m (cClU T n (pLook T n (pSk T n u.1.2.2)) (cSkU T n u))) else u
theorem cLoop_s {T : Int → Int} {n i : Int} {u : CS} (h : 0 ≤ i ∧ i < 240) : cLoop T n (240 - i).toNat u = if u.1.2.1 = 0 then (if pLook T n (pSk T n u.1.2.2) = -1 then cSkU T n u else cLoop T n (240 - (i + 1)).toNat (cClU T n (pLook T n (pSk T n u.1.2.2)) (cSkU T n u))) else u := by
  rw [show (240 - i).toNat = (240 - (i + 1)).toNat + 1 by omega]
  rfl
def cAll (T : Int → Int) (n : Int) (u : CS) : CS := if pLook T n (pSk T n u.1.2.2) = 110 then cLoop T n 240 (cWinU T n (cSkU T n u)) else cFaU 1 (cSkU T n u)
/-- what reading keeps: bounds, and the arrays that are not the reader's -/
def uGd (B : Nat → Int → Int) (u : CS) : Prop := cGd u.1 ∧ (0 ≤ u.2.1 ∧ u.2.1 ≤ 20) ∧ (0 ≤ u.2.2.1 ∧ u.2.2.1 ≤ 4) ∧ (0 ≤ u.2.2.2.1 ∧ u.2.2.2.1 ≤ 6) ∧ (0 ≤ u.2.2.2.2.1 ∧ u.2.2.2.2.1 ≤ 5) ∧ ∀ j : Nat, j = 0 ∨ 8 < j → u.2.2.2.2.2 j = B j
theorem cWin_g {T : Int → Int} {n : Int} (hn : 0 ≤ n ∧ n ≤ 240) (m : Nat) : ∀ (i : Int) (s : CT) (c : Int) (g : Int → Int), 0 ≤ i ∧ i + m ≤ 20 → 0 ≤ c ∧ c ≤ 20 → cGd s → cGd (cWin T n m i s c g).1 ∧ (0 ≤ (cWin T n m i s c g).2.1 ∧ (cWin T n m i s c g).2.1 ≤ 20) := by
  induction m with
  | zero => intro i s c g hi hc hs; exact ⟨cGd_end hn hs, hc⟩
  | succ m ih =>
    intro i s c g hi hc hs
    have h1 := cGd_num (T := T) (lo := 0) (hi := 40) hn hs
    unfold cWin
    split
    · have h2 := pSk_240 (T := T) h1.2.2 hn.2
      split
      · have h3 := ‹_ ∧ i ≠ 19›
        have h4 := pLook_c h3.1 (by decide)
        exact ih (i + 1) _ (i + 1) _ (by omega) (by omega) ⟨h1.1, h1.2.1, by show 0 ≤ pSk T n (cNum T n 0 40 s).2.2 + 1 ∧ pSk T n (cNum T n 0 40 s).2.2 + 1 ≤ 240; omega⟩
      · exact ⟨cGd_end hn ⟨h1.1, h1.2.1, h2⟩, by show 0 ≤ i + 1 ∧ i + 1 ≤ 20; omega⟩
    · exact ⟨h1, hc⟩
theorem uGd_win {T : Int → Int} {n : Int} {B : Nat → Int → Int} {u : CS} (hn : 0 ≤ n ∧ n ≤ 240) (ha : u.1.2.2 < n) (h : uGd B u) : uGd B (cWinU T n u) := by
  obtain ⟨h1, h2, h3, h4, h5, h6⟩ := h
  have h7 := cWin_g (T := T) hn 20 0 (u.1.1, u.1.2.1, u.1.2.2 + 1) u.2.1 (u.2.2.2.2.2 1) (by decide) h2 ⟨h1.1, h1.2.1, by have := h1.2.2; show 0 ≤ u.1.2.2 + 1 ∧ u.1.2.2 + 1 ≤ 240; omega⟩
  exact ⟨h7.1, h7.2, h3, h4, h5, fun j hj => (stA_n (by omega)).trans (h6 j hj)⟩
theorem cGd_V {T : Int → Int} {n : Int} {s : CT} (hn : 0 ≤ n ∧ n ≤ 240) (h : cGd s) : cGd (cV T n s) := cGd_end hn (cGd_num hn (cGd_num hn (cGd_num hn (cGd_num hn (cGd_num hn h)))))
theorem cGd_P {T : Int → Int} {n lo nv : Int} {s : CT} (hn : 0 ≤ n ∧ n ≤ 240) (h : cGd s) : cGd (cP T n lo nv s) := cGd_end hn (cGd_num hn (cGd_num hn h))
theorem cGd_if {c : Prop} [Decidable c] {s : CT} {a : Int} (h : cGd s) (ha : 0 ≤ a ∧ a ≤ 240) : cGd (if c then s.1 else a, if c then s.2.1 else 3, if c then s.2.2 else a) := by
  by_cases hc : c
  · show cGd (if c then s.1 else a, if c then s.2.1 else 3, if c then s.2.2 else a)
    rw [if_pos hc, if_pos hc, if_pos hc]; exact h
  · show cGd (if c then s.1 else a, if c then s.2.1 else 3, if c then s.2.2 else a)
    rw [if_neg hc, if_neg hc, if_neg hc]
    exact ⟨by show -1 ≤ a ∧ a ≤ 240; omega, (show (0 : Int) ≤ 3 ∧ (3 : Int) ≤ 3 by decide), ha⟩
theorem iInc {c : Prop} [Decidable c] {x m : Int} (h : 0 ≤ x ∧ x ≤ m) (hc : c → x < m) : 0 ≤ (if c then x + 1 else x) ∧ (if c then x + 1 else x) ≤ m := by
  by_cases hq : c
  · have := hc hq
    rw [if_pos hq]
    omega
  · rw [if_neg hq]
    exact h
theorem uGd_cl {T : Int → Int} {n x : Int} {B : Nat → Int → Int} {u : CS} (hn : 0 ≤ n ∧ n ≤ 240) (ha : u.1.2.2 < n) (h : uGd B u) : uGd B (cClU T n x u) := by
  obtain ⟨h1, h2, h3, h4, h5, h6⟩ := h
  have h0 : cGd (u.1.1, 0, u.1.2.2 + 1) := ⟨h1.1, z03, by have := h1.2.2; show 0 ≤ u.1.2.2 + 1 ∧ u.1.2.2 + 1 ≤ 240; omega⟩
  have hf : ∀ k : Int, 0 ≤ k ∧ k ≤ 3 → uGd B (cFaU k u) := fun k hk => ⟨⟨by have := h1.2.2; show -1 ≤ u.1.2.2 ∧ u.1.2.2 ≤ 240; omega, hk, h1.2.2⟩, h2, h3, h4, h5, h6⟩
  unfold cClU
  split
  · exact hf 3 (by decide)
  split
  · refine ⟨cGd_if (cGd_V hn h0) h1.2.2, h2, ?_, h4, h5, fun j hj => ?_⟩
    · exact iInc h3 (fun h => h.1)
    · show (if _ then _ else _ : Nat → Int → Int) j = _
      split
      · show st2 (st2 (st2 _ 2 _ _) 3 _ _) 4 _ _ j = _
        rw [st2_n (by omega), st2_n (by omega), st2_n (by omega)]; exact h6 j hj
      · exact h6 j hj
  split
  · refine ⟨cGd_if (cGd_P hn h0) h1.2.2, h2, h3, ?_, h5, fun j hj => ?_⟩
    · exact iInc h4 (fun h => h.1)
    · show (if _ then _ else _ : Nat → Int → Int) j = _
      split
      · show st2 (st2 _ 5 _ _) 6 _ _ j = _
        rw [st2_n (by omega), st2_n (by omega)]; exact h6 j hj
      · exact h6 j hj
  split
  · refine ⟨cGd_if (cGd_P hn h0) h1.2.2, h2, h3, h4, ?_, fun j hj => ?_⟩
    · exact iInc h5 (fun h => h.1)
    · show (if _ then _ else _ : Nat → Int → Int) j = _
      split
      · show st2 (st2 _ 7 _ _) 8 _ _ j = _
        rw [st2_n (by omega), st2_n (by omega)]; exact h6 j hj
      · exact h6 j hj
  · exact hf 1 (by decide)
theorem uGd_sk {T : Int → Int} {n : Int} {B : Nat → Int → Int} {u : CS} (hn : 0 ≤ n ∧ n ≤ 240) (h : uGd B u) : uGd B (cSkU T n u) := ⟨⟨h.1.1, h.1.2.1, pSk_240 h.1.2.2 hn.2⟩, h.2⟩
theorem uGd_loop {T : Int → Int} {n : Int} {B : Nat → Int → Int} (hn : 0 ≤ n ∧ n ≤ 240) (m : Nat) : ∀ u : CS, uGd B u → uGd B (cLoop T n m u) := by
  induction m with
  | zero => intro u h; exact h
  | succ m ih =>
    intro u h
    unfold cLoop
    split
    · split
      · exact uGd_sk hn h
      · have := ‹¬ pLook T n (pSk T n u.1.2.2) = -1›
        exact ih _ (uGd_cl hn (pLook_ne this) (uGd_sk hn h))
    · exact h
theorem uGd_all {T : Int → Int} {n : Int} {B : Nat → Int → Int} {u : CS} (hn : 0 ≤ n ∧ n ≤ 240) (h : uGd B u) : uGd B (cAll T n u) := by
  unfold cAll
  split
  · have := ‹pLook T n (pSk T n u.1.2.2) = 110›
    exact uGd_loop hn 240 _ (uGd_win hn (pLook_c this (by decide)) (uGd_sk hn h))
  · have h2 := uGd_sk (T := T) hn h
    exact ⟨⟨by have := h2.1.2.2; show -1 ≤ (cSkU T n u).1.2.2 ∧ (cSkU T n u).1.2.2 ≤ 240; omega, z13, h2.1.2.2⟩, h2.2⟩
def cRead (T : Int → Int) (n : Int) (A : Nat → Int → Int) : CS := if pLook T n (pSk T n 0) = -1 then ((-1, 0, pSk T n 0), 0, 0, 0, 0, A) else cAll T n ((-1, 0, pSk T n 0), 0, 0, 0, 0, A)
theorem uGd_read {T : Int → Int} {n : Int} {A : Nat → Int → Int} (hn : 0 ≤ n ∧ n ≤ 240) : uGd A (cRead T n A) := by
  have h0 : uGd A ((-1, 0, pSk T n 0), 0, 0, 0, 0, A) := ⟨⟨by show (-1 : Int) ≤ -1 ∧ (-1 : Int) ≤ 240; decide, z03, pSk_240 ⟨Int.le_refl 0, by decide⟩ hn.2⟩, by show (0 : Int) ≤ 0 ∧ (0 : Int) ≤ 20; decide, by show (0 : Int) ≤ 0 ∧ (0 : Int) ≤ 4; decide, by show (0 : Int) ≤ 0 ∧ (0 : Int) ≤ 6; decide, by show (0 : Int) ≤ 0 ∧ (0 : Int) ≤ 5; decide, fun _ _ => rfl⟩
  unfold cRead
  split
  · exact h0
  · exact uGd_all hn h0
