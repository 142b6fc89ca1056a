theorem pSkW_r {T : Int → Int} {n a w : Int} (ha : 0 ≤ a ∧ a ≤ 240) (hn : n ≤ 240) : (0 ≤ pSkW T n a w ∧ pSkW T n a w ≤ 240) ∧ a ≤ pSkW T n a w := by
  have h1 := pSk_240 (T := T) ha hn
  have h2 := pSk_r (T := T) (n := n) (a := a)
  unfold pSkW
  split <;> omega
theorem pNumA_r {T : Int → Int} {n lo hi a w : Int} (ha : 0 ≤ a ∧ a ≤ 240) (hn : n ≤ 240) : (0 ≤ pNumA T n lo hi a w ∧ pNumA T n lo hi a w ≤ 240) ∧ a ≤ pNumA T n lo hi a w := by
  have h1 := pSk_240 (T := T) ha hn
  have h2 := pSk_r (T := T) (n := n) (a := a)
  unfold pNumA
  split
  · split
    · have h3 : pSk T n a < n := by
        have h4 := ‹48 ≤ pLook T n (pSk T n a) ∧ _›
        unfold pLook at h4
        split at h4 <;> omega
      have h5 := pRun_r (T := T) (n := n) (f := pSk T n a) (a := pSk T n a) (v := 0) (by omega)
      split <;> omega
    · omega
  · omega
theorem pNumW_r {T : Int → Int} {n lo hi a w : Int} (hw : 0 ≤ w ∧ w ≤ 3) : 0 ≤ pNumW T n lo hi a w ∧ pNumW T n lo hi a w ≤ 3 := by
  unfold pNumW
  repeat' split
  all_goals omega
theorem pNumV_r {T : Int → Int} {n a w : Int} : 0 ≤ pNumV T n a w ∧ pNumV T n a w ≤ 999 := by
  have := pRun_v (T := T) (n := n) (f := pSk T n a)
  unfold pNumV
  repeat' split
  all_goals omega
theorem pWordA_r {T : Int → Int} {n c a w : Int} (ha : 0 ≤ a ∧ a ≤ 240) (hn : n ≤ 240) (hc : 0 ≤ c) : (0 ≤ pWordA T n c a w ∧ pWordA T n c a w ≤ 240) ∧ a ≤ pWordA T n c a w := by
  have h1 := pSk_240 (T := T) ha hn
  have h2 := pSk_r (T := T) (n := n) (a := a)
  unfold pWordA
  split
  · split
    · have h4 := ‹pLook T n (pSk T n a) = c›
      unfold pLook at h4
      split at h4 <;> omega
    · omega
  · omega
theorem pWordW_r {T : Int → Int} {n c a w : Int} (hw : 0 ≤ w ∧ w ≤ 3) : 0 ≤ pWordW T n c a w ∧ pWordW T n c a w ≤ 3 := by
  unfold pWordW
  repeat' split
  all_goals omega
theorem pFail_r {k w : Int} (hk : 0 ≤ k ∧ k ≤ 3) (hw : 0 ≤ w ∧ w ≤ 3) : 0 ≤ pFail k w ∧ pFail k w ≤ 3 := by
  unfold pFail
  split <;> omega
theorem pLook_c {T : Int → Int} {n a c : Int} (h : pLook T n a = c) (hc : 0 ≤ c) : a < n := by
  unfold pLook at h
  split at h <;> omega
theorem pLook_ne {T : Int → Int} {n a : Int} (h : pLook T n a ≠ -1) : a < n := by
  unfold pLook at h
  split at h <;> omega
/-- place, fault, arrays -/
abbrev PS : Type := Int × Int × (Nat → Int → Int)
def rNum (T : Int → Int) (n lo hi : Int) (j : Nat) (k : Int) (s : PS) : PS := (pNumA T n lo hi s.1 s.2.1, pNumW T n lo hi s.1 s.2.1, st2 s.2.2 j k (pNumV T n s.1 s.2.1))
def rSk (T : Int → Int) (n : Int) (s : PS) : PS := (pSkW T n s.1 s.2.1, s.2.1, s.2.2)
def rWord (T : Int → Int) (n c : Int) (s : PS) : PS := (pWordA T n c s.1 s.2.1, pWordW T n c s.1 s.2.1, s.2.2)
def rInc (j : Int) (s : PS) : PS := (s.1, s.2.1, st2 s.2.2 6 j (s.2.2 6 j + 1))
def rVil (T : Int → Int) (n : Int) (s : PS) : PS := if s.2.2 6 1 = 4 then (s.1, 3, s.2.2) else rInc 1 (rWord T n 59 (rNum T n 1 40 8 (5 * s.2.2 6 1 + 4) (fld (fun t i => rNum T n 0 40 8 (5 * s.2.2 6 1 + (i + 1)) t) (rNum T n 0 40 8 (5 * s.2.2 6 1) (s.1 + 1, 0, s.2.2)) 3)))
def tlV (T : Int → Int) (n a w : Int) : Int := pNumV T n (pSkW T n a w) w
def tlA (T : Int → Int) (n nv a w : Int) : Int := if pNumW T n 0 999 (pSkW T n a w) w = 0 ∧ nv ≤ tlV T n a w then pSkW T n a w else pNumA T n 0 999 (pSkW T n a w) w
def tlW (T : Int → Int) (n nv a w : Int) : Int := if pNumW T n 0 999 (pSkW T n a w) w = 0 ∧ nv ≤ tlV T n a w then 2 else pNumW T n 0 999 (pSkW T n a w) w
def rTold (T : Int → Int) (n : Int) (j : Nat) (k : Int) (s : PS) : PS := (tlA T n (s.2.2 6 1) s.1 s.2.1, tlW T n (s.2.2 6 1) s.1 s.2.1, st2 s.2.2 j k (tlV T n s.1 s.2.1))
def rPer (T : Int → Int) (n : Int) (s : PS) : PS := if s.2.2 6 2 = 6 then (s.1, 3, s.2.2) else rInc 2 (rWord T n 59 (rNum T n 0 999 9 (2 * s.2.2 6 2 + 1) (rTold T n 9 (2 * s.2.2 6 2) (s.1 + 1, 0, s.2.2))))
def rDeb (T : Int → Int) (n : Int) (s : PS) : PS := if s.2.2 6 3 = 5 then (s.1, 3, s.2.2) else rInc 3 (rWord T n 59 (rNum T n 1 999 10 (2 * s.2.2 6 3 + 1) (rTold T n 10 (2 * s.2.2 6 3) (s.1 + 1, 0, s.2.2))))
/-- the commas of a winter -/
def rCom (T : Int → Int) (n : Int) : Nat → PS → PS
  | 0, s => s
  | m + 1, s => if s.2.1 = 0 ∧ pLook T n s.1 = 44 then (if s.2.2 6 0 = 20 then rCom T n m (rSk T n (s.1, 1, s.2.2)) else rCom T n m (rSk T n (rInc 0 (rNum T n 0 40 7 (s.2.2 6 0) (s.1 + 1, s.2.1, s.2.2))))) else s
def rSet1 (s : PS) : PS := (s.1, s.2.1, st2 s.2.2 6 0 1)
def rWin (T : Int → Int) (n : Int) (s : PS) : PS := if 0 < s.2.2 6 0 then (s.1, 3, s.2.2) else rWord T n 59 (rCom T n 22 (rSk T n (rSet1 (rNum T n 0 40 7 0 (s.1 + 1, 0, s.2.2)))))
def rCl (T : Int → Int) (n : Int) (s : PS) : PS := if pLook T n s.1 = 110 then rWin T n s else if s.2.2 6 0 = 0 then (s.1, 1, s.2.2) else if pLook T n s.1 = 118 then rVil T n s else if pLook T n s.1 = 112 then rPer T n s else if pLook T n s.1 = 100 then rDeb T n s else (s.1, 1, s.2.2)
def rLoop (T : Int → Int) (n : Int) : Nat → PS → PS
  | 0, s => s
  | m + 1, s => if s.2.1 = 0 ∧ pLook T n s.1 ≠ -1 then rLoop T n m (rSk T n (rCl T n s)) else s
/-- the counts of a draft -/
def cOk (A : Nat → Int → Int) : Prop := (0 ≤ A 6 0 ∧ A 6 0 ≤ 20) ∧ (0 ≤ A 6 1 ∧ A 6 1 ≤ 4) ∧ (0 ≤ A 6 2 ∧ A 6 2 ≤ 6) ∧ (0 ≤ A 6 3 ∧ A 6 3 ≤ 5)
theorem tlA_r {T : Int → Int} {n nv a w : Int} (ha : 0 ≤ a ∧ a ≤ 240) (hn : n ≤ 240) : (0 ≤ tlA T n nv a w ∧ tlA T n nv a w ≤ 240) ∧ a ≤ tlA T n nv a w := by
  have h1 := pSkW_r (T := T) (w := w) ha hn
  have h2 := pNumA_r (T := T) (lo := 0) (hi := 999) (w := w) h1.1 hn
  unfold tlA
  split <;> omega
theorem tlW_r {T : Int → Int} {n nv a w : Int} (hw : 0 ≤ w ∧ w ≤ 3) : 0 ≤ tlW T n nv a w ∧ tlW T n nv a w ≤ 3 := by
  have h2 := pNumW_r (T := T) (n := n) (lo := 0) (hi := 999) (a := pSkW T n a w) hw
  unfold tlW
  split <;> omega
theorem tlV_r {T : Int → Int} {n a w : Int} : 0 ≤ tlV T n a w ∧ tlV T n a w ≤ 999 := pNumV_r
theorem mW_j {E : Ev} {I : Nat → Int} {a a2 w w2 : Int} {A A2 : Nat → Int → Int} (h1 : a = a2) (h2 : w = w2) (h3 : A = A2) : mW E (jI I a w) A = mW E (jI I a2 w2) A2 := by rw [h1, h2, h3]
