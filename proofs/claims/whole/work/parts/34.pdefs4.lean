def zZ : Int → Int := fun _ => 0
def zD (A : Nat → Int → Int) : Nat → Int → Int := stA (stA (stA (stA (stA A 6 zZ) 7 zZ) 8 zZ) 9 zZ) 10 zZ
theorem zD_eq {A B : Nat → Int → Int} (h : ∀ j : Nat, j < 6 ∨ 10 < j → B j = A j) : zD B = zD A := by
  funext j
  unfold zD
  by_cases h1 : j = 10
  · subst h1; rw [stA_s, stA_s]
  rw [stA_n h1, stA_n h1]
  by_cases h2 : j = 9
  · subst h2; rw [stA_s, stA_s]
  rw [stA_n h2, stA_n h2]
  by_cases h3 : j = 8
  · subst h3; rw [stA_s, stA_s]
  rw [stA_n h3, stA_n h3]
  by_cases h4 : j = 7
  · subst h4; rw [stA_s, stA_s]
  rw [stA_n h4, stA_n h4]
  by_cases h5 : j = 6
  · subst h5; rw [stA_s, stA_s]
  rw [stA_n h5, stA_n h5, h j (by omega)]
/-- what the text says: place, fault, drafts -/
def rP (I : Nat → Int) (A : Nat → Int → Int) : PS := rLoop (A 0) (I 0) 241 (rSk (A 0) (I 0) (0, 0, zD A))
/-- what stands when a valley begins -/
def nowF (P D : Int → Int) (n : Nat) : Int → Int := fld (fun g d => up1 g (25 + 2 * d) (D (2 * d + 1))) (cpI P zZ 0 13 12) n
def vT (B : Nat → Int → Int) : Nat → Int → Int := stA (stA (stA (stA (stA B 1 (B 6)) 2 (B 7)) 3 (B 8)) 4 (B 9)) 5 (B 10)
def vA (B : Nat → Int → Int) : Nat → Int → Int := st2 (st2 (stA (vT B) 11 (nowF (B 9) (B 10) (B 6 3).toNat)) 21 0 0) 21 1 0
def mValR (I : Nat → Int) (A : Nat → Int → Int) : Int := if (rP I A).2.1 = 0 then (rP I A).2.2 6 1 else -10 - (rP I A).2.1
def mValI (I : Nat → Int) (A : Nat → Int → Int) : Nat → Int := if (rP I A).2.1 = 0 then jI (st1 (st1 (st1 (st1 (st1 I 0 0) 1 (-1)) 2 0) 4 0) 5 0) (rP I A).1 0 else jI (st1 (st1 I 0 0) 1 (rP I A).1) (rP I A).1 (rP I A).2.1
def mValA (I : Nat → Int) (A : Nat → Int → Int) : Nat → Int → Int := if (rP I A).2.1 = 0 then vA (rP I A).2.2 else (rP I A).2.2
theorem rLoop_gd {T : Int → Int} {n : Int} (hn : n ≤ 240) (m : Nat) : ∀ s t : PS, rGd s t → rGd s (rLoop T n m t) := by
  induction m with
  | zero => intro s t h; exact h
  | succ m ih =>
    intro s t h
    show rGd s (if t.2.1 = 0 ∧ pLook T n t.1 ≠ -1 then rLoop T n m (rSk T n (rCl T n t)) else t)
    split
    · have hl := ‹t.2.1 = 0 ∧ pLook T n t.1 ≠ -1›
      have hlt := pLook_ne hl.2
      have hg := rCl_go (T := T) (n := n) (a := t.1) (w := t.2.1) (A := t.2.2) hn ⟨h.1.1, hlt⟩ h.2.2.2.1
      exact ih s _ (rGd_sk hn (rGd_tr h hg.1))
    · exact h
theorem cOk_z {A : Nat → Int → Int} : cOk (zD A) := by
  refine ⟨?_, ?_, ?_, ?_⟩ <;> (show (0 : Int) ≤ 0 ∧ (0 : Int) ≤ _; omega)
theorem rP_gd {I : Nat → Int} {A : Nat → Int → Int} (hn : I 0 ≤ 240) : rGd (0, 0, zD A) (rP I A) := rLoop_gd hn 241 _ _ (rGd_sk hn (rGd_rf ⟨Int.le_refl 0, (by decide : (0 : Int) ≤ 240)⟩ z03 cOk_z))
theorem mW_I {E : Ev} {I1 I2 : Nat → Int} {A1 A2 : Nat → Int → Int} (h1 : mF E I1 = mF E I2) (h2 : A1 = A2) : mW E I1 A1 = mW E I2 A2 := by
  unfold mW
  rw [h1, h2]
