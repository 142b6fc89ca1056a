theorem rCom_w {T : Int → Int} {n : Int} (m : Nat) {s : PS} (h : s.2.1 ≠ 0) : rCom T n m s = s := by
  cases m with
  | zero => rfl
  | succ m => exact if_neg (fun q => h q.1)
theorem rCom_n {T : Int → Int} {n : Int} (m : Nat) {s : PS} (h : pLook T n s.1 ≠ 44) : rCom T n m s = s := by
  cases m with
  | zero => rfl
  | succ m => exact if_neg (fun q => h q.2)
theorem rWord_w {T : Int → Int} {n c a w : Int} {A : Nat → Int → Int} (h : w ≠ 0) : rWord T n c (a, w, A) = (a, w, A) := by
  unfold rWord
  dsimp only
  rw [pWordA_n h, pWordW_n h]
theorem rSk_w {T : Int → Int} {n a w : Int} {A : Nat → Int → Int} (h : w ≠ 0) : rSk T n (a, w, A) = (a, w, A) := by
  unfold rSk
  dsimp only
  rw [pSkW_n h]
theorem rSk_0 {T : Int → Int} {n a : Int} {A : Nat → Int → Int} : rSk T n (a, 0, A) = (pSk T n a, 0, A) := by
  unfold rSk
  dsimp only
  rw [pSkW_0]
theorem up1_b {g : Int → Int} {k v c : Int} (hg : ∀ t, 0 ≤ g t ∧ g t ≤ c) (hv : 0 ≤ v ∧ v ≤ c) (t : Int) : 0 ≤ up1 g k v t ∧ up1 g k v t ≤ c := by
  unfold up1
  split
  · exact hv
  · exact hg t
def WinOk (r : PS) (x : CT × Int × (Int → Int)) (Bs : Nat → Int → Int) : Prop := Sy r.1 r.2.1 x.1 ∧ (∀ k, 0 ≤ x.2.2 k ∧ x.2.2 k ≤ 40) ∧ (r.2.1 = 0 → x.2.1 = r.2.2 6 0 ∧ (1 ≤ x.2.1 ∧ x.2.1 ≤ 20) ∧ (∀ k, 0 ≤ k ∧ k < x.2.1 → x.2.2 k = r.2.2 7 k) ∧ (∀ k, 0 ≤ r.2.2 7 k ∧ r.2.2 7 k ≤ 40) ∧ (∀ j : Nat, j ≠ 6 → j ≠ 7 → r.2.2 j = Bs j) ∧ (∀ t : Int, t ≠ 0 → r.2.2 6 t = Bs 6 t))
theorem WinOk_c {r : PS} {x : CT × Int × (Int → Int)} {B1 Bs : Nat → Int → Int} (h1 : ∀ j : Nat, j ≠ 6 → j ≠ 7 → B1 j = Bs j) (h2 : ∀ t : Int, t ≠ 0 → B1 6 t = Bs 6 t) (H : WinOk r x B1) : WinOk r x Bs := by
  obtain ⟨q1, q2, q3⟩ := H
  refine ⟨q1, q2, fun h => ?_⟩
  obtain ⟨g1, g2, g3, g4, g5, g6⟩ := q3 h
  exact ⟨g1, g2, g3, g4, fun j a b => (g5 j a b).trans (h1 j a b), fun t ht => (g6 t ht).trans (h2 t ht)⟩
theorem win_eq {T : Int → Int} {n : Int} (m : Nat) : ∀ (i : Int) (F : Nat) (a c : Int) (g : Int → Int) (Bs : Nat → Int → Int), i + m = 20 → 0 < m → 0 ≤ i → m ≤ F → Bs 6 0 = i → (∀ k, 0 ≤ k ∧ k < i → g k = Bs 7 k) → (∀ k, 0 ≤ g k ∧ g k ≤ 40) → (∀ k, 0 ≤ Bs 7 k ∧ Bs 7 k ≤ 40) →
    WinOk (rWord T n 59 (rCom T n F (rSk T n (rInc 0 (rNum T n 0 40 7 i (a, 0, Bs)))))) (cWin T n m i (-1, 0, a) c g) Bs := by
  induction m with
  | zero => intro i F a c g Bs _ hm; exact absurd hm (Nat.lt_irrefl 0)
  | succ m ih =>
    intro i F a c g Bs hi _ h0 hF h6 hg hgb hBb
    obtain ⟨F', rfl⟩ : ∃ F', F = F' + 1 := ⟨F - 1, by omega⟩
    have hS := Sy_num (T := T) (n := n) (lo := 0) (hi := 40) (show Sy a 0 (-1, 0, a) from Or.inl ⟨rfl, rfl⟩)
    have eW : (cNum T n 0 40 (-1, 0, a)).2.1 = pNumW T n 0 40 a 0 := rfl
    have hR : rInc 0 (rNum T n 0 40 7 i (a, 0, Bs)) = (pNumA T n 0 40 a 0, pNumW T n 0 40 a 0, st2 (st2 Bs 7 i (pNumV T n a 0)) 6 0 (st2 Bs 7 i (pNumV T n a 0) 6 0 + 1)) := rfl
    have hX : cWin T n (m + 1) i (-1, 0, a) c g = if (cNum T n 0 40 (-1, 0, a)).2.1 = 0 then (if pLook T n (pSk T n (cNum T n 0 40 (-1, 0, a)).2.2) = 44 ∧ i ≠ 19 then cWin T n m (i + 1) ((cNum T n 0 40 (-1, 0, a)).1, (cNum T n 0 40 (-1, 0, a)).2.1, pSk T n (cNum T n 0 40 (-1, 0, a)).2.2 + 1) (i + 1) (up1 g i (cNv T n (-1, 0, a))) else (cEnd T n ((cNum T n 0 40 (-1, 0, a)).1, (cNum T n 0 40 (-1, 0, a)).2.1, pSk T n (cNum T n 0 40 (-1, 0, a)).2.2), i + 1, up1 g i (cNv T n (-1, 0, a)))) else (cNum T n 0 40 (-1, 0, a), c, g) := rfl
    have hV : cNv T n (-1, 0, a) = pNumV T n a 0 := rfl
    have e60 : st2 Bs 7 i (pNumV T n a 0) 6 0 = i := by rw [st2_n (by decide), h6]
    rw [hR, hX, eW, hV, e60]
    obtain ⟨V, eV⟩ : ∃ z, z = pNumV T n a 0 := ⟨_, rfl⟩
    rw [← eV]
    obtain ⟨B1, eB⟩ : ∃ z, z = st2 (st2 Bs 7 i V) 6 0 (i + 1) := ⟨_, rfl⟩
    rw [← eB]
    have b60 : B1 6 0 = i + 1 := by rw [eB, st2_s]
    have b6 : ∀ t : Int, t ≠ 0 → B1 6 t = Bs 6 t := fun t ht => by rw [eB, st2_k ht, st2_n (by decide)]
    have b7 : B1 7 = up1 (Bs 7) i V := by rw [eB, st2_n (by decide), st2_a]
    have bj : ∀ j : Nat, j ≠ 6 → j ≠ 7 → B1 j = Bs j := fun j h1 h2 => by rw [eB, st2_n h1, st2_n h2]
    by_cases hz : pNumW T n 0 40 a 0 = 0
    · obtain ⟨-, v1, v2, -⟩ := pNum_0 hz
      rw [← eV] at v1 v2
      rw [hz] at hS ⊢
      have hc : cNum T n 0 40 (-1, 0, a) = (-1, 0, pNumA T n 0 40 a 0) := by
        rcases hS with ⟨_, h⟩ | ⟨h, _⟩
        · exact h
        · exact absurd rfl h
      rw [hc, if_pos rfl, rSk_0]
      dsimp only
      obtain ⟨a2, ea⟩ : ∃ z, z = pSk T n (pNumA T n 0 40 a 0) := ⟨_, rfl⟩
      have ea2 : pSk T n a2 = a2 := by rw [ea, pSk_2]
      rw [← ea]
      have gb : ∀ k, 0 ≤ up1 g i V k ∧ up1 g i V k ≤ 40 := up1_b hgb ⟨v1, v2⟩
      have bb : ∀ k, 0 ≤ B1 7 k ∧ B1 7 k ≤ 40 := fun k => by rw [b7]; exact up1_b hBb ⟨v1, v2⟩ k
      have gk : ∀ k, 0 ≤ k ∧ k < i + 1 → up1 g i V k = B1 7 k := fun k hk => by
        rw [b7]
        by_cases he : k = i
        · subst he; rw [up1_s, up1_s]
        · rw [up1_n he, up1_n he]; exact hg k (by omega)
      have fin : WinOk (rWord T n 59 (a2, 0, B1)) (cEnd T n (-1, 0, a2), i + 1, up1 g i V) Bs := by
        refine ⟨Sy_end (Or.inl ⟨rfl, rfl⟩), gb, fun _ => ⟨?_, ?_, gk, bb, bj, b6⟩⟩
        · show i + 1 = B1 6 0
          rw [b60]
        · show 1 ≤ i + 1 ∧ i + 1 ≤ 20
          omega
      by_cases h44 : pLook T n a2 = 44
      · have e1 : rCom T n (F' + 1) (a2, 0, B1) = if B1 6 0 = 20 then rCom T n F' (rSk T n (a2, 1, B1)) else rCom T n F' (rSk T n (rInc 0 (rNum T n 0 40 7 (B1 6 0) (a2 + 1, 0, B1)))) := if_pos ⟨rfl, h44⟩
        rw [e1, b60]
        by_cases h19 : i = 19
        · rw [if_pos (by omega), if_neg (fun q => q.2 h19), rSk_w (by decide), rCom_w F' (by show (1 : Int) ≠ 0; decide), rWord_w (by decide)]
          have ew : pWordW T n 59 a2 0 = 1 := by
            unfold pWordW
            rw [if_pos rfl, ea2, h44, if_neg (by decide)]
          have eaa : pWordA T n 59 a2 0 = a2 := by
            unfold pWordA
            rw [if_pos rfl, ea2, h44, if_neg (by decide)]
          obtain ⟨f1, f2, -⟩ := fin
          have f1 : Sy (pWordA T n 59 a2 0) (pWordW T n 59 a2 0) (cEnd T n (-1, 0, a2)) := f1
          rw [ew, eaa] at f1
          exact ⟨f1, f2, fun q => absurd (show (1 : Int) = 0 from q) (by decide)⟩
        · rw [if_neg (by omega), if_pos ⟨h44, h19⟩]
          exact WinOk_c bj b6 (ih (i + 1) F' (a2 + 1) (i + 1) (up1 g i V) B1 (by omega) (by omega) (by omega) (by omega) b60 gk gb bb)
      · rw [if_neg (fun q => h44 q.1), rCom_n _ (show pLook T n (a2, 0, B1).1 ≠ 44 from h44)]
        exact fin
    · rw [if_neg hz, rSk_w hz, rCom_w _ hz, rWord_w hz]
      exact ⟨hS, hgb, fun q => absurd q hz⟩
