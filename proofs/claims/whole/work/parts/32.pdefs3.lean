theorem z03 : (0 : Int) ≤ 0 ∧ (0 : Int) ≤ 3 := by decide
theorem z13 : (0 : Int) ≤ 1 ∧ (1 : Int) ≤ 3 := by decide
theorem fld_1 {σ : Type} {g : σ → Int → σ} {z : σ} {k : Int} (h : 1 ≤ k) : fld g z (k + 1 - 1).toNat = g (fld g z (k - 1).toNat) (k - 1) := by
  have h1 := fld_s (g := g) (z := z) (k := k - 1) (by omega)
  rw [show k + 1 - 1 = k - 1 + 1 by omega]
  exact h1
/-- what reading on does not spoil -/
def rGd (s t : PS) : Prop := (0 ≤ t.1 ∧ t.1 ≤ 240) ∧ (0 ≤ t.2.1 ∧ t.2.1 ≤ 3) ∧ s.1 ≤ t.1 ∧ cOk t.2.2 ∧ ∀ j : Nat, j < 6 ∨ 10 < j → t.2.2 j = s.2.2 j
theorem rGd_rf {s : PS} (h1 : 0 ≤ s.1 ∧ s.1 ≤ 240) (h2 : 0 ≤ s.2.1 ∧ s.2.1 ≤ 3) (h3 : cOk s.2.2) : rGd s s := ⟨h1, h2, Int.le_refl _, h3, fun _ _ => rfl⟩
theorem rGd_tr {s t u : PS} (h1 : rGd s t) (h2 : rGd t u) : rGd s u := ⟨h2.1, h2.2.1, Int.le_trans h1.2.2.1 h2.2.2.1, h2.2.2.2.1, fun j hj => (h2.2.2.2.2 j hj).trans (h1.2.2.2.2 j hj)⟩
theorem cOk_st {A : Nat → Int → Int} {j : Nat} {k v : Int} (hj : j ≠ 6) (h : cOk A) : cOk (st2 A j k v) := by
  unfold cOk
  rw [st2_n (fun h => hj h.symm)]
  exact h
theorem rGd_num {T : Int → Int} {n lo hi k : Int} {j : Nat} {s t : PS} (hn : n ≤ 240) (hj : 6 < j ∧ j ≤ 10) (h : rGd s t) : rGd s (rNum T n lo hi j k t) := by
  obtain ⟨h1, h2, h3, h4, h5⟩ := h
  have h6 := pNumA_r (T := T) (n := n) (lo := lo) (hi := hi) (w := t.2.1) h1 hn
  exact ⟨h6.1, pNumW_r h2, Int.le_trans h3 h6.2, cOk_st (by omega) h4, fun i hi => (show st2 t.2.2 j k _ i = _ by rw [st2_n (by omega)]).trans (h5 i hi)⟩
theorem rGd_told {T : Int → Int} {n k : Int} {j : Nat} {s t : PS} (hn : n ≤ 240) (hj : 6 < j ∧ j ≤ 10) (h : rGd s t) : rGd s (rTold T n j k t) := by
  obtain ⟨h1, h2, h3, h4, h5⟩ := h
  have h6 := tlA_r (T := T) (n := n) (nv := t.2.2 6 1) (w := t.2.1) h1 hn
  exact ⟨h6.1, tlW_r h2, Int.le_trans h3 h6.2, cOk_st (by omega) h4, fun i hi => (show st2 t.2.2 j k _ i = _ by rw [st2_n (by omega)]).trans (h5 i hi)⟩
theorem rGd_word {T : Int → Int} {n c : Int} {s t : PS} (hn : n ≤ 240) (hc : 0 ≤ c) (h : rGd s t) : rGd s (rWord T n c t) := by
  obtain ⟨h1, h2, h3, h4, h5⟩ := h
  have h6 := pWordA_r (T := T) (n := n) (c := c) (w := t.2.1) h1 hn hc
  exact ⟨h6.1, pWordW_r h2, Int.le_trans h3 h6.2, h4, h5⟩
theorem rGd_sk {T : Int → Int} {n : Int} {s t : PS} (hn : n ≤ 240) (h : rGd s t) : rGd s (rSk T n t) := by
  obtain ⟨h1, h2, h3, h4, h5⟩ := h
  have h6 := pSkW_r (T := T) (n := n) (w := t.2.1) h1 hn
  exact ⟨h6.1, h2, Int.le_trans h3 h6.2, h4, h5⟩
theorem rGd_inc {j : Int} {s t : PS} (h : rGd s t) (hc : cOk (st2 t.2.2 6 j (t.2.2 6 j + 1))) : rGd s (rInc j t) := by
  obtain ⟨h1, h2, h3, h4, h5⟩ := h
  exact ⟨h1, h2, h3, hc, fun i hi => (show st2 t.2.2 6 j _ i = _ by rw [st2_n (by omega)]).trans (h5 i hi)⟩
theorem six_num {T : Int → Int} {n lo hi k : Int} {j : Nat} {s : PS} (hj : j ≠ 6) : (rNum T n lo hi j k s).2.2 6 = s.2.2 6 := st2_n (fun h => hj h.symm)
theorem six_told {T : Int → Int} {n k : Int} {j : Nat} {s : PS} (hj : j ≠ 6) : (rTold T n j k s).2.2 6 = s.2.2 6 := st2_n (fun h => hj h.symm)
theorem cOk_i0 {A : Nat → Int → Int} (h : cOk A) (h1 : A 6 0 < 20) : cOk (st2 A 6 0 (A 6 0 + 1)) := by
  obtain ⟨h2, h3, h4, h5⟩ := h
  unfold cOk
  rw [st2_s, st2_k (show (1 : Int) ≠ 0 by decide), st2_k (show (2 : Int) ≠ 0 by decide), st2_k (show (3 : Int) ≠ 0 by decide)]
  omega
theorem cOk_i1 {A : Nat → Int → Int} (h : cOk A) (h1 : A 6 1 < 4) : cOk (st2 A 6 1 (A 6 1 + 1)) := by
  obtain ⟨h2, h3, h4, h5⟩ := h
  unfold cOk
  rw [st2_s, st2_k (show (0 : Int) ≠ 1 by decide), st2_k (show (2 : Int) ≠ 1 by decide), st2_k (show (3 : Int) ≠ 1 by decide)]
  omega
theorem cOk_i2 {A : Nat → Int → Int} (h : cOk A) (h1 : A 6 2 < 6) : cOk (st2 A 6 2 (A 6 2 + 1)) := by
  obtain ⟨h2, h3, h4, h5⟩ := h
  unfold cOk
  rw [st2_s, st2_k (show (0 : Int) ≠ 2 by decide), st2_k (show (1 : Int) ≠ 2 by decide), st2_k (show (3 : Int) ≠ 2 by decide)]
  omega
theorem cOk_i3 {A : Nat → Int → Int} (h : cOk A) (h1 : A 6 3 < 5) : cOk (st2 A 6 3 (A 6 3 + 1)) := by
  obtain ⟨h2, h3, h4, h5⟩ := h
  unfold cOk
  rw [st2_s, st2_k (show (0 : Int) ≠ 3 by decide), st2_k (show (1 : Int) ≠ 3 by decide), st2_k (show (2 : Int) ≠ 3 by decide)]
  omega
theorem cOk_1 {A : Nat → Int → Int} (h : cOk A) : cOk (st2 A 6 0 1) := by
  obtain ⟨h2, h3, h4, h5⟩ := h
  unfold cOk
  rw [st2_s, st2_k (show (1 : Int) ≠ 0 by decide), st2_k (show (2 : Int) ≠ 0 by decide), st2_k (show (3 : Int) ≠ 0 by decide)]
  omega
/-- one clause: what stays, and that it goes on -/
def rGo (s t : PS) : Prop := rGd s t ∧ (t.2.1 = 0 → s.1 < t.1)
theorem rGo_of {s t u : PS} (h : rGd u t) (hu : s.1 < u.1) (hs : u.2.2 = s.2.2) : rGo s t := ⟨⟨h.1, h.2.1, by have := h.2.2.1; omega, h.2.2.2.1, fun j hj => (h.2.2.2.2 j hj).trans (by rw [hs])⟩, fun _ => by have := h.2.2.1; omega⟩
theorem rGo_f {a k : Int} {A : Nat → Int → Int} (ha : 0 ≤ a ∧ a ≤ 240) (hk : 1 ≤ k ∧ k ≤ 3) (hc : cOk A) {w : Int} : rGo (a, w, A) (a, k, A) := ⟨⟨ha, ⟨by show (0 : Int) ≤ k; omega, hk.2⟩, Int.le_refl _, hc, fun _ _ => rfl⟩, fun h => absurd h (by show ¬ k = 0; omega)⟩
theorem rVil_go {T : Int → Int} {n a w : Int} {A : Nat → Int → Int} (hn : n ≤ 240) (ha : 0 ≤ a ∧ a < n) (hc : cOk A) : rGo (a, w, A) (rVil T n (a, w, A)) := by
  unfold rVil
  split
  · exact rGo_f (by omega) (by omega) hc
  · have h0 : rGd (a + 1, 0, A) (a + 1, 0, A) := rGd_rf ⟨by show 0 ≤ a + 1; omega, by show a + 1 ≤ 240; omega⟩ z03 hc
    have h1 := rGd_num (T := T) (lo := 0) (hi := 40) (k := 5 * A 6 1) (j := 8) hn (by decide) h0
    have h2 := rGd_num (T := T) (lo := 0) (hi := 40) (k := 5 * A 6 1 + (((0 : Nat) : Int) + 1)) (j := 8) hn (by decide) h1
    have h3 := rGd_num (T := T) (lo := 0) (hi := 40) (k := 5 * A 6 1 + (((1 : Nat) : Int) + 1)) (j := 8) hn (by decide) h2
    have h4 := rGd_num (T := T) (lo := 0) (hi := 40) (k := 5 * A 6 1 + (((2 : Nat) : Int) + 1)) (j := 8) hn (by decide) h3
    have h5 := rGd_num (T := T) (lo := 1) (hi := 40) (k := 5 * A 6 1 + 4) (j := 8) hn (by decide) h4
    have h6 := rGd_word (T := T) (c := 59) hn (by decide) h5
    have h7 := ‹¬ A 6 1 = 4›
    refine rGo_of (rGd_inc h6 (cOk_i1 h6.2.2.2.1 ?_)) (by show a < a + 1; omega) rfl
    show A 6 1 < 4
    have := hc.2.1
    omega
theorem rPer_go {T : Int → Int} {n a w : Int} {A : Nat → Int → Int} (hn : n ≤ 240) (ha : 0 ≤ a ∧ a < n) (hc : cOk A) : rGo (a, w, A) (rPer T n (a, w, A)) := by
  unfold rPer
  split
  · exact rGo_f (by omega) (by omega) hc
  · have h0 : rGd (a + 1, 0, A) (a + 1, 0, A) := rGd_rf ⟨by show 0 ≤ a + 1; omega, by show a + 1 ≤ 240; omega⟩ z03 hc
    have h1 := rGd_told (T := T) (k := 2 * A 6 2) (j := 9) hn (by decide) h0
    have h5 := rGd_num (T := T) (lo := 0) (hi := 999) (k := 2 * A 6 2 + 1) (j := 9) hn (by decide) h1
    have h6 := rGd_word (T := T) (c := 59) hn (by decide) h5
    have h7 := ‹¬ A 6 2 = 6›
    refine rGo_of (rGd_inc h6 (cOk_i2 h6.2.2.2.1 ?_)) (by show a < a + 1; omega) rfl
    show A 6 2 < 6
    have := hc.2.2.1
    omega
theorem rDeb_go {T : Int → Int} {n a w : Int} {A : Nat → Int → Int} (hn : n ≤ 240) (ha : 0 ≤ a ∧ a < n) (hc : cOk A) : rGo (a, w, A) (rDeb T n (a, w, A)) := by
  unfold rDeb
  split
  · exact rGo_f (by omega) (by omega) hc
  · have h0 : rGd (a + 1, 0, A) (a + 1, 0, A) := rGd_rf ⟨by show 0 ≤ a + 1; omega, by show a + 1 ≤ 240; omega⟩ z03 hc
    have h1 := rGd_told (T := T) (k := 2 * A 6 3) (j := 10) hn (by decide) h0
    have h5 := rGd_num (T := T) (lo := 1) (hi := 999) (k := 2 * A 6 3 + 1) (j := 10) hn (by decide) h1
    have h6 := rGd_word (T := T) (c := 59) hn (by decide) h5
    have h7 := ‹¬ A 6 3 = 5›
    refine rGo_of (rGd_inc h6 (cOk_i3 h6.2.2.2.1 ?_)) (by show a < a + 1; omega) rfl
    show A 6 3 < 5
    have := hc.2.2.2
    omega
theorem rCom_go {T : Int → Int} {n : Int} (hn : n ≤ 240) (m : Nat) : ∀ s t : PS, rGd s t → rGd s (rCom T n m t) := by
  induction m with
  | zero => intro s t h; exact h
  | succ m ih =>
    intro s t h
    show rGd s (if t.2.1 = 0 ∧ pLook T n t.1 = 44 then (if t.2.2 6 0 = 20 then rCom T n m (rSk T n (t.1, 1, t.2.2)) else rCom T n m (rSk T n (rInc 0 (rNum T n 0 40 7 (t.2.2 6 0) (t.1 + 1, t.2.1, t.2.2))))) else t)
    split
    · have hl := ‹t.2.1 = 0 ∧ pLook T n t.1 = 44›
      have hlt := pLook_c hl.2 (by decide)
      obtain ⟨h1, h2, h3, h4, h5⟩ := h
      split
      · exact ih s _ (rGd_sk hn ⟨h1, z13, h3, h4, h5⟩)
      · have h6 : rGd s (t.1 + 1, t.2.1, t.2.2) := ⟨⟨by show 0 ≤ t.1 + 1; omega, by show t.1 + 1 ≤ 240; omega⟩, h2, by show s.1 ≤ t.1 + 1; omega, h4, h5⟩
        have h7 := rGd_num (T := T) (lo := 0) (hi := 40) (k := t.2.2 6 0) (j := 7) hn (by decide) h6
        refine ih s _ (rGd_sk hn (rGd_inc h7 (cOk_i0 h7.2.2.2.1 ?_)))
        show t.2.2 6 0 < 20
        have := h4.1
        omega
    · exact h
theorem rWin_go {T : Int → Int} {n a w : Int} {A : Nat → Int → Int} (hn : n ≤ 240) (ha : 0 ≤ a ∧ a < n) (hc : cOk A) : rGo (a, w, A) (rWin T n (a, w, A)) := by
  unfold rWin
  split
  · exact rGo_f (by omega) (by omega) hc
  · have h0 : rGd (a + 1, 0, A) (a + 1, 0, A) := rGd_rf ⟨by show 0 ≤ a + 1; omega, by show a + 1 ≤ 240; omega⟩ z03 hc
    have h1 := rGd_num (T := T) (lo := 0) (hi := 40) (k := 0) (j := 7) hn (by decide) h0
    have h2 : rGd (a + 1, 0, A) (rSet1 (rNum T n 0 40 7 0 (a + 1, 0, A))) := by
      obtain ⟨g1, g2, g3, g4, g5⟩ := h1
      exact ⟨g1, g2, g3, cOk_1 g4, fun i hi => (show st2 _ 6 0 1 i = _ by rw [st2_n (by omega)]).trans (g5 i hi)⟩
    exact rGo_of (rGd_word hn (by decide) (rCom_go hn 22 _ _ (rGd_sk hn h2))) (by show a < a + 1; omega) rfl
theorem rCl_go {T : Int → Int} {n a w : Int} {A : Nat → Int → Int} (hn : n ≤ 240) (ha : 0 ≤ a ∧ a < n) (hc : cOk A) : rGo (a, w, A) (rCl T n (a, w, A)) := by
  unfold rCl
  split
  · exact rWin_go hn ha hc
  · split
    · exact rGo_f (by omega) (by omega) hc
    · split
      · exact rVil_go hn ha hc
      · split
        · exact rPer_go hn ha hc
        · split
          · exact rDeb_go hn ha hc
          · exact rGo_f (by omega) (by omega) hc
