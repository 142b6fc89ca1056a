theorem cClU_5 {T : Int → Int} {n x : Int} {u : CS} : (cClU T n x u).2.1 = u.2.1 := by
  unfold cClU
  repeat' split
  all_goals rfl
theorem cl_eq {T : Int → Int} {n a c5 c6 c7 c8 : Int} {A Bs : Nat → Int → Int} (h5 : 0 < c5) (hB : XB A) (H : RdT c5 c6 c7 c8 A Bs) : Rd (rCl T n (a, 0, Bs)) (cClU T n (pLook T n a) ((-1, 0, a), c5, c6, c7, c8, A)) := by
  have e0 := H.1.1
  have z0 : ¬ Bs 6 0 = 0 := by omega
  by_cases h1 : pLook T n a = 110
  · have em : rCl T n (a, 0, Bs) = (a, 3, Bs) := by
      unfold rCl
      dsimp only
      rw [if_pos h1]
      exact if_pos (show 0 < Bs 6 0 by omega)
    have ex : cClU T n (pLook T n a) ((-1, 0, a), c5, c6, c7, c8, A) = ((a, 3, a), c5, c6, c7, c8, A) := if_pos h1
    rw [em, ex]
    exact Rd_f (by decide) hB
  by_cases h2 : pLook T n a = 118
  · have em : rCl T n (a, 0, Bs) = rVil T n (a, 0, Bs) := by
      unfold rCl
      dsimp only
      rw [if_neg h1, if_neg z0, if_pos h2]
    have ex : cClU T n (pLook T n a) ((-1, 0, a), c5, c6, c7, c8, A) = cVilU T n ((-1, 0, a), c5, c6, c7, c8, A) := by
      unfold cClU
      rw [if_neg h1, if_pos h2]
    rw [em, ex]
    exact vil_eq h5 hB H
  by_cases h3 : pLook T n a = 112
  · have em : rCl T n (a, 0, Bs) = rPer T n (a, 0, Bs) := by
      unfold rCl
      dsimp only
      rw [if_neg h1, if_neg z0, if_neg h2, if_pos h3]
    have ex : cClU T n (pLook T n a) ((-1, 0, a), c5, c6, c7, c8, A) = cPerU T n ((-1, 0, a), c5, c6, c7, c8, A) := by
      unfold cClU
      rw [if_neg h1, if_neg h2, if_pos h3]
    rw [em, ex]
    exact per_eq h5 hB H
  by_cases h4 : pLook T n a = 100
  · have em : rCl T n (a, 0, Bs) = rDeb T n (a, 0, Bs) := by
      unfold rCl
      dsimp only
      rw [if_neg h1, if_neg z0, if_neg h2, if_neg h3, if_pos h4]
    have ex : cClU T n (pLook T n a) ((-1, 0, a), c5, c6, c7, c8, A) = cDebU T n ((-1, 0, a), c5, c6, c7, c8, A) := by
      unfold cClU
      rw [if_neg h1, if_neg h2, if_neg h3, if_pos h4]
    rw [em, ex]
    exact deb_eq h5 hB H
  · have em : rCl T n (a, 0, Bs) = (a, 1, Bs) := by
      unfold rCl
      dsimp only
      rw [if_neg h1, if_neg z0, if_neg h2, if_neg h3, if_neg h4]
    have ex : cClU T n (pLook T n a) ((-1, 0, a), c5, c6, c7, c8, A) = ((a, 1, a), c5, c6, c7, c8, A) := by
      unfold cClU
      rw [if_neg h1, if_neg h2, if_neg h3, if_neg h4]
      rfl
    rw [em, ex]
    exact Rd_f (by decide) hB
theorem rLoop_w {T : Int → Int} {n a w : Int} {A : Nat → Int → Int} (F : Nat) (h : w ≠ 0) : rLoop T n F (a, w, A) = (a, w, A) := by
  cases F with
  | zero => rfl
  | succ F => exact if_neg (fun q => h q.1)
theorem cLoop_w {T : Int → Int} {n : Int} {u : CS} (m : Nat) (h : u.1.2.1 ≠ 0) : cLoop T n m u = u := by
  cases m with
  | zero => rfl
  | succ m => exact if_neg h
theorem Rd_w {a w : Int} {Bs : Nat → Int → Int} {u : CS} (hw : w ≠ 0) (R : Rd (a, w, Bs) u) : u.1.2.1 ≠ 0 := by
  rcases R.2 with ⟨h, _⟩ | ⟨_, h, _⟩
  · exact absurd h hw
  · rw [h]; exact hw
theorem loop_eq {T : Int → Int} {n : Int} (hn : n ≤ 240) (m : Nat) : ∀ (F : Nat) (s : PS) (u : CS), Rd s u → (s.2.1 = 0 → 0 < u.2.1 ∧ (0 ≤ s.1 ∧ s.1 ≤ 240) ∧ 240 - s.1 < (m : Int) ∧ 240 - s.1 < (F : Int)) → Rd (rLoop T n F (rSk T n s)) (cLoop T n m u) := by
  induction m with
  | zero =>
    intro F s u R hs
    obtain ⟨a, w, Bs⟩ := s
    by_cases hw : w = 0
    · obtain ⟨_, h1, h2, _⟩ := hs hw
      have h1 : 0 ≤ a ∧ a ≤ 240 := h1
      have h2 : 240 - a < ((0 : Nat) : Int) := h2
      omega
    · rw [rSk_w hw, rLoop_w F hw]; exact R
  | succ m ih =>
    intro F s u R hs
    obtain ⟨a, w, Bs⟩ := s
    by_cases hw : w = 0
    · subst hw
      obtain ⟨t, c5, c6, c7, c8, A⟩ := u
      obtain ⟨h5, ha, h2, h3⟩ := hs rfl
      have h5 : 0 < c5 := h5
      have ha : 0 ≤ a ∧ a ≤ 240 := ha
      have h2 : 240 - a < ((m + 1 : Nat) : Int) := h2
      have h3 : 240 - a < (F : Int) := h3
      obtain ⟨hX, hR⟩ := R
      have hX : XB A := hX
      rcases hR with ⟨_, hu, hT⟩ | ⟨hc, _⟩
      · have hu : t = (-1, 0, a) := hu
        subst hu
        have hT : RdT c5 c6 c7 c8 A Bs := hT
        rw [rSk_0]
        have har := pSk_240 (T := T) (n := n) ha hn
        have hle := (pSk_r (T := T) (n := n) (a := a)).1
        have ec : cLoop T n (m + 1) ((-1, 0, a), c5, c6, c7, c8, A) = if pLook T n (pSk T n a) = -1 then ((-1, 0, pSk T n a), c5, c6, c7, c8, A) else cLoop T n m (cClU T n (pLook T n (pSk T n a)) ((-1, 0, pSk T n a), c5, c6, c7, c8, A)) := if_pos rfl
        rw [ec]
        obtain ⟨a', ea⟩ : ∃ z, z = pSk T n a := ⟨_, rfl⟩
        rw [← ea] at har hle ⊢
        obtain ⟨F', rfl⟩ : ∃ F', F = F' + 1 := ⟨F - 1, by omega⟩
        by_cases hl : pLook T n a' = -1
        · rw [if_pos hl]
          have er : rLoop T n (F' + 1) (a', 0, Bs) = (a', 0, Bs) := if_neg (fun q => q.2 hl)
          rw [er]
          exact ⟨hX, Or.inl ⟨rfl, rfl, hT⟩⟩
        · rw [if_neg hl]
          have er : rLoop T n (F' + 1) (a', 0, Bs) = rLoop T n F' (rSk T n (rCl T n (a', 0, Bs))) := if_pos ⟨rfl, hl⟩
          rw [er]
          have hlt := pLook_ne hl
          have hco : cOk Bs := by
            obtain ⟨⟨e0, e1, e2, e3⟩, ⟨n5, n6, n7, n8⟩, _⟩ := hT
            unfold cOk
            omega
          have hg := rCl_go (T := T) (n := n) (a := a') (w := 0) (A := Bs) hn ⟨by omega, hlt⟩ hco
          refine ih F' _ _ (cl_eq h5 hX hT) (fun hz => ?_)
          have hgo : a' < (rCl T n (a', 0, Bs)).1 := hg.2 hz
          refine ⟨?_, hg.1.1, ?_, ?_⟩
          · rw [cClU_5]; exact h5
          · omega
          · omega
      · exact absurd rfl hc
    · rw [rSk_w hw, rLoop_w F hw, cLoop_w _ (Rd_w hw R)]
      exact R
theorem winU_eq {T : Int → Int} {n a : Int} {A B : Nat → Int → Int} (hB : XB A) : Rd (rWin T n (a, 0, zD B)) (cWinU T n ((-1, 0, a), 0, 0, 0, 0, A)) ∧ ((rWin T n (a, 0, zD B)).2.1 = 0 → 0 < (cWinU T n ((-1, 0, a), 0, 0, 0, 0, A)).2.1) := by
  obtain ⟨x1, x2, x3, x4, x6⟩ := hB
  have em : rWin T n (a, 0, zD B) = rWord T n 59 (rCom T n 22 (rSk T n (rInc 0 (rNum T n 0 40 7 0 (a + 1, 0, zD B))))) := by
    have e : rWin T n (a, 0, zD B) = rWord T n 59 (rCom T n 22 (rSk T n (rSet1 (rNum T n 0 40 7 0 (a + 1, 0, zD B))))) := if_neg (show ¬ (0 : Int) < 0 by decide)
    have e2 : rInc 0 (rNum T n 0 40 7 0 (a + 1, 0, zD B)) = rSet1 (rNum T n 0 40 7 0 (a + 1, 0, zD B)) := by
      unfold rInc rSet1
      have e3 : (rNum T n 0 40 7 0 (a + 1, 0, zD B)).2.2 6 0 = 0 := rfl
      rw [e3]
      rfl
    rw [e, e2]
  have ex : cWinU T n ((-1, 0, a), 0, 0, 0, 0, A) = ((cWin T n 20 0 (-1, 0, a + 1) 0 (A 1)).1, (cWin T n 20 0 (-1, 0, a + 1) 0 (A 1)).2.1, 0, 0, 0, stA A 1 (cWin T n 20 0 (-1, 0, a + 1) 0 (A 1)).2.2) := rfl
  have hw := win_eq (T := T) (n := n) 20 0 22 (a + 1) 0 (A 1) (zD B) (by decide) (by decide) (by decide) (by decide) rfl (fun k hk => by omega) x1 (fun k => by show (0 : Int) ≤ 0 ∧ (0 : Int) ≤ 40; decide)
  rw [← em] at hw
  rw [ex]
  obtain ⟨r, er⟩ : ∃ z, z = rWin T n (a, 0, zD B) := ⟨_, rfl⟩
  obtain ⟨y, ey⟩ : ∃ z, z = cWin T n 20 0 (-1, 0, a + 1) 0 (A 1) := ⟨_, rfl⟩
  rw [← er, ← ey] at hw
  rw [← er, ← ey]
  obtain ⟨q1, q2, q3⟩ := hw
  have hX : XB (stA A 1 y.2.2) := ⟨q2, x2, x3, x4, x6⟩
  refine ⟨⟨hX, ?_⟩, fun hz => ?_⟩
  · rcases q1 with ⟨h1, h2⟩ | ⟨h1, h2, h3⟩
    · refine Or.inl ⟨h1, h2, ?_⟩
      obtain ⟨g1, g2, g3, g4, g5, g6⟩ := q3 h1
      show RdT y.2.1 0 0 0 (stA A 1 y.2.2) r.2.2
      have k8 : r.2.2 8 = zZ := g5 8 (by decide) (by decide)
      have k9 : r.2.2 9 = zZ := g5 9 (by decide) (by decide)
      have k61 : r.2.2 6 1 = 0 := g6 1 (by decide)
      have k62 : r.2.2 6 2 = 0 := g6 2 (by decide)
      have k63 : r.2.2 6 3 = 0 := g6 3 (by decide)
      unfold RdT
      rw [k8, k9, k61, k62, k63]
      refine ⟨⟨g1, rfl, rfl, rfl⟩, ⟨by omega, by omega, by omega, by omega⟩, fun _ => by omega, g3, fun v hv => by omega, fun q hq => by omega, fun d hd => by omega, fun k => ?_, g4, fun k => ?_, fun k _ => rfl⟩
      · show (0 : Int) ≤ 0 ∧ (0 : Int) ≤ 40; decide
      · show (0 : Int) ≤ 0 ∧ (0 : Int) ≤ 999; decide
    · exact Or.inr ⟨h1, h2, h3⟩
  · have g := (q3 hz).2.1
    show 0 < y.2.1
    omega
theorem read_eq {T : Int → Int} {n : Int} {A B : Nat → Int → Int} (hn : n ≤ 240) (hB : XB A) : Rd (rLoop T n 241 (rSk T n (0, 0, zD B))) (cRead T n A) := by
  rw [rSk_0]
  have har := pSk_240 (T := T) (n := n) (a := 0) (by decide) hn
  have e2 : pSk T n (pSk T n 0) = pSk T n 0 := pSk_2
  unfold cRead
  obtain ⟨a, ea⟩ : ∃ z, z = pSk T n 0 := ⟨_, rfl⟩
  rw [← ea] at har e2 ⊢
  by_cases hl : pLook T n a = -1
  · have er : rLoop T n 241 (a, 0, zD B) = (a, 0, zD B) := if_neg (fun q => q.2 hl)
    rw [er, if_pos hl]
    refine ⟨hB, Or.inl ⟨rfl, rfl, ?_⟩⟩
    show RdT 0 0 0 0 A (zD B)
    refine ⟨⟨rfl, rfl, rfl, rfl⟩, ⟨by decide, by decide, by decide, by decide⟩, fun h => by omega, fun k hk => by omega, fun v hv => by omega, fun q hq => by omega, fun d hd => by omega, fun k => ?_, fun k => ?_, fun k => ?_, fun k _ => rfl⟩
    · show (0 : Int) ≤ 0 ∧ (0 : Int) ≤ 40; decide
    · show (0 : Int) ≤ 0 ∧ (0 : Int) ≤ 40; decide
    · show (0 : Int) ≤ 0 ∧ (0 : Int) ≤ 999; decide
  · have er : rLoop T n 241 (a, 0, zD B) = rLoop T n 240 (rSk T n (rCl T n (a, 0, zD B))) := if_pos ⟨rfl, hl⟩
    rw [er, if_neg hl]
    unfold cAll cSkU
    dsimp only
    rw [e2]
    have hlt := pLook_ne hl
    by_cases h1 : pLook T n a = 110
    · have em : rCl T n (a, 0, zD B) = rWin T n (a, 0, zD B) := if_pos h1
      have hg := rWin_go (T := T) (n := n) (a := a) (w := 0) (A := zD B) hn ⟨har.1, hlt⟩ cOk_z
      obtain ⟨hR, h5⟩ := winU_eq (T := T) (n := n) (a := a) (A := A) (B := B) hB
      rw [em, if_pos h1]
      refine loop_eq hn 240 240 _ _ hR (fun hz => ?_)
      have hgo : a < (rWin T n (a, 0, zD B)).1 := hg.2 hz
      exact ⟨h5 hz, hg.1.1, by omega, by omega⟩
    · have em : rCl T n (a, 0, zD B) = (a, 1, zD B) := by
        unfold rCl
        dsimp only
        rw [if_neg h1]
        exact if_pos rfl
      rw [em, if_neg h1, rSk_w (by decide), rLoop_w _ (by decide)]
      exact Rd_f (by decide) hB
/-- what stands when a valley begins, place by place -/
theorem nowF_at {P D : Int → Int} (n : Nat) (k : Int) : nowF P D n k = if 25 ≤ k ∧ k < 25 + 2 * (n : Int) ∧ k % 2 = 1 then D (k - 24) else if 13 ≤ k ∧ k < 25 then P (k - 13) else 0 := by
  induction n with
  | zero =>
    rw [if_neg (by omega)]
    show (if 13 ≤ k ∧ k < 13 + 12 then P (0 + (k - 13)) else 0) = _
    by_cases h : 13 ≤ k ∧ k < 25
    · rw [if_pos (by omega), if_pos h, show 0 + (k - 13) = k - 13 by omega]
    · rw [if_neg (by omega), if_neg h]
  | succ n ih =>
    show up1 (nowF P D n) (25 + 2 * (n : Int)) (D (2 * (n : Int) + 1)) k = _
    by_cases h : k = 25 + 2 * (n : Int)
    · subst h
      rw [up1_s, if_pos (by omega), show 25 + 2 * (n : Int) - 24 = 2 * (n : Int) + 1 by omega]
    · rw [up1_n h, ih]
      by_cases h2 : 25 ≤ k ∧ k < 25 + 2 * (n : Int) ∧ k % 2 = 1
      · rw [if_pos h2, if_pos (by omega)]
      · rw [if_neg h2, if_neg (show ¬ (25 ≤ k ∧ k < 25 + 2 * ((n + 1 : Nat) : Int) ∧ k % 2 = 1) by omega)]
theorem xBp_at {H B : Int → Int} (n : Nat) (hn : n ≤ 6) (k : Int) : fld (fun g q => up1 (up1 g (13 + q) (H q)) (19 + q) (B q)) zZ n k = if 13 ≤ k ∧ k < 13 + (n : Int) then H (k - 13) else if 19 ≤ k ∧ k < 19 + (n : Int) then B (k - 19) else 0 := by
  induction n with
  | zero =>
    rw [if_neg (by omega), if_neg (by omega)]
    rfl
  | succ n ih =>
    have ih := ih (by omega)
    show up1 (up1 (fld (fun g q => up1 (up1 g (13 + q) (H q)) (19 + q) (B q)) zZ n) (13 + (n : Int)) (H n)) (19 + (n : Int)) (B n) k = _
    by_cases h : k = 19 + (n : Int)
    · subst h
      rw [up1_s, if_neg (by omega), if_pos (by omega), show 19 + (n : Int) - 19 = n by omega]
    · rw [up1_n h]
      by_cases h2 : k = 13 + (n : Int)
      · subst h2
        rw [up1_s, if_pos (by omega), show 13 + (n : Int) - 13 = n by omega]
      · rw [up1_n h2, ih]
        by_cases h3 : 13 ≤ k ∧ k < 13 + (n : Int)
        · rw [if_pos h3, if_pos (by omega)]
        · rw [if_neg h3, if_neg (show ¬ (13 ≤ k ∧ k < 13 + ((n + 1 : Nat) : Int)) by omega)]
          by_cases h4 : 19 ≤ k ∧ k < 19 + (n : Int)
          · rw [if_pos h4, if_pos (by omega)]
          · rw [if_neg h4, if_neg (by omega)]
theorem xBeg_at {H B S : Int → Int} (np n : Nat) (hp : np ≤ 6) (k : Int) : xBeg H B S np n k = if 25 ≤ k ∧ k < 25 + (n : Int) then S (k - 25) else if 13 ≤ k ∧ k < 13 + (np : Int) then H (k - 13) else if 19 ≤ k ∧ k < 19 + (np : Int) then B (k - 19) else 0 := by
  induction n with
  | zero =>
    rw [if_neg (by omega)]
    exact xBp_at np hp k
  | succ n ih =>
    show up1 (xBeg H B S np n) (25 + (n : Int)) (S n) k = _
    by_cases h : k = 25 + (n : Int)
    · subst h
      rw [up1_s, if_pos (by omega), show 25 + (n : Int) - 25 = n by omega]
    · rw [up1_n h, ih]
      by_cases h2 : 25 ≤ k ∧ k < 25 + (n : Int)
      · rw [if_pos h2, if_pos (by omega)]
      · rw [if_neg h2, if_neg (show ¬ (25 ≤ k ∧ k < 25 + ((n + 1 : Nat) : Int)) by omega)]
theorem Row_new {nv np nd b : Int} {Pl P D H B S : Int → Int} (hb : 0 ≤ b) (hnv : 0 ≤ nv ∧ nv ≤ 4) (hnp : 0 ≤ np ∧ np ≤ 6) (hnd : 0 ≤ nd ∧ nd ≤ 5) (hP : ∀ k, 0 ≤ P k ∧ P k ≤ 999) (hz : ∀ k, ¬ (0 ≤ k ∧ k < 2 * np) → P k = 0)
    (h3 : ∀ q, 0 ≤ q ∧ q < np → H q = P (2 * q) ∧ B q = P (2 * q + 1) ∧ 0 ≤ P (2 * q) ∧ P (2 * q) < nv) (h4 : ∀ d, 0 ≤ d ∧ d < nd → S d = D (2 * d + 1) ∧ 1 ≤ D (2 * d + 1) ∧ D (2 * d + 1) ≤ 999) (hPl : ∀ d, 0 ≤ d ∧ d < nd → 0 ≤ Pl (2 * d) ∧ Pl (2 * d) < nv) :
    Row nv np nd Pl b (nowF P D nd.toNat) (xBeg H B S np.toNat nd.toNat) := by
  have cn : (nd.toNat : Int) = nd := Int.toNat_of_nonneg hnd.1
  have cp : (np.toNat : Int) = np := Int.toNat_of_nonneg hnp.1
  have fA : ∀ k, nowF P D nd.toNat k = if 25 ≤ k ∧ k < 25 + 2 * nd ∧ k % 2 = 1 then D (k - 24) else if 13 ≤ k ∧ k < 25 then P (k - 13) else 0 := fun k => by rw [nowF_at, cn]
  have hA : ∀ k, xBeg H B S np.toNat nd.toNat k = if 25 ≤ k ∧ k < 25 + nd then S (k - 25) else if 13 ≤ k ∧ k < 13 + np then H (k - 13) else if 19 ≤ k ∧ k < 19 + np then B (k - 19) else 0 := fun k => by rw [xBeg_at _ _ (by omega), cn, cp]
  obtain ⟨f, ef⟩ : ∃ z, z = nowF P D nd.toNat := ⟨_, rfl⟩
  obtain ⟨h, eh⟩ : ∃ z, z = xBeg H B S np.toNat nd.toNat := ⟨_, rfl⟩
  rw [← ef] at fA ⊢
  rw [← eh] at hA ⊢
  have fL : ∀ k, k < 13 → f k = 0 := fun k hk => by rw [fA, if_neg (by omega), if_neg (by omega)]
  have fH : ∀ q, 0 ≤ q ∧ q < 6 → f (13 + 2 * q) = P (2 * q) := fun q hq => by rw [fA, if_neg (by omega), if_pos (by omega), show 13 + 2 * q - 13 = 2 * q by omega]
  have fB : ∀ q, 0 ≤ q ∧ q < 6 → f (13 + 2 * q + 1) = P (2 * q + 1) := fun q hq => by rw [fA, if_neg (by omega), if_pos (by omega), show 13 + 2 * q + 1 - 13 = 2 * q + 1 by omega]
  have fD : ∀ d, 0 ≤ d ∧ d < nd → f (25 + 2 * d) = D (2 * d + 1) := fun d hd => by rw [fA, if_pos (by omega), show 25 + 2 * d - 24 = 2 * d + 1 by omega]
  have fE : ∀ d, nd ≤ d → f (25 + 2 * d) = 0 := fun d hd => by rw [fA, if_neg (by omega), if_neg (by omega)]
  have fM : ∀ d, 0 ≤ d → f (25 + 2 * d + 1) = 0 := fun d hd => by rw [fA, if_neg (by omega), if_neg (by omega)]
  have hL : ∀ k, k < 13 → h k = 0 := fun k hk => by rw [hA, if_neg (by omega), if_neg (by omega), if_neg (by omega)]
  have hG : ∀ k, 30 ≤ k → h k = 0 := fun k hk => by rw [hA, if_neg (by omega), if_neg (by omega), if_neg (by omega)]
  have hH : ∀ q, 0 ≤ q ∧ q < 6 → h (13 + q) = P (2 * q) := fun q hq => by
    by_cases hp : q < np
    · rw [hA, if_neg (by omega), if_pos (by omega), show 13 + q - 13 = q by omega]
      exact (h3 q ⟨hq.1, hp⟩).1
    · rw [hA, if_neg (by omega), if_neg (by omega), if_neg (by omega), hz (2 * q) (by omega)]
  have hB : ∀ q, 0 ≤ q ∧ q < 6 → h (19 + q) = P (2 * q + 1) := fun q hq => by
    by_cases hp : q < np
    · rw [hA, if_neg (by omega), if_neg (by omega), if_pos (by omega), show 19 + q - 19 = q by omega]
      exact (h3 q ⟨hq.1, hp⟩).2.1
    · rw [hA, if_neg (by omega), if_neg (by omega), if_neg (by omega), hz (2 * q + 1) (by omega)]
  have hD : ∀ d, 0 ≤ d ∧ d < nd → h (25 + d) = D (2 * d + 1) := fun d hd => by
    rw [hA, if_pos (by omega), show 25 + d - 25 = d by omega]
    exact (h4 d hd).1
  have hE : ∀ d, nd ≤ d → h (25 + d) = 0 := fun d hd => by rw [hA, if_neg (by omega), if_neg (by omega), if_neg (by omega)]
  have fR : ∀ k, 0 ≤ f k ∧ f k ≤ 999 := fun k => by
    rw [fA]
    split
    · have := h4 ((k - 25) / 2) (by omega)
      rw [show 2 * ((k - 25) / 2) + 1 = k - 24 by omega] at this
      omega
    · split
      · exact hP _
      · omega
  have hR : ∀ k, 0 ≤ h k ∧ h k ≤ 999 := fun k => by
    rw [hA]
    split
    · have := h4 (k - 25) (by omega)
      omega
    · split
      · have := h3 (k - 13) (by omega)
        omega
      · split
        · have := h3 (k - 19) (by omega)
          have := hP (2 * (k - 19) + 1)
          omega
        · omega
  have f0 := fL 0 (by omega)
  refine ⟨by omega, fun k => by have := fR k; omega, fun k => by have := hR k; omega, fun k hk => by have := fR k; omega, fun q hq => ?_, fun q hq => ?_, fun d hd => (fR _).2, fun d hd => ?_, by rw [fL 0 (by omega), hL 0 (by omega)], fun v hv => ?_, fun q hq => ⟨by rw [hH q hq, fH q hq], by rw [hB q hq, fB q hq]⟩, fun d hd => ?_⟩
  · rw [fH q (by omega)]; exact (h3 q hq).2.2.2
  · rw [fH q hq]
    by_cases hp : q < np
    · have := h3 q ⟨hq.1, hp⟩; omega
    · rw [hz (2 * q) (by omega)]; omega
  · rw [fM d hd.1]; exact (fR _).1
  · rw [hL _ (by omega), hL _ (by omega), hL _ (by omega), fL _ (by omega), fL _ (by omega), fL _ (by omega)]
    exact ⟨rfl, rfl, rfl⟩
  · by_cases hp : d < nd
    · rw [hD d ⟨hd.1, hp⟩, fD d ⟨hd.1, hp⟩, hG _ (by omega), fM d hd.1]
      exact ⟨rfl, fun _ => rfl⟩
    · rw [hE d (by omega), fE d (by omega)]
      exact ⟨rfl, fun q => absurd rfl q⟩
