/-! A CHANCE: one row parted in place, or two rows -/
section Ch
variable {I : Nat → Int} {A B : Nat → Int → Int}
theorem mx0_iMx (z : Int) : iMx 0 z = mx0 z := by
  unfold iMx mx0
  split <;> split <;> omega
/-- the shares of one place, laid down: the rows are alike up to k and stay so -/
theorem depJ_eq (T : Tal I A B) {pl k s : Int} {g g' : Int → Int} (hp : 0 ≤ pl ∧ pl < I 10) (hk : 0 ≤ k) (hg : ∀ t, 0 ≤ t ∧ t ≤ k → g t = g' t) (n : Nat) (hn : (n : Int) ≤ I 9) : (∀ t, 0 ≤ t ∧ t ≤ k → xDepJ (A 9) (A 10 pl) k s g n t = mDepJ (B 3) (B 2) pl g' k s n t) ∧ (∀ t, k < t → xDepJ (A 9) (A 10 pl) k s g n t = g t ∧ mDepJ (B 3) (B 2) pl g' k s n t = g' t) := by
  induction n with
  | zero => exact ⟨hg, fun t _ => ⟨rfl, rfl⟩⟩
  | succ n ih =>
    obtain ⟨i1, i2⟩ := ih (by omega)
    have e9 := T.2.2.1 n (by omega)
    have efo := fo_eq (x := B 2 n) T.2.2.2.1 hp
    have eix : iMx 0 (k - iMx 0 (A 9 n - A 10 pl)) = mx0 (k - mFo (B 3) (B 2 n) pl) := by
      rw [mx0_iMx, e9, efo]
    have hfo := mFo_40 (V := B 3) (x := B 2 n) (v := pl) T.1.1 (by have := T.1.2.1 n; omega)
    have hmx := mx0_r (k - mFo (B 3) (B 2 n) pl)
    have ex : xDepJ (A 9) (A 10 pl) k s g (n + 1) = if 0 < s then up1 (xDepJ (A 9) (A 10 pl) k s g n) (iMx 0 (k - iMx 0 (A 9 n - A 10 pl))) (xDepJ (A 9) (A 10 pl) k s g n (iMx 0 (k - iMx 0 (A 9 n - A 10 pl))) + s) else xDepJ (A 9) (A 10 pl) k s g n := rfl
    have em : mDepJ (B 3) (B 2) pl g' k s (n + 1) = if 0 < s then up1 (mDepJ (B 3) (B 2) pl g' k s n) (mx0 (k - mFo (B 3) (B 2 n) pl)) (mDepJ (B 3) (B 2) pl g' k s n (mx0 (k - mFo (B 3) (B 2 n) pl)) + s) else mDepJ (B 3) (B 2) pl g' k s n := rfl
    rw [ex, em, eix]
    by_cases hs : 0 < s
    · rw [if_pos hs, if_pos hs]
      refine ⟨fun t ht => ?_, fun t ht => ?_⟩
      · by_cases he : t = mx0 (k - mFo (B 3) (B 2 n) pl)
        · subst he; rw [up1_s, up1_s, i1 _ (by omega)]
        · rw [up1_n he, up1_n he]; exact i1 t ht
      · rw [up1_n (by omega), up1_n (by omega)]; exact i2 t ht
    · rw [if_neg hs, if_neg hs]
      exact ⟨i1, i2⟩
theorem part_eq (T : Tal I A B) {pl : Int} {g : Int → Int} (hp : 0 ≤ pl ∧ pl < I 10) (n : Nat) : (∀ t : Int, 0 ≤ t ∧ t ≤ n → xPart (A 9) (A 10 pl) (I 9) g n t = mDepK (B 3) (B 2) pl (I 9) g n t) ∧ (∀ t, (n : Int) < t → xPart (A 9) (A 10 pl) (I 9) g n t = g t ∧ mDepK (B 3) (B 2) pl (I 9) g n t = 0) := by
  have hN := Tal_n T
  induction n with
  | zero =>
    refine ⟨fun t ht => ?_, fun t ht => ⟨rfl, if_neg (by omega)⟩⟩
    have : t = 0 := by omega
    subst this
    rfl
  | succ n ih =>
    obtain ⟨i1, i2⟩ := ih
    have ex : xPart (A 9) (A 10 pl) (I 9) g (n + 1) = xDepJ (A 9) (A 10 pl) ((n : Int) + 1) (iDv (xPart (A 9) (A 10 pl) (I 9) g n ((n : Int) + 1)) (I 9)) (up1 (xPart (A 9) (A 10 pl) (I 9) g n) ((n : Int) + 1) 0) (I 9).toNat := rfl
    have em : mDepK (B 3) (B 2) pl (I 9) g (n + 1) = mDepJ (B 3) (B 2) pl (mDepK (B 3) (B 2) pl (I 9) g n) ((n : Int) + 1) (iDv (g ((n : Int) + 1)) (I 9)) (I 9).toNat := rfl
    rw [ex, em, (i2 ((n : Int) + 1) (by omega)).1]
    obtain ⟨d1, d2⟩ := depJ_eq (s := iDv (g ((n : Int) + 1)) (I 9)) (k := (n : Int) + 1) (g := up1 (xPart (A 9) (A 10 pl) (I 9) g n) ((n : Int) + 1) 0) (g' := mDepK (B 3) (B 2) pl (I 9) g n) T hp (by omega) (fun t ht => by
      by_cases he : t = (n : Int) + 1
      · subst he; rw [up1_s, (i2 _ (by omega)).2]
      · rw [up1_n he]; exact i1 t (by omega)) (I 9).toNat (by omega)
    refine ⟨fun t ht => d1 t (by omega), fun t ht => ?_⟩
    obtain ⟨c1, c2⟩ := d2 t (by omega)
    rw [c1, c2, up1_n (by omega)]
    exact i2 t (by omega)
theorem iDv_0 (y : Int) : iDv 0 y = 0 := by
  unfold iDv
  rw [show iI 0 = (0 : Int32) from rfl, Int32.zero_div]
  rfl
theorem depK_st {V Wn g : Int → Int} {pl l lk : Int} (h : ∀ t, lk < t → g t = 0) (n : Nat) (hn : lk ≤ n) (e : Nat) : mDepK V Wn pl l g (n + e) = mDepK V Wn pl l g n := by
  induction e with
  | zero => rfl
  | succ e ih =>
    show mDepJ V Wn pl (mDepK V Wn pl l g (n + e)) (((n + e : Nat) : Int) + 1) (iDv (g (((n + e : Nat) : Int) + 1)) l) l.toNat = _
    rw [h _ (by omega), iDv_0, mDepJ_0 _ (by decide), ih]
theorem depK_c {V Wn g g' : Int → Int} {pl l : Int} (h : ∀ t, 0 ≤ t → g t = g' t) (n : Nat) : mDepK V Wn pl l g n = mDepK V Wn pl l g' n := by
  induction n with
  | zero =>
    show (fun t : Int => if t = 0 then g 0 else 0) = fun t : Int => if t = 0 then g' 0 else 0
    rw [h 0 (by decide)]
  | succ n ih =>
    show mDepJ V Wn pl (mDepK V Wn pl l g n) ((n : Int) + 1) (iDv (g ((n : Int) + 1)) l) l.toNat = mDepJ V Wn pl (mDepK V Wn pl l g' n) ((n : Int) + 1) (iDv (g' ((n : Int) + 1)) l) l.toNat
    rw [ih, h _ (by omega)]
theorem cha_eq (T : Tal I A B) {pl z : Int} (hp : 0 ≤ pl ∧ pl < I 10) (hz : z ≤ 999) (n : Nat) : ∀ t, 0 ≤ t → xCha (A 9) (A 10 pl) (I 9) (mx0 z) n t = mHeap (B 3) (B 2) pl (I 9) z n t ∧ (mx0 z < t → xCha (A 9) (A 10 pl) (I 9) (mx0 z) n t = 0) := by
  have hm := mx0_r z
  induction n with
  | zero =>
    intro t ht
    refine ⟨rfl, fun h => ?_⟩
    show up1 zZ (mx0 z) 1000000 t = 0
    rw [up1_n (by omega)]; rfl
  | succ n ih =>
    intro t ht
    have ex : xCha (A 9) (A 10 pl) (I 9) (mx0 z) (n + 1) = xPart (A 9) (A 10 pl) (I 9) (xCha (A 9) (A 10 pl) (I 9) (mx0 z) n) (mx0 z).toNat := rfl
    have em : mHeap (B 3) (B 2) pl (I 9) z (n + 1) = mDepK (B 3) (B 2) pl (I 9) (mHeap (B 3) (B 2) pl (I 9) z n) 999 := rfl
    have hgz : ∀ t, mx0 z < t → xCha (A 9) (A 10 pl) (I 9) (mx0 z) n t = 0 := fun t h => (ih t (by omega)).2 h
    have e9 := depK_st (V := B 3) (Wn := B 2) (pl := pl) (l := I 9) hgz (mx0 z).toNat (by omega) (999 - (mx0 z).toNat)
    rw [show (mx0 z).toNat + (999 - (mx0 z).toNat) = 999 by omega] at e9
    rw [ex, em, ← depK_c (fun t ht => (ih t ht).1) 999, e9]
    obtain ⟨p1, p2⟩ := part_eq (g := xCha (A 9) (A 10 pl) (I 9) (mx0 z) n) T hp (mx0 z).toNat
    by_cases hc : mx0 z < t
    · obtain ⟨c1, c2⟩ := p2 t (by omega)
      rw [c1, c2, hgz t hc]
      exact ⟨rfl, fun _ => rfl⟩
    · exact ⟨p1 t (by omega), fun h => absurd h hc⟩
end Ch
/-! WHO SAWED -/
section Sy
variable {I J : Nat → Int} {A B : Nat → Int → Int} {b : Int}
theorem tb_eq (T : Tal I A B) (H : Row (I 10) (I 11) (I 12) (B 5) b (B 11) (A 17)) {q w : Int} (hq : 0 ≤ q ∧ q < I 11) : xTB A w q = mTB B q w := by
  have hN := Tal_n T
  obtain ⟨g1, g2⟩ := H.2.2.2.2.2.2.2.2.2.2.1 q (by omega)
  have w1 := H.2.2.2.2.1 q hq
  have w0 := H.2.1 (13 + 2 * q)
  have e3 := (T.2.2.2.1.2.2 (B 11 (13 + 2 * q)) ⟨w0.1, w1⟩).2.2
  have e4 := T.1.2.2.2.2.2.2.1 (B 11 (13 + 2 * q)) (by have := T.2.1.2.1; omega)
  have e5 := T.2.2.2.2.1 q hq
  obtain ⟨v1, v2, v3⟩ := H.2.2.2.2.2.2.2.2.2.1 (B 11 (13 + 2 * q)) (by omega)
  unfold xTB mTB
  rw [g1, e3, if_pos e4, e5, v1, v3]
  congr 2
  by_cases hc : w / 10 = B 11 (13 + 2 * q)
  · have hc2 : B 11 (13 + 2 * q) = w / 10 := hc.symm
    rw [if_pos hc]
    simp only [if_pos hc2]
    unfold iMx
    split <;> split <;> omega
  · have hc2 : ¬ B 11 (13 + 2 * q) = w / 10 := fun h => hc h.symm
    rw [if_neg hc]
    simp only [if_neg hc2]
    unfold iMx
    split <;> split <;> omega
def RSay (I J : Nat → Int) (A B : Nat → Int → Int) : Prop := I 16 = J 4 ∧ (0 ≤ I 16 ∧ I 16 ≤ 6) ∧ (∀ k, 0 ≤ k ∧ k < I 16 → A 22 k = B 16 (2 * k) ∧ A 23 k = B 16 (2 * k + 1) ∧ 0 ≤ A 22 k ∧ A 22 k < I 11) ∧ (∀ k, 0 ≤ A 23 k ∧ A 23 k ≤ 9999) ∧ (∀ k, 0 ≤ B 16 k ∧ B 16 k ≤ 9999)
theorem fit_eq (T : Tal I A B) (H : Row (I 10) (I 11) (I 12) (B 5) b (B 11) (A 17)) (S : RSay I J A B) {w : Int} (n : Nat) (hn : (n : Int) ≤ I 16) : xFit A w n = mFit B w n := by
  induction n with
  | zero => rfl
  | succ n ih =>
    have ih := ih (by omega)
    obtain ⟨s1, s2, s3, s4⟩ := S.2.2.1 n (by omega)
    have e := tb_eq (w := w) T H (q := A 22 n) ⟨s3, s4⟩
    show (if xFit A w n = 0 then 0 else if xTB A w (A 22 n) = A 23 n then 1 else 0) = if mFit B w n = 0 then 0 else if mTB B (B 16 (2 * n)) w = B 16 (2 * n + 1) then 1 else 0
    rw [ih, e, s2, ← s1]
theorem lays_eq (T : Tal I A B) (H : Row (I 10) (I 11) (I 12) (B 5) b (B 11) (A 17)) (S : RSay I J A B) (n : Nat) : (xLays A (I 16) n).1 = (mLays B (J 4) n).1 ∧ ∀ t, 0 ≤ t ∧ t < (mLays B (J 4) n).1 → (xLays A (I 16) n).2 t = (mLays B (J 4) n).2 t := by
  induction n with
  | zero => exact ⟨rfl, fun t ht => absurd ht (by show ¬ (0 ≤ t ∧ t < 0); omega)⟩
  | succ n ih =>
    obtain ⟨i1, i2⟩ := ih
    have ef := fit_eq (w := (n : Int)) T H S (I 16).toNat (by have := S.2.1; omega)
    rw [show (I 16).toNat = (J 4).toNat by rw [S.1]] at ef
    have ex : xLays A (I 16) (n + 1) = if xFit A n (I 16).toNat = 0 then xLays A (I 16) n else ((xLays A (I 16) n).1 + 1, up1 (xLays A (I 16) n).2 (xLays A (I 16) n).1 n) := rfl
    have em : mLays B (J 4) (n + 1) = if mFit B n (J 4).toNat = 0 then mLays B (J 4) n else ((mLays B (J 4) n).1 + 1, up1 (mLays B (J 4) n).2 (mLays B (J 4) n).1 n) := rfl
    rw [ex, em, show (I 16).toNat = (J 4).toNat by rw [S.1], ef]
    by_cases hc : mFit B n (J 4).toNat = 0
    · rw [if_pos hc, if_pos hc]
      exact ⟨i1, i2⟩
    · rw [if_neg hc, if_neg hc]
      refine ⟨by show (xLays A (I 16) n).1 + 1 = (mLays B (J 4) n).1 + 1; rw [i1], fun t ht => ?_⟩
      show up1 (xLays A (I 16) n).2 (xLays A (I 16) n).1 n t = up1 (mLays B (J 4) n).2 (mLays B (J 4) n).1 n t
      rw [i1]
      by_cases he : t = (mLays B (J 4) n).1
      · subst he; rw [up1_s, up1_s]
      · rw [up1_n he, up1_n he]
        exact i2 t (by have : t < (mLays B (J 4) n).1 + 1 := ht.2; omega)
theorem cnt_eq (T : Tal I A B) (H : Row (I 10) (I 11) (I 12) (B 5) b (B 11) (A 17)) {q : Int} (hq : 0 ≤ q ∧ q < I 11) {g g' : Int → Int} {c k : Int} (hg : ∀ t, 0 ≤ t ∧ t < c → g t = g' t) (hk : 0 ≤ k ∧ k < c) (n : Nat) (hn : (n : Int) ≤ c) : xCnt (fun i => xTB A (g i) q) (xTB A (g k) q) n = mAlike B g' q k n := by
  induction n with
  | zero => rfl
  | succ n ih =>
    have ih := ih (by omega)
    show (if xTB A (g n) q = xTB A (g k) q then xCnt (fun i => xTB A (g i) q) (xTB A (g k) q) n + 1 else xCnt (fun i => xTB A (g i) q) (xTB A (g k) q) n) = mAlike B g' q k n + (if mTB B q (g' n) = mTB B q (g' k) then 1 else 0)
    rw [ih, tb_eq T H hq, tb_eq T H hq, hg n (by omega), hg k hk]
    split <;> omega
theorem grt_eq (T : Tal I A B) (H : Row (I 10) (I 11) (I 12) (B 5) b (B 11) (A 17)) {q : Int} (hq : 0 ≤ q ∧ q < I 11) {g g' : Int → Int} {c : Int} (hg : ∀ t, 0 ≤ t ∧ t < c → g t = g' t) (n : Nat) (hn : (n : Int) ≤ c) : xGrt (fun i => xTB A (g i) q) c n = mMost B g' c q n := by
  induction n with
  | zero => rfl
  | succ n ih =>
    have ih := ih (by omega)
    have e := cnt_eq T H hq hg (k := (n : Int)) (by omega) c.toNat (by omega)
    show iMx (xGrt (fun i => xTB A (g i) q) c n) (xCnt (fun i => xTB A (g i) q) (xTB A (g n) q) c.toNat) = if mMost B g' c q n < mAlike B g' q n c.toNat then mAlike B g' q n c.toNat else mMost B g' c q n
    rw [ih, e]
    rfl
theorem ask_eq (T : Tal I A B) (H : Row (I 10) (I 11) (I 12) (B 5) b (B 11) (A 17)) {g g' : Int → Int} {c : Int} (hc : 0 ≤ c) (hg : ∀ t, 0 ≤ t ∧ t < c → g t = g' t) (n : Nat) (hn : (n : Int) ≤ I 11) : xAsk A g c n = mAsk B g' c n := by
  induction n with
  | zero => rfl
  | succ n ih =>
    have ih := ih (by omega)
    have e := grt_eq T H (q := (n : Int)) (by omega) hg c.toNat (by omega)
    show (if xGrt (fun i => xTB A (g i) n) c c.toNat < (xAsk A g c n).2 then ((n : Int), xGrt (fun i => xTB A (g i) n) c c.toNat) else xAsk A g c n) = if mMost B g' c n c.toNat < (mAsk B g' c n).2 then ((n : Int), mMost B g' c n c.toNat) else mAsk B g' c n
    rw [ih, e]
end Sy
