noncomputable def mDrS (V : Int → Int) (nv np : Int) (c : Int × (Int → Int)) : Int × (Int → Int) :=
  if 0 < nv then (if mNx (mNx c.1) / 65536 % 4 = 0 then (mNx (mNx (mNx c.1)), mPass V (up1 c.2 (1 + 3 * (mNx (mNx (mNx c.1)) / 65536 % nv) + 1) (c.2 (1 + 3 * (mNx (mNx (mNx c.1)) / 65536 % nv) + 1) + 1)) (mNx c.1 / 65536 % 41) nv np) else (mNx (mNx c.1), mPass V c.2 (mNx c.1 / 65536 % 41) nv np)) else (mNx c.1, mPass V c.2 (mNx c.1 / 65536 % 41) nv np)
noncomputable def mDr (V : Int → Int) (nv np : Int) (s : Int) (f : Int → Int) (n : Nat) : Int × (Int → Int) := fld (fun c _ => mDrS V nv np c) (s, f) n
theorem mDr_s {V f : Int → Int} {nv np s k : Int} (h : 0 ≤ k) : mDr V nv np s f (k + 1).toNat = mDrS V nv np (mDr V nv np s f k.toNat) := fld_s (g := fun c _ => mDrS V nv np c) h
theorem mDrS_a {V f : Int → Int} {nv np s : Int} (h : nv ≤ 0) : mDrS V nv np (s, f) = (mNx s, mPass V f (mNx s / 65536 % 41) nv np) := by
  unfold mDrS
  rw [if_neg (by omega)]
theorem mDrS_b {V f : Int → Int} {nv np s : Int} (h : 0 < nv) (h2 : mNx (mNx s) / 65536 % 4 ≠ 0) : mDrS V nv np (s, f) = (mNx (mNx s), mPass V f (mNx s / 65536 % 41) nv np) := by
  unfold mDrS
  rw [if_pos h, if_neg h2]
theorem mDrS_c {V f : Int → Int} {nv np s : Int} (h : 0 < nv) (h2 : mNx (mNx s) / 65536 % 4 = 0) : mDrS V nv np (s, f) = (mNx (mNx (mNx s)), mPass V (up1 f (1 + 3 * (mNx (mNx (mNx s)) / 65536 % nv) + 1) (f (1 + 3 * (mNx (mNx (mNx s)) / 65536 % nv) + 1) + 1)) (mNx s / 65536 % 41) nv np) := by
  unfold mDrS
  rw [if_pos h, if_pos h2]
theorem rOk_up {nv np B : Int} {f : Int → Int} {k v : Int} (h : rOk nv np f B) (hv : 0 ≤ v ∧ v ≤ B + 1) (hk : k < 13) : rOk nv np (up1 f k v) (B + 1) := by
  refine ⟨fun t => ?_, fun q hq => ?_⟩
  · have := h.1 t
    unfold up1
    split <;> omega
  · rw [up1_n (by omega)]
    exact h.2 q hq
theorem rOk_drS {V f : Int → Int} {nv np s B : Int} (h4 : nv ≤ 4) (hV : ∀ k, 0 ≤ V k ∧ V k ≤ 40) (hB : 0 ≤ B ∧ B + 1 ≤ 900000) (h : rOk nv np f B) : rOk nv np (mDrS V nv np (s, f)).2 (B + 41) := by
  have hx := mNx_r s
  by_cases h1 : 0 < nv
  · by_cases h2 : mNx (mNx s) / 65536 % 4 = 0
    · rw [mDrS_c h1 h2]
      have e1 := Int.emod_lt_of_pos (mNx (mNx (mNx s)) / 65536) h1
      have hv := h.1 (1 + 3 * (mNx (mNx (mNx s)) / 65536 % nv) + 1)
      exact rOk_w (rOk_pass h4 hV (by omega) (by omega) (rOk_up (k := 1 + 3 * (mNx (mNx (mNx s)) / 65536 % nv) + 1) (v := f (1 + 3 * (mNx (mNx (mNx s)) / 65536 % nv) + 1) + 1) h (by omega) (by omega))) (by omega)
    · rw [mDrS_b h1 h2]
      exact rOk_w (rOk_pass h4 hV (by omega) (by omega) h) (by omega)
  · rw [mDrS_a (by omega)]
    exact rOk_w (rOk_pass h4 hV (by omega) (by omega) h) (by omega)
theorem rOk_dr {V f : Int → Int} {nv np s B : Int} (n : Nat) (h4 : nv ≤ 4) (hV : ∀ k, 0 ≤ V k ∧ V k ≤ 40) (hB : 0 ≤ B ∧ B + 41 * n ≤ 900000) (h : rOk nv np f B) : rOk nv np (mDr V nv np s f n).2 (B + 41 * n) := by
  induction n with
  | zero => exact rOk_w h (by omega)
  | succ n ih =>
    have h1 := ih (by omega)
    have h2 := rOk_drS (V := V) (s := (mDr V nv np s f n).1) h4 hV (by omega) h1
    exact rOk_w h2 (by omega)
noncomputable def mDrf (I : Nat → Int) (A : Nat → Int → Int) (n : Int) : Int × (Int → Int) := mDr (A 3) (A 1 1) (A 1 2) (I 3) (A 11) n.toNat
noncomputable def mDriftR (I : Nat → Int) (A : Nat → Int → Int) (n : Int) : Int := if mBar A n = 0 then (mDrf I A n).2 0 else mBar A n
noncomputable def mDriftI (I : Nat → Int) (A : Nat → Int → Int) (n : Int) : Nat → Int := if mBar A n = 0 then st1 (ndI I) 3 (mDrf I A n).1 else I
noncomputable def mDriftA (I : Nat → Int) (A : Nat → Int → Int) (n : Int) : Nat → Int → Int := if mBar A n = 0 then stA (ndA I A) 11 (mDrf I A n).2 else A
theorem mTB_r {A : Nat → Int → Int} {q w : Int} (hf : ∀ k, 0 ≤ A 11 k ∧ A 11 k ≤ 900000) (hP : ∀ k, 0 ≤ A 4 k ∧ A 4 k ≤ 999) (hw : 0 ≤ w) (hy : 0 < A 3 (5 * A 11 (13 + 2 * q) + 4)) : 0 ≤ mTB A q w ∧ mTB A q w ≤ 1000000 := by
  have h1 := hf (1 + 3 * A 11 (13 + 2 * q))
  have h2 := hf (1 + 3 * A 11 (13 + 2 * q) + 1)
  have h3 := hP (2 * q + 1)
  unfold mTB
  have key : ∀ x : Int, 0 ≤ x ∧ x ≤ 1000000 → 0 ≤ x / A 3 (5 * A 11 (13 + 2 * q) + 4) ∧ x / A 3 (5 * A 11 (13 + 2 * q) + 4) ≤ 1000000 := fun x hx => ⟨Int.ediv_nonneg hx.1 (by omega), Int.le_trans (Int.ediv_le_self _ hx.1) hx.2⟩
  apply key
  repeat' split
  all_goals omega
theorem mFit_b {A : Nat → Int → Int} {w : Int} (n : Nat) : 0 ≤ mFit A w n ∧ mFit A w n ≤ 1 := by
  cases n with
  | zero =>
    show (0 : Int) ≤ 1 ∧ (1 : Int) ≤ 1
    omega
  | succ n =>
    show 0 ≤ (if mFit A w n = 0 then (0 : Int) else if mTB A (A 16 (2 * n)) w = A 16 (2 * n + 1) then 1 else 0) ∧ (if mFit A w n = 0 then (0 : Int) else if mTB A (A 16 (2 * n)) w = A 16 (2 * n + 1) then 1 else 0) ≤ 1
    repeat' split
    all_goals omega
theorem mLays_s {A : Nat → Int → Int} {g w : Int} (h : 0 ≤ w) : mLays A g (w + 1).toNat = if mFit A w g.toNat = 0 then mLays A g w.toNat else ((mLays A g w.toNat).1 + 1, up1 (mLays A g w.toNat).2 (mLays A g w.toNat).1 w) := fld_s (g := fun (c : Int × (Int → Int)) w => if mFit A w g.toNat = 0 then c else (c.1 + 1, up1 c.2 c.1 w)) (z := (0, A 20)) h
theorem mLays_b {A : Nat → Int → Int} {g : Int} (n : Nat) : (0 ≤ (mLays A g n).1 ∧ (mLays A g n).1 ≤ n) ∧ ∀ k, 0 ≤ k ∧ k < (mLays A g n).1 → 0 ≤ (mLays A g n).2 k ∧ (mLays A g n).2 k < n := by
  induction n with
  | zero => exact ⟨⟨Int.le_refl 0, Int.le_refl 0⟩, fun k hk => absurd hk (by show ¬ (0 ≤ k ∧ k < 0); omega)⟩
  | succ n ih =>
    have hs := mLays_s (A := A) (g := g) (w := (n : Int)) (by omega)
    rw [show ((n : Int) + 1).toNat = n + 1 by omega, show ((n : Int)).toNat = n by omega] at hs
    rw [hs]
    split
    · exact ⟨by omega, fun k hk => by have := ih.2 k hk; omega⟩
    · refine ⟨by dsimp only; omega, fun k hk => ?_⟩
      dsimp only at hk ⊢
      unfold up1
      split
      · omega
      · have := ih.2 k (by omega)
        omega
