/-! POLES: sets of nights -/
theorem xBit_at : ∀ n : Fin 40, ∀ k : Fin 64, (xBit ((n : Nat) : Int)).toBitVec.getLsbD k = decide ((k : Nat) = n) := by decide +kernel
theorem xNf_at {A : Nat → Int → Int} {l v : Int} (n : Nat) (hn : n ≤ 40) (k : Nat) (hk : k < 64) : (xNf A l v n).toBitVec.getLsbD k = decide (k < n ∧ A 11 v ≤ xAt (A 9) l (A 17 0) k 0) := by
  induction n with
  | zero =>
    show ((0 : Int64)).toBitVec.getLsbD k = _
    rw [show ((0 : Int64)).toBitVec = 0#64 from rfl, BitVec.getLsbD_zero]
    exact (decide_eq_false (fun h => absurd h.1 (Nat.not_lt_zero _))).symm
  | succ n ih =>
    have ih := ih (by omega)
    show (if A 11 v ≤ xAt (A 9) l (A 17 0) n 0 then xNf A l v n ||| xBit n else xNf A l v n).toBitVec.getLsbD k = _
    by_cases hc : A 11 v ≤ xAt (A 9) l (A 17 0) n 0
    · rw [if_pos hc, Int64.toBitVec_or, BitVec.getLsbD_or, ih, xBit_at ⟨n, by omega⟩ ⟨k, hk⟩]
      by_cases hkn : k = n
      · subst hkn
        rw [show decide (k < k + 1 ∧ A 11 v ≤ xAt (A 9) l (A 17 0) k 0) = true from decide_eq_true ⟨by omega, hc⟩]
        simp
      · rw [show decide (((⟨k, hk⟩ : Fin 64) : Nat) = ((⟨n, by omega⟩ : Fin 40) : Nat)) = false from decide_eq_false hkn, Bool.or_false]
        exact decide_eq_decide.mpr ⟨fun h => ⟨by omega, h.2⟩, fun h => ⟨by omega, h.2⟩⟩
    · rw [if_neg hc, ih]
      exact decide_eq_decide.mpr ⟨fun h => ⟨by omega, h.2⟩, fun h => ⟨by
        rcases Nat.lt_or_ge k n with h3 | h3
        · exact h3
        · have : k = n := by omega
          subst this
          exact absurd h.2 hc, h.2⟩⟩
theorem xNf_eq {A : Nat → Int → Int} {l v u : Int} : xNf A l u 40 = xNf A l v 40 ↔ ∀ k : Nat, k < 40 → (A 11 u ≤ xAt (A 9) l (A 17 0) k 0 ↔ A 11 v ≤ xAt (A 9) l (A 17 0) k 0) := by
  constructor
  · intro h k hk
    have h1 := xNf_at (A := A) (l := l) (v := u) 40 (by omega) k (by omega)
    have h2 := xNf_at (A := A) (l := l) (v := v) 40 (by omega) k (by omega)
    rw [h, h2] at h1
    have h3 := decide_eq_decide.mp h1
    exact ⟨fun q => (h3.mpr ⟨hk, q⟩).2, fun q => (h3.mp ⟨hk, q⟩).2⟩
  · intro h
    apply Int64.toBitVec_inj.mp
    apply BitVec.eq_of_getLsbD_eq
    intro k hk
    rw [xNf_at 40 (by omega) k hk, xNf_at 40 (by omega) k hk]
    exact decide_eq_decide.mpr ⟨fun q => ⟨q.1, (h k q.1).mp q.2⟩, fun q => ⟨q.1, (h k q.1).mpr q.2⟩⟩
section Pl
variable {I : Nat → Int} {A B : Nat → Int → Int} {b m : Int}
theorem alk_eq (T : Tal I A B) (h0 : 0 < I 9) (H : Row (I 10) (I 11) (I 12) (B 5) b (B 11) (A 17)) {v u : Int} (hv : 0 ≤ v ∧ v < I 10) (hu : 0 ≤ u ∧ u < I 10) (n : Nat) : mAlk B v u n = 1 ↔ ∀ k : Nat, k < n → (A 11 u ≤ xAt (A 9) (I 9) (A 17 0) k 0 ↔ A 11 v ≤ xAt (A 9) (I 9) (A 17 0) k 0) := by
  induction n with
  | zero => exact ⟨fun _ k hk => absurd hk (Nat.not_lt_zero _), fun _ => rfl⟩
  | succ n ih =>
    have hb := mAlk_b (A := B) (v := v) (u := u) n
    have e : mAlk B v u (n + 1) = if mAlk B v u n = 0 then 0 else if mFallI (B 3) (mAt B n) v = mFallI (B 3) (mAt B n) u then 1 else 0 := rfl
    have hn : (mFallI (B 3) (mAt B n) v = mFallI (B 3) (mAt B n) u) ↔ (A 11 u ≤ xAt (A 9) (I 9) (A 17 0) n 0 ↔ A 11 v ≤ xAt (A 9) (I 9) (A 17 0) n 0) := by
      rcases fallAt (n := (n : Int)) T h0 H hv with ⟨a1, a2⟩ | ⟨a1, a2⟩ <;> rcases fallAt (n := (n : Int)) T h0 H hu with ⟨c1, c2⟩ | ⟨c1, c2⟩ <;> rw [a2, c2]
      · exact ⟨fun _ => ⟨fun _ => a1, fun _ => c1⟩, fun _ => rfl⟩
      · exact ⟨fun q => absurd q (by decide), fun q => absurd (q.mpr a1) c1⟩
      · exact ⟨fun q => absurd q (by decide), fun q => absurd (q.mp c1) a1⟩
      · exact ⟨fun _ => ⟨fun q => absurd q c1, fun q => absurd q a1⟩, fun _ => rfl⟩
    rw [e]
    constructor
    · intro h k hk
      by_cases hz : mAlk B v u n = 0
      · rw [if_pos hz] at h; exact absurd h (by decide)
      · rw [if_neg hz] at h
        by_cases hc : mFallI (B 3) (mAt B n) v = mFallI (B 3) (mAt B n) u
        · rcases Nat.lt_or_ge k n with h3 | h3
          · exact ih.mp (by omega) k h3
          · have : k = n := by omega
            subst this
            exact hn.mp hc
        · rw [if_neg hc] at h; exact absurd h (by decide)
    · intro h
      have h1 := ih.mpr (fun k hk => h k (by omega))
      rw [if_neg (by omega), if_pos (hn.mpr (h n (by omega)))]
theorem new_eq (T : Tal I A B) (h0 : 0 < I 9) (H : Row (I 10) (I 11) (I 12) (B 5) b (B 11) (A 17)) {v : Int} (hv : 0 ≤ v ∧ v < I 10) (n : Nat) (hn : (n : Int) ≤ v) : (xLb (fun u => xNf A (I 9) (u : Int) 40) (xNf A (I 9) v 40) n = 1 ∧ mNew B v n = 0) ∨ (xLb (fun u => xNf A (I 9) (u : Int) 40) (xNf A (I 9) v 40) n = 0 ∧ mNew B v n = 1) := by
  induction n with
  | zero => exact Or.inr ⟨rfl, rfl⟩
  | succ n ih =>
    have ih := ih (by omega)
    have ha := alk_eq T h0 H hv (u := (n : Int)) (by omega) 40
    have hb := mAlk_b (A := B) (v := v) (u := (n : Int)) 40
    have hx := xNf_eq (A := A) (l := I 9) (v := v) (u := (n : Int))
    have e1 : xLb (fun u => xNf A (I 9) (u : Int) 40) (xNf A (I 9) v 40) (n + 1) = if xNf A (I 9) (((n : Int).toNat : Nat) : Int) 40 = xNf A (I 9) v 40 then 1 else xLb (fun u => xNf A (I 9) (u : Int) 40) (xNf A (I 9) v 40) n := rfl
    have e2 : mNew B v (n + 1) = if mNew B v n = 0 then 0 else 1 - mAlk B v n 40 := rfl
    rw [Int.toNat_natCast] at e1
    rw [e1, e2]
    by_cases hc : xNf A (I 9) (n : Int) 40 = xNf A (I 9) v 40
    · have h1 := ha.mpr (hx.mp hc)
      refine Or.inl ⟨if_pos hc, ?_⟩
      rw [h1]
      split <;> omega
    · rw [if_neg hc]
      have h1 : mAlk B v n 40 = 0 := by
        rcases (show mAlk B v n 40 = 0 ∨ mAlk B v n 40 = 1 by omega) with h | h
        · exact h
        · exact absurd (hx.mpr (ha.mp h)) hc
      rcases ih with ⟨i1, i2⟩ | ⟨i1, i2⟩
      · exact Or.inl ⟨i1, by rw [i2, if_pos rfl]⟩
      · exact Or.inr ⟨i1, by rw [i2, if_neg (by decide), h1]; rfl⟩
theorem pol_eq (T : Tal I A B) (H : Row (I 10) (I 11) (I 12) (B 5) b (B 11) (A 17)) (n : Nat) (hn : (n : Int) ≤ I 10) : xPol A (I 9) n = mPoles B n := by
  induction n with
  | zero => rfl
  | succ n ih =>
    have ih := ih (by omega)
    have h0 := T.2.2.2.2.2.2.1 (by omega)
    show (if xLb (fun u => xNf A (I 9) (u : Int) 40) (xNf A (I 9) n 40) (n : Int).toNat = 1 then xPol A (I 9) n else xPol A (I 9) n + 1) = mPoles B n + mNew B n (n : Int).toNat
    rw [Int.toNat_natCast, ih]
    rcases new_eq T h0 H (v := (n : Int)) (by omega) n (by omega) with ⟨h1, h2⟩ | ⟨h1, h2⟩
    · rw [h1, h2, if_pos rfl]; omega
    · rw [h1, h2, if_neg (by decide)]
end Pl
