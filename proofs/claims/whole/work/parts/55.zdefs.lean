/-! THE CLASS: what stands in its bounds; what its calls answer -/
def xOk (I : Nat → Int) (A : Nat → Int → Int) : Prop :=
  (0 ≤ I 0 ∧ I 0 ≤ 240) ∧
  (∀ k, 0 ≤ A 0 k ∧ A 0 k ≤ 255) ∧
  (0 ≤ I 9 ∧ I 9 ≤ 20) ∧
  (0 ≤ I 10 ∧ I 10 ≤ 4) ∧
  (0 ≤ I 11 ∧ I 11 ≤ 6) ∧
  (0 ≤ I 12 ∧ I 12 ≤ 5) ∧
  (0 < I 10 ∨ 0 < I 11 ∨ 0 < I 12 → 0 < I 9) ∧
  (∀ k, 0 ≤ A 9 k ∧ A 9 k ≤ 40) ∧
  (∀ k, 0 ≤ A 10 k ∧ A 10 k ≤ 40) ∧
  (∀ k, 0 ≤ A 11 k ∧ A 11 k ≤ 80) ∧
  (∀ k, 0 ≤ A 12 k ∧ A 12 k ≤ 40) ∧
  (∀ k, 0 ≤ A 14 k ∧ A 14 k ≤ 999) ∧
  (∀ d, 0 ≤ d ∧ d < I 12 → 0 ≤ A 15 d ∧ A 15 d < 4) ∧
  (∀ k, 0 ≤ A 17 k ∧ A 17 k ≤ 500000) ∧
  (0 ≤ A 17 0 ∧ A 17 0 ≤ 9060) ∧
  (∀ t, 13 ≤ t ∧ t < 19 → A 17 t < 4) ∧
  (0 ≤ I 13 ∧ I 13 ≤ 20) ∧
  (0 ≤ I 14 ∧ I 14 < 20) ∧
  (0 ≤ I 16 ∧ I 16 ≤ 6) ∧
  (∀ k, 0 ≤ k ∧ k < I 16 → 0 ≤ A 22 k ∧ A 22 k < I 11) ∧
  (∀ k, 0 ≤ A 23 k ∧ A 23 k ≤ 9999) ∧
  (0 ≤ I 17 ∧ I 17 ≤ 15) ∧
  (∀ k, 0 ≤ k ∧ k < I 17 → 0 ≤ A 26 k ∧ A 26 k < 4) ∧
  (∀ k, 0 ≤ A 27 k ∧ A 27 k ≤ 9999) ∧
  (∀ d, 0 ≤ d ∧ d < I 12 → xLack A d ≤ 999) ∧
  (∀ i, 0 ≤ i ∧ i < 2 → 0 ≤ A 28 i ∧ A 28 i ≤ 1)
def xToldR (I : Nat → Int) (A : Nat → Int → Int) (w : Int) : Int := if w = 0 then I 9 else if w = 1 then I 10 else if w = 2 then I 11 else if w = 3 then I 12 else if w = 4 then I 0 else if w = 5 then A 17 0 else if w = 6 then xDueN A (I 12).toNat else if w = 7 then xGreen (A 11) (A 9) (I 10).toNat (I 9).toNat else if w = 8 then I 16 else if w = 9 then I 17 else if w = 10 then I 13 else -1000000002
def xWinR (I : Nat → Int) (A : Nat → Int → Int) (k : Int) : Int := if 0 ≤ k ∧ k ≤ 9999 then (if 0 < I 9 then A 9 (k % I 9) else -1000000003) else -1000000002
def xVil (A : Nat → Int → Int) (v w : Int) : Int := if w = 0 then A 10 v else if w = 1 then A 12 v else if w = 2 then A 17 (1 + v) else if w = 3 then iMx 0 (A 17 (1 + v) - A 17 (9 + v)) else if w = 4 then iMn (A 17 (5 + v)) 999999 else if w = 5 then A 17 (9 + v) else if w = 6 then A 11 v else -1000000002
def xVilR (I : Nat → Int) (A : Nat → Int → Int) (v w : Int) : Int := if 0 ≤ v ∧ v < I 10 then xVil A v w else -1000000001
def xPer (A : Nat → Int → Int) (v w : Int) : Int := if w = 0 then A 17 (13 + v) else if w = 1 then A 17 (19 + v) else if w = 2 then xAge A v else -1000000002
def xPerR (I : Nat → Int) (A : Nat → Int → Int) (v w : Int) : Int := if 0 ≤ v ∧ v < I 11 then xPer A v w else -1000000001
def xDeb (A : Nat → Int → Int) (v w : Int) : Int := if w = 0 then A 15 v else if w = 1 then A 17 (25 + v) else if w = 2 then xSince A v else if w = 3 then (if A 17 (25 + v) ≠ 0 ∧ xLack A v = 0 then 1 else 0) else -1000000002
def xDebR (I : Nat → Int) (A : Nat → Int → Int) (v w : Int) : Int := if 0 ≤ v ∧ v < I 12 then xDeb A v w else -1000000001
def xBar (I : Nat → Int) (A : Nat → Int → Int) (n : Int) : Int := if 1 ≤ n ∧ n ≤ 60 then (if 0 < I 9 then (if 9000 < A 17 0 then -1000000004 else 0) else -1000000003) else -1000000002
theorem xBar_r (I : Nat → Int) (A : Nat → Int → Int) (n : Int) : -2147483648 ≤ xBar I A n ∧ xBar I A n ≤ 2147483647 := by
  unfold xBar
  repeat' split
  all_goals omega
theorem xBar_0 {I : Nat → Int} {A : Nat → Int → Int} {n : Int} (h : xBar I A n = 0) : (1 ≤ n ∧ n ≤ 60) ∧ 0 < I 9 ∧ A 17 0 ≤ 9000 := by
  unfold xBar at h
  repeat' split at h
  all_goals omega
def xnI (I : Nat → Int) : Nat → Int := st1 (st1 I 14 ((I 14 + 1) % 20)) 13 (iMn 20 (I 13 + 1))
def xnA (I : Nat → Int) (A : Nat → Int → Int) : Nat → Int → Int := stA A 18 (cpI (A 17) (A 18) 0 (I 14 * 35) 35)
/-- a night, place by place -/
def le1 (a b : Int) : Int := if a ≤ b then 1 else 0
theorem le1_t {a b : Int} (h : a ≤ b) : le1 a b = 1 := if_pos h
theorem le1_f {a b : Int} (h : ¬ a ≤ b) : le1 a b = 0 := if_neg h
def eq1 (a b : Int) : Int := if a = b then 1 else 0
theorem eq1_t {a b : Int} (h : a = b) : eq1 a b = 1 := if_pos h
theorem eq1_f {a b : Int} (h : ¬ a = b) : eq1 a b = 0 := if_neg h
def xHm (F : Int → Int) (x v w : Int) : Int := if (0 ≤ w ∧ w < v) ∧ F w ≤ x then 1 else 0
theorem xHm_t {F : Int → Int} {x v w : Int} (h : 0 ≤ w ∧ w < v) (h2 : F w ≤ x) : xHm F x v w = 1 := if_pos ⟨h, h2⟩
theorem xHm_f {F : Int → Int} {x v w : Int} (h : ¬ ((0 ≤ w ∧ w < v) ∧ F w ≤ x)) : xHm F x v w = 0 := if_neg h
def xPs (F D : Int → Int) (np : Int) (x : Int) (f : Int → Int) (v : Int) : Int → Int := fun k =>
  if 1 ≤ k ∧ k < 1 + v then f k + le1 (F (k - 1)) x
  else if 5 ≤ k ∧ k < 5 + v then f k + iMx 0 (x - D (k - 5))
  else if 19 ≤ k ∧ k < 19 + np then f k + xHm F x v (f (k - 6))
  else f k
theorem xPs_a {F D f : Int → Int} {np x v k : Int} (h : 1 ≤ k ∧ k < 1 + v) : xPs F D np x f v k = f k + le1 (F (k - 1)) x := if_pos h
theorem xPs_b {F D f : Int → Int} {np x v k : Int} (h : 5 ≤ k ∧ k < 5 + v) (hv : v ≤ 4) : xPs F D np x f v k = f k + iMx 0 (x - D (k - 5)) := (if_neg (show ¬ (1 ≤ k ∧ k < 1 + v) by omega)).trans (if_pos h)
theorem xPs_c {F D f : Int → Int} {np x v k : Int} (h : 19 ≤ k ∧ k < 19 + np) (hv : v ≤ 4) : xPs F D np x f v k = f k + xHm F x v (f (k - 6)) := (if_neg (show ¬ (1 ≤ k ∧ k < 1 + v) by omega)).trans ((if_neg (show ¬ (5 ≤ k ∧ k < 5 + v) by omega)).trans (if_pos h))
theorem xPs_d {F D f : Int → Int} {np x v k : Int} (h1 : ¬ (1 ≤ k ∧ k < 1 + v)) (h2 : ¬ (5 ≤ k ∧ k < 5 + v)) (h3 : ¬ (19 ≤ k ∧ k < 19 + np)) : xPs F D np x f v k = f k := (if_neg h1).trans ((if_neg h2).trans (if_neg h3))
def sAf (v : Int) (f : Int → Int) (n : Int) : Int → Int := fun k => if 19 ≤ k ∧ k < 19 + n then f k + eq1 (f (k - 6)) v else f k
theorem sA_at {v : Int} {f : Int → Int} (n : Nat) (hn : n ≤ 6) : sA v f n = sAf v f n := by
  induction n with
  | zero => funext k; exact (if_neg (show ¬ (19 ≤ k ∧ k < 19 + ((0 : Nat) : Int)) by omega)).symm
  | succ n ih =>
    have ih := ih (by omega)
    have hlo := sA_lo (v := v) (f := f) (t := 13 + (n : Int)) n (by omega)
    funext k
    show (if sA v f n (13 + n) = v then up1 (sA v f n) (19 + n) (sA v f n (19 + n) + 1) else sA v f n) k = _
    rw [hlo, ih]
    have e9 : sAf v f n (19 + n) = f (19 + n) := if_neg (by omega)
    by_cases hk : k = 19 + n
    · subst hk
      have e : sAf v f ((n + 1 : Nat) : Int) (19 + n) = f (19 + n) + eq1 (f (13 + n)) v := by
        refine (if_pos (by omega)).trans ?_
        rw [show (19 + (n : Int) - 6) = 13 + n by omega]
      rw [e]
      by_cases h : f (13 + n) = v
      · rw [if_pos h, up1_s, eq1_t h, e9]
      · rw [if_neg h, eq1_f h, e9]; omega
    · have e : sAf v f ((n + 1 : Nat) : Int) k = sAf v f n k := by
        unfold sAf
        by_cases h2 : 19 ≤ k ∧ k < 19 + (n : Int)
        · rw [if_pos h2, if_pos (show 19 ≤ k ∧ k < 19 + ((n + 1 : Nat) : Int) by omega)]
        · rw [if_neg h2, if_neg (show ¬ (19 ≤ k ∧ k < 19 + ((n + 1 : Nat) : Int)) by omega)]
      rw [e]
      split
      · exact up1_n hk
      · rfl
theorem sN_at {F D f : Int → Int} {np x : Int} (hnp : 0 ≤ np ∧ np ≤ 6) (n : Nat) (hn : n ≤ 4) : sN F D np x f n = xPs F D np x f n := by
  induction n with
  | zero =>
    funext k
    show f k = _
    by_cases h3 : 19 ≤ k ∧ k < 19 + np
    · rw [xPs_c h3 (by omega), xHm_f (by omega)]; omega
    · rw [xPs_d (by omega) (by omega) h3]
  | succ n ih =>
    have ih := ih (by omega)
    show sV F D np x (sN F D np x f n) n = _
    rw [ih]
    have e5 : xPs F D np x f n (5 + n) = f (5 + n) := xPs_d (by omega) (by omega) (by omega)
    have e1 : xPs F D np x f n (1 + n) = f (1 + n) := xPs_d (by omega) (by omega) (by omega)
    have eh : ∀ k : Int, 19 ≤ k ∧ k < 19 + np → xPs F D np x f n (k - 6) = f (k - 6) := fun k hk => xPs_d (by omega) (by omega) (by omega)
    have ek : ∀ k : Int, ¬ k = 5 + n → ¬ k = 1 + n → ¬ (19 ≤ k ∧ k < 19 + np) → xPs F D np x f n k = xPs F D np x f ((n + 1 : Nat) : Int) k := fun k h1 h2 h3 => by
      by_cases h4 : 1 ≤ k ∧ k < 1 + (n : Int)
      · rw [xPs_a h4, xPs_a (by omega)]
      · by_cases h5 : 5 ≤ k ∧ k < 5 + (n : Int)
        · rw [xPs_b h5 (by omega), xPs_b (by omega) (by omega)]
        · rw [xPs_d h4 h5 h3, xPs_d (by omega) (by omega) h3]
    have z1 : xPs F D np x f ((n + 1 : Nat) : Int) (1 + n) = f (1 + n) + le1 (F n) x := by
      rw [xPs_a (by omega), show (1 + (n : Int) - 1) = n by omega]
    have z5 : xPs F D np x f ((n + 1 : Nat) : Int) (5 + n) = f (5 + n) + iMx 0 (x - D n) := by
      rw [xPs_b (by omega) (by omega), show (5 + (n : Int) - 5) = n by omega]
    unfold sV
    by_cases hF : F n ≤ x
    · rw [if_pos hF, sA_at _ (by omega)]
      funext k
      by_cases h3 : 19 ≤ k ∧ k < 19 + np
      · refine (if_pos (show 19 ≤ k ∧ k < 19 + (np.toNat : Int) by omega)).trans ?_
        rw [up1_n (by omega), up1_n (by omega), up1_n (by omega), up1_n (by omega), eh k h3, xPs_c h3 (by omega), xPs_c h3 (by omega)]
        by_cases h6 : f (k - 6) = n
        · rw [eq1_t h6, xHm_f (by omega), xHm_t (by omega) (by rw [h6]; exact hF)]; omega
        · rw [eq1_f h6]
          by_cases h7 : (0 ≤ f (k - 6) ∧ f (k - 6) < (n : Int)) ∧ F (f (k - 6)) ≤ x
          · rw [xHm_t h7.1 h7.2, xHm_t (by omega) h7.2]; omega
          · rw [xHm_f h7, xHm_f (fun h8 => h7 ⟨by omega, h8.2⟩)]; omega
      · refine (if_neg (show ¬ (19 ≤ k ∧ k < 19 + (np.toNat : Int)) by omega)).trans ?_
        by_cases h1 : k = 1 + n
        · subst h1
          rw [up1_s, up1_n (by omega), e1, z1, le1_t hF]
        · rw [up1_n h1]
          by_cases h2 : k = 5 + n
          · subst h2
            rw [up1_s, e5, z5]
          · rw [up1_n h2]
            exact ek k h2 h1 h3
    · rw [if_neg hF]
      funext k
      by_cases h2 : k = 5 + n
      · subst h2
        rw [up1_s, e5, z5]
      · rw [up1_n h2]
        by_cases h1 : k = 1 + n
        · subst h1
          rw [e1, z1, le1_f hF]; omega
        · by_cases h3 : 19 ≤ k ∧ k < 19 + np
          · rw [xPs_c h3 (by omega), xPs_c h3 (by omega)]
            by_cases h6 : f (k - 6) = n
            · rw [xHm_f (by omega), xHm_f (fun h => hF (by rw [← h6]; exact h.2))]
            · by_cases h7 : (0 ≤ f (k - 6) ∧ f (k - 6) < (n : Int)) ∧ F (f (k - 6)) ≤ x
              · rw [xHm_t h7.1 h7.2, xHm_t (by omega) h7.2]
              · rw [xHm_f h7, xHm_f (fun h8 => h7 ⟨by omega, h8.2⟩)]
          · exact ek k h2 h1 h3
theorem xSnow_at {F D f : Int → Int} {nv np x : Int} (hnv : 0 ≤ nv ∧ nv ≤ 4) (hnp : 0 ≤ np ∧ np ≤ 6) : xSnow F D nv np x f = up1 (xPs F D np x f nv) 0 (f 0 + 1) := by
  unfold xSnow
  rw [sN_at hnp nv.toNat (by omega), Int.toNat_of_nonneg hnv.1]
  rw [show xPs F D np x f nv 0 = f 0 from xPs_d (by omega) (by omega) (by omega)]
theorem xSnow_0 {F D f : Int → Int} {nv np x : Int} (hnv : 0 ≤ nv ∧ nv ≤ 4) (hnp : 0 ≤ np ∧ np ≤ 6) : xSnow F D nv np x f 0 = f 0 + 1 := by
  rw [xSnow_at hnv hnp, up1_s]
theorem xSnow_h {F D f : Int → Int} {nv np x t : Int} (hnv : 0 ≤ nv ∧ nv ≤ 4) (hnp : 0 ≤ np ∧ np ≤ 6) (ht : 9 ≤ t ∧ t < 19) : xSnow F D nv np x f t = f t := by
  rw [xSnow_at hnv hnp, up1_n (by omega), xPs_d (by omega) (by omega) (by omega)]
def xNgt (I : Nat → Int) (A : Nat → Int → Int) (n : Nat) : Int → Int := fld (fun g _ => xSnow (A 11) (A 10) (I 10) (I 11) (if 0 < I 9 then A 9 (g 0 % I 9) else 0) g) (A 17) n
theorem xNgt_s {I : Nat → Int} {A : Nat → Int → Int} {k : Int} (h : 0 ≤ k) : xNgt I A (k + 1).toNat = xSnow (A 11) (A 10) (I 10) (I 11) (if 0 < I 9 then A 9 (xNgt I A k.toNat 0 % I 9) else 0) (xNgt I A k.toNat) := fld_s (g := fun (g : Int → Int) _ => xSnow (A 11) (A 10) (I 10) (I 11) (if 0 < I 9 then A 9 (g 0 % I 9) else 0) g) h
theorem xNgt_k {I : Nat → Int} {A : Nat → Int → Int} (hnv : 0 ≤ I 10 ∧ I 10 ≤ 4) (hnp : 0 ≤ I 11 ∧ I 11 ≤ 6) (n : Nat) : xNgt I A n 0 = A 17 0 + n ∧ ∀ t, 13 ≤ t ∧ t < 19 → xNgt I A n t = A 17 t := by
  induction n with
  | zero => exact ⟨by show A 17 0 = A 17 0 + 0; omega, fun _ _ => rfl⟩
  | succ n ih =>
    have e : xNgt I A (n + 1) = xSnow (A 11) (A 10) (I 10) (I 11) (if 0 < I 9 then A 9 (xNgt I A n 0 % I 9) else 0) (xNgt I A n) := rfl
    rw [e]
    exact ⟨by rw [xSnow_0 hnv hnp, ih.1]; omega, fun t ht => by rw [xSnow_h hnv hnp (by omega)]; exact ih.2 t ht⟩
def xNightR (I : Nat → Int) (A : Nat → Int → Int) (n : Int) : Int := if xBar I A n = 0 then xNgt I A n.toNat 0 else xBar I A n
def xNightI (I : Nat → Int) (A : Nat → Int → Int) (n : Int) : Nat → Int := if xBar I A n = 0 then xnI I else I
def xNightA (I : Nat → Int) (A : Nat → Int → Int) (n : Int) : Nat → Int → Int := if xBar I A n = 0 then stA (xnA I A) 17 (xNgt I A n.toNat) else A
def xMoveR (I : Nat → Int) (A : Nat → Int → Int) (q v : Int) : Int := if (0 ≤ q ∧ q < I 11) ∧ (0 ≤ v ∧ v < I 10) then xAge (stA A 17 (up1 (A 17) (13 + q) v)) q else -1000000001
def xMoveI (I : Nat → Int) (q v : Int) : Nat → Int := if (0 ≤ q ∧ q < I 11) ∧ (0 ≤ v ∧ v < I 10) then xnI I else I
def xMoveA (I : Nat → Int) (A : Nat → Int → Int) (q v : Int) : Nat → Int → Int := if (0 ≤ q ∧ q < I 11) ∧ (0 ≤ v ∧ v < I 10) then stA (xnA I A) 17 (up1 (A 17) (13 + q) v) else A
def xSawF (A : Nat → Int → Int) (v k : Int) : Int → Int := up1 (A 17) (9 + v) (A 17 (9 + v) + k)
def xSawR (I : Nat → Int) (A : Nat → Int → Int) (v k : Int) : Int := if 0 ≤ v ∧ v < I 10 then (if 1 ≤ k ∧ k ≤ 99 then iMx 0 (xSawF A v k (1 + v) - xSawF A v k (9 + v)) else -1000000002) else -1000000001
def xSawI (I : Nat → Int) (v k : Int) : Nat → Int := if 0 ≤ v ∧ v < I 10 then (if 1 ≤ k ∧ k ≤ 99 then xnI I else I) else I
def xSawA (I : Nat → Int) (A : Nat → Int → Int) (v k : Int) : Nat → Int → Int := if 0 ≤ v ∧ v < I 10 then (if 1 ≤ k ∧ k ≤ 99 then stA (xnA I A) 17 (xSawF A v k) else A) else A
def xPayR (I : Nat → Int) (A : Nat → Int → Int) (d : Int) : Int := if 0 ≤ d ∧ d < I 12 then (if A 17 (25 + d) ≠ 0 ∧ xLack A d = 0 then xSince A d else -1000000003) else -1000000001
def xPayI (I : Nat → Int) (A : Nat → Int → Int) (d : Int) : Nat → Int := if 0 ≤ d ∧ d < I 12 then (if A 17 (25 + d) ≠ 0 ∧ xLack A d = 0 then xnI I else I) else I
def xPayA (I : Nat → Int) (A : Nat → Int → Int) (d : Int) : Nat → Int → Int := if 0 ≤ d ∧ d < I 12 then (if A 17 (25 + d) ≠ 0 ∧ xLack A d = 0 then stA (xnA I A) 17 (up1 (A 17) (25 + d) 0) else A) else A
def xLendF (A : Nat → Int → Int) (d x : Int) : Int → Int := up1 (up1 (A 17) (25 + d) x) (30 + d) (A 17 (5 + A 15 d))
def xLendR (I : Nat → Int) (A : Nat → Int → Int) (d x : Int) : Int := if 0 ≤ d ∧ d < I 12 then (if 1 ≤ x ∧ x ≤ 999 then (if A 17 (25 + d) = 0 then xOpen (stA A 17 (xLendF A d x)) (I 12).toNat else -1000000003) else -1000000002) else -1000000001
def xLendI (I : Nat → Int) (A : Nat → Int → Int) (d x : Int) : Nat → Int := if 0 ≤ d ∧ d < I 12 then (if 1 ≤ x ∧ x ≤ 999 then (if A 17 (25 + d) = 0 then xnI I else I) else I) else I
def xLendA (I : Nat → Int) (A : Nat → Int → Int) (d x : Int) : Nat → Int → Int := if 0 ≤ d ∧ d < I 12 then (if 1 ≤ x ∧ x ≤ 999 then (if A 17 (25 + d) = 0 then stA (xnA I A) 17 (xLendF A d x) else A) else A) else A
noncomputable def xDrS (F D : Int → Int) (nv np : Int) (c : Int × (Int → Int)) : Int × (Int → Int) :=
  if 0 < nv then (if mNx (mNx c.1) / 65536 % 4 = 0 then (mNx (mNx (mNx c.1)), up1 (xSnow F D nv np (mNx c.1 / 65536 % 41) c.2) (9 + mNx (mNx (mNx c.1)) / 65536 % nv) (xSnow F D nv np (mNx c.1 / 65536 % 41) c.2 (9 + mNx (mNx (mNx c.1)) / 65536 % nv) + 1)) else (mNx (mNx c.1), xSnow F D nv np (mNx c.1 / 65536 % 41) c.2)) else (mNx c.1, xSnow F D nv np (mNx c.1 / 65536 % 41) c.2)
noncomputable def xDr (F D : Int → Int) (nv np : Int) (s : Int) (f : Int → Int) (n : Nat) : Int × (Int → Int) := fld (fun c _ => xDrS F D nv np c) (s, f) n
theorem xDr_s {F D f : Int → Int} {nv np s k : Int} (h : 0 ≤ k) : xDr F D nv np s f (k + 1).toNat = xDrS F D nv np (xDr F D nv np s f k.toNat) := fld_s (g := fun c _ => xDrS F D nv np c) h
theorem xDrS_h {F D : Int → Int} {nv np t : Int} {c : Int × (Int → Int)} (hnv : 0 ≤ nv ∧ nv ≤ 4) (hnp : 0 ≤ np ∧ np ≤ 6) (ht : 13 ≤ t ∧ t < 19) : (xDrS F D nv np c).2 t = c.2 t := by
  have hx := mNx_r (mNx (mNx c.1))
  unfold xDrS
  split
  · have e1 := Int.emod_lt_of_pos (mNx (mNx (mNx c.1)) / 65536) (show 0 < nv by assumption)
    split
    · show up1 _ _ _ t = _
      rw [up1_n (by omega), xSnow_h hnv hnp (by omega)]
    · exact xSnow_h hnv hnp (by omega)
  · exact xSnow_h hnv hnp (by omega)
theorem xDr_h {F D f : Int → Int} {nv np s t : Int} (hnv : 0 ≤ nv ∧ nv ≤ 4) (hnp : 0 ≤ np ∧ np ≤ 6) (ht : 13 ≤ t ∧ t < 19) (n : Nat) : (xDr F D nv np s f n).2 t = f t := by
  induction n with
  | zero => rfl
  | succ n ih => exact (xDrS_h hnv hnp ht).trans ih
noncomputable def xDrf (I : Nat → Int) (A : Nat → Int → Int) (n : Nat) : Int × (Int → Int) := xDr (A 11) (A 10) (I 10) (I 11) (I 15) (A 17) n
noncomputable def xDriftR (I : Nat → Int) (A : Nat → Int → Int) (n : Int) : Int := if xBar I A n = 0 then (xDrf I A n.toNat).2 0 else xBar I A n
noncomputable def xDriftI (I : Nat → Int) (A : Nat → Int → Int) (n : Int) : Nat → Int := if xBar I A n = 0 then st1 (xnI I) 15 (xDrf I A n.toNat).1 else I
noncomputable def xDriftA (I : Nat → Int) (A : Nat → Int → Int) (n : Int) : Nat → Int → Int := if xBar I A n = 0 then stA (xnA I A) 17 (xDrf I A n.toNat).2 else A
def xUndoI (I : Nat → Int) : Nat → Int := if I 13 = 0 then I else st1 (st1 I 14 ((I 14 + 20 - 1) % 20)) 13 (I 13 - 1)
def xUndoA (I : Nat → Int) (A : Nat → Int → Int) : Nat → Int → Int := if I 13 = 0 then A else stA A 17 (fun k => A 18 ((I 14 + 20 - 1) % 20 * 35 + k))
def xDueR (I : Nat → Int) (A : Nat → Int → Int) (d : Int) : Int := if 0 ≤ d ∧ d < I 12 then (if A 17 (25 + d) = 0 then -1000000003 else xTil A (I 9) (A 15 d) (xLack A d) 0 201) else -1000000001
def xAgB (I : Nat → Int) (A : Nat → Int → Int) (q n m : Int) : Int := xYr A (xFls A (I 9) m (A 17 (13 + q)) (A 17 (19 + q)) n.toNat) (A 17 (13 + q))
def xOldR (I : Nat → Int) (A : Nat → Int → Int) (q n : Int) : Int := if 0 ≤ q ∧ q < I 11 then (if 0 ≤ n ∧ n ≤ 200 then xAgB I A q n 0 else -1000000002) else -1000000001
def xFeaR (I : Nat → Int) (A : Nat → Int → Int) (v u : Int) : Int := if (0 ≤ v ∧ v < I 10) ∧ (0 ≤ u ∧ u < I 10) ∧ v ≠ u then xFea A (I 9) v u 0 201 else -1000000001
def xMildR (I : Nat → Int) (A : Nat → Int → Int) (q m n : Int) : Int := if 0 ≤ q ∧ q < I 11 then (if (0 ≤ m ∧ m ≤ 40) ∧ (0 ≤ n ∧ n ≤ 200) then xAgB I A q n 0 - xAgB I A q n m else -1000000002) else -1000000001
def xMilDR (I : Nat → Int) (A : Nat → Int → Int) (m n : Int) : Int := if (0 ≤ m ∧ m ≤ 40) ∧ (0 ≤ n ∧ n ≤ 200) then iAnd (xDbN A (I 9) n 0 (I 12).toNat) (iXor (xDbN A (I 9) n m (I 12).toNat) (-1)) else -1000000002
def xOlderR (I : Nat → Int) (A : Nat → Int → Int) (q v : Int) : Int := if (0 ≤ q ∧ q < I 11) ∧ (0 ≤ v ∧ v < I 10) then xYr A (A 17 (19 + q)) v - xAge A q + 1000 else -1000000001
def xChaR (I : Nat → Int) (A : Nat → Int → Int) (d n : Int) : Int := if 0 ≤ d ∧ d < I 12 then (if 0 ≤ n ∧ n ≤ 30 then (if A 17 (25 + d) = 0 then -1000000003 else xCha (A 9) (A 10 (A 15 d)) (I 9) (xLack A d) n.toNat 0) else -1000000002) else -1000000001
def xLongR (I : Nat → Int) (A : Nat → Int → Int) (v : Int) : Int := if 0 ≤ v ∧ v < I 10 then (xLng A (I 9) v 100).1 else -1000000001
def xSayR (I : Nat → Int) (q x : Int) : Int := if 0 ≤ q ∧ q < I 11 then (if 0 ≤ x ∧ x ≤ 9999 then (if I 16 < 6 then I 16 + 1 else -1000000004) else -1000000002) else -1000000001
def xSayI (I : Nat → Int) (q x : Int) : Nat → Int := if 0 ≤ q ∧ q < I 11 then (if 0 ≤ x ∧ x ≤ 9999 then (if I 16 < 6 then st1 I 16 (I 16 + 1) else I) else I) else I
def xSayA (I : Nat → Int) (A : Nat → Int → Int) (q x : Int) : Nat → Int → Int := if 0 ≤ q ∧ q < I 11 then (if 0 ≤ x ∧ x ≤ 9999 then (if I 16 < 6 then st2 (st2 A 22 (I 16) q) 23 (I 16) x else A) else A) else A
def xWrR (I : Nat → Int) (q x : Int) : Int := if 0 ≤ q ∧ q < I 10 then (if 0 ≤ x ∧ x ≤ 9999 then (if I 17 < 15 then I 17 + 1 else -1000000004) else -1000000002) else -1000000001
def xWrI (I : Nat → Int) (q x : Int) : Nat → Int := if 0 ≤ q ∧ q < I 10 then (if 0 ≤ x ∧ x ≤ 9999 then (if I 17 < 15 then st1 I 17 (I 17 + 1) else I) else I) else I
def xWrA (I : Nat → Int) (A : Nat → Int → Int) (q x : Int) : Nat → Int → Int := if 0 ≤ q ∧ q < I 10 then (if 0 ≤ x ∧ x ≤ 9999 then (if I 17 < 15 then st2 (st2 A 26 (I 17) q) 27 (I 17) x else A) else A) else A
def xSawnR (I : Nat → Int) (A : Nat → Int → Int) (i : Int) : Int := if i = -1 then (xLays A (I 16) (I 10 * 10).toNat).1 else if 0 ≤ i ∧ i < (xLays A (I 16) (I 10 * 10).toNat).1 then (xLays A (I 16) (I 10 * 10).toNat).2 i else -1
def xKeepA (I : Nat → Int) (A : Nat → Int → Int) (i : Int) : Nat → Int → Int := if 0 ≤ i ∧ i < 2 then st2 (st2 (stA A 20 (cpI (A 17) (A 20) 0 (i * 35) 35)) 19 i (I 15)) 28 i 1 else A
def xBackI (I : Nat → Int) (A : Nat → Int → Int) (i : Int) : Nat → Int := if 0 ≤ i ∧ i < 2 then (if A 28 i = 0 then I else st1 (st1 (st1 I 15 (A 19 i)) 13 0) 14 0) else I
def xBackA (A : Nat → Int → Int) (i : Int) : Nat → Int → Int := if 0 ≤ i ∧ i < 2 then (if A 28 i = 0 then A else stA A 17 (fun k => A 20 (i * 35 + k))) else A
/-- a text read -/
def xU (I : Nat → Int) (A : Nat → Int → Int) : CS := cRead (A 0) (I 0) A
def xRdI (I : Nat → Int) (u : CS) : Nat → Int := jX (st1 (st1 I 0 0) 3 (I 0)) u.1.1 u.1.2.1 u.1.2.2 u.2.1 u.2.2.1 u.2.2.2.1 u.2.2.2.2.1
def xValR (I : Nat → Int) (A : Nat → Int → Int) : Int := if (xU I A).1.2.1 = 0 then (xU I A).2.2.1 else -10 - (xU I A).1.2.1
def xNewI (I : Nat → Int) (u : CS) : Nat → Int := st1 (st1 (st1 (st1 (xBecI (xRdI I u)) 13 0) 14 0) 16 0) 17 0
def xNewA (u : CS) : Nat → Int → Int := st2 (st2 (stA (xBecA u.2.2.2.2.2) 17 (xBeg (u.2.2.2.2.2 5) (u.2.2.2.2.2 6) (u.2.2.2.2.2 8) u.2.2.2.1.toNat u.2.2.2.2.1.toNat)) 28 0 0) 28 1 0
def xValI (I : Nat → Int) (A : Nat → Int → Int) : Nat → Int := if (xU I A).1.2.1 = 0 then xNewI I (xU I A) else xRdI I (xU I A)
def xValA (I : Nat → Int) (A : Nat → Int → Int) : Nat → Int → Int := if (xU I A).1.2.1 = 0 then xNewA (xU I A) else (xU I A).2.2.2.2.2
theorem x4_read (l : Launch) (E : Ev) (I : Nat → Int) (A : Nat → Int → Int) (L : Nat → Int64) (q : Int) (hq : 0 ≤ q ∧ q ≤ 240) (hl0 : ∀ k, 0 ≤ A 0 k ∧ A 0 k ≤ 255) : MetF l yX4_read wsX4_read ({ frames := 5, cells := 0, slots := 0, locals := 115 } : Room) E [.ref (eO E 1), .int (iI q)] (xW E I A L) (xW E (jX (st1 I 3 q) (cRead (A 0) q A).1.1 (cRead (A 0) q A).1.2.1 (cRead (A 0) q A).1.2.2 (cRead (A 0) q A).2.1 (cRead (A 0) q A).2.2.1 (cRead (A 0) q A).2.2.2.1 (cRead (A 0) q A).2.2.2.2.1) (cRead (A 0) q A).2.2.2.2.2 L) (cRead (A 0) q A).1.2.1 := by
  have h := y_read l E I A L (I 1) (I 2) (I 4) (I 5) (I 6) (I 7) (I 8) q (by omega) hl0
  have e : iMx 0 (iMn q 240) = q := by
    have h1 := iMx_r 0 (iMn q 240)
    have h2 := iMn_r q 240
    omega
  rw [e] at h
  exact h
