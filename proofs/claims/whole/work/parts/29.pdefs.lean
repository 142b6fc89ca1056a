/-! THE READER: T the letters, n their number; a place and a fault (0: none) -/
def sk (T : Int → Int) : Nat → Int → Int
  | 0, a => a
  | m + 1, a => if T a = 32 then sk T m (a + 1) else a
def pSk (T : Int → Int) (n a : Int) : Int := sk T (n - a).toNat a
theorem pSk_t {T : Int → Int} {n a : Int} (h : a < n) (h2 : T a = 32) : pSk T n a = pSk T n (a + 1) := by
  unfold pSk
  rw [show (n - a).toNat = (n - (a + 1)).toNat + 1 by omega]
  show (if T a = 32 then _ else _) = _
  rw [if_pos h2]
theorem pSk_f {T : Int → Int} {n a : Int} (h : ¬ (a < n ∧ T a = 32)) : pSk T n a = a := by
  unfold pSk
  by_cases h1 : a < n
  · rw [show (n - a).toNat = (n - (a + 1)).toNat + 1 by omega]
    show (if T a = 32 then _ else _) = _
    rw [if_neg (fun h2 => h ⟨h1, h2⟩)]
  · rw [show (n - a).toNat = 0 by omega]
    rfl
theorem sk_r {T : Int → Int} (m : Nat) : ∀ a : Int, a ≤ sk T m a ∧ sk T m a ≤ a + m := by
  induction m with
  | zero => intro a; exact ⟨Int.le_refl _, by show a ≤ a + 0; omega⟩
  | succ m ih =>
    intro a
    show a ≤ (if T a = 32 then sk T m (a + 1) else a) ∧ (if T a = 32 then sk T m (a + 1) else a) ≤ a + ((m + 1 : Nat) : Int)
    have := ih (a + 1)
    split <;> omega
theorem pSk_r {T : Int → Int} {n a : Int} : a ≤ pSk T n a ∧ (pSk T n a ≤ n ∨ pSk T n a = a) := by
  have h := sk_r (T := T) (n - a).toNat a
  by_cases h1 : a < n
  · refine ⟨h.1, Or.inl ?_⟩
    unfold pSk
    omega
  · exact ⟨h.1, Or.inr (pSk_f (by omega))⟩
theorem sk_no {T : Int → Int} (m : Nat) : ∀ a : Int, sk T m a < a + m → T (sk T m a) ≠ 32 := by
  induction m with
  | zero => intro a h; exact absurd h (by show ¬ a < a + 0; omega)
  | succ m ih =>
    intro a h
    by_cases h1 : T a = 32
    · have e : sk T (m + 1) a = sk T m (a + 1) := if_pos h1
      rw [e] at h ⊢
      exact ih (a + 1) (by omega)
    · have e : sk T (m + 1) a = a := if_neg h1
      rw [e]
      exact h1
theorem pSk_no {T : Int → Int} {n a : Int} (h : pSk T n a < n) : T (pSk T n a) ≠ 32 := by
  have h0 := pSk_r (T := T) (n := n) (a := a)
  exact sk_no (T := T) (n - a).toNat a (by unfold pSk at h h0; omega)
theorem pSk_2 {T : Int → Int} {n a : Int} : pSk T n (pSk T n a) = pSk T n a := pSk_f (fun h => pSk_no h.1 h.2)
def pLook (T : Int → Int) (n a : Int) : Int := if a < n then T a else -1
def pSkW (T : Int → Int) (n a w : Int) : Int := if w = 0 then pSk T n a else a
def rn (T : Int → Int) (f : Int) : Nat → Int → Int → Int × Int
  | 0, a, v => (a, v)
  | m + 1, a, v => if 48 ≤ T a ∧ T a ≤ 57 then rn T f m (a + 1) (if a - f < 3 then 10 * v + T a - 48 else v) else (a, v)
def pRun (T : Int → Int) (n f a v : Int) : Int × Int := rn T f (n - a).toNat a v
theorem pRun_t {T : Int → Int} {n f a v : Int} (h : a < n) (h2 : 48 ≤ T a ∧ T a ≤ 57) : pRun T n f a v = pRun T n f (a + 1) (if a - f < 3 then 10 * v + T a - 48 else v) := by
  unfold pRun
  rw [show (n - a).toNat = (n - (a + 1)).toNat + 1 by omega]
  show (if 48 ≤ T a ∧ T a ≤ 57 then _ else _) = _
  rw [if_pos h2]
theorem pRun_f {T : Int → Int} {n f a v : Int} (h : ¬ (a < n ∧ 48 ≤ T a ∧ T a ≤ 57)) : pRun T n f a v = (a, v) := by
  unfold pRun
  by_cases h1 : a < n
  · rw [show (n - a).toNat = (n - (a + 1)).toNat + 1 by omega]
    show (if 48 ≤ T a ∧ T a ≤ 57 then _ else _) = _
    rw [if_neg (fun h2 => h ⟨h1, h2⟩)]
  · rw [show (n - a).toNat = 0 by omega]
    rfl
def pIn (T : Int → Int) (n a : Int) : Prop := 48 ≤ pLook T n a ∧ pLook T n a ≤ 57
theorem pIn_i {T : Int → Int} {n a : Int} : pIn T n a ↔ (a < n ∧ 48 ≤ T a ∧ T a ≤ 57) := by
  unfold pIn pLook
  split <;> omega
/-- a number: its value, the place and the fault behind it -/
def pNumV (T : Int → Int) (n a w : Int) : Int := if w = 0 then (if 48 ≤ pLook T n (pSk T n a) ∧ pLook T n (pSk T n a) ≤ 57 then (pRun T n (pSk T n a) (pSk T n a) 0).2 else 0) else 0
def pNumA (T : Int → Int) (n lo hi a w : Int) : Int := if w = 0 then (if 48 ≤ pLook T n (pSk T n a) ∧ pLook T n (pSk T n a) ≤ 57 then (if (pRun T n (pSk T n a) (pSk T n a) 0).1 - pSk T n a ≤ 3 ∧ lo ≤ (pRun T n (pSk T n a) (pSk T n a) 0).2 ∧ (pRun T n (pSk T n a) (pSk T n a) 0).2 ≤ hi then (pRun T n (pSk T n a) (pSk T n a) 0).1 else pSk T n a) else pSk T n a) else a
def pNumW (T : Int → Int) (n lo hi a w : Int) : Int := if w = 0 then (if 48 ≤ pLook T n (pSk T n a) ∧ pLook T n (pSk T n a) ≤ 57 then (if (pRun T n (pSk T n a) (pSk T n a) 0).1 - pSk T n a ≤ 3 ∧ lo ≤ (pRun T n (pSk T n a) (pSk T n a) 0).2 ∧ (pRun T n (pSk T n a) (pSk T n a) 0).2 ≤ hi then 0 else 2) else 1) else w
def pWordA (T : Int → Int) (n c a w : Int) : Int := if w = 0 then (if pLook T n (pSk T n a) = c then pSk T n a + 1 else pSk T n a) else a
def pWordW (T : Int → Int) (n c a w : Int) : Int := if w = 0 then (if pLook T n (pSk T n a) = c then 0 else 1) else w
def pFail (k w : Int) : Int := if w = 0 then k else w
theorem rn_r {T : Int → Int} {f : Int} (m : Nat) : ∀ a v : Int, a ≤ (rn T f m a v).1 ∧ (rn T f m a v).1 ≤ a + m := by
  induction m with
  | zero => intro a v; exact ⟨Int.le_refl _, by show a ≤ a + 0; omega⟩
  | succ m ih =>
    intro a v
    show a ≤ (if 48 ≤ T a ∧ T a ≤ 57 then rn T f m (a + 1) (if a - f < 3 then 10 * v + T a - 48 else v) else (a, v)).1 ∧ (if 48 ≤ T a ∧ T a ≤ 57 then rn T f m (a + 1) (if a - f < 3 then 10 * v + T a - 48 else v) else (a, v)).1 ≤ a + ((m + 1 : Nat) : Int)
    split
    · have := ih (a + 1) (if a - f < 3 then 10 * v + T a - 48 else v)
      omega
    · exact ⟨Int.le_refl _, by show a ≤ _; omega⟩
theorem pRun_r {T : Int → Int} {n f a v : Int} (h : a ≤ n) : a ≤ (pRun T n f a v).1 ∧ (pRun T n f a v).1 ≤ n := by
  have h1 := rn_r (T := T) (f := f) (n - a).toNat a v
  unfold pRun
  omega
/-- the bound of a value of k figures at most -/
def p10 (k : Int) : Int := if k ≤ 0 then 0 else if k = 1 then 9 else if k = 2 then 99 else 999
theorem rn_v {T : Int → Int} {f : Int} (m : Nat) : ∀ a v : Int, f ≤ a → 0 ≤ v ∧ v ≤ p10 (a - f) → 0 ≤ (rn T f m a v).2 ∧ (rn T f m a v).2 ≤ 999 := by
  induction m with
  | zero =>
    intro a v h h2
    show 0 ≤ v ∧ v ≤ 999
    unfold p10 at h2
    repeat' split at h2
    all_goals omega
  | succ m ih =>
    intro a v h h2
    show 0 ≤ (if 48 ≤ T a ∧ T a ≤ 57 then rn T f m (a + 1) (if a - f < 3 then 10 * v + T a - 48 else v) else (a, v)).2 ∧ (if 48 ≤ T a ∧ T a ≤ 57 then rn T f m (a + 1) (if a - f < 3 then 10 * v + T a - 48 else v) else (a, v)).2 ≤ 999
    split
    · refine ih (a + 1) _ (by omega) ?_
      unfold p10 at h2 ⊢
      repeat' split at h2
      all_goals repeat' split
      all_goals omega
    · show 0 ≤ v ∧ v ≤ 999
      unfold p10 at h2
      repeat' split at h2
      all_goals omega
theorem pRun_v {T : Int → Int} {n f : Int} : 0 ≤ (pRun T n f f 0).2 ∧ (pRun T n f f 0).2 ≤ 999 := rn_v _ f 0 (Int.le_refl _) (by unfold p10; rw [if_pos (by omega)]; omega)
/-- the reader's place and fault among the reference's numbers -/
def jI (I : Nat → Int) (a w : Int) : Nat → Int := st1 (st1 I 6 a) 7 w
theorem pLook_r {T : Int → Int} {n a : Int} (h : ∀ k, 0 ≤ T k ∧ T k ≤ 255) : -1 ≤ pLook T n a ∧ pLook T n a ≤ 255 := by
  have := h a
  unfold pLook
  split <;> omega
theorem pSk_240 {T : Int → Int} {n a : Int} (ha : 0 ≤ a ∧ a ≤ 240) (hn : n ≤ 240) : 0 ≤ pSk T n a ∧ pSk T n a ≤ 240 := by
  have := pSk_r (T := T) (n := n) (a := a)
  omega
section MJ
variable {p : Program} {l : Launch} {e : Env} {R : Room} {s : State} {m : MethodId} {args : Array Value} {below : List Frame} {meth : Method} {c : Code} {H : Heap} {locs : List Loc} {cells slots : Nat} {Q : State → Prop}
variable {cc : ByteArray} {nL : Nat} {Ts : List Cond} {own : String} {pc : Nat} {ls : Array Slot} {rest : List Value}
variable {E : Ev} {A0 : Nat → Prop} {H0 : Heap} {I I2 : Nat → Int} {A : Nat → Int → Int}
theorem m_putJ (F : CallFix p m c cc nL s args Ts RX10) (hin : ∀ w ∈ wsX100, w ∈ Ts) (hw : gH E A0 H0 s (mW E I A) H locs) (k : Nat) (hk : k < 30) {index : Nat} (hlk : Cond.fieldLink RX10 index "SnowDaysModel" (TX10 k).2.1 (TX10 k).2.2.1 ∈ Ts) (hfin : (TX10 k).2.2.2 = false) (hd : parseFieldDescriptor (TX10 k).2.2.1 = some .int) {v : Int} (hset : (mF E I).set k (.int (iI v)) = mF E I2) (hdg : decode cc pc = .ok (.putfield index, 3))
    (kk : ∀ (H1 : Heap) (locs1 : List Loc), gH E A0 H0 s (mW E I2 A) H1 locs1 → W p l e R s m args below meth c H1 locs1 cells slots Q (F0 m (pc + 3) ls rest)) : W p l e R s m args below meth c H locs cells slots Q (F0 m pc ls (.int (iI v) :: .ref (eO E 0) :: rest)) := by
  refine va_put (D := eD E) (ci := 10) (ty := .int) (C := RX10) (T := TX10) (N := 30) F.1 F.2.1 F.2.2.2.2 hin tyX10 tyX10_ok nmX10 F.2.2.2.1 hw.2.2.2.1.1 hw.1 hw.2.1 hw.2.2.1 0 (gw_obj rfl) rfl k hk (F.2.2.2.2 _ hlk) (fun x h => by rw [TX10_1] at h; exact h) hfin hd rfl rfl (Nat.lt_of_lt_of_le hk (Nat.le_of_ble_eq_true rfl)) hdg (fun H1 locs1 hP hD hS => kk H1 locs1 ?_)
  have hs : (mW E I A).set 0 (eO E 0, Sum.inr (10, mF E I2)) = mW E I2 A := gw_setO Nat.zero_lt_one rfl
  rw [hset, hs] at hP hD
  exact ⟨hP, hD, hS, hw.2.2.2⟩
end MJ
