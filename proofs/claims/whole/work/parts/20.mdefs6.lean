theorem mNx_ex : ∃ g : Int → Int, ∀ s, g s = (s * 1103515245 + 12345) % 2147483648 := ⟨fun s => (s * 1103515245 + 12345) % 2147483648, fun _ => rfl⟩
noncomputable def mNx : Int → Int := Classical.choose mNx_ex
theorem mNx_eq (s : Int) : mNx s = (s * 1103515245 + 12345) % 2147483648 := Classical.choose_spec mNx_ex s
theorem mNx_r (s : Int) : 0 ≤ mNx s ∧ mNx s ≤ 2147483647 := by
  rw [mNx_eq]
  omega
theorem iI_and31 (x : Int) : iI x &&& 2147483647 = iI (x % 2147483648) := by
  rw [pk_and (iI x) (m := 2147483647) 31 (by decide)]
  have h1 : (iI x).toBitVec.toNat = (x % 4294967296).toNat := by
    show (BitVec.ofInt 32 x).toNat = _
    rw [BitVec.toNat_ofInt]
    rfl
  rw [h1]
  unfold nI
  rw [← Int32.ofInt_eq_ofNat]
  unfold iI
  congr 1
  omega
theorem draw_L (s : Int) : (((iI s).toInt64 * 1103515245 + 12345) &&& 2147483647).toInt32 = iI (mNx s) := by
  rw [Int64.toInt32_and, Int64.toInt32_add, Int64.toInt32_mul, Int32.toInt32_toInt64]
  show (iI s * iI 1103515245 + iI 12345) &&& 2147483647 = _
  rw [← iI_mul, ← iI_add, iI_and31, mNx_eq]
/-- a division of the machine -/
def iDv (x y : Int) : Int := (iI x / iI y).toInt
theorem iDv_r (x y : Int) : -2147483648 ≤ iDv x y ∧ iDv x y ≤ 2147483647 := iI_r _
theorem bi_idivX {p : Program} {l : Launch} {e : Env} {R : Room} {s : State} {m : MethodId} {args : Array Value} {below : List Frame} {meth : Method} {c : Code} {H : Heap} {locs : List Loc} {cells slots : Nat} {Q : State → Prop} {cc : ByteArray} {nL : Nat} {Ts : List Cond} {own : String} {pc : Nat} {ls : Array Slot} {rest : List Value} (F : CallFix p m c cc nL s args Ts own) {x y : Int} (hdg : decode cc pc = .ok (.idiv, 1)) (h : (-2147483648 ≤ y ∧ y ≤ 2147483647) ∧ y ≠ 0)
    (k : W p l e R s m args below meth c H locs cells slots Q (F0 m (pc + 1) ls (.int (iI (iDv x y)) :: rest))) : W p l e R s m args below meth c H locs cells slots Q (F0 m pc ls (.int (iI y) :: .int (iI x) :: rest)) := by
  unfold iDv at k
  rw [iI_of] at k
  exact lv_idiv F.1 F.2.1 hdg (iI_ne0 h.1 h.2) k
def mTB (A : Nat → Int → Int) (q w : Int) : Int :=
  (A 4 (2 * q + 1) + (if A 11 (1 + 3 * A 11 (13 + 2 * q)) - (if A 11 (13 + 2 * q) = w / 10 then w % 10 else A 11 (1 + 3 * A 11 (13 + 2 * q) + 1)) < 0 then 0 else A 11 (1 + 3 * A 11 (13 + 2 * q)) - (if A 11 (13 + 2 * q) = w / 10 then w % 10 else A 11 (1 + 3 * A 11 (13 + 2 * q) + 1)))) / A 3 (5 * A 11 (13 + 2 * q) + 4)
def mFit (A : Nat → Int → Int) (w : Int) (n : Nat) : Int := fld (fun b k => if b = 0 then 0 else if mTB A (A 16 (2 * k)) w = A 16 (2 * k + 1) then 1 else 0) 1 n
def mLays (A : Nat → Int → Int) (ages : Int) (n : Nat) : Int × (Int → Int) := fld (fun c w => if mFit A w ages.toNat = 0 then c else (c.1 + 1, up1 c.2 c.1 w)) (0, A 20) n
def mSawnR (I : Nat → Int) (A : Nat → Int → Int) (i : Int) : Int := if i = -1 then (mLays A (I 4) (10 * A 1 1).toNat).1 else if 0 ≤ i ∧ i ≤ (mLays A (I 4) (10 * A 1 1).toNat).1 - 1 then (mLays A (I 4) (10 * A 1 1).toNat).2 i else -1
def mAlike (A : Nat → Int → Int) (g : Int → Int) (q k : Int) (n : Nat) : Int := fld (fun a j => a + if mTB A q (g j) = mTB A q (g k) then 1 else 0) 0 n
def mMost (A : Nat → Int → Int) (g : Int → Int) (c q : Int) (n : Nat) : Int := fld (fun mo k => if mo < mAlike A g q k c.toNat then mAlike A g q k c.toNat else mo) 0 n
def mAsk (A : Nat → Int → Int) (g : Int → Int) (c : Int) (n : Nat) : Int × Int := fld (fun b q => if mMost A g c q c.toNat < b.2 then (q, mMost A g c q c.toNat) else b) (-1, c) n
def mAskR (I : Nat → Int) (A : Nat → Int → Int) : Int := (mAsk A (mLays A (I 4) (10 * A 1 1).toNat).2 (mLays A (I 4) (10 * A 1 1).toNat).1 (A 1 2).toNat).1
def mAt (A : Nat → Int → Int) (n : Int) : Int := A 2 ((A 11 0 + n) % A 1 0)
def mAlk (A : Nat → Int → Int) (v u : Int) (n : Nat) : Int := fld (fun b k => if b = 0 then 0 else if mFallI (A 3) (mAt A k) v = mFallI (A 3) (mAt A k) u then 1 else 0) 1 n
def mNew (A : Nat → Int → Int) (v : Int) (n : Nat) : Int := fld (fun b u => if b = 0 then 0 else 1 - mAlk A v u 40) 1 n
def mPoles (A : Nat → Int → Int) (n : Nat) : Int := fld (fun a v => a + mNew A v v.toNat) 0 n
def mLong (A : Nat → Int → Int) (v : Int) (n : Nat) : Int × Int := fld (fun b k => (if b.1 < (if mFallI (A 3) (mAt A k) v = 0 then b.2 + 1 else 0) then (if mFallI (A 3) (mAt A k) v = 0 then b.2 + 1 else 0) else b.1, if mFallI (A 3) (mAt A k) v = 0 then b.2 + 1 else 0)) (0, 0) n
def mLongR (A : Nat → Int → Int) (v : Int) : Int := if 0 ≤ v ∧ v < A 1 1 then (mLong A v 100).1 else -1000000001
theorem mAlk_b {A : Nat → Int → Int} {v u : Int} (n : Nat) : 0 ≤ mAlk A v u n ∧ mAlk A v u n ≤ 1 := by
  cases n with
  | zero =>
    show (0 : Int) ≤ 1 ∧ (1 : Int) ≤ 1
    omega
  | succ n =>
    show 0 ≤ (if mAlk A v u n = 0 then (0 : Int) else if mFallI (A 3) (mAt A n) v = mFallI (A 3) (mAt A n) u then 1 else 0) ∧ (if mAlk A v u n = 0 then (0 : Int) else if mFallI (A 3) (mAt A n) v = mFallI (A 3) (mAt A n) u then 1 else 0) ≤ 1
    repeat' split
    all_goals omega
theorem mNew_b {A : Nat → Int → Int} {v : Int} (n : Nat) : 0 ≤ mNew A v n ∧ mNew A v n ≤ 1 := by
  cases n with
  | zero =>
    show (0 : Int) ≤ 1 ∧ (1 : Int) ≤ 1
    omega
  | succ n =>
    have := mAlk_b (A := A) (v := v) (u := (n : Int)) 40
    show 0 ≤ (if mNew A v n = 0 then (0 : Int) else 1 - mAlk A v n 40) ∧ (if mNew A v n = 0 then (0 : Int) else 1 - mAlk A v n 40) ≤ 1
    split <;> omega
