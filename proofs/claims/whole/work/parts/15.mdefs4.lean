theorem mIn_r {Wn : Int → Int} {n l m : Int} (h : ∀ k, 0 ≤ Wn k ∧ Wn k ≤ 40) (hm : 0 ≤ m) : 0 ≤ mIn Wn n l m ∧ mIn Wn n l m ≤ 40 := by
  have h1 := h (n % l)
  unfold mIn
  split <;> omega
/-- so many nights of the winter, milder by m -/
def mGo (V Wn : Int → Int) (l nv np m : Int) (f : Int → Int) (n : Nat) : Int → Int := fld (fun g _ => mPass V g (mIn Wn (g 0) l m) nv np) f n
theorem mGo_s {V Wn f : Int → Int} {l nv np m k : Int} (h : 0 ≤ k) : mGo V Wn l nv np m f (k + 1).toNat = mPass V (mGo V Wn l nv np m f k.toNat) (mIn Wn (mGo V Wn l nv np m f k.toNat 0) l m) nv np := fld_s (g := fun g _ => mPass V g (mIn Wn (g 0) l m) nv np) h
theorem rOk_go {V Wn f : Int → Int} {l nv np m B : Int} (n : Nat) (h4 : nv ≤ 4) (hV : ∀ k, 0 ≤ V k ∧ V k ≤ 40) (hW : ∀ k, 0 ≤ Wn k ∧ Wn k ≤ 40) (hm : 0 ≤ m) (hB : B + 40 * n ≤ 900000) (h : rOk nv np f B) : rOk nv np (mGo V Wn l nv np m f n) (B + 40 * n) := by
  induction n with
  | zero => exact rOk_w h (by omega)
  | succ n ih =>
    have h1 := ih (by omega)
    have h2 := rOk_pass (x := mIn Wn (mGo V Wn l nv np m f n 0) l m) h4 hV (mIn_r hW hm) (by omega) h1
    exact rOk_w h2 (by omega)
def ndI (I : Nat → Int) : Nat → Int := st1 I 2 (if I 2 = 20 then 20 else I 2 + 1)
def ndA (I : Nat → Int) (A : Nat → Int → Int) : Nat → Int → Int := stA A 13 (mNote (A 13) (A 11) (I 2))
def mNgt (A : Nat → Int → Int) (n : Int) : Int → Int := mGo (A 3) (A 2) (A 1 0) (A 1 1) (A 1 2) 0 (A 11) n.toNat
def mTry (A : Nat → Int → Int) (m n : Int) : Int → Int := mGo (A 3) (A 2) (A 1 0) (A 1 1) (A 1 2) m (A 11) n.toNat
theorem vp_ext {cA : ClassId} {n : Nat} {f g : Nat → Int32} (h : ∀ k, k < n → f k = g k) : vp_cell cA (n, Sum.inl f) = vp_cell cA (n, Sum.inl g) := by
  rw [vp_cell_i, vp_cell_i]
  unfold arrV
  congr 2
  funext j
  show Value.int (f j.val) = Value.int (g j.val)
  rw [h j.val j.isLt]
/-- places outside an array don't matter -/
theorem m_norm {E : Ev} {A0 : Nat → Prop} {H0 H : Heap} {s : State} {locs : List Loc} {I : Nat → Int} {A : Nat → Int → Int} (hw : gH E A0 H0 s (mW E I A) H locs) (j n : Nat) (hj : j < 21) (hn : mLen j = n) (g : Int → Int) (hg : ∀ k : Int, 0 ≤ k ∧ k < (n : Int) → A j k = g k) : gH E A0 H0 s (mW E I (stA A j g)) H locs := by
  subst hn
  have hpos : (mW E I A)[1 + j]? = some (eA E j, Sum.inl (eI E, mLen j, Sum.inl (fun k : Nat => iI (A j (k : Int))))) := gw_arr hj rfl
  have he : mW E I (stA A j g) = (mW E I A).set (1 + j) (eA E j, Sum.inl (eI E, mLen j, Sum.inl (fun k : Nat => iI (g (k : Int))))) := by
    have h1 := gw_setA (O := [(eO E 0, Sum.inr (10, mF E I))]) (nA := 21) (a := eA E) (cI := eI E) (len := mLen) (A := A) (T := mT E A) (j := j) (n := 1 + j) hj rfl (g := g) rfl
    refine Eq.trans ?_ h1.symm
    unfold mW
    rw [mT_st hj]
  rw [he]
  refine ⟨fun k q hq => ?_, hw.2.1.set hpos, hw.2.2⟩
  by_cases hk : k = 1 + j
  · subst hk
    rw [List.getElem?_set_self (List.getElem?_eq_some_iff.mp hpos).1] at hq
    have h1 := hw.1 (1 + j) _ hpos
    cases hq
    show H[eA E j]? = some (vp_cell _ _)
    have h2 : H[eA E j]? = some (vp_cell (eI E) (mLen j, Sum.inl (fun k : Nat => iI (A j (k : Int))))) := h1
    rw [h2]
    congr 1
    exact vp_ext (fun k hk => by rw [hg k (by omega)])
  · rw [List.getElem?_set_ne (fun h => hk h.symm)] at hq
    exact hw.1 k q hq
/-- what only a trial wrote -/
def mSame (A A' : Nat → Int → Int) : Prop := ∀ j : Nat, j ≠ 12 → j ≠ 18 → j ≠ 19 → j ≠ 20 → A' j = A j
theorem mSame_st {A : Nat → Int → Int} {j : Nat} {f : Int → Int} (h : j = 12 ∨ j = 18 ∨ j = 19 ∨ j = 20) : mSame A (stA A j f) := fun i h1 h2 h3 h4 => stA_n (by omega)
theorem mSame_rf {A : Nat → Int → Int} : mSame A A := fun _ _ _ _ _ => rfl
theorem mSame_tr {A B C : Nat → Int → Int} (h1 : mSame A B) (h2 : mSame B C) : mSame A C := fun j a b c d => (h2 j a b c d).trans (h1 j a b c d)
def MetS (l : Launch) (y : MethodName) (ws : List Cond) (rm : Room) (E : Ev) (av : List Value) (I : Nat → Int) (A : Nat → Int → Int) (z : Int) : Prop := MetI l y ws rm E av (mW E I A) (fun A' : Nat → Int → Int => mW E I A') (fun r A' => r = z ∧ mSame A A')
theorem met_S {l : Launch} {y : MethodName} {ws ws' : List Cond} {rm : Room} {E : Ev} {av : List Value} {cc : ByteArray} {nL : Nat} {I : Nat → Int} {A : Nat → Int → Int} {v : Int} (hy : plainName y.cls = true) (hw : ws = Cond.code y cc nL (some .int) :: ws') (hsl : (lg_sl av).length ≤ nL)
    (body : ∀ (p : Program) (e : Env) (s : State) (m : MethodId) (args : Array Value) (below : List Frame) (meth : Method) (c : Code) (Q : State → Prop) (H0 : Heap) (A0 : Nat → Prop) (H : Heap) (locs : List Loc) (ls : Array Slot), CallFix p m c cc nL s args ws y.cls → gH E A0 H0 s (mW E I A) H locs → lv_has ls nL (lv_args 0 av) →
      (∀ (z : Int) (A' : Nat → Int → Int) (H : Heap) (locs : List Loc) (pc : Nat) (ls : Array Slot), z = v → mSame A A' → gH E A0 H0 s (mW E I A') H locs → decode cc pc = .ok (.ireturn, 1) → W p l e rm s m args below meth c H locs 0 0 Q (F0 m pc ls [.int (iI z)])) →
      W p l e rm s m args below meth c H locs 0 0 Q (F0 m 0 ls [])) : MetS l y ws rm E av I A v :=
  met_I hy hw hsl (fun p e s m args below meth c Q H0 A0 H locs ls F hw hl hret => body p e s m args below meth c Q H0 A0 H locs ls F hw hl (fun z A' H locs pc ls hz h1 hw hd => hret z A' H locs pc ls ⟨hz, h1⟩ hw hd))
