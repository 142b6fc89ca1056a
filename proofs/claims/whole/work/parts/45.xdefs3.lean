/-- what only a trial or a count wrote -/
def xSame (A A' : Nat → Int → Int) : Prop := ∀ j : Nat, j ≠ 21 → j ≠ 24 → j ≠ 25 → A' j = A j
theorem xSame_rf {A : Nat → Int → Int} : xSame A A := fun _ _ _ _ => rfl
theorem xSame_st {A : Nat → Int → Int} {j : Nat} {f : Int → Int} (h : j = 21 ∨ j = 24 ∨ j = 25) : xSame A (stA A j f) := fun i h1 h2 h3 => stA_n (by omega)
theorem xSame_tr {A B C : Nat → Int → Int} (h1 : xSame A B) (h2 : xSame B C) : xSame A C := fun j a b c => (h2 j a b c).trans (h1 j a b c)
def MetX (l : Launch) (y : MethodName) (ws : List Cond) (rm : Room) (E : Ev) (av : List Value) (I : Nat → Int) (A : Nat → Int → Int) (L : Nat → Int64) (z : Int) : Prop := MetI l y ws rm E av (xW E I A L) (fun u : (Nat → Int → Int) × (Nat → Int64) => xW E I u.1 u.2) (fun r u => r = z ∧ xSame A u.1)
theorem met_X {l : Launch} {y : MethodName} {ws ws' : List Cond} {rm : Room} {E : Ev} {av : List Value} {cc : ByteArray} {nL : Nat} {I : Nat → Int} {A : Nat → Int → Int} {L : Nat → Int64} {v : Int} (hy : plainName y.cls = true) (hw : ws = Cond.code y cc nL (some .int) :: ws') (hsl : (lg_sl av).length ≤ nL)
    (body : ∀ (p : Program) (e : Env) (s : State) (m : MethodId) (args : Array Value) (below : List Frame) (meth : Method) (c : Code) (Q : State → Prop) (H0 : Heap) (A0 : Nat → Prop) (H : Heap) (locs : List Loc) (ls : Array Slot), CallFix p m c cc nL s args ws y.cls → gH E A0 H0 s (xW E I A L) H locs → lv_has ls nL (lv_args 0 av) →
      (∀ (z : Int) (A' : Nat → Int → Int) (L' : Nat → Int64) (H : Heap) (locs : List Loc) (pc : Nat) (ls : Array Slot), z = v → xSame A A' → gH E A0 H0 s (xW E I A' L') H locs → decode cc pc = .ok (.ireturn, 1) → W p l e rm s m args below meth c H locs 0 0 Q (F0 m pc ls [.int (iI z)])) →
      W p l e rm s m args below meth c H locs 0 0 Q (F0 m 0 ls [])) : MetX l y ws rm E av I A L v :=
  met_I hy hw hsl (fun p e s m args below meth c Q H0 A0 H locs ls F hw hl hret => body p e s m args below meth c Q H0 A0 H locs ls F hw hl (fun z A' L' H locs pc ls hz h1 hw hd => hret z (A', L') H locs pc ls ⟨hz, h1⟩ hw hd))
theorem call_X {p : Program} {l : Launch} {e : Env} {R : Room} {s : State} {m : MethodId} {args : Array Value} {below : List Frame} {meth : Method} {c : Code} {H : Heap} {locs : List Loc} {cells slots : Nat} {Q : State → Prop} {cc bytes : ByteArray} {nL maxL index n : Nat} {Ts ws : List Cond} {own C : String} {pc b : Nat} {ls : Array Slot} {rest As st : List Value} {y : MethodName} {rm : Room} {E : Ev} {A0 : Nat → Prop} {H0 : Heap} {I : Nat → Int} {A : Nat → Int → Int} {L : Nat → Int64} {v : Int} (F : CallFix p m c cc nL s args Ts own) (hM : MetX l y ws rm E (.ref b :: As) I A L v) (cw : CallW R s args own C index y bytes maxL (some .int) ws rm 0 0 n) (hw : gH E A0 H0 s (xW E I A L) H locs) (hrecv : ∃ cell : Cell, H[b]? = some cell ∧ cell.vm.isStatics = false ∧ s.vm.findClass C = some cell.cls)
    (hn : As.length = n) (hsize : ls.size = nL) (hstack : st = As.reverse ++ .ref b :: rest) (hcat : (rest.map fun v => v.category).sum ≤ 8) (hdg : decode cc pc = .ok (.invokevirtual index, 3)) (hf : cells ≤ R.cells ∧ slots ≤ R.slots)
    (kk : ∀ (A' : Nat → Int → Int) (L' : Nat → Int64) (H1 : Heap) (locs1 : List Loc), xSame A A' → gH E A0 H0 s (xW E I A' L') H1 locs1 → W p l e R s m args below meth c H1 locs1 cells slots Q (F0 m (pc + 3) ls (.int (iI v) :: rest))) : W p l e R s m args below meth c H locs cells slots Q (F0 m pc ls st) :=
  call_I F hM cw hw hrecv hn hsize hstack hcat hdg hf (fun z u H1 locs1 hq hw => by obtain ⟨hq, hs⟩ := hq; subst hq; exact kk u.1 u.2 H1 locs1 hs hw)
theorem xCnt_c {f g : Int → Int} {z : Int} (n : Nat) (h : ∀ i : Int, 0 ≤ i ∧ i < n → f i = g i) : xCnt f z n = xCnt g z n := by
  induction n with
  | zero => rfl
  | succ n ih =>
    show (if f n = z then xCnt f z n + 1 else xCnt f z n) = if g n = z then xCnt g z n + 1 else xCnt g z n
    rw [h n (by omega), ih (fun i hi => h i (by omega))]
theorem xGrt_c {f g : Int → Int} {c : Int} (n : Nat) (hn : (n : Int) ≤ c) (h : ∀ i : Int, 0 ≤ i ∧ i < c → f i = g i) : xGrt f c n = xGrt g c n := by
  induction n with
  | zero => rfl
  | succ n ih =>
    show iMx (xGrt f c n) (xCnt f (f n) c.toNat) = iMx (xGrt g c n) (xCnt g (g n) c.toNat)
    rw [h n (by omega), ih (by omega), xCnt_c c.toNat (fun i hi => h i (by omega))]
def xAsk (A : Nat → Int → Int) (g : Int → Int) (c : Int) (n : Nat) : Int × Int := fld (fun b q => if xGrt (fun i => xTB A (g i) q) c c.toNat < b.2 then (q, xGrt (fun i => xTB A (g i) q) c c.toNat) else b) (-1, c) n
