section ME
variable {l : Launch} {y : MethodName} {ws ws' : List Cond} {rm : Room} {E : Ev} {av : List Value} {w0 : va_W} {cc : ByteArray} {nL : Nat}
theorem met_N {v : Int} (hy : plainName y.cls = true) (hw : ws = Cond.code y cc nL (some .int) :: ws') (hsl : (lg_sl av).length ≤ nL)
    (body : ∀ (p : Program) (e : Env) (s : State) (m : MethodId) (args : Array Value) (below : List Frame) (meth : Method) (c : Code) (Q : State → Prop) (H0 : Heap) (A0 : Nat → Prop) (H : Heap) (locs : List Loc) (ls : Array Slot), CallFix p m c cc nL s args ws y.cls → gH E A0 H0 s w0 H locs → lv_has ls nL (lv_args 0 av) →
      (∀ (z : Int) (H : Heap) (locs : List Loc) (pc : Nat) (ls : Array Slot), z = v → gH E A0 H0 s w0 H locs → decode cc pc = .ok (.ireturn, 1) → W p l e rm s m args below meth c H locs 0 0 Q (F0 m pc ls [.int (iI z)])) →
      W p l e rm s m args below meth c H locs 0 0 Q (F0 m 0 ls [])) : MetN l y ws rm E av w0 v :=
  met_I hy hw hsl (fun p e s m args below meth c Q H0 A0 H locs ls F hw hl hret => body p e s m args below meth c Q H0 A0 H locs ls F hw hl (fun z H locs pc ls hz hw hd => hret z () H locs pc ls hz hw hd))
theorem met_P {P : Prop} (hy : plainName y.cls = true) (hw : ws = Cond.code y cc nL (some .boolean) :: ws') (hsl : (lg_sl av).length ≤ nL)
    (body : ∀ (p : Program) (e : Env) (s : State) (m : MethodId) (args : Array Value) (below : List Frame) (meth : Method) (c : Code) (Q : State → Prop) (H0 : Heap) (A0 : Nat → Prop) (H : Heap) (locs : List Loc) (ls : Array Slot), CallFix p m c cc nL s args ws y.cls → gH E A0 H0 s w0 H locs → lv_has ls nL (lv_args 0 av) →
      (∀ (z : Int) (H : Heap) (locs : List Loc) (pc : Nat) (ls : Array Slot), ((z = 1 ∧ P) ∨ (z = 0 ∧ ¬ P)) → gH E A0 H0 s w0 H locs → decode cc pc = .ok (.ireturn, 1) → W p l e rm s m args below meth c H locs 0 0 Q (F0 m pc ls [.int (iI z)])) →
      W p l e rm s m args below meth c H locs 0 0 Q (F0 m 0 ls [])) : MetP l y ws rm E av w0 P :=
  met_Z hy hw hsl (fun p e s m args below meth c Q H0 A0 H locs ls F hw hl hret => body p e s m args below meth c Q H0 A0 H locs ls F hw hl (fun z H locs pc ls hz hw hd => by
    rcases hz with ⟨h1, h2⟩ | ⟨h1, h2⟩
    · exact hret true z () H locs pc ls h1 ⟨fun _ => h2, fun _ => rfl⟩ hw hd
    · exact hret false z () H locs pc ls h1 ⟨fun h => Bool.noConfusion h, fun h => absurd h h2⟩ hw hd))
end ME
section BT
variable {p : Program} {l : Launch} {e : Env} {R : Room} {s : State} {m : MethodId} {args : Array Value} {below : List Frame} {meth : Method} {c : Code} {H : Heap} {locs : List Loc} {cells slots : Nat} {Q : State → Prop}
variable {cc : ByteArray} {nL : Nat} {Ts : List Cond} {own : String} {pc : Nat} {ls : Array Slot} {rest : List Value}
theorem bi_tabOut (F : CallFix p m c cc nL s args Ts own) {x dflt lo hi : Int} {offs : Array Int} {len tgt : Nat} (hdg : decode cc pc = .ok (.tableswitch dflt lo hi offs, len)) (hx : -2147483648 ≤ x ∧ x ≤ 2147483647) (h : x < lo ∨ hi < x) (ht : (pc : Int) + dflt = (tgt : Int))
    (k : W p l e R s m args below meth c H locs cells slots Q (F0 m tgt ls rest)) : W p l e R s m args below meth c H locs cells slots Q (F0 m pc ls (.int (iI x) :: rest)) :=
  lv_tableOut F.1 F.2.1 hdg (by rw [iI_t hx]; exact h) ht k
theorem bi_tabIn (F : CallFix p m c cc nL s args Ts own) {x dflt lo hi : Int} {offs : Array Int} {len tgt : Nat} {off : Int} (hdg : decode cc pc = .ok (.tableswitch dflt lo hi offs, len)) (hx : -2147483648 ≤ x ∧ x ≤ 2147483647) (h : ¬ x < lo ∧ ¬ hi < x) (ho : offs[(x - lo).toNat]? = some off) (ht : (pc : Int) + off = (tgt : Int))
    (k : W p l e R s m args below meth c H locs cells slots Q (F0 m tgt ls rest)) : W p l e R s m args below meth c H locs cells slots Q (F0 m pc ls (.int (iI x) :: rest)) :=
  lv_tableIn F.1 F.2.1 hdg (by rw [iI_t hx]; exact h.1) (by rw [iI_t hx]; exact h.2) (by rw [iI_t hx]; exact ho) ht k
end BT
theorem st2_or {A : Nat → Int → Int} {j : Nat} {k v t : Int} : st2 A j k v j t = A j t ∨ t = k := by
  by_cases h : t = k
  · exact Or.inr h
  · exact Or.inl (st2_k h)
/-- a number, and the world becomes w1 -/
def MetF (l : Launch) (y : MethodName) (ws : List Cond) (rm : Room) (E : Ev) (av : List Value) (w0 w1 : va_W) (z : Int) : Prop := MetI l y ws rm E av w0 (fun _ : Unit => w1) (fun r _ => r = z)
/-- no answer, and the world becomes w1 -/
def MetG (l : Launch) (y : MethodName) (ws : List Cond) (rm : Room) (E : Ev) (av : List Value) (w0 w1 : va_W) : Prop := MetV l y ws rm E av w0 (fun _ : Unit => w1) (fun _ => True)
/-- a truth, and the world becomes w1 if it holds, w2 if not -/
def MetB (l : Launch) (y : MethodName) (ws : List Cond) (rm : Room) (E : Ev) (av : List Value) (w0 w1 w2 : va_W) (P : Prop) : Prop := MetZ l y ws rm E av w0 (fun b : Bool => if b = true then w1 else w2) (fun b c => b = c ∧ (b = true ↔ P))
section MF
variable {l : Launch} {y : MethodName} {ws ws' : List Cond} {rm : Room} {E : Ev} {av : List Value} {w0 w1 w2 : va_W} {cc : ByteArray} {nL : Nat}
theorem met_F {v : Int} (hy : plainName y.cls = true) (hw : ws = Cond.code y cc nL (some .int) :: ws') (hsl : (lg_sl av).length ≤ nL)
    (body : ∀ (p : Program) (e : Env) (s : State) (m : MethodId) (args : Array Value) (below : List Frame) (meth : Method) (c : Code) (Q : State → Prop) (H0 : Heap) (A0 : Nat → Prop) (H : Heap) (locs : List Loc) (ls : Array Slot), CallFix p m c cc nL s args ws y.cls → gH E A0 H0 s w0 H locs → lv_has ls nL (lv_args 0 av) →
      (∀ (z : Int) (w : va_W) (H : Heap) (locs : List Loc) (pc : Nat) (ls : Array Slot), z = v → w = w1 → gH E A0 H0 s w H locs → decode cc pc = .ok (.ireturn, 1) → W p l e rm s m args below meth c H locs 0 0 Q (F0 m pc ls [.int (iI z)])) →
      W p l e rm s m args below meth c H locs 0 0 Q (F0 m 0 ls [])) : MetF l y ws rm E av w0 w1 v :=
  met_I hy hw hsl (fun p e s m args below meth c Q H0 A0 H locs ls F hw hl hret => body p e s m args below meth c Q H0 A0 H locs ls F hw hl (fun z w H locs pc ls hz h1 hw hd => hret z () H locs pc ls hz (h1 ▸ hw) hd))
theorem met_G (hy : plainName y.cls = true) (hw : ws = Cond.code y cc nL none :: ws') (hsl : (lg_sl av).length ≤ nL)
    (body : ∀ (p : Program) (e : Env) (s : State) (m : MethodId) (args : Array Value) (below : List Frame) (meth : Method) (c : Code) (Q : State → Prop) (H0 : Heap) (A0 : Nat → Prop) (H : Heap) (locs : List Loc) (ls : Array Slot), CallFix p m c cc nL s args ws y.cls → gH E A0 H0 s w0 H locs → lv_has ls nL (lv_args 0 av) →
      (∀ (w : va_W) (H : Heap) (locs : List Loc) (pc : Nat) (ls : Array Slot), w = w1 → gH E A0 H0 s w H locs → decode cc pc = .ok (.return_, 1) → W p l e rm s m args below meth c H locs 0 0 Q (F0 m pc ls [])) →
      W p l e rm s m args below meth c H locs 0 0 Q (F0 m 0 ls [])) : MetG l y ws rm E av w0 w1 :=
  met_V hy hw hsl (fun p e s m args below meth c Q H0 A0 H locs ls F hw hl hret => body p e s m args below meth c Q H0 A0 H locs ls F hw hl (fun w H locs pc ls h1 hw hd => hret () H locs pc ls trivial (h1 ▸ hw) hd))
theorem met_B {P : Prop} (hy : plainName y.cls = true) (hw : ws = Cond.code y cc nL (some .boolean) :: ws') (hsl : (lg_sl av).length ≤ nL)
    (body : ∀ (p : Program) (e : Env) (s : State) (m : MethodId) (args : Array Value) (below : List Frame) (meth : Method) (c : Code) (Q : State → Prop) (H0 : Heap) (A0 : Nat → Prop) (H : Heap) (locs : List Loc) (ls : Array Slot), CallFix p m c cc nL s args ws y.cls → gH E A0 H0 s w0 H locs → lv_has ls nL (lv_args 0 av) →
      (∀ (z : Int) (w : va_W) (H : Heap) (locs : List Loc) (pc : Nat) (ls : Array Slot), ((z = 1 ∧ P ∧ w = w1) ∨ (z = 0 ∧ ¬ P ∧ w = w2)) → gH E A0 H0 s w H locs → decode cc pc = .ok (.ireturn, 1) → W p l e rm s m args below meth c H locs 0 0 Q (F0 m pc ls [.int (iI z)])) →
      W p l e rm s m args below meth c H locs 0 0 Q (F0 m 0 ls [])) : MetB l y ws rm E av w0 w1 w2 P :=
  met_Z hy hw hsl (fun p e s m args below meth c Q H0 A0 H locs ls F hw hl hret => body p e s m args below meth c Q H0 A0 H locs ls F hw hl (fun z w H locs pc ls hz hw hd => by
    rcases hz with ⟨h1, h2, h3⟩ | ⟨h1, h2, h3⟩
    · exact hret true z true H locs pc ls h1 ⟨rfl, fun _ => h2, fun _ => rfl⟩ (by subst h3; exact hw) hd
    · exact hret false z false H locs pc ls h1 ⟨rfl, fun h => Bool.noConfusion h, fun h => absurd h h2⟩ (by subst h3; exact hw) hd))
end MF
section CF
variable {p : Program} {l : Launch} {e : Env} {R : Room} {s : State} {m : MethodId} {args : Array Value} {below : List Frame} {meth : Method} {c : Code} {H : Heap} {locs : List Loc} {cells slots : Nat} {Q : State → Prop}
variable {cc bytes : ByteArray} {nL maxL index n : Nat} {Ts ws : List Cond} {own C : String} {pc b : Nat} {ls : Array Slot} {rest As st : List Value} {y : MethodName} {rm : Room}
variable {E : Ev} {A0 : Nat → Prop} {H0 : Heap} {w0 w1 w2 : va_W}
theorem call_F {v : Int} (F : CallFix p m c cc nL s args Ts own) (hM : MetF l y ws rm E (.ref b :: As) w0 w1 v) (cw : CallW R s args own C index y bytes maxL (some .int) ws rm 0 0 n) (hw : gH E A0 H0 s w0 H locs) (hrecv : ∃ cell : Cell, H[b]? = some cell ∧ cell.vm.isStatics = false ∧ s.vm.findClass C = some cell.cls)
    (hn : As.length = n) (hsize : ls.size = nL) (hstack : st = As.reverse ++ .ref b :: rest) (hcat : (rest.map fun v => v.category).sum ≤ 8) (hdg : decode cc pc = .ok (.invokevirtual index, 3)) (hf : cells ≤ R.cells ∧ slots ≤ R.slots)
    (kk : ∀ (H1 : Heap) (locs1 : List Loc), gH E A0 H0 s w1 H1 locs1 → W p l e R s m args below meth c H1 locs1 cells slots Q (F0 m (pc + 3) ls (.int (iI v) :: rest))) : W p l e R s m args below meth c H locs cells slots Q (F0 m pc ls st) :=
  call_I F hM cw hw hrecv hn hsize hstack hcat hdg hf (fun z _ H1 locs1 hq hw => by subst hq; exact kk H1 locs1 hw)
theorem call_G (F : CallFix p m c cc nL s args Ts own) (hM : MetG l y ws rm E (.ref b :: As) w0 w1) (cw : CallW R s args own C index y bytes maxL none ws rm 0 0 n) (hw : gH E A0 H0 s w0 H locs) (hrecv : ∃ cell : Cell, H[b]? = some cell ∧ cell.vm.isStatics = false ∧ s.vm.findClass C = some cell.cls)
    (hn : As.length = n) (hsize : ls.size = nL) (hstack : st = As.reverse ++ .ref b :: rest) (hcat : (rest.map fun v => v.category).sum ≤ 8) (hdg : decode cc pc = .ok (.invokevirtual index, 3)) (hf : cells ≤ R.cells ∧ slots ≤ R.slots)
    (kk : ∀ (H1 : Heap) (locs1 : List Loc), gH E A0 H0 s w1 H1 locs1 → W p l e R s m args below meth c H1 locs1 cells slots Q (F0 m (pc + 3) ls rest)) : W p l e R s m args below meth c H locs cells slots Q (F0 m pc ls st) :=
  call_V F hM cw hw hrecv hn hsize hstack hcat hdg hf (fun _ H1 locs1 _ hw => kk H1 locs1 hw)
theorem calls_G (F : CallFix p m c cc nL s args Ts own) (hM : MetG l y ws rm E As w0 w1) (cw : CallB R s args own index y bytes maxL none ws rm 0 0 n ∧ (Cond.static y).before args s = true) (hw : gH E A0 H0 s w0 H locs)
    (hn : As.length = n) (hsize : ls.size = nL) (hstack : st = As.reverse ++ rest) (hcat : (rest.map fun v => v.category).sum ≤ 8) (hdg : decode cc pc = .ok (.invokestatic index, 3)) (hf : cells ≤ R.cells ∧ slots ≤ R.slots)
    (kk : ∀ (H1 : Heap) (locs1 : List Loc), gH E A0 H0 s w1 H1 locs1 → W p l e R s m args below meth c H1 locs1 cells slots Q (F0 m (pc + 3) ls rest)) : W p l e R s m args below meth c H locs cells slots Q (F0 m pc ls st) :=
  calls_V F hM cw hw hn hsize hstack hcat hdg hf (fun _ H1 locs1 _ hw => kk H1 locs1 hw)
theorem call_B {P : Prop} (F : CallFix p m c cc nL s args Ts own) (hM : MetB l y ws rm E (.ref b :: As) w0 w1 w2 P) (cw : CallW R s args own C index y bytes maxL (some .boolean) ws rm 0 0 n) (hw : gH E A0 H0 s w0 H locs) (hrecv : ∃ cell : Cell, H[b]? = some cell ∧ cell.vm.isStatics = false ∧ s.vm.findClass C = some cell.cls)
    (hn : As.length = n) (hsize : ls.size = nL) (hstack : st = As.reverse ++ .ref b :: rest) (hcat : (rest.map fun v => v.category).sum ≤ 8) (hdg : decode cc pc = .ok (.invokevirtual index, 3)) (hf : cells ≤ R.cells ∧ slots ≤ R.slots)
    (kt : P → ∀ (H1 : Heap) (locs1 : List Loc), gH E A0 H0 s w1 H1 locs1 → W p l e R s m args below meth c H1 locs1 cells slots Q (F0 m (pc + 3) ls (.int (iI 1) :: rest)))
    (kf : ¬ P → ∀ (H1 : Heap) (locs1 : List Loc), gH E A0 H0 s w2 H1 locs1 → W p l e R s m args below meth c H1 locs1 cells slots Q (F0 m (pc + 3) ls (.int (iI 0) :: rest))) : W p l e R s m args below meth c H locs cells slots Q (F0 m pc ls st) :=
  call_Z F hM cw hw hrecv hn hsize hstack hcat hdg hf (fun u H1 locs1 hq hw => kt (hq.2.mp rfl) H1 locs1 (by obtain ⟨h1, -⟩ := hq; subst h1; exact hw)) (fun u H1 locs1 hq hw => kf (fun h => by have := hq.2.mpr h; cases this) H1 locs1 (by obtain ⟨h1, -⟩ := hq; subst h1; exact hw))
end CF
