/-! WORLDS: objects, then int arrays by number, then what else -/
def st1 (I : Nat → Int) (k : Nat) (v : Int) : Nat → Int := fun i => if i = k then v else I i
def up1 (f : Int → Int) (k v : Int) : Int → Int := fun t => if t = k then v else f t
def stA (A : Nat → Int → Int) (j : Nat) (f : Int → Int) : Nat → Int → Int := fun i => if i = j then f else A i
def st2 (A : Nat → Int → Int) (j : Nat) (k v : Int) : Nat → Int → Int := stA A j (up1 (A j) k v)
theorem st1_s {I : Nat → Int} {k : Nat} {v : Int} : st1 I k v k = v := if_pos rfl
theorem st1_n {I : Nat → Int} {k i : Nat} {v : Int} (h : i ≠ k) : st1 I k v i = I i := if_neg h
theorem up1_s {f : Int → Int} {k v : Int} : up1 f k v k = v := if_pos rfl
theorem up1_n {f : Int → Int} {k v t : Int} (h : t ≠ k) : up1 f k v t = f t := if_neg h
theorem stA_s {A : Nat → Int → Int} {j : Nat} {f : Int → Int} : stA A j f j = f := if_pos rfl
theorem stA_n {A : Nat → Int → Int} {j i : Nat} {f : Int → Int} (h : i ≠ j) : stA A j f i = A i := if_neg h
theorem st2_s {A : Nat → Int → Int} {j : Nat} {k v : Int} : st2 A j k v j k = v := by rw [st2, stA_s, up1_s]
theorem st2_k {A : Nat → Int → Int} {j : Nat} {k v t : Int} (h : t ≠ k) : st2 A j k v j t = A j t := by rw [st2, stA_s, up1_n h]
theorem st2_n {A : Nat → Int → Int} {j i : Nat} {k v : Int} (h : i ≠ j) : st2 A j k v i = A i := by rw [st2, stA_n h]
theorem st2_a {A : Nat → Int → Int} {j : Nat} {k v : Int} : st2 A j k v j = up1 (A j) k v := by rw [st2, stA_s]
theorem st1_id {I : Nat → Int} {k : Nat} : st1 I k (I k) = I := by
  funext i
  by_cases h : i = k
  · subst h; exact st1_s
  · exact st1_n h
def gw (O : va_W) (nA : Nat) (a : Nat → Nat) (cI : ClassId) (len : Nat → Nat) (A : Nat → Int → Int) (T : va_W) : va_W :=
  O ++ ((List.range nA).map (fun j => ((a j, Sum.inl (cI, len j, Sum.inl (fun k : Nat => iI (A j (k : Int))))) : Nat × va_E)) ++ T)
theorem gw_arr {O : va_W} {nA : Nat} {a : Nat → Nat} {cI : ClassId} {len : Nat → Nat} {A : Nat → Int → Int} {T : va_W} {j n : Nat} (hj : j < nA) (hn : n = O.length + j) : (gw O nA a cI len A T)[n]? = some (a j, Sum.inl (cI, len j, Sum.inl (fun k : Nat => iI (A j (k : Int))))) := by
  subst hn
  unfold gw
  rw [List.getElem?_append_right (Nat.le_add_right _ _), Nat.add_sub_cancel_left, List.getElem?_append_left (by simpa using hj), List.getElem?_map, List.getElem?_range hj]
  rfl
theorem gw_obj {O : va_W} {nA : Nat} {a : Nat → Nat} {cI : ClassId} {len : Nat → Nat} {A : Nat → Int → Int} {T : va_W} {n : Nat} {q : Nat × va_E} (hq : O[n]? = some q) : (gw O nA a cI len A T)[n]? = some q := by
  unfold gw
  rw [List.getElem?_append_left (List.getElem?_eq_some_iff.mp hq).1]
  exact hq
theorem gw_tail {O : va_W} {nA : Nat} {a : Nat → Nat} {cI : ClassId} {len : Nat → Nat} {A : Nat → Int → Int} {T : va_W} {j n : Nat} {q : Nat × va_E} (hq : T[j]? = some q) (hn : n = O.length + nA + j) : (gw O nA a cI len A T)[n]? = some q := by
  subst hn
  unfold gw
  rw [List.getElem?_append_right (by omega), List.getElem?_append_right (by simp; omega)]
  simp only [List.length_map, List.length_range]
  rw [show O.length + nA + j - O.length - nA = j by omega]
  exact hq
theorem gw_setA {O : va_W} {nA : Nat} {a : Nat → Nat} {cI : ClassId} {len : Nat → Nat} {A : Nat → Int → Int} {T : va_W} {j n : Nat} (hj : j < nA) (hn : n = O.length + j) {f : Nat → Int32} {g : Int → Int} (hf : f = fun k : Nat => iI (g (k : Int))) : (gw O nA a cI len A T).set n (a j, Sum.inl (cI, len j, Sum.inl f)) = gw O nA a cI len (stA A j g) T := by
  subst hn
  subst hf
  unfold gw
  rw [List.set_append_right _ _ (Nat.le_add_right _ _), Nat.add_sub_cancel_left, List.set_append_left _ _ (by simpa using hj)]
  congr 2
  apply List.ext_getElem?
  intro i
  rw [List.getElem?_set]
  by_cases hi : j = i
  · subst hi
    rw [if_pos rfl, List.getElem?_map, List.getElem?_range hj]
    simp [stA, hj]
  · rw [if_neg hi, List.getElem?_map, List.getElem?_map]
    by_cases hl : i < nA
    · rw [List.getElem?_range hl]
      simp only [Option.map_some]
      rw [stA_n (fun h => hi h.symm)]
    · rw [List.getElem?_eq_none (by simpa using hl)]
      rfl
theorem gw_setO {O : va_W} {nA : Nat} {a : Nat → Nat} {cI : ClassId} {len : Nat → Nat} {A : Nat → Int → Int} {T O2 : va_W} {n : Nat} {q : Nat × va_E} (hn : n < O.length) (hO : O.set n q = O2) : (gw O nA a cI len A T).set n q = gw O2 nA a cI len A T := by
  subst hO
  unfold gw
  rw [List.set_append_left _ _ hn]
theorem gw_setT {O : va_W} {nA : Nat} {a : Nat → Nat} {cI : ClassId} {len : Nat → Nat} {A : Nat → Int → Int} {T T2 : va_W} {j n : Nat} {q : Nat × va_E} (hn : n = O.length + nA + j) (hT : T.set j q = T2) : (gw O nA a cI len A T).set n q = gw O nA a cI len A T2 := by
  subst hT
  subst hn
  unfold gw
  rw [List.set_append_right _ _ (by omega), List.set_append_right _ _ (by simp; omega)]
  simp only [List.length_map, List.length_range]
  rw [show O.length + nA + j - O.length - nA = j by omega]
/-- an array written at a place, read as Ints -/
theorem up_iI {f : Int → Int} {z v : Int} (hz : 0 ≤ z) : upd (fun k : Nat => iI (f (k : Int))) z.toNat (iI v) = fun k : Nat => iI (up1 f z v (k : Int)) := by
  funext k
  by_cases h : k = z.toNat
  · subst h
    rw [pk_us, Int.toNat_of_nonneg hz, up1_s]
  · rw [pk_un h, up1_n (by omega)]
/-! THE ENVIRONMENT: kinds of cells, addresses of objects and of arrays, array classes of int, boolean, long -/
abbrev Ev : Type := va_G × (Nat → Nat) × (Nat → Nat) × ClassId × ClassId × ClassId
abbrev eD (E : Ev) : va_G := E.1
abbrev eO (E : Ev) : Nat → Nat := E.2.1
abbrev eA (E : Ev) : Nat → Nat := E.2.2.1
abbrev eI (E : Ev) : ClassId := E.2.2.2.1
abbrev eZ (E : Ev) : ClassId := E.2.2.2.2.1
abbrev eL (E : Ev) : ClassId := E.2.2.2.2.2
abbrev cTy (E : Ev) : List (ClassId × FieldType) := [(eI E, .int), (eZ E, .boolean), (eL E, .long)]
/-- the links between nest mates -/
def nestL : List (String × Nat × MethodName × String) := [(RX4, 113, yX9_isOut, "SnowDays"), (RX4, 11, yX7_init, "SnowDays"), (RX9, 28, yX7_init, "SnowDays"), (RX9, 35, yX6_init, "SnowDays"), (RX9, 42, yX3_init, "SnowDays"), (RX9, 49, yX2_init, "SnowDays"), (RX9, 56, yX1_init, "SnowDays")]
def nN (s : State) : Prop := ∀ q ∈ nestL, va_Nw (.methodLinkNest q.1 q.2.1 q.2.2.1 q.2.2.2) s
theorem nN.warm {s U : State} (hW : s.WarmedH U.vm) (h : nN s) : nN U := fun q hq => va_Nw.warmM hW (h q hq)
theorem nN.same {s U : State} (hv : s.vm = U.vm) (h : nN s) : nN U := fun q hq => va_Nw.same rfl hv (h q hq)
def nK (E : Ev) (s : State) : Prop := va_K (eD E) vwCl (cTy E) s ∧ nN s
def gH (E : Ev) (A0 : Nat → Prop) (H0 : Heap) (s : State) (w : va_W) (H : Heap) (locs : List Loc) : Prop :=
  va_P (eD E) vwCl w H ∧ va_D A0 w ∧ va_S A0 H0 H locs ∧ nK E s ∧ ∀ q : Nat, H0.size ≤ q → A0 q
def cPre (E : Ev) (w : va_W) (sz : Nat) (U : State) : Prop := U.heap.size = sz ∧ va_P (eD E) vwCl w U.heap ∧ nK E U ∧ va_D (fun _ => True) w
def cPost (E : Ev) (w0 : va_W) (sz : Nat) {σ : Type} (w : σ → va_W) (u : σ) (t : State) : Prop := va_P (eD E) vwCl (w u) t.heap ∧ va_K (eD E) vwCl (cTy E) t ∧ va_D (va_A w0 sz) (w u)
/-- contracts: an int, a truth, nothing, a long -/
def MetI (l : Launch) (y : MethodName) (ws : List Cond) (rm : Room) (E : Ev) (av : List Value) (w0 : va_W) {σ : Type} (w : σ → va_W) (post : Int → σ → Prop) : Prop :=
  ∀ sz : Nat, Met l y ws rm (va_Pc av (cPre E w0 sz)) (va_Qi (fun r u => ∃ z : Int, r = iI z ∧ post z u) (cPost E w0 sz w) (va_A w0 sz)) 0 0 (va_A w0 sz)
def MetZ (l : Launch) (y : MethodName) (ws : List Cond) (rm : Room) (E : Ev) (av : List Value) (w0 : va_W) {σ : Type} (w : σ → va_W) (post : Bool → σ → Prop) : Prop :=
  ∀ sz : Nat, Met l y ws rm (va_Pc av (cPre E w0 sz)) (va_Qi (fun r u => ∃ b : Bool, r = iI (if b = true then 1 else 0) ∧ post b u) (cPost E w0 sz w) (va_A w0 sz)) 0 0 (va_A w0 sz)
def MetV (l : Launch) (y : MethodName) (ws : List Cond) (rm : Room) (E : Ev) (av : List Value) (w0 : va_W) {σ : Type} (w : σ → va_W) (post : σ → Prop) : Prop :=
  ∀ sz : Nat, Met l y ws rm (va_Pc av (cPre E w0 sz)) (va_Qv post (cPost E w0 sz w) (va_A w0 sz)) 0 0 (va_A w0 sz)
def MetL (l : Launch) (y : MethodName) (ws : List Cond) (rm : Room) (E : Ev) (av : List Value) (w0 : va_W) {σ : Type} (w : σ → va_W) (post : Int64 → σ → Prop) : Prop :=
  ∀ sz : Nat, Met l y ws rm (va_Pc av (cPre E w0 sz)) (va_Ql post (cPost E w0 sz w) (va_A w0 sz)) 0 0 (va_A w0 sz)
theorem gH_start {E : Ev} {w0 : va_W} {s : State} {sz : Nat} (h : cPre E w0 sz s) : gH E (va_A w0 sz) s.heap s w0 s.heap [] := by
  obtain ⟨hsz, hP, hK, hD⟩ := h
  subst hsz
  exact ⟨hP, hD.self, va_S.rf, hK, fun q h => Or.inr h⟩
theorem gH_blind {E : Ev} {w0 : va_W} {sz : Nat} {av : List Value} : FrameBlind (va_Pc av (cPre E w0 sz)) := fun a U g mk q => by
  obtain ⟨q0, q1, qP, qK, qD⟩ := q
  exact ⟨q0, q1, qP, ⟨va_K.moved (u := U) (U := U.calling g mk a) (Vm.Alike.refl U.vm) qK.1, nN.same rfl qK.2⟩, qD⟩
section GW
variable {p : Program} {l : Launch} {e : Env} {R : Room} {s : State} {m : MethodId} {args : Array Value} {below : List Frame} {meth : Method} {c : Code} {H : Heap} {locs : List Loc} {cells slots : Nat} {Q : State → Prop}
variable {cc : ByteArray} {nL : Nat} {Ts : List Cond} {own : String} {pc : Nat} {ls : Array Slot} {rest : List Value}
variable {E : Ev} {A0 : Nat → Prop} {H0 : Heap} {O T : va_W} {nA : Nat} {a : Nat → Nat} {len : Nat → Nat} {A : Nat → Int → Int}
theorem g_ld (F : CallFix p m c cc nL s args Ts own) (hw : gH E A0 H0 s (gw O nA a (eI E) len A T) H locs) (j : Nat) (hj : j < nA) {z : Int} (hz : 0 ≤ z ∧ z < (len j : Int)) (hn : len j ≤ 2147483647) (hdg : decode cc pc = .ok (.iaload, 1))
    (k : W p l e R s m args below meth c H locs cells slots Q (F0 m (pc + 1) ls (.int (iI (A j z)) :: rest))) : W p l e R s m args below meth c H locs cells slots Q (F0 m pc ls (.int (iI z) :: .ref (a j) :: rest)) := by
  refine va_iald F.1 F.2.1 hw.2.2.2.1.1 hw.1 (O.length + j) 0 (gw_arr hj rfl) rfl (iI_in hz hn) hdg ?_
  rw [iI_clamp (by omega), Int.toNat_of_nonneg hz.1]
  exact k
theorem g_st (F : CallFix p m c cc nL s args Ts own) (hw : gH E A0 H0 s (gw O nA a (eI E) len A T) H locs) (j : Nat) (hj : j < nA) {z v : Int} (hz : 0 ≤ z ∧ z < (len j : Int)) (hn : len j ≤ 2147483647) (hdg : decode cc pc = .ok (.iastore, 1))
    (k : ∀ (H1 : Heap) (locs1 : List Loc), gH E A0 H0 s (gw O nA a (eI E) len (st2 A j z v) T) H1 locs1 → W p l e R s m args below meth c H1 locs1 cells slots Q (F0 m (pc + 1) ls rest)) : W p l e R s m args below meth c H locs cells slots Q (F0 m pc ls (.int (iI v) :: .int (iI z) :: .ref (a j) :: rest)) := by
  refine va_iast F.1 F.2.1 hw.2.2.2.1.1 hw.1 hw.2.1 hw.2.2.1 (O.length + j) 0 (gw_arr hj rfl) rfl (iI_in hz hn) hdg (fun H1 locs1 hP hD hS => k H1 locs1 ?_)
  have hf : upd (fun k : Nat => iI (A j (k : Int))) (iI z).toNatClampNeg (iI v) = fun k : Nat => iI (up1 (A j) z v (k : Int)) := by
    rw [iI_clamp (by omega)]
    exact up_iI hz.1
  rw [gw_setA hj rfl hf] at hP hD
  exact ⟨hP, hD, hS, hw.2.2.2⟩
theorem g_len (F : CallFix p m c cc nL s args Ts own) (hw : gH E A0 H0 s (gw O nA a (eI E) len A T) H locs) (j : Nat) (hj : j < nA) (n : Int) (hn : Int32.ofNat (len j) = iI n) (hdg : decode cc pc = .ok (.arraylength, 1))
    (k : W p l e R s m args below meth c H locs cells slots Q (F0 m (pc + 1) ls (.int (iI n) :: rest))) : W p l e R s m args below meth c H locs cells slots Q (F0 m pc ls (.ref (a j) :: rest)) :=
  va_alen F.1 F.2.1 hw.2.2.2.1.1 hw.1 (O.length + j) 0 (gw_arr hj rfl) (ty := .int) rfl hn hdg k
end GW
section MW
variable {l : Launch} {y : MethodName} {ws ws' : List Cond} {rm : Room} {E : Ev} {av : List Value} {w0 : va_W} {σ : Type} {w : σ → va_W} {cc : ByteArray} {nL : Nat}
theorem met_I {post : Int → σ → Prop} (hy : plainName y.cls = true) (hw : ws = Cond.code y cc nL (some .int) :: ws') (hsl : (lg_sl av).length ≤ nL)
    (body : ∀ (p : Program) (e : Env) (s : State) (m : MethodId) (args : Array Value) (below : List Frame) (meth : Method) (c : Code) (Q : State → Prop) (H0 : Heap) (A0 : Nat → Prop) (H : Heap) (locs : List Loc) (ls : Array Slot), CallFix p m c cc nL s args ws y.cls → gH E A0 H0 s w0 H locs → lv_has ls nL (lv_args 0 av) →
      (∀ (z : Int) (u : σ) (H : Heap) (locs : List Loc) (pc : Nat) (ls : Array Slot), post z u → gH E A0 H0 s (w u) H locs → decode cc pc = .ok (.ireturn, 1) → W p l e rm s m args below meth c H locs 0 0 Q (F0 m pc ls [.int (iI z)])) →
      W p l e rm s m args below meth c H locs 0 0 Q (F0 m 0 ls [])) : MetI l y ws rm E av w0 w post := by
  intro sz
  refine Met.ofW (cc := cc) (maxL := nL) (ret := some .int) hy hw ?_
  intro p e s m args below meth c s₁ B hml hv
  obtain ⟨rfl, hpre⟩ := hv
  have hl := lv_entry av (n := nL) hsl
  rw [lg_entry_eq]
  have hsz := hpre.1
  refine body p e s m _ below meth c _ s.heap (va_A w0 sz) s.heap [] _ ⟨B.exec, B.bytes, hml, findClass_of_methodNamed B.named, atoms_spec (ws := ws) B.pre⟩ (gH_start hpre) hl (fun z u H locs pc ls hp hg hd => ?_)
  refine W.iret B.exec B.bytes B.returns (fun t ht hW => ⟨⟨iI z, u, rfl, ⟨z, rfl, hp⟩, by rw [ht]; exact hg.1, va_K.moved hW.alike hg.2.2.2.1.1, hg.2.1⟩, hg.2.2.1.F ht⟩) hg.2.2.1.2.2 hd B.notSynchronized
theorem met_Z {post : Bool → σ → Prop} (hy : plainName y.cls = true) (hw : ws = Cond.code y cc nL (some .boolean) :: ws') (hsl : (lg_sl av).length ≤ nL)
    (body : ∀ (p : Program) (e : Env) (s : State) (m : MethodId) (args : Array Value) (below : List Frame) (meth : Method) (c : Code) (Q : State → Prop) (H0 : Heap) (A0 : Nat → Prop) (H : Heap) (locs : List Loc) (ls : Array Slot), CallFix p m c cc nL s args ws y.cls → gH E A0 H0 s w0 H locs → lv_has ls nL (lv_args 0 av) →
      (∀ (b : Bool) (z : Int) (u : σ) (H : Heap) (locs : List Loc) (pc : Nat) (ls : Array Slot), z = (if b = true then 1 else 0) → post b u → gH E A0 H0 s (w u) H locs → decode cc pc = .ok (.ireturn, 1) → W p l e rm s m args below meth c H locs 0 0 Q (F0 m pc ls [.int (iI z)])) →
      W p l e rm s m args below meth c H locs 0 0 Q (F0 m 0 ls [])) : MetZ l y ws rm E av w0 w post := by
  intro sz
  refine Met.ofW (cc := cc) (maxL := nL) (ret := some .boolean) hy hw ?_
  intro p e s m args below meth c s₁ B hml hv
  obtain ⟨rfl, hpre⟩ := hv
  have hl := lv_entry av (n := nL) hsl
  rw [lg_entry_eq]
  refine body p e s m _ below meth c _ s.heap (va_A w0 sz) s.heap [] _ ⟨B.exec, B.bytes, hml, findClass_of_methodNamed B.named, atoms_spec (ws := ws) B.pre⟩ (gH_start hpre) hl (fun b z u H locs pc ls hz hp hg hd => ?_)
  refine W.zret B.exec B.bytes B.returns (by subst hz; cases b <;> decide) (fun t ht hW => ⟨⟨iI z, u, rfl, ⟨b, by rw [hz], hp⟩, by rw [ht]; exact hg.1, va_K.moved hW.alike hg.2.2.2.1.1, hg.2.1⟩, hg.2.2.1.F ht⟩) hg.2.2.1.2.2 hd B.notSynchronized
theorem met_V {post : σ → Prop} (hy : plainName y.cls = true) (hw : ws = Cond.code y cc nL none :: ws') (hsl : (lg_sl av).length ≤ nL)
    (body : ∀ (p : Program) (e : Env) (s : State) (m : MethodId) (args : Array Value) (below : List Frame) (meth : Method) (c : Code) (Q : State → Prop) (H0 : Heap) (A0 : Nat → Prop) (H : Heap) (locs : List Loc) (ls : Array Slot), CallFix p m c cc nL s args ws y.cls → gH E A0 H0 s w0 H locs → lv_has ls nL (lv_args 0 av) →
      (∀ (u : σ) (H : Heap) (locs : List Loc) (pc : Nat) (ls : Array Slot), post u → gH E A0 H0 s (w u) H locs → decode cc pc = .ok (.return_, 1) → W p l e rm s m args below meth c H locs 0 0 Q (F0 m pc ls [])) →
      W p l e rm s m args below meth c H locs 0 0 Q (F0 m 0 ls [])) : MetV l y ws rm E av w0 w post := by
  intro sz
  refine Met.ofW (cc := cc) (maxL := nL) (ret := none) hy hw ?_
  intro p e s m args below meth c s₁ B hml hv
  obtain ⟨rfl, hpre⟩ := hv
  have hl := lv_entry av (n := nL) hsl
  rw [lg_entry_eq]
  refine body p e s m _ below meth c _ s.heap (va_A w0 sz) s.heap [] _ ⟨B.exec, B.bytes, hml, findClass_of_methodNamed B.named, atoms_spec (ws := ws) B.pre⟩ (gH_start hpre) hl (fun u H locs pc ls hp hg hd => ?_)
  refine W.vret B.exec B.bytes B.returns (fun t ht hW => ⟨⟨u, rfl, hp, by rw [ht]; exact hg.1, va_K.moved hW.alike hg.2.2.2.1.1, hg.2.1⟩, hg.2.2.1.F ht⟩) hg.2.2.1.2.2 hd B.notSynchronized
end MW
section CW
variable {p : Program} {l : Launch} {e : Env} {R : Room} {s : State} {m : MethodId} {args : Array Value} {below : List Frame} {meth : Method} {c : Code} {H : Heap} {locs : List Loc} {cells slots : Nat} {Q : State → Prop}
variable {cc bytes : ByteArray} {nL maxL index n : Nat} {Ts ws : List Cond} {own C : String} {pc b : Nat} {ls : Array Slot} {rest As st : List Value} {y : MethodName} {rm : Room}
variable {E : Ev} {A0 : Nat → Prop} {H0 : Heap} {w0 : va_W} {σ : Type} {w : σ → va_W}
theorem gH_free (hw : gH E A0 H0 s w0 H locs) : ∀ q, va_A w0 H.size q → A0 q := by
  intro q h
  rcases h with ⟨k, e, h⟩ | h
  · exact hw.2.1.2 k (q, e) h
  · exact hw.2.2.2.2 q (Nat.le_trans hw.2.2.1.1 h)
theorem gH_pre (hw : gH E A0 H0 s w0 H locs) {U : State} (hU : U.heap = H) (hW : s.WarmedH U.vm) : cPre E w0 H.size U := ⟨by rw [hU], by rw [hU]; exact hw.1, ⟨va_K.moved hW.alike hw.2.2.2.1.1, nN.warm hW hw.2.2.2.1.2⟩, hw.2.1.weaken (fun _ _ _ _ => trivial)⟩
theorem gH_back (hw : gH E A0 H0 s w0 H locs) {u : σ} {t : State} {H1 : Heap} {locs1 : List Loc} (ht : t.heap = H1) (hB : cPost E w0 H.size w u t) (hS : va_S A0 H0 H1 locs1) : gH E A0 H0 s (w u) H1 locs1 := by
  obtain ⟨hP1, hK1, hD1⟩ := hB
  exact ⟨by rw [← ht]; exact hP1, hD1.weaken (fun k q _ h => gH_free hw q.1 h), hS, hw.2.2.2⟩
/-- a method of an object, over the whole world -/
theorem call_I {post : Int → σ → Prop} (F : CallFix p m c cc nL s args Ts own) (hM : MetI l y ws rm E (.ref b :: As) w0 w post) (cw : CallW R s args own C index y bytes maxL (some .int) ws rm 0 0 n) (hw : gH E A0 H0 s w0 H locs) (hrecv : ∃ cell : Cell, H[b]? = some cell ∧ cell.vm.isStatics = false ∧ s.vm.findClass C = some cell.cls)
    (hn : As.length = n) (hsize : ls.size = nL) (hstack : st = As.reverse ++ .ref b :: rest) (hcat : (rest.map fun v => v.category).sum ≤ 8) (hdg : decode cc pc = .ok (.invokevirtual index, 3)) (hf : cells ≤ R.cells ∧ slots ≤ R.slots)
    (kk : ∀ (z : Int) (u : σ) (H1 : Heap) (locs1 : List Loc), post z u → gH E A0 H0 s (w u) H1 locs1 → W p l e R s m args below meth c H1 locs1 cells slots Q (F0 m (pc + 3) ls (.int (iI z) :: rest))) : W p l e R s m args below meth c H locs cells slots Q (F0 m pc ls st) := by
  refine va_calli (va_runV (g := F0 m pc ls st) F (hM H.size) cw ⟨gH_blind, hrecv, fun U hU hW => ⟨rfl, gH_pre hw hU hW⟩⟩ rfl hn hsize hstack (lv_room hcat) hdg hf) hw.2.2.1 (fun q _ h => gH_free hw q h) (gH_free hw) (fun r u t H1 locs1 ht hvm hp hB hz hk hS => ?_)
  obtain ⟨z, rfl, hp⟩ := hp
  exact kk z u H1 locs1 hp (gH_back hw ht hB hS)
theorem call_Z {post : Bool → σ → Prop} (F : CallFix p m c cc nL s args Ts own) (hM : MetZ l y ws rm E (.ref b :: As) w0 w post) (cw : CallW R s args own C index y bytes maxL (some .boolean) ws rm 0 0 n) (hw : gH E A0 H0 s w0 H locs) (hrecv : ∃ cell : Cell, H[b]? = some cell ∧ cell.vm.isStatics = false ∧ s.vm.findClass C = some cell.cls)
    (hn : As.length = n) (hsize : ls.size = nL) (hstack : st = As.reverse ++ .ref b :: rest) (hcat : (rest.map fun v => v.category).sum ≤ 8) (hdg : decode cc pc = .ok (.invokevirtual index, 3)) (hf : cells ≤ R.cells ∧ slots ≤ R.slots)
    (kt : ∀ (u : σ) (H1 : Heap) (locs1 : List Loc), post true u → gH E A0 H0 s (w u) H1 locs1 → W p l e R s m args below meth c H1 locs1 cells slots Q (F0 m (pc + 3) ls (.int (iI 1) :: rest)))
    (kf : ∀ (u : σ) (H1 : Heap) (locs1 : List Loc), post false u → gH E A0 H0 s (w u) H1 locs1 → W p l e R s m args below meth c H1 locs1 cells slots Q (F0 m (pc + 3) ls (.int (iI 0) :: rest))) : W p l e R s m args below meth c H locs cells slots Q (F0 m pc ls st) := by
  refine va_calli (va_runV (g := F0 m pc ls st) F (hM H.size) cw ⟨gH_blind, hrecv, fun U hU hW => ⟨rfl, gH_pre hw hU hW⟩⟩ rfl hn hsize hstack (lv_room hcat) hdg hf) hw.2.2.1 (fun q _ h => gH_free hw q h) (gH_free hw) (fun r u t H1 locs1 ht hvm hp hB hz hk hS => ?_)
  obtain ⟨b, rfl, hp⟩ := hp
  cases b with
  | true => exact kt u H1 locs1 hp (gH_back hw ht hB hS)
  | false => exact kf u H1 locs1 hp (gH_back hw ht hB hS)
theorem call_V {post : σ → Prop} (F : CallFix p m c cc nL s args Ts own) (hM : MetV l y ws rm E (.ref b :: As) w0 w post) (cw : CallW R s args own C index y bytes maxL none ws rm 0 0 n) (hw : gH E A0 H0 s w0 H locs) (hrecv : ∃ cell : Cell, H[b]? = some cell ∧ cell.vm.isStatics = false ∧ s.vm.findClass C = some cell.cls)
    (hn : As.length = n) (hsize : ls.size = nL) (hstack : st = As.reverse ++ .ref b :: rest) (hcat : (rest.map fun v => v.category).sum ≤ 8) (hdg : decode cc pc = .ok (.invokevirtual index, 3)) (hf : cells ≤ R.cells ∧ slots ≤ R.slots)
    (kk : ∀ (u : σ) (H1 : Heap) (locs1 : List Loc), post u → gH E A0 H0 s (w u) H1 locs1 → W p l e R s m args below meth c H1 locs1 cells slots Q (F0 m (pc + 3) ls rest)) : W p l e R s m args below meth c H locs cells slots Q (F0 m pc ls st) := by
  refine va_callv (va_runV (g := F0 m pc ls st) F (hM H.size) cw ⟨gH_blind, hrecv, fun U hU hW => ⟨rfl, gH_pre hw hU hW⟩⟩ rfl hn hsize hstack (lv_room hcat) hdg hf) hw.2.2.1 (fun q _ h => gH_free hw q h) (gH_free hw) (fun u t H1 locs1 ht hvm hp hB hz hk hS => ?_)
  exact kk u H1 locs1 hp (gH_back hw ht hB hS)
/-- a static method over the whole world -/
theorem calls_V {post : σ → Prop} (F : CallFix p m c cc nL s args Ts own) (hM : MetV l y ws rm E As w0 w post) (cw : CallB R s args own index y bytes maxL none ws rm 0 0 n ∧ (Cond.static y).before args s = true) (hw : gH E A0 H0 s w0 H locs)
    (hn : As.length = n) (hsize : ls.size = nL) (hstack : st = As.reverse ++ rest) (hcat : (rest.map fun v => v.category).sum ≤ 8) (hdg : decode cc pc = .ok (.invokestatic index, 3)) (hf : cells ≤ R.cells ∧ slots ≤ R.slots)
    (kk : ∀ (u : σ) (H1 : Heap) (locs1 : List Loc), post u → gH E A0 H0 s (w u) H1 locs1 → W p l e R s m args below meth c H1 locs1 cells slots Q (F0 m (pc + 3) ls rest)) : W p l e R s m args below meth c H locs cells slots Q (F0 m pc ls st) := by
  refine va_callv (va_runS (g := F0 m pc ls st) F (hM H.size) cw ⟨gH_blind, fun U hU hW => ⟨rfl, gH_pre hw hU hW⟩⟩ rfl hn hsize hstack (lv_room hcat) hdg hf) hw.2.2.1 (fun q _ h => gH_free hw q h) (gH_free hw) (fun u t H1 locs1 ht hvm hp hB hz hk hS => ?_)
  exact kk u H1 locs1 hp (gH_back hw ht hB hS)
theorem gH_nil (hw : gH E A0 H0 s w0 H locs) : gH E A0 H0 s [] H locs := ⟨fun k q h => by simp at h, ⟨fun i j p q h => by simp at h, fun k q h => by simp at h⟩, hw.2.2⟩
theorem gH_keep (hw : gH E A0 H0 s w0 H locs) {H1 : Heap} {locs1 : List Loc} (hk : ∀ q : Nat, q < H.size → ¬ va_A [] H.size q → H1[q]? = H[q]?) (hS : va_S A0 H0 H1 locs1) : gH E A0 H0 s w0 H1 locs1 := by
  refine ⟨hw.1.kept (fun k q h => hk q.1 ((hw.1 k q h).lt) (fun h2 => ?_)), hw.2.1, hS, hw.2.2.2⟩
  have hl := (hw.1 k q h).lt
  rcases h2 with ⟨k2, e, h2⟩ | h2
  · simp at h2
  · omega
/-- a static method that looks at no cell -/
theorem calls_Z0 {post : Bool → Unit → Prop} {wu : Unit → va_W} (F : CallFix p m c cc nL s args Ts own) (hM : MetZ l y ws rm E As [] wu post) (cw : CallB R s args own index y bytes maxL (some .boolean) ws rm 0 0 n ∧ (Cond.static y).before args s = true) (hw : gH E A0 H0 s w0 H locs)
    (hn : As.length = n) (hsize : ls.size = nL) (hstack : st = As.reverse ++ rest) (hcat : (rest.map fun v => v.category).sum ≤ 8) (hdg : decode cc pc = .ok (.invokestatic index, 3)) (hf : cells ≤ R.cells ∧ slots ≤ R.slots)
    (kt : ∀ (H1 : Heap) (locs1 : List Loc), post true () → gH E A0 H0 s w0 H1 locs1 → W p l e R s m args below meth c H1 locs1 cells slots Q (F0 m (pc + 3) ls (.int (iI 1) :: rest)))
    (kf : ∀ (H1 : Heap) (locs1 : List Loc), post false () → gH E A0 H0 s w0 H1 locs1 → W p l e R s m args below meth c H1 locs1 cells slots Q (F0 m (pc + 3) ls (.int (iI 0) :: rest))) : W p l e R s m args below meth c H locs cells slots Q (F0 m pc ls st) := by
  refine va_calli (va_runS (g := F0 m pc ls st) F (hM H.size) cw ⟨gH_blind, fun U hU hW => ⟨rfl, gH_pre (gH_nil hw) hU hW⟩⟩ rfl hn hsize hstack (lv_room hcat) hdg hf) hw.2.2.1 (fun q _ h => gH_free (gH_nil hw) q h) (gH_free (gH_nil hw)) (fun r u t H1 locs1 ht hvm hp hB hz hk hS => ?_)
  obtain ⟨b, rfl, hp⟩ := hp
  cases b with
  | true => exact kt H1 locs1 hp (gH_keep hw hk hS)
  | false => exact kf H1 locs1 hp (gH_keep hw hk hS)
end CW
/-- a truth about the world that stays -/
def MetP (l : Launch) (y : MethodName) (ws : List Cond) (rm : Room) (E : Ev) (av : List Value) (w0 : va_W) (P : Prop) : Prop := MetZ l y ws rm E av w0 (fun _ : Unit => w0) (fun b _ => b = true ↔ P)
/-- a number of the world that stays -/
def MetN (l : Launch) (y : MethodName) (ws : List Cond) (rm : Room) (E : Ev) (av : List Value) (w0 : va_W) (z : Int) : Prop := MetI l y ws rm E av w0 (fun _ : Unit => w0) (fun r _ => r = z)
section CP
variable {p : Program} {l : Launch} {e : Env} {R : Room} {s : State} {m : MethodId} {args : Array Value} {below : List Frame} {meth : Method} {c : Code} {H : Heap} {locs : List Loc} {cells slots : Nat} {Q : State → Prop}
variable {cc bytes : ByteArray} {nL maxL index n : Nat} {Ts ws : List Cond} {own C : String} {pc b : Nat} {ls : Array Slot} {rest As st : List Value} {y : MethodName} {rm : Room}
variable {E : Ev} {A0 : Nat → Prop} {H0 : Heap} {w0 : va_W}
theorem call_P {P : Prop} (F : CallFix p m c cc nL s args Ts own) (hM : MetP l y ws rm E (.ref b :: As) w0 P) (cw : CallW R s args own C index y bytes maxL (some .boolean) ws rm 0 0 n) (hw : gH E A0 H0 s w0 H locs) (hrecv : ∃ cell : Cell, H[b]? = some cell ∧ cell.vm.isStatics = false ∧ s.vm.findClass C = some cell.cls)
    (hn : As.length = n) (hsize : ls.size = nL) (hstack : st = As.reverse ++ .ref b :: rest) (hcat : (rest.map fun v => v.category).sum ≤ 8) (hdg : decode cc pc = .ok (.invokevirtual index, 3)) (hf : cells ≤ R.cells ∧ slots ≤ R.slots)
    (kt : P → ∀ (H1 : Heap) (locs1 : List Loc), gH E A0 H0 s w0 H1 locs1 → W p l e R s m args below meth c H1 locs1 cells slots Q (F0 m (pc + 3) ls (.int (iI 1) :: rest)))
    (kf : ¬ P → ∀ (H1 : Heap) (locs1 : List Loc), gH E A0 H0 s w0 H1 locs1 → W p l e R s m args below meth c H1 locs1 cells slots Q (F0 m (pc + 3) ls (.int (iI 0) :: rest))) : W p l e R s m args below meth c H locs cells slots Q (F0 m pc ls st) :=
  call_Z F hM cw hw hrecv hn hsize hstack hcat hdg hf (fun _ H1 locs1 hq hw => kt (hq.mp rfl) H1 locs1 hw) (fun _ H1 locs1 hq hw => kf (fun h => by have := hq.mpr h; cases this) H1 locs1 hw)
theorem call_N {v : Int} (F : CallFix p m c cc nL s args Ts own) (hM : MetN l y ws rm E (.ref b :: As) w0 v) (cw : CallW R s args own C index y bytes maxL (some .int) ws rm 0 0 n) (hw : gH E A0 H0 s w0 H locs) (hrecv : ∃ cell : Cell, H[b]? = some cell ∧ cell.vm.isStatics = false ∧ s.vm.findClass C = some cell.cls)
    (hn : As.length = n) (hsize : ls.size = nL) (hstack : st = As.reverse ++ .ref b :: rest) (hcat : (rest.map fun v => v.category).sum ≤ 8) (hdg : decode cc pc = .ok (.invokevirtual index, 3)) (hf : cells ≤ R.cells ∧ slots ≤ R.slots)
    (kk : ∀ (H1 : Heap) (locs1 : List Loc), gH E A0 H0 s w0 H1 locs1 → W p l e R s m args below meth c H1 locs1 cells slots Q (F0 m (pc + 3) ls (.int (iI v) :: rest))) : W p l e R s m args below meth c H locs cells slots Q (F0 m pc ls st) :=
  call_I F hM cw hw hrecv hn hsize hstack hcat hdg hf (fun z _ H1 locs1 hq hw => by subst hq; exact kk H1 locs1 hw)
theorem calls_P0 {P : Prop} (F : CallFix p m c cc nL s args Ts own) (hM : MetP l y ws rm E As [] P) (cw : CallB R s args own index y bytes maxL (some .boolean) ws rm 0 0 n ∧ (Cond.static y).before args s = true) (hw : gH E A0 H0 s w0 H locs)
    (hn : As.length = n) (hsize : ls.size = nL) (hstack : st = As.reverse ++ rest) (hcat : (rest.map fun v => v.category).sum ≤ 8) (hdg : decode cc pc = .ok (.invokestatic index, 3)) (hf : cells ≤ R.cells ∧ slots ≤ R.slots)
    (kt : P → ∀ (H1 : Heap) (locs1 : List Loc), gH E A0 H0 s w0 H1 locs1 → W p l e R s m args below meth c H1 locs1 cells slots Q (F0 m (pc + 3) ls (.int (iI 1) :: rest)))
    (kf : ¬ P → ∀ (H1 : Heap) (locs1 : List Loc), gH E A0 H0 s w0 H1 locs1 → W p l e R s m args below meth c H1 locs1 cells slots Q (F0 m (pc + 3) ls (.int (iI 0) :: rest))) : W p l e R s m args below meth c H locs cells slots Q (F0 m pc ls st) :=
  calls_Z0 F hM cw hw hn hsize hstack hcat hdg hf (fun H1 locs1 hq hw => kt (hq.mp rfl) H1 locs1 hw) (fun H1 locs1 hq hw => kf (fun h => by have := hq.mpr h; cases this) H1 locs1 hw)
end CP
