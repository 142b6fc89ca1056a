/-! CONSTRUCTORS: new cells; mc cells of ms slots come -/
def MetC (l : Launch) (y : MethodName) (ws : List Cond) (rm : Room) (E : Ev) (av : List Value) (w0 : va_W) {σ : Type} (w : σ → va_W) (mc ms : Nat) : Prop :=
  ∀ sz : Nat, Met l y ws rm (va_Pc av (cPre E w0 sz)) (va_Qv (fun _ : σ => True) (cPost E w0 sz w) (va_A w0 sz)) mc ms (va_A w0 sz)
theorem met_C {l : Launch} {y : MethodName} {ws ws' : List Cond} {rm : Room} {E : Ev} {av : List Value} {w0 : va_W} {σ : Type} {w : σ → va_W} {mc ms : Nat} {cc : ByteArray} {nL : Nat} (hy : plainName y.cls = true) (hnm : y.name = "<init>") (hw : ws = Cond.code y cc nL none :: ws') (hsl : (lg_sl av).length ≤ nL)
    (body : ∀ (p : Program) (e : Env) (s : State) (m : MethodId) (args : Array Value) (below : List Frame) (meth : Method) (c : Code) (Q : State → Prop) (H0 : Heap) (A0 : Nat → Prop) (H : Heap) (locs : List Loc) (ls : Array Slot), CallFix p m c cc nL s args ws y.cls → meth.name = "<init>" → gH E A0 H0 s w0 H locs → lv_has ls nL (lv_args 0 av) →
      (∀ (u : σ) (H : Heap) (locs : List Loc) (pc : Nat) (ls : Array Slot), gH E A0 H0 s (w u) H locs → decode cc pc = .ok (.return_, 1) → W p l e rm s m args below meth c H locs mc ms Q (F0 m pc ls [])) →
      W p l e rm s m args below meth c H locs 0 0 Q (F0 m 0 ls [])) : MetC l y ws rm E av w0 w mc ms := by
  intro sz
  refine Met.ofW (cc := cc) (maxL := nL) (ret := none) hy hw ?_
  intro p e s m args below meth c s₁ B hml hv
  obtain ⟨rfl, hpre⟩ := hv
  have hl := lv_entry av (n := nL) hsl
  rw [lg_entry_eq]
  refine body p e s m _ below meth c _ s.heap (va_A w0 sz) s.heap [] _ ⟨B.exec, B.bytes, hml, findClass_of_methodNamed B.named, atoms_spec (ws := ws) B.pre⟩ ((name_of_methodNamed B.named B.method).1.trans hnm) (gH_start hpre) hl (fun u H locs pc ls hg hd => ?_)
  refine W.vret B.exec B.bytes B.returns (fun t ht hW => ⟨⟨u, rfl, trivial, by rw [ht]; exact hg.1, va_K.moved hW.alike hg.2.2.2.1.1, hg.2.1⟩, hg.2.2.1.F ht⟩) hg.2.2.1.2.2 hd B.notSynchronized
section CC
variable {p : Program} {l : Launch} {e : Env} {R : Room} {s : State} {m : MethodId} {args : Array Value} {below : List Frame} {meth : Method} {c : Code} {H : Heap} {locs : List Loc} {cells slots : Nat} {Q : State → Prop}
variable {cc bytes : ByteArray} {nL maxL index n : Nat} {Ts ws ws' : List Cond} {own C : String} {pc b : Nat} {ls : Array Slot} {rest As st : List Value} {y : MethodName} {rm : Room}
variable {E : Ev} {A0 : Nat → Prop} {H0 : Heap} {w w0 w1 wr : va_W} {mc ms : Nat}
theorem g_newI (F : CallFix p m c cc nL s args Ts own) (hw : gH E A0 H0 s w H locs) (N : Nat) {n : Int} (hn : 0 ≤ n ∧ n ≤ 1000) (hN : n.toNat = N) (harr : Cond.arrayClass .int ∈ Ts) (hcells : cells + 1 ≤ R.cells) (hslots : slots + N ≤ R.slots) (hdg : decode cc pc = .ok (.newarray .int, 2))
    (k : ∀ (q : Nat) (H1 : Heap), gH E A0 H0 s (w ++ [(q, Sum.inl (eI E, N, Sum.inl (fun _ : Nat => iI 0)))]) H1 locs → W p l e R s m args below meth c H1 locs (cells + 1) (slots + N) Q (F0 m (pc + 2) ls (.ref q :: rest))) : W p l e R s m args below meth c H locs cells slots Q (F0 m pc ls (.int (iI n) :: rest)) := by
  refine va_newa (atype := .int) (a0 := (N, Sum.inl (fun _ : Nat => iI 0))) (ty := .int) F.1 F.2.1 (F.2.2.2.2 _ harr) rfl hw.2.2.2.1.1 hw.1 hw.2.1 hw.2.2.1 hw.2.2.2.2 (fun cA => rfl) (iI_nonneg (by omega)) (by rw [iI_clamp (by omega)]; exact hN) (by show N * 4 ≤ 536870912; omega) hcells hslots hdg (fun q cA H1 hK hP hD hS => ?_)
  have h1 : s.vm.findClass ("[" ++ (FieldType.int).toString) = some cA := (hK.2 3 _ rfl).2
  have h2 : s.vm.findClass ("[" ++ (FieldType.int).toString) = some (eI E) := (hw.2.2.2.1.1.2 0 _ rfl).2
  have h3 : cA = eI E := Option.some.inj (h1.symm.trans h2)
  subst h3
  exact k q H1 ⟨hP, hD, hS, hw.2.2.2⟩
theorem g_newZ (F : CallFix p m c cc nL s args Ts own) (hw : gH E A0 H0 s w H locs) (N : Nat) {n : Int} (hn : 0 ≤ n ∧ n ≤ 1000) (hN : n.toNat = N) (harr : Cond.arrayClass .boolean ∈ Ts) (hcells : cells + 1 ≤ R.cells) (hslots : slots + N ≤ R.slots) (hdg : decode cc pc = .ok (.newarray .boolean, 2))
    (k : ∀ (q : Nat) (H1 : Heap), gH E A0 H0 s (w ++ [(q, Sum.inl (eZ E, N, Sum.inl (fun _ : Nat => iI 0)))]) H1 locs → W p l e R s m args below meth c H1 locs (cells + 1) (slots + N) Q (F0 m (pc + 2) ls (.ref q :: rest))) : W p l e R s m args below meth c H locs cells slots Q (F0 m pc ls (.int (iI n) :: rest)) := by
  refine va_newa (atype := .boolean) (a0 := (N, Sum.inl (fun _ : Nat => iI 0))) (ty := .boolean) F.1 F.2.1 (F.2.2.2.2 _ harr) rfl hw.2.2.2.1.1 hw.1 hw.2.1 hw.2.2.1 hw.2.2.2.2 (fun cA => rfl) (iI_nonneg (by omega)) (by rw [iI_clamp (by omega)]; exact hN) (by show N * 1 ≤ 536870912; omega) hcells hslots hdg (fun q cA H1 hK hP hD hS => ?_)
  have h1 : s.vm.findClass ("[" ++ (FieldType.boolean).toString) = some cA := (hK.2 3 _ rfl).2
  have h2 : s.vm.findClass ("[" ++ (FieldType.boolean).toString) = some (eZ E) := (hw.2.2.2.1.1.2 1 _ rfl).2
  have h3 : cA = eZ E := Option.some.inj (h1.symm.trans h2)
  subst h3
  exact k q H1 ⟨hP, hD, hS, hw.2.2.2⟩
theorem g_newL (F : CallFix p m c cc nL s args Ts own) (hw : gH E A0 H0 s w H locs) (N : Nat) {n : Int} (hn : 0 ≤ n ∧ n ≤ 1000) (hN : n.toNat = N) (harr : Cond.arrayClass .long ∈ Ts) (hcells : cells + 1 ≤ R.cells) (hslots : slots + N ≤ R.slots) (hdg : decode cc pc = .ok (.newarray .long, 2))
    (k : ∀ (q : Nat) (H1 : Heap), gH E A0 H0 s (w ++ [(q, Sum.inl (eL E, N, Sum.inr (Sum.inl (fun _ : Nat => (0 : Int64)))))]) H1 locs → W p l e R s m args below meth c H1 locs (cells + 1) (slots + N) Q (F0 m (pc + 2) ls (.ref q :: rest))) : W p l e R s m args below meth c H locs cells slots Q (F0 m pc ls (.int (iI n) :: rest)) := by
  refine va_newa (atype := .long) (a0 := (N, Sum.inr (Sum.inl (fun _ : Nat => (0 : Int64))))) (ty := .long) F.1 F.2.1 (F.2.2.2.2 _ harr) rfl hw.2.2.2.1.1 hw.1 hw.2.1 hw.2.2.1 hw.2.2.2.2 (fun cA => rfl) (iI_nonneg (by omega)) (by rw [iI_clamp (by omega)]; exact hN) (by show N * 8 ≤ 536870912; omega) hcells hslots hdg (fun q cA H1 hK hP hD hS => ?_)
  have h1 : s.vm.findClass ("[" ++ (FieldType.long).toString) = some cA := (hK.2 3 _ rfl).2
  have h2 : s.vm.findClass ("[" ++ (FieldType.long).toString) = some (eL E) := (hw.2.2.2.1.1.2 2 _ rfl).2
  have h3 : cA = eL E := Option.some.inj (h1.symm.trans h2)
  subst h3
  exact k q H1 ⟨hP, hD, hS, hw.2.2.2⟩
theorem g_new (F : CallFix p m c cc nL s args Ts own) (hw : gH E A0 H0 s w H locs) {T : u_T} {N : Nat} (ci : Nat) (hin : ∀ w ∈ u_ws C T N, w ∈ Ts) (ty : Nat → FieldType) (hty : ∀ k, k < N → parseFieldDescriptor (T k).2.2.1 = some (ty k)) (hcl : Cond.classLink own index C ∈ Ts) (hinst : Cond.instantiable C N ∈ Ts) (hini : Cond.initialized C ∈ Ts) (hc : vwCl[ci]? = some (C, T, N)) (fs : List Value) (hfs : ∀ j, j < N → defaultValue (ty j) = vp_V fs j) (hcells : cells + 1 ≤ R.cells) (hslots : slots + N ≤ R.slots) (hdg : decode cc pc = .ok (.new index, 3))
    (k : ∀ (q : Nat) (H1 : Heap), gH E A0 H0 s (w ++ [(q, Sum.inr (ci, fs))]) H1 locs → W p l e R s m args below meth c H1 locs (cells + 1) (slots + N) Q (F0 m (pc + 3) ls (.ref q :: rest))) : W p l e R s m args below meth c H locs cells slots Q (F0 m pc ls rest) :=
  va_new (ci := ci) (fs := fs) F.1 F.2.1 F.2.2.2.2 hin ty hty F.2.2.2.1 (F.2.2.2.2 _ hcl) (F.2.2.2.2 _ hinst) (F.2.2.2.2 _ hini) hw.2.2.2.1.1 hw.1 hw.2.1 hw.2.2.1 hw.2.2.2.2 hc hfs hcells hslots hdg (fun q H1 hP hD hS => k q H1 ⟨hP, hD, hS, hw.2.2.2⟩)
theorem g_putF (F : CallFix p m c cc nL s args Ts own) (hi : meth.name = "<init>") (hw : gH E A0 H0 s w H locs) {T : u_T} {N : Nat} (ci : Nat) (hin : ∀ w ∈ u_ws C T N, w ∈ Ts) (ty0 : Nat → FieldType) (hty : ∀ k, k < N → parseFieldDescriptor (T k).2.2.1 = some (ty0 k)) (hnm : ∀ a, a < N → ∀ b, b < N → a ≠ b → (T a).2.1 ≠ (T b).2.1) (q0 : Nat) {a : Nat} {fs : List Value} (he : w[q0]? = some (a, Sum.inr (ci, fs))) (hc : vwCl[ci]? = some (C, T, N)) (k : Nat) (hk : k < N) {ref : String} (hlk : Cond.fieldLink own index ref (T k).2.1 (T k).2.2.1 ∈ Ts) (hsm : (T k).1 = ref) (hdecl : (T k).1 = own) (hfin : (T k).2.2.2 = true) {ty : FieldType} {v : Value} (hd : parseFieldDescriptor (T k).2.2.1 = some ty) (hn : narrow ty v = v) (hfit : fits ty v = true) (hl : k < fs.length) (hw1 : w.set q0 (a, Sum.inr (ci, fs.set k v)) = w1) (hdg : decode cc pc = .ok (.putfield index, 3))
    (kk : ∀ (H1 : Heap) (locs1 : List Loc), gH E A0 H0 s w1 H1 locs1 → W p l e R s m args below meth c H1 locs1 cells slots Q (F0 m (pc + 3) ls rest)) : W p l e R s m args below meth c H locs cells slots Q (F0 m pc ls (v :: .ref a :: rest)) := by
  subst hw1
  exact va_putF (D := eD E) (ci := ci) (C := C) (T := T) (N := N) F.1 F.2.1 F.2.2.2.2 hin ty0 hty hnm F.2.2.2.1 hw.2.2.2.1.1 hw.1 hw.2.1 hw.2.2.1 q0 he hc k hk (F.2.2.2.2 _ hlk) (fun x h => by rw [hsm] at h; exact h) hfin hi hdecl hd hn hfit hl hdg (fun H1 locs1 hP hD hS => kk H1 locs1 ⟨hP, hD, hS, hw.2.2.2⟩)
theorem g_putI (F : CallFix p m c cc nL s args Ts own) (hw : gH E A0 H0 s w H locs) {T : u_T} {N : Nat} (ci : Nat) (hin : ∀ w ∈ u_ws C T N, w ∈ Ts) (ty0 : Nat → FieldType) (hty : ∀ k, k < N → parseFieldDescriptor (T k).2.2.1 = some (ty0 k)) (hnm : ∀ a, a < N → ∀ b, b < N → a ≠ b → (T a).2.1 ≠ (T b).2.1) (q0 : Nat) {a : Nat} {fs : List Value} (he : w[q0]? = some (a, Sum.inr (ci, fs))) (hc : vwCl[ci]? = some (C, T, N)) (k : Nat) (hk : k < N) {ref : String} (hlk : Cond.fieldLink own index ref (T k).2.1 (T k).2.2.1 ∈ Ts) (hsm : (T k).1 = ref) (hfin : (T k).2.2.2 = false) {v : Int} (hd : parseFieldDescriptor (T k).2.2.1 = some .int) (hl : k < fs.length) (hw1 : w.set q0 (a, Sum.inr (ci, fs.set k (.int (iI v)))) = w1) (hdg : decode cc pc = .ok (.putfield index, 3))
    (kk : ∀ (H1 : Heap) (locs1 : List Loc), gH E A0 H0 s w1 H1 locs1 → W p l e R s m args below meth c H1 locs1 cells slots Q (F0 m (pc + 3) ls rest)) : W p l e R s m args below meth c H locs cells slots Q (F0 m pc ls (.int (iI v) :: .ref a :: rest)) := by
  subst hw1
  exact va_put (D := eD E) (ci := ci) (ty := .int) (C := C) (T := T) (N := N) F.1 F.2.1 F.2.2.2.2 hin ty0 hty hnm F.2.2.2.1 hw.2.2.2.1.1 hw.1 hw.2.1 hw.2.2.1 q0 he hc k hk (F.2.2.2.2 _ hlk) (fun x h => by rw [hsm] at h; exact h) hfin hd rfl rfl hl hdg (fun H1 locs1 hP hD hS => kk H1 locs1 ⟨hP, hD, hS, hw.2.2.2⟩)
theorem g_getW (F : CallFix p m c cc nL s args Ts own) (hw : gH E A0 H0 s w H locs) {T : u_T} {N : Nat} (ci : Nat) (hin : ∀ w ∈ u_ws C T N, w ∈ Ts) (q0 : Nat) {a : Nat} {fs : List Value} (he : w[q0]? = some (a, Sum.inr (ci, fs))) (hc : vwCl[ci]? = some (C, T, N)) (k : Nat) (hk : k < N) {ref : String} (hlk : Cond.fieldLink own index ref (T k).2.1 (T k).2.2.1 ∈ Ts) (hsm : (T k).1 = ref) {v : Value} (hv : fs[k]? = some v) (hdg : decode cc pc = .ok (.getfield index, 3))
    (kk : W p l e R s m args below meth c H locs cells slots Q (F0 m (pc + 3) ls (v :: rest))) : W p l e R s m args below meth c H locs cells slots Q (F0 m pc ls (.ref a :: rest)) :=
  va_get (D := eD E) (ci := ci) (C := C) (T := T) (N := N) F.1 F.2.1 F.2.2.2.2 hin F.2.2.2.1 hw.2.2.2.1.1 hw.1 q0 he hc k hk (F.2.2.2.2 _ hlk) (fun x h => by rw [hsm] at h; exact h) hv hdg kk
theorem g_obj (F : CallFix p m c cc nL s args Ts own) (hl : ls.size = nL) {a : Nat} (hlk : Cond.methodLink own index objectInit ∈ Ts) (hin : Cond.instanceMethod objectInit ∈ Ts) (hcode : Cond.code objectInit ⟨#[0xb1]⟩ 1 none ∈ Ts) (hfr : 1 ≤ R.frames) (hlo : (rest.map fun v => v.category).sum + 12 ≤ R.locals) (hdg : decode cc pc = .ok (.invokespecial index, 3))
    (k : W p l e R s m args below meth c H locs cells slots Q (F0 m (pc + 3) ls rest)) : W p l e R s m args below meth c H locs cells slots Q (F0 m pc ls (.ref a :: rest)) := by
  refine W.objInit F.1 F.2.1 F.2.2.2.1 (F.2.2.2.2 _ hlk) (F.2.2.2.2 _ hin) (F.2.2.2.2 _ hcode) rfl (by rw [F.2.2.1]; exact hl) rfl hdg hfr (by show 2 * 0 + (rest.map fun v => v.category).sum + 12 ≤ R.locals; omega) ?_
  exact k
theorem gH_cut {wc : va_W} (hw : gH E A0 H0 s w H locs) (is : List Nat) (hn : va_nd is = true) (hs : is.map (fun i => w[i]?) = wc.map some) : gH E A0 H0 s wc H locs := by
  have key : ∀ (k : Nat) (q : Nat × va_E), wc[k]? = some q → ∃ i : Nat, w[i]? = some q := by
    intro k q hk
    have h1 : (is.map (fun i => w[i]?))[k]? = some (some q) := by rw [hs, List.getElem?_map, hk]; rfl
    rw [List.getElem?_map] at h1
    cases hi : is[k]? with
    | none => rw [hi] at h1; cases h1
    | some i => rw [hi] at h1; exact ⟨i, Option.some.inj h1⟩
  exact ⟨fun k q hk => by obtain ⟨i, hi⟩ := key k q hk; exact hw.1 i q hi, hw.2.1.sub is hn hs, hw.2.2⟩
theorem call_C {σ : Type} {wf : σ → va_W} (F : CallFix p m c cc nL s args Ts own) (hM : MetC l y ws rm E (.ref b :: As) w0 wf mc ms) (cw : CallB R s args own index y bytes maxL none ws rm mc ms n ∧ y.name = "<init>" ∧ (Cond.instanceMethod y).before args s = true) (hw : gH E A0 H0 s w H locs) (isC isR : List Nat) (hnc : va_nd isC = true) (hC : isC.map (fun i => w[i]?) = w0.map some) (hR : isR.map (fun i => w[i]?) = wr.map some) (hnd : va_nd isR = true) (hdis : ∀ i ∈ isR, i ∉ isC)
    (hn : As.length = n) (hsize : ls.size = nL) (hstack : st = As.reverse ++ .ref b :: rest) (hcat : (rest.map fun v => v.category).sum ≤ 8) (hdg : decode cc pc = .ok (.invokespecial index, 3)) (hf : cells + mc ≤ R.cells ∧ slots + ms ≤ R.slots)
    (kk : ∀ (u : σ) (H1 : Heap) (locs1 : List Loc), gH E A0 H0 s (wr ++ wf u) H1 locs1 → W p l e R s m args below meth c H1 locs1 (cells + mc) (slots + ms) Q (F0 m (pc + 3) ls rest)) : W p l e R s m args below meth c H locs cells slots Q (F0 m pc ls st) := by
  have hcut := gH_cut hw isC hnc hC
  refine va_callv (va_runI (g := F0 m pc ls st) F (hM H.size) cw ⟨gH_blind, fun U hU hW => ⟨rfl, gH_pre hcut hU hW⟩⟩ rfl hn hsize hstack (lv_room hcat) hdg hf) hw.2.2.1 (fun q _ h => gH_free hcut q h) (gH_free hcut) (fun u t H1 locs1 ht hvm hp hB hz hk hS => ?_)
  obtain ⟨hP1, hK1, hD1⟩ := hB
  obtain ⟨hP, hD⟩ := va_join (wr := wr) (w1 := wf u) hw.1 hw.2.1 isC isR hC hR hnd hdis hk (gH_free hcut) (by rw [← ht]; exact hP1) hD1
  exact kk u H1 locs1 ⟨hP, hD, hS, hw.2.2.2⟩
theorem call_CN {σ : Type} {wf : σ → va_W} {host : String} (F : CallFix p m c cc nL s args Ts own) (hM : MetC l y ws rm E (.ref b :: As) w0 wf mc ms) (hq : (own, index, y, host) ∈ nestL) (hG : GoodIn Ts ws) (hwc : ws = Cond.code y bytes maxL none :: ws') (hrc : rm.cells = mc) (hrs : rm.slots = ms) (hini : Cond.initialized y.cls ∈ Ts) (hins : Cond.instanceMethod y ∈ Ts) (hnm : y.name = "<init>")
    (hd : y.cls ≠ "java/lang/invoke/MethodHandle" ∧ y.cls ≠ "java/lang/invoke/VarHandle" ∧ (parseMethodDescriptor y.desc).map (fun d => d.parameters.length) = some n) (hR0 : rm.frames + 1 ≤ R.frames ∧ 8 + (maxL + 11) + rm.locals ≤ R.locals) (hw : gH E A0 H0 s w H locs) (isC isR : List Nat) (hnc : va_nd isC = true) (hC : isC.map (fun i => w[i]?) = w0.map some) (hR : isR.map (fun i => w[i]?) = wr.map some) (hnd : va_nd isR = true) (hdis : ∀ i ∈ isR, i ∉ isC)
    (hn : As.length = n) (hsize : ls.size = nL) (hstack : st = As.reverse ++ .ref b :: rest) (hcat : (rest.map fun v => v.category).sum ≤ 8) (hdg : decode cc pc = .ok (.invokespecial index, 3)) (hf : cells + mc ≤ R.cells ∧ slots + ms ≤ R.slots)
    (kk : ∀ (u : σ) (H1 : Heap) (locs1 : List Loc), gH E A0 H0 s (wr ++ wf u) H1 locs1 → W p l e R s m args below meth c H1 locs1 (cells + mc) (slots + ms) Q (F0 m (pc + 3) ls rest)) : W p l e R s m args below meth c H locs cells slots Q (F0 m pc ls st) := by
  have hcut := gH_cut hw isC hnc hC
  have cw : va_CN R s args own index y host bytes maxL none ws rm mc ms n := va_cnB n F.2.2.2.2 hG hwc hrc hrs (hw.2.2.2.1.2 _ hq) (F.2.2.2.2 _ hini) hd hR0
  refine va_callv (va_runIN (g := F0 m pc ls st) F (hM H.size) ⟨cw, hnm, F.2.2.2.2 _ hins⟩ ⟨gH_blind, fun U hU hW => ⟨rfl, gH_pre hcut hU hW⟩⟩ rfl hn hsize hstack (lv_room hcat) hdg hf) hw.2.2.1 (fun q _ h => gH_free hcut q h) (gH_free hcut) (fun u t H1 locs1 ht hvm hp hB hz hk hS => ?_)
  obtain ⟨hP1, hK1, hD1⟩ := hB
  obtain ⟨hP, hD⟩ := va_join (wr := wr) (w1 := wf u) hw.1 hw.2.1 isC isR hC hR hnd hdis hk (gH_free hcut) (by rw [← ht]; exact hP1) hD1
  exact kk u H1 locs1 ⟨hP, hD, hS, hw.2.2.2⟩
end CC
