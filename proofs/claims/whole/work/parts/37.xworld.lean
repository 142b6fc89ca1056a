/-! THE CLASS'S WORLD. Objects (eO E): 0 SnowDays, 1 reader, 2 its tale, 3 the tale, 4 now, 5 past, 6 images, 7 dice, 8 trial, 9 sayings, 10 book; 11 kept, 12 fallNights. Arrays: 0 text; 1 to 8 the reader's tale, 9 to 16 the tale (inches, dry, fallFrom, year, firstHome, born, debtPlace, debtInches); 17 row; 18 past; 19 seeds; 20 images; 21 lying; 22 speakers, 23 ages, 24 fits, 25 answers; 26 places, 27 written; 28 kept. Ints: 0 textLength; 1 faultAt, 2 kind, 3 length, 4 at; 5 to 8 the reader's tale's numbers, villages, persons, debts; 9 to 12 the tale's; 13 past.count, 14 past.next; 15 dice; 16 sayings.count; 17 book.count -/
def xLen (j : Nat) : Nat := match j with
  | 0 => 240 | 1 => 20 | 2 => 4 | 3 => 4 | 4 => 4 | 5 => 6 | 6 => 6 | 7 => 5 | 8 => 5 | 9 => 20 | 10 => 4 | 11 => 4 | 12 => 4 | 13 => 6 | 14 => 6 | 15 => 5 | 16 => 5 | 17 => 35 | 18 => 700 | 19 => 2 | 20 => 70 | 21 => 1000 | 22 => 6 | 23 => 6 | 24 => 40 | 25 => 40 | 26 => 15 | _ => 15
theorem xLen_le (j : Nat) : xLen j ≤ 2147483647 := by
  unfold xLen
  split <;> decide
def xO (E : Ev) (I : Nat → Int) : va_W := [
  (eO E 0, Sum.inr (9, [.ref (eA E 0), .int (iI (I 0)), .ref (eO E 1), .ref (eO E 3), .ref (eO E 4), .ref (eO E 5), .ref (eO E 6), .ref (eO E 7), .ref (eO E 8), .ref (eO E 9), .ref (eO E 10)])),
  (eO E 1, Sum.inr (4, [.ref (eO E 2), .int (iI (I 1)), .ref (eA E 0), .int (iI (I 2)), .int (iI (I 3)), .int (iI (I 4))])),
  (eO E 2, Sum.inr (7, [.ref (eA E 1), .ref (eA E 2), .ref (eA E 3), .ref (eA E 4), .ref (eA E 5), .ref (eA E 6), .ref (eA E 7), .ref (eA E 8), .int (iI (I 5)), .int (iI (I 6)), .int (iI (I 7)), .int (iI (I 8))])),
  (eO E 3, Sum.inr (7, [.ref (eA E 9), .ref (eA E 10), .ref (eA E 11), .ref (eA E 12), .ref (eA E 13), .ref (eA E 14), .ref (eA E 15), .ref (eA E 16), .int (iI (I 9)), .int (iI (I 10)), .int (iI (I 11)), .int (iI (I 12))])),
  (eO E 4, Sum.inr (6, [.ref (eA E 17)])),
  (eO E 5, Sum.inr (3, [.int (iI (I 13)), .ref (eA E 18), .int (iI (I 14))])),
  (eO E 6, Sum.inr (2, [.ref (eO E 11), .ref (eA E 19), .ref (eA E 20)])),
  (eO E 7, Sum.inr (1, [.int (iI (I 15))])),
  (eO E 8, Sum.inr (8, [.ref (eO E 3), .ref (eO E 4), .ref (eA E 21), .ref (eO E 12)])),
  (eO E 9, Sum.inr (5, [.int (iI (I 16)), .ref (eO E 3), .ref (eO E 4), .ref (eA E 22), .ref (eA E 23), .ref (eA E 24), .ref (eA E 25)])),
  (eO E 10, Sum.inr (0, [.int (iI (I 17)), .ref (eO E 4), .ref (eA E 26), .ref (eA E 27)]))]
def xT (E : Ev) (A : Nat → Int → Int) (L : Nat → Int64) : va_W := [(eO E 11, Sum.inl (eZ E, 2, Sum.inl (fun k : Nat => iI (A 28 (k : Int))))), (eO E 12, Sum.inl (eL E, 4, Sum.inr (Sum.inl L)))]
def xW (E : Ev) (I : Nat → Int) (A : Nat → Int → Int) (L : Nat → Int64) : va_W := gw (xO E I) 28 (eA E) (eI E) xLen A (xT E A L)
theorem xT_st {E : Ev} {A : Nat → Int → Int} {L : Nat → Int64} {j : Nat} {f : Int → Int} (h : j < 28) : xT E (stA A j f) L = xT E A L := by
  unfold xT
  rw [stA_n (Nat.ne_of_gt h)]
theorem xW_c {E : Ev} {I1 I2 : Nat → Int} {A1 A2 : Nat → Int → Int} {L1 L2 : Nat → Int64} (h1 : I1 = I2) (h2 : A1 = A2) (h3 : L1 = L2) : xW E I1 A1 L1 = xW E I2 A2 L2 := by rw [h1, h2, h3]
theorem xW_I {E : Ev} {I1 I2 : Nat → Int} {A1 A2 : Nat → Int → Int} {L1 L2 : Nat → Int64} (h1 : xO E I1 = xO E I2) (h2 : A1 = A2) (h3 : L1 = L2) : xW E I1 A1 L1 = xW E I2 A2 L2 := by
  unfold xW
  rw [h1, h2, h3]
section XWS
variable {p : Program} {l : Launch} {e : Env} {R : Room} {s : State} {m : MethodId} {args : Array Value} {below : List Frame} {meth : Method} {c : Code} {H : Heap} {locs : List Loc} {cells slots : Nat} {Q : State → Prop}
variable {cc : ByteArray} {nL : Nat} {Ts : List Cond} {own : String} {pc : Nat} {ls : Array Slot} {rest : List Value}
variable {E : Ev} {A0 : Nat → Prop} {H0 : Heap} {I I2 : Nat → Int} {A : Nat → Int → Int} {L : Nat → Int64}
theorem x_ld (F : CallFix p m c cc nL s args Ts own) (hw : gH E A0 H0 s (xW E I A L) H locs) (j n : Nat) (hn : xLen j = n) (hj : j < 28) {z : Int} (hz : 0 ≤ z ∧ z < (n : Int)) (hdg : decode cc pc = .ok (.iaload, 1))
    (k : W p l e R s m args below meth c H locs cells slots Q (F0 m (pc + 1) ls (.int (iI (A j z)) :: rest))) : W p l e R s m args below meth c H locs cells slots Q (F0 m pc ls (.int (iI z) :: .ref (eA E j) :: rest)) := by
  subst hn
  exact g_ld F hw j hj hz (xLen_le j) hdg k
theorem x_st (F : CallFix p m c cc nL s args Ts own) (hw : gH E A0 H0 s (xW E I A L) H locs) (j n : Nat) (hn : xLen j = n) (hj : j < 28) {z v : Int} (hz : 0 ≤ z ∧ z < (n : Int)) (hdg : decode cc pc = .ok (.iastore, 1))
    (k : ∀ (H1 : Heap) (locs1 : List Loc), gH E A0 H0 s (xW E I (st2 A j z v) L) H1 locs1 → W p l e R s m args below meth c H1 locs1 cells slots Q (F0 m (pc + 1) ls rest)) : W p l e R s m args below meth c H locs cells slots Q (F0 m pc ls (.int (iI v) :: .int (iI z) :: .ref (eA E j) :: rest)) := by
  subst hn
  refine g_st F hw j hj hz (xLen_le j) hdg (fun H1 locs1 h => k H1 locs1 ?_)
  unfold xW
  rw [show xT E (st2 A j z v) L = xT E A L from xT_st hj]
  exact h
theorem x_len (F : CallFix p m c cc nL s args Ts own) (hw : gH E A0 H0 s (xW E I A L) H locs) (j : Nat) (hj : j < 28) (n : Int) (hn : Int32.ofNat (xLen j) = iI n) (hdg : decode cc pc = .ok (.arraylength, 1))
    (k : W p l e R s m args below meth c H locs cells slots Q (F0 m (pc + 1) ls (.int (iI n) :: rest))) : W p l e R s m args below meth c H locs cells slots Q (F0 m pc ls (.ref (eA E j) :: rest)) := g_len F hw j hj n hn hdg k
theorem x_zld (F : CallFix p m c cc nL s args Ts own) (hw : gH E A0 H0 s (xW E I A L) H locs) {z : Int} (hz : 0 ≤ z ∧ z < 2) (hdg : decode cc pc = .ok (.baload, 1))
    (k : W p l e R s m args below meth c H locs cells slots Q (F0 m (pc + 1) ls (.int (iI (A 28 z)) :: rest))) : W p l e R s m args below meth c H locs cells slots Q (F0 m pc ls (.int (iI z) :: .ref (eO E 11) :: rest)) := by
  refine va_zald F.1 F.2.1 hw.2.2.2.1.1 hw.1 39 1 (gw_tail (j := 0) rfl rfl) rfl (iI_in (n := 2) hz (by decide)) hdg ?_
  rw [iI_clamp (by omega), Int.toNat_of_nonneg hz.1]
  exact k
theorem x_zst (F : CallFix p m c cc nL s args Ts own) (hw : gH E A0 H0 s (xW E I A L) H locs) {z v : Int} (hz : 0 ≤ z ∧ z < 2) (hv : vp_nar .boolean (iI v) = iI v) (hdg : decode cc pc = .ok (.bastore, 1))
    (k : ∀ (H1 : Heap) (locs1 : List Loc), gH E A0 H0 s (xW E I (st2 A 28 z v) L) H1 locs1 → W p l e R s m args below meth c H1 locs1 cells slots Q (F0 m (pc + 1) ls rest)) : W p l e R s m args below meth c H locs cells slots Q (F0 m pc ls (.int (iI v) :: .int (iI z) :: .ref (eO E 11) :: rest)) := by
  refine va_zast F.1 F.2.1 hw.2.2.2.1.1 hw.1 hw.2.1 hw.2.2.1 39 1 (gw_tail (j := 0) rfl rfl) rfl (iI_in (n := 2) hz (by decide)) hdg (fun H1 locs1 hP hD hS => k H1 locs1 ?_)
  have hf : upd (fun k : Nat => iI (A 28 (k : Int))) (iI z).toNatClampNeg (vp_nar .boolean (iI v)) = fun k : Nat => iI (st2 A 28 z v 28 (k : Int)) := by
    rw [iI_clamp (by omega), hv, st2_a]
    exact up_iI hz.1
  rw [hf] at hP hD
  have hs : (gw (xO E I) 28 (eA E) (eI E) xLen A (xT E A L)).set 39 (eO E 11, Sum.inl (eZ E, 2, Sum.inl (fun k : Nat => iI (st2 A 28 z v 28 (k : Int))))) = xW E I (st2 A 28 z v) L := by
    refine (gw_setT (j := 0) (T2 := xT E (st2 A 28 z v) L) (n := 39) rfl rfl).trans ?_
    unfold xW gw
    congr 2
  exact ⟨hs ▸ hP, hs ▸ hD, hS, hw.2.2.2⟩
theorem x_lld (F : CallFix p m c cc nL s args Ts own) (hw : gH E A0 H0 s (xW E I A L) H locs) {z : Int} (hz : 0 ≤ z ∧ z < 4) (hdg : decode cc pc = .ok (.laload, 1))
    (k : W p l e R s m args below meth c H locs cells slots Q (F0 m (pc + 1) ls (.long (L z.toNat) :: rest))) : W p l e R s m args below meth c H locs cells slots Q (F0 m pc ls (.int (iI z) :: .ref (eO E 12) :: rest)) := by
  refine va_lald F.1 F.2.1 hw.2.2.2.1.1 hw.1 40 2 (gw_tail (j := 1) rfl rfl) rfl (iI_in (n := 4) hz (by decide)) hdg ?_
  rw [iI_clamp (by omega)]
  exact k
theorem x_lst (F : CallFix p m c cc nL s args Ts own) (hw : gH E A0 H0 s (xW E I A L) H locs) {z : Int} {v : Int64} (hz : 0 ≤ z ∧ z < 4) (hdg : decode cc pc = .ok (.lastore, 1))
    (k : ∀ (H1 : Heap) (locs1 : List Loc), gH E A0 H0 s (xW E I A (vp_updL L z.toNat v)) H1 locs1 → W p l e R s m args below meth c H1 locs1 cells slots Q (F0 m (pc + 1) ls rest)) : W p l e R s m args below meth c H locs cells slots Q (F0 m pc ls (.long v :: .int (iI z) :: .ref (eO E 12) :: rest)) := by
  refine va_last F.1 F.2.1 hw.2.2.2.1.1 hw.1 hw.2.1 hw.2.2.1 40 2 (gw_tail (j := 1) rfl rfl) rfl (iI_in (n := 4) hz (by decide)) hdg (fun H1 locs1 hP hD hS => k H1 locs1 ?_)
  rw [iI_clamp (by omega)] at hP hD
  have hs : (gw (xO E I) 28 (eA E) (eI E) xLen A (xT E A L)).set 40 (eO E 12, Sum.inl (eL E, 4, Sum.inr (Sum.inl (vp_updL L z.toNat v)))) = xW E I A (vp_updL L z.toNat v) := gw_setT (j := 1) (n := 40) rfl rfl
  exact ⟨hs ▸ hP, hs ▸ hD, hS, hw.2.2.2⟩
theorem x_get (F : CallFix p m c cc nL s args Ts own) {C ref : String} {T : u_T} {N : Nat} (hin : ∀ w ∈ u_ws C T N, w ∈ Ts) (hw : gH E A0 H0 s (xW E I A L) H locs) (q ci : Nat) {a : Nat} {fs : List Value} (hq : (xO E I)[q]? = some (a, Sum.inr (ci, fs))) (hc : vwCl[ci]? = some (C, T, N)) (k : Nat) (hk : k < N) {index : Nat} (hlk : Cond.fieldLink own index ref (T k).2.1 (T k).2.2.1 ∈ Ts) (hsm : (T k).1 = ref) {v : Value} (hv : fs[k]? = some v) (hdg : decode cc pc = .ok (.getfield index, 3))
    (kk : W p l e R s m args below meth c H locs cells slots Q (F0 m (pc + 3) ls (v :: rest))) : W p l e R s m args below meth c H locs cells slots Q (F0 m pc ls (.ref a :: rest)) :=
  va_get (D := eD E) (ci := ci) (C := C) (T := T) (N := N) F.1 F.2.1 F.2.2.2.2 hin F.2.2.2.1 hw.2.2.2.1.1 hw.1 q (gw_obj hq) hc k hk (F.2.2.2.2 _ hlk) (fun x h => by rw [hsm] at h; exact h) hv hdg kk
theorem x_put (F : CallFix p m c cc nL s args Ts own) {C ref : String} {T : u_T} {N : Nat} (hin : ∀ w ∈ u_ws C T N, w ∈ Ts) (ty0 : Nat → FieldType) (hty : ∀ k, k < N → parseFieldDescriptor (T k).2.2.1 = some (ty0 k)) (hnm : ∀ a, a < N → ∀ b, b < N → a ≠ b → (T a).2.1 ≠ (T b).2.1) (hw : gH E A0 H0 s (xW E I A L) H locs) (q ci : Nat) {a : Nat} {fs : List Value} (hq : (xO E I)[q]? = some (a, Sum.inr (ci, fs))) (hc : vwCl[ci]? = some (C, T, N)) (k : Nat) (hk : k < N) {index : Nat} (hlk : Cond.fieldLink own index ref (T k).2.1 (T k).2.2.1 ∈ Ts) (hsm : (T k).1 = ref) (hfin : (T k).2.2.2 = false) (hd : parseFieldDescriptor (T k).2.2.1 = some .int) (hl : k < fs.length) {v : Int} (hset : (xO E I).set q (a, Sum.inr (ci, fs.set k (.int (iI v)))) = xO E I2) (hql : q < 11) (hdg : decode cc pc = .ok (.putfield index, 3))
    (kk : ∀ (H1 : Heap) (locs1 : List Loc), gH E A0 H0 s (xW E I2 A L) H1 locs1 → W p l e R s m args below meth c H1 locs1 cells slots Q (F0 m (pc + 3) ls rest)) : W p l e R s m args below meth c H locs cells slots Q (F0 m pc ls (.int (iI v) :: .ref a :: rest)) := by
  refine va_put (D := eD E) (ci := ci) (ty := .int) (C := C) (T := T) (N := N) F.1 F.2.1 F.2.2.2.2 hin ty0 hty hnm F.2.2.2.1 hw.2.2.2.1.1 hw.1 hw.2.1 hw.2.2.1 q (gw_obj hq) hc k hk (F.2.2.2.2 _ hlk) (fun x h => by rw [hsm] at h; exact h) hfin hd rfl rfl hl hdg (fun H1 locs1 hP hD hS => kk H1 locs1 ?_)
  have hs : (xW E I A L).set q (a, Sum.inr (ci, fs.set k (.int (iI v)))) = xW E I2 A L := gw_setO hql hset
  rw [hs] at hP hD
  exact ⟨hP, hD, hS, hw.2.2.2⟩
theorem x_recv (hw : gH E A0 H0 s (xW E I A L) H locs) (q ci : Nat) {a : Nat} {fs : List Value} {C : String} {T : u_T} {N : Nat} (hq : (xO E I)[q]? = some (a, Sum.inr (ci, fs))) (hc : vwCl[ci]? = some (C, T, N)) : ∃ cell : Cell, H[a]? = some cell ∧ cell.vm.isStatics = false ∧ s.vm.findClass C = some cell.cls :=
  va_recv hw.2.2.2.1.1 hw.1 (ci := ci) (q0 := q) (q := (C, T, N)) hc (gw_obj hq)
theorem x_norm (hw : gH E A0 H0 s (xW E I A L) H locs) (j n : Nat) (hj : j < 28) (hn : xLen j = n) (g : Int → Int) (hg : ∀ k : Int, 0 ≤ k ∧ k < (n : Int) → A j k = g k) : gH E A0 H0 s (xW E I (stA A j g) L) H locs := by
  subst hn
  have hpos : (xW E I A L)[11 + j]? = some (eA E j, Sum.inl (eI E, xLen j, Sum.inl (fun k : Nat => iI (A j (k : Int))))) := gw_arr hj rfl
  have he : xW E I (stA A j g) L = (xW E I A L).set (11 + j) (eA E j, Sum.inl (eI E, xLen j, Sum.inl (fun k : Nat => iI (g (k : Int))))) := by
    have h1 := gw_setA (O := xO E I) (nA := 28) (a := eA E) (cI := eI E) (len := xLen) (A := A) (T := xT E A L) (j := j) (n := 11 + j) hj rfl (g := g) rfl
    refine Eq.trans ?_ h1.symm
    unfold xW
    rw [xT_st hj]
  rw [he]
  refine ⟨fun k q hq => ?_, hw.2.1.set hpos, hw.2.2⟩
  by_cases hk : k = 11 + j
  · subst hk
    rw [List.getElem?_set_self (List.getElem?_eq_some_iff.mp hpos).1] at hq
    have h1 := hw.1 (11 + j) _ hpos
    cases hq
    show H[eA E j]? = some (vp_cell _ _)
    have h2 : H[eA E j]? = some (vp_cell (eI E) (xLen j, Sum.inl (fun k : Nat => iI (A j (k : Int))))) := h1
    rw [h2]
    congr 1
    exact vp_ext (fun k hk => by rw [hg k (by omega)])
  · rw [List.getElem?_set_ne (fun h => hk h.symm)] at hq
    exact hw.1 k q hq
theorem va_cpy_iI {f g : Int → Int} {x y n : Int} (hx : 0 ≤ x) (hy : 0 ≤ y) (hn : 0 ≤ n) : va_cpy (fun k : Nat => iI (f (k : Int))) (fun k : Nat => iI (g (k : Int))) x.toNat y.toNat n.toNat = fun k : Nat => iI (cpI f g x y n (k : Int)) := by
  funext k
  unfold va_cpy cpI
  by_cases h : y.toNat ≤ k ∧ k < y.toNat + n.toNat
  · rw [if_pos h, if_pos (by omega)]
    show iI (f ((x.toNat + (k - y.toNat) : Nat) : Int)) = iI (f (x + ((k : Int) - y)))
    rw [show ((x.toNat + (k - y.toNat) : Nat) : Int) = x + ((k : Int) - y) by omega]
  · rw [if_neg h, if_neg (by omega)]
theorem x_copy (F : CallFix p m c cc nL s args Ts own) (hsz : ls.size = nL) (hw : gH E A0 H0 s (xW E I A L) H locs) (i j ni nj : Nat) (hi : i < 28) (hj : j < 28) (hni : xLen i = ni) (hnj : xLen j = nj) {index : Nat} (hlk : Cond.methodLink own index arraycopyName ∈ Ts) (hna : Cond.native arraycopyName ∈ Ts) (hst : Cond.static arraycopyName ∈ Ts) (hini : Cond.initialized "java/lang/System" ∈ Ts)
    {x y n : Int} (hx : 0 ≤ x ∧ x + n ≤ (ni : Int)) (hy : 0 ≤ y ∧ y + n ≤ (nj : Int)) (hn : 0 ≤ n) (hb : ni ≤ 1000 ∧ nj ≤ 1000) (hframes : 1 ≤ R.frames) (hlocals : (rest.map fun v => v.category).sum + (nativeFrameWords "java/lang/System" "arraycopy" 5 + 11) ≤ R.locals) (hdg : decode cc pc = .ok (.invokestatic index, 3))
    (kk : ∀ (H1 : Heap) (locs1 : List Loc), gH E A0 H0 s (xW E I (stA A j (cpI (A i) (A j) x y n)) L) H1 locs1 → W p l e R s m args below meth c H1 locs1 cells slots Q (F0 m (pc + 3) ls rest)) : W p l e R s m args below meth c H locs cells slots Q (F0 m pc ls (.int (iI n) :: .int (iI y) :: .ref (eA E j) :: .int (iI x) :: .ref (eA E i) :: rest)) := by
  subst hni
  subst hnj
  have e1 := iI_clamp (z := x) (by omega)
  have e2 := iI_clamp (z := y) (by omega)
  have e3 := iI_clamp (z := n) (by omega)
  refine va_copyi F.1 F.2.1 (by rw [F.2.2.1, hsz]) F.2.2.2.1 (F.2.2.2.2 _ hlk) (F.2.2.2.2 _ hna) (F.2.2.2.2 _ hst) (F.2.2.2.2 _ hini) hw.2.2.2.1.1 hw.1 hw.2.1 hw.2.2.1 (11 + i) (11 + j) 0 0 (gw_arr hi rfl) (gw_arr hj rfl) rfl rfl rfl (iI_nonneg (by omega)) (iI_nonneg (by omega)) (iI_nonneg (by omega)) (by rw [e1, e3]; omega) (by rw [e2, e3]; omega) (fun _ _ => rfl) hframes hlocals hdg (fun H1 locs1 hP hD hS => kk H1 locs1 ?_)
  rw [e1, e2, e3, va_cpy_iI hx.1 hy.1 hn] at hP hD
  have h1 := gw_setA (O := xO E I) (nA := 28) (a := eA E) (cI := eI E) (len := xLen) (A := A) (T := xT E A L) (j := j) (n := 11 + j) hj rfl (f := fun k : Nat => iI (cpI (A i) (A j) x y n (k : Int))) (g := cpI (A i) (A j) x y n) rfl
  have h2 : (xW E I A L).set (11 + j) (eA E j, Sum.inl (eI E, xLen j, Sum.inl (fun k : Nat => iI (cpI (A i) (A j) x y n (k : Int))))) = xW E I (stA A j (cpI (A i) (A j) x y n)) L := by
    refine h1.trans ?_
    unfold xW
    rw [xT_st hj]
  rw [h2] at hP hD
  exact ⟨hP, hD, hS, hw.2.2.2⟩
def iMx (x y : Int) : Int := if x < y then y else x
def iMn (x y : Int) : Int := if y < x then y else x
theorem bi_max (F : CallFix p m c cc nL s args Ts own) (hsz : ls.size = nL) {index : Nat} (h1 : Cond.methodLink own index Lib.Math.max.name ∈ Ts) (h2 : Cond.static Lib.Math.max.name ∈ Ts) (h3 : Cond.initialized "java/lang/Math" ∈ Ts) (h4 : Cond.code Lib.Math.max.name Lib.Math.max.code 2 (some .int) ∈ Ts) (hframes : 1 ≤ R.frames) (hlocals : (rest.map fun v => v.category).sum + 13 ≤ R.locals) (hc : cells ≤ R.cells) (hs : slots ≤ R.slots) {x y : Int} (h : (-2147483648 ≤ x ∧ x ≤ 2147483647) ∧ (-2147483648 ≤ y ∧ y ≤ 2147483647)) (hdg : decode cc pc = .ok (.invokestatic index, 3))
    (kk : W p l e R s m args below meth c H locs cells slots Q (F0 m (pc + 3) ls (.int (iI (iMx x y)) :: rest))) : W p l e R s m args below meth c H locs cells slots Q (F0 m pc ls (.int (iI y) :: .int (iI x) :: rest)) := by
  refine va_mmax F.1 F.2.1 (by rw [F.2.2.1, hsz]) F.2.2.2.1 (F.2.2.2.2 _ h1) (F.2.2.2.2 _ h2) (F.2.2.2.2 _ h3) (F.2.2.2.2 _ h4) hframes hlocals hc hs hdg ?_
  have e : (if iI x < iI y then iI y else iI x) = iI (iMx x y) := by
    unfold iMx
    by_cases hq : x < y
    · rw [if_pos hq, if_pos ((iI_lt h).mpr hq)]
    · rw [if_neg hq, if_neg (mt (iI_lt h).mp hq)]
  rw [e]
  exact kk
theorem bi_min (F : CallFix p m c cc nL s args Ts own) (hsz : ls.size = nL) {index : Nat} (h1 : Cond.methodLink own index Lib.Math.min.name ∈ Ts) (h2 : Cond.static Lib.Math.min.name ∈ Ts) (h3 : Cond.initialized "java/lang/Math" ∈ Ts) (h4 : Cond.code Lib.Math.min.name Lib.Math.min.code 2 (some .int) ∈ Ts) (hframes : 1 ≤ R.frames) (hlocals : (rest.map fun v => v.category).sum + 13 ≤ R.locals) (hc : cells ≤ R.cells) (hs : slots ≤ R.slots) {x y : Int} (h : (-2147483648 ≤ x ∧ x ≤ 2147483647) ∧ (-2147483648 ≤ y ∧ y ≤ 2147483647)) (hdg : decode cc pc = .ok (.invokestatic index, 3))
    (kk : W p l e R s m args below meth c H locs cells slots Q (F0 m (pc + 3) ls (.int (iI (iMn x y)) :: rest))) : W p l e R s m args below meth c H locs cells slots Q (F0 m pc ls (.int (iI y) :: .int (iI x) :: rest)) := by
  refine va_mmin F.1 F.2.1 (by rw [F.2.2.1, hsz]) F.2.2.2.1 (F.2.2.2.2 _ h1) (F.2.2.2.2 _ h2) (F.2.2.2.2 _ h3) (F.2.2.2.2 _ h4) hframes hlocals hc hs hdg ?_
  have e : (if iI y < iI x then iI y else iI x) = iI (iMn x y) := by
    unfold iMn
    by_cases hq : y < x
    · rw [if_pos hq, if_pos ((iI_lt ⟨h.2, h.1⟩).mpr hq)]
    · rw [if_neg hq, if_neg (mt (iI_lt ⟨h.2, h.1⟩).mp hq)]
  rw [e]
  exact kk
end XWS
theorem iMx_r (x y : Int) : x ≤ iMx x y ∧ y ≤ iMx x y ∧ (iMx x y = x ∨ iMx x y = y) := by
  unfold iMx
  split <;> omega
theorem iMn_r (x y : Int) : iMn x y ≤ x ∧ iMn x y ≤ y ∧ (iMn x y = x ∨ iMn x y = y) := by
  unfold iMn
  split <;> omega
