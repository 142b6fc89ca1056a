/-! THE REFERENCE'S WORLD. Arrays: 0 text, 1 law, 2 winter, 3 villages, 4 persons, 5 debts, 6 to 10 the drafts, 11 now, 12 tried, 13 past, 14 images, 15 imageSeeds, 16 said, 17 book, 18 heaps, 19 next, 20 pairs; 21 kept. Ints: 0 letters, 1 faultAt, 2 deeds, 3 seed, 4 ages, 5 entries, 6 at, 7 wrong -/
def mLen (j : Nat) : Nat := match j with
  | 0 => 240 | 1 => 4 | 2 => 20 | 3 => 20 | 4 => 12 | 5 => 10 | 6 => 4 | 7 => 20 | 8 => 20 | 9 => 12 | 10 => 10 | 11 => 35 | 12 => 35 | 13 => 700 | 14 => 70 | 15 => 2 | 16 => 12 | 17 => 30 | 18 => 1000 | 19 => 1000 | _ => 40
theorem mLen_le (j : Nat) : mLen j ≤ 2147483647 := by
  unfold mLen
  split <;> decide
def mF (E : Ev) (I : Nat → Int) : List Value := [.ref (eA E 0), .int (iI (I 0)), .int (iI (I 1)), .ref (eA E 1), .ref (eA E 2), .ref (eA E 3), .ref (eA E 4), .ref (eA E 5), .ref (eA E 6), .ref (eA E 7), .ref (eA E 8), .ref (eA E 9), .ref (eA E 10), .ref (eA E 11), .ref (eA E 12), .ref (eA E 13), .int (iI (I 2)), .ref (eA E 14), .ref (eA E 15), .ref (eO E 1), .int (iI (I 3)), .ref (eA E 16), .int (iI (I 4)), .ref (eA E 17), .int (iI (I 5)), .int (iI (I 6)), .int (iI (I 7)), .ref (eA E 18), .ref (eA E 19), .ref (eA E 20)]
def mT (E : Ev) (A : Nat → Int → Int) : va_W := [(eO E 1, Sum.inl (eZ E, 2, Sum.inl (fun k : Nat => iI (A 21 (k : Int)))))]
def mW (E : Ev) (I : Nat → Int) (A : Nat → Int → Int) : va_W := gw [(eO E 0, Sum.inr (10, mF E I))] 21 (eA E) (eI E) mLen A (mT E A)
theorem TX10_1 (k : Nat) : (TX10 k).1 = "SnowDaysModel" := by
  unfold TX10
  split <;> rfl
theorem mT_st {E : Ev} {A : Nat → Int → Int} {j : Nat} {f : Int → Int} (h : j < 21) : mT E (stA A j f) = mT E A := by
  unfold mT
  rw [stA_n (Nat.ne_of_gt h)]
section MWS
variable {p : Program} {l : Launch} {e : Env} {R : Room} {s : State} {m : MethodId} {args : Array Value} {below : List Frame} {meth : Method} {c : Code} {H : Heap} {locs : List Loc} {cells slots : Nat} {Q : State → Prop}
variable {cc : ByteArray} {nL : Nat} {Ts : List Cond} {own : String} {pc : Nat} {ls : Array Slot} {rest : List Value}
variable {E : Ev} {A0 : Nat → Prop} {H0 : Heap} {I : Nat → Int} {A : Nat → Int → Int}
theorem m_ld (F : CallFix p m c cc nL s args Ts own) (hw : gH E A0 H0 s (mW E I A) H locs) (j n : Nat) (hn : mLen j = n) (hj : j < 21) {z : Int} (hz : 0 ≤ z ∧ z < (n : Int)) (hdg : decode cc pc = .ok (.iaload, 1))
    (k : W p l e R s m args below meth c H locs cells slots Q (F0 m (pc + 1) ls (.int (iI (A j z)) :: rest))) : W p l e R s m args below meth c H locs cells slots Q (F0 m pc ls (.int (iI z) :: .ref (eA E j) :: rest)) := by
  subst hn
  exact g_ld F hw j hj hz (mLen_le j) hdg k
theorem m_st (F : CallFix p m c cc nL s args Ts own) (hw : gH E A0 H0 s (mW E I A) H locs) (j n : Nat) (hn : mLen j = n) (hj : j < 21) {z v : Int} (hz : 0 ≤ z ∧ z < (n : Int)) (hdg : decode cc pc = .ok (.iastore, 1))
    (k : ∀ (H1 : Heap) (locs1 : List Loc), gH E A0 H0 s (mW E I (st2 A j z v)) H1 locs1 → W p l e R s m args below meth c H1 locs1 cells slots Q (F0 m (pc + 1) ls rest)) : W p l e R s m args below meth c H locs cells slots Q (F0 m pc ls (.int (iI v) :: .int (iI z) :: .ref (eA E j) :: rest)) := by
  subst hn
  refine g_st F hw j hj hz (mLen_le j) hdg (fun H1 locs1 h => k H1 locs1 ?_)
  unfold mW
  rw [show mT E (st2 A j z v) = mT E A from mT_st hj]
  exact h
theorem m_zld (F : CallFix p m c cc nL s args Ts own) (hw : gH E A0 H0 s (mW E I A) H locs) {z : Int} (hz : 0 ≤ z ∧ z < 2) (hdg : decode cc pc = .ok (.baload, 1))
    (k : W p l e R s m args below meth c H locs cells slots Q (F0 m (pc + 1) ls (.int (iI (A 21 z)) :: rest))) : W p l e R s m args below meth c H locs cells slots Q (F0 m pc ls (.int (iI z) :: .ref (eO E 1) :: rest)) := by
  refine va_zald F.1 F.2.1 hw.2.2.2.1.1 hw.1 22 1 (gw_tail (j := 0) rfl rfl) rfl (iI_in (n := 2) hz (by decide)) hdg ?_
  rw [iI_clamp (by omega), Int.toNat_of_nonneg hz.1]
  exact k
theorem m_zst (F : CallFix p m c cc nL s args Ts own) (hw : gH E A0 H0 s (mW E I A) H locs) {z v : Int} (hz : 0 ≤ z ∧ z < 2) (hv : vp_nar .boolean (iI v) = iI v) (hdg : decode cc pc = .ok (.bastore, 1))
    (k : ∀ (H1 : Heap) (locs1 : List Loc), gH E A0 H0 s (mW E I (st2 A 21 z v)) H1 locs1 → W p l e R s m args below meth c H1 locs1 cells slots Q (F0 m (pc + 1) ls rest)) : W p l e R s m args below meth c H locs cells slots Q (F0 m pc ls (.int (iI v) :: .int (iI z) :: .ref (eO E 1) :: rest)) := by
  refine va_zast F.1 F.2.1 hw.2.2.2.1.1 hw.1 hw.2.1 hw.2.2.1 22 1 (gw_tail (j := 0) rfl rfl) rfl (iI_in (n := 2) hz (by decide)) hdg (fun H1 locs1 hP hD hS => k H1 locs1 ?_)
  have hf : upd (fun k : Nat => iI (A 21 (k : Int))) (iI z).toNatClampNeg (vp_nar .boolean (iI v)) = fun k : Nat => iI (st2 A 21 z v 21 (k : Int)) := by
    rw [iI_clamp (by omega), hv, st2_a]
    exact up_iI hz.1
  rw [hf] at hP hD
  have hs : (gw [(eO E 0, Sum.inr (10, mF E I))] 21 (eA E) (eI E) mLen A (mT E A)).set 22 (eO E 1, Sum.inl (eZ E, 2, Sum.inl (fun k : Nat => iI (st2 A 21 z v 21 (k : Int))))) = mW E I (st2 A 21 z v) := by
    refine (gw_setT (j := 0) (T2 := mT E (st2 A 21 z v)) (n := 22) rfl rfl).trans ?_
    unfold mW gw
    congr 2
  exact ⟨hs ▸ hP, hs ▸ hD, hS, hw.2.2.2⟩
theorem m_get (F : CallFix p m c cc nL s args Ts RX10) (hin : ∀ w ∈ wsX100, w ∈ Ts) (hw : gH E A0 H0 s (mW E I A) H locs) (k : Nat) (hk : k < 30) {index : Nat} (hlk : Cond.fieldLink RX10 index "SnowDaysModel" (TX10 k).2.1 (TX10 k).2.2.1 ∈ Ts) {v : Value} (hv : (mF E I)[k]? = some v) (hdg : decode cc pc = .ok (.getfield index, 3))
    (kk : W p l e R s m args below meth c H locs cells slots Q (F0 m (pc + 3) ls (v :: rest))) : W p l e R s m args below meth c H locs cells slots Q (F0 m pc ls (.ref (eO E 0) :: rest)) :=
  va_get (D := eD E) (ci := 10) (C := RX10) (T := TX10) (N := 30) F.1 F.2.1 F.2.2.2.2 hin F.2.2.2.1 hw.2.2.2.1.1 hw.1 0 (gw_obj rfl) rfl k hk (F.2.2.2.2 _ hlk) (fun x h => by rw [TX10_1] at h; exact h) hv hdg kk
theorem m_put (F : CallFix p m c cc nL s args Ts RX10) (hin : ∀ w ∈ wsX100, w ∈ Ts) (hw : gH E A0 H0 s (mW E I A) H locs) (k i : Nat) (hk : k < 30) {index : Nat} (hlk : Cond.fieldLink RX10 index "SnowDaysModel" (TX10 k).2.1 (TX10 k).2.2.1 ∈ Ts) (hfin : (TX10 k).2.2.2 = false) (hd : parseFieldDescriptor (TX10 k).2.2.1 = some .int) {v : Int} (hset : (mF E I).set k (.int (iI v)) = mF E (st1 I i v)) (hdg : decode cc pc = .ok (.putfield index, 3))
    (kk : ∀ (H1 : Heap) (locs1 : List Loc), gH E A0 H0 s (mW E (st1 I i v) A) H1 locs1 → W p l e R s m args below meth c H1 locs1 cells slots Q (F0 m (pc + 3) ls rest)) : W p l e R s m args below meth c H locs cells slots Q (F0 m pc ls (.int (iI v) :: .ref (eO E 0) :: rest)) := by
  refine va_put (D := eD E) (ci := 10) (ty := .int) (C := RX10) (T := TX10) (N := 30) F.1 F.2.1 F.2.2.2.2 hin tyX10 tyX10_ok nmX10 F.2.2.2.1 hw.2.2.2.1.1 hw.1 hw.2.1 hw.2.2.1 0 (gw_obj rfl) rfl k hk (F.2.2.2.2 _ hlk) (fun x h => by rw [TX10_1] at h; exact h) hfin hd rfl rfl (Nat.lt_of_lt_of_le hk (Nat.le_of_ble_eq_true rfl)) hdg (fun H1 locs1 hP hD hS => kk H1 locs1 ?_)
  have hs : (mW E I A).set 0 (eO E 0, Sum.inr (10, mF E (st1 I i v))) = mW E (st1 I i v) A := gw_setO Nat.zero_lt_one rfl
  rw [hset, hs] at hP hD
  exact ⟨hP, hD, hS, hw.2.2.2⟩
theorem m_recv (hw : gH E A0 H0 s (mW E I A) H locs) : ∃ cell : Cell, H[eO E 0]? = some cell ∧ cell.vm.isStatics = false ∧ s.vm.findClass RX10 = some cell.cls :=
  va_recv hw.2.2.2.1.1 hw.1 (ci := 10) (q0 := 0) (q := (RX10, TX10, 30)) rfl (gw_obj rfl)
end MWS
/-- the words of a method of the reference hold those of its fields -/
theorem in_tail {w : Cond} {x : Cond} {a b : List Cond} (h : w ∈ b) : w ∈ x :: (a ++ b) := List.mem_cons_of_mem _ (List.mem_append_right _ h)
