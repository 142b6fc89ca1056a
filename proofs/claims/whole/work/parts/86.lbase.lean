/-! TWO WORLDS SIDE BY SIDE -/
theorem map_self (w : va_W) : (List.range w.length).map (fun i => w[i]?) = w.map some := by
  apply List.ext_getElem?
  intro i
  rw [List.getElem?_map, List.getElem?_map]
  by_cases h : i < w.length
  · rw [List.getElem?_range h, List.getElem?_eq_getElem h]
    show some (w[i]?) = _
    rw [List.getElem?_eq_getElem h]
    rfl
  · rw [List.getElem?_eq_none (by simpa using h), List.getElem?_eq_none (by omega)]
    rfl
section TW
variable {p : Program} {l : Launch} {e : Env} {R : Room} {s : State} {m : MethodId} {args : Array Value} {below : List Frame} {meth : Method} {c : Code} {H : Heap} {locs : List Loc} {cells slots : Nat} {Q : State → Prop}
variable {cc bytes : ByteArray} {nL maxL index n : Nat} {Ts ws ws' : List Cond} {own C : String} {pc b : Nat} {ls : Array Slot} {rest As st : List Value} {y : MethodName} {rm : Room}
variable {E : Ev} {A0 : Nat → Prop} {H0 : Heap} {wa wb w0 wr : va_W} {mc ms : Nat}
theorem gH_left (hw : gH E A0 H0 s (wa ++ wb) H locs) : gH E A0 H0 s wa H locs := by
  have hg : ∀ (k : Nat) (q : Nat × va_E), wa[k]? = some q → (wa ++ wb)[k]? = some q := fun k q hk => by
    rw [List.getElem?_append_left (List.getElem?_eq_some_iff.mp hk).1]; exact hk
  exact ⟨hw.1.by (fun k => k) hg, hw.2.1.by (fun k => k) hg (fun i j _ _ h => h), hw.2.2⟩
theorem gH_swap (hw : gH E A0 H0 s (wa ++ wb) H locs) : gH E A0 H0 s (wb ++ wa) H locs := by
  have hg : ∀ (k : Nat) (q : Nat × va_E), (wb ++ wa)[k]? = some q → (wa ++ wb)[(fun k => if k < wb.length then wa.length + k else k - wb.length) k]? = some q := by
    intro k q hk
    dsimp only
    by_cases h : k < wb.length
    · rw [if_pos h]
      rw [List.getElem?_append_left h] at hk
      rw [List.getElem?_append_right (by omega), show wa.length + k - wa.length = k by omega]
      exact hk
    · rw [if_neg h]
      rw [List.getElem?_append_right (by omega)] at hk
      rw [List.getElem?_append_left (List.getElem?_eq_some_iff.mp hk).1]
      exact hk
  refine ⟨hw.1.by _ hg, hw.2.1.by _ hg (fun i j hi hj he => ?_), hw.2.2⟩
  rw [List.length_append] at hi hj
  by_cases h1 : i < wb.length
  · rw [if_pos h1] at he
    by_cases h2 : j < wb.length
    · rw [if_pos h2] at he; omega
    · rw [if_neg h2] at he; omega
  · rw [if_neg h1] at he
    by_cases h2 : j < wb.length
    · rw [if_pos h2] at he; omega
    · rw [if_neg h2] at he; omega
theorem gH_frame {σ : Type} {w : σ → va_W} (hw : gH E A0 H0 s (w0 ++ wr) H locs) {u : σ} {t : State} {H1 : Heap} {locs1 : List Loc} (ht : t.heap = H1) (hB : cPost E w0 H.size w u t) (hk : ∀ q : Nat, q < H.size → ¬ va_A w0 H.size q → H1[q]? = H[q]?) (hS : va_S A0 H0 H1 locs1) : gH E A0 H0 s (w u ++ wr) H1 locs1 := by
  obtain ⟨hP1, hK1, hD1⟩ := hB
  obtain ⟨hP, hD⟩ := va_joinQ (X := w0) (cx := w0) (wr := []) (w1 := w u) (pl := wr) hw.1 hw.2.1 (List.range w0.length) [] (map_self w0) rfl rfl (fun i h => absurd h List.not_mem_nil) hk (gH_free (gH_left hw)) (by rw [← ht]; exact hP1) hD1
  exact ⟨hP, hD, hS, hw.2.2.2⟩
theorem call_I2 {σ : Type} {w : σ → va_W} {post : Int → σ → Prop} (F : CallFix p m c cc nL s args Ts own) (hM : MetI l y ws rm E (.ref b :: As) w0 w post) (cw : CallW R s args own C index y bytes maxL (some .int) ws rm 0 0 n) (hw : gH E A0 H0 s (w0 ++ wr) H locs) (hrecv : ∃ cell : Cell, H[b]? = some cell ∧ cell.vm.isStatics = false ∧ s.vm.findClass C = some cell.cls)
    (hn : As.length = n) (hsize : ls.size = nL) (hstack : st = As.reverse ++ .ref b :: rest) (hcat : (rest.map fun v => v.category).sum ≤ 8) (hdg : decode cc pc = .ok (.invokevirtual index, 3)) (hf : cells ≤ R.cells ∧ slots ≤ R.slots)
    (kk : ∀ (z : Int) (u : σ) (H1 : Heap) (locs1 : List Loc), post z u → gH E A0 H0 s (w u ++ wr) H1 locs1 → W p l e R s m args below meth c H1 locs1 cells slots Q (F0 m (pc + 3) ls (.int (iI z) :: rest))) : W p l e R s m args below meth c H locs cells slots Q (F0 m pc ls st) := by
  have hcut := gH_left hw
  refine va_calli (va_runV (g := F0 m pc ls st) F (hM H.size) cw ⟨gH_blind, hrecv, fun U hU hW => ⟨rfl, gH_pre hcut hU hW⟩⟩ rfl hn hsize hstack (lv_room hcat) hdg hf) hw.2.2.1 (fun q _ h => gH_free hcut q h) (gH_free hcut) (fun r u t H1 locs1 ht hvm hp hB hz hk hS => ?_)
  obtain ⟨z, rfl, hp⟩ := hp
  exact kk z u H1 locs1 hp (gH_frame hw ht hB hk hS)
theorem call_C2 {σ : Type} {wf : σ → va_W} (F : CallFix p m c cc nL s args Ts own) (hM : MetC l y ws rm E (.ref b :: As) w0 wf mc ms) (cw : CallB R s args own index y bytes maxL none ws rm mc ms n ∧ y.name = "<init>" ∧ (Cond.instanceMethod y).before args s = true) (hw : gH E A0 H0 s (w0 ++ wr) H locs)
    (hn : As.length = n) (hsize : ls.size = nL) (hstack : st = As.reverse ++ .ref b :: rest) (hcat : (rest.map fun v => v.category).sum ≤ 8) (hdg : decode cc pc = .ok (.invokespecial index, 3)) (hf : cells + mc ≤ R.cells ∧ slots + ms ≤ R.slots)
    (kk : ∀ (u : σ) (H1 : Heap) (locs1 : List Loc), gH E A0 H0 s (wf u ++ wr) H1 locs1 → W p l e R s m args below meth c H1 locs1 (cells + mc) (slots + ms) Q (F0 m (pc + 3) ls rest)) : W p l e R s m args below meth c H locs cells slots Q (F0 m pc ls st) := by
  have hcut := gH_left hw
  refine va_callv (va_runI (g := F0 m pc ls st) F (hM H.size) cw ⟨gH_blind, fun U hU hW => ⟨rfl, gH_pre hcut hU hW⟩⟩ rfl hn hsize hstack (lv_room hcat) hdg hf) hw.2.2.1 (fun q _ h => gH_free hcut q h) (gH_free hcut) (fun u t H1 locs1 ht hvm hp hB hz hk hS => ?_)
  exact kk u H1 locs1 (gH_frame hw ht hB hk hS)
theorem arr_of {ty : FieldType} (h : (Cond.arrayClass ty).before args s = true) : ∃ cA : ClassId, ArrOfT s cA ty ∧ s.vm.findClass ("[" ++ ty.toString) = some cA := by
  obtain ⟨cA, k, comp, h1, h2, h3⟩ := Cond.arrayClass_spec h
  exact ⟨cA, fun n z => ⟨fun k h => (by cases h), k, h2, comp, h3⟩, h1⟩
end TW
/-! THE LAW'S OWN NUMBERS -/
def eV (E : Ev) (o a : Nat → Nat) : Ev := (eD E, o, a, eI E, eZ E, eL E)
theorem gH_e {E : Ev} {o a o' a' : Nat → Nat} {A0 : Nat → Prop} {H0 : Heap} {s : State} {w : va_W} {H : Heap} {locs : List Loc} (h : gH (eV E o a) A0 H0 s w H locs) : gH (eV E o' a') A0 H0 s w H locs := h
def sI (xs : Nat → Int32) (z : Int) : Int := (xs z.toNat).toInt
theorem sI_r (xs : Nat → Int32) (z : Int) : -2147483648 ≤ sI xs z ∧ sI xs z ≤ 2147483647 := iI_r _
theorem iI_nat (n : Nat) : Int32.ofNat n = iI (n : Int) := by
  unfold iI
  first | exact Int32.ofInt_eq_ofNat.symm | exact (Int32.ofInt_natCast n).symm | rfl
def lw_C (p : Program) (s : State) (m : MethodId) (c : Code) (sb L : Nat) (xs : Nat → Int32) : Prop := CallFix p m c cL_law 4 s #[Value.ref sb] wsL_law RL ∧ va_X sb L xs s s.heap ∧ sb < s.heap.size ∧ L ≤ 2048
def lw_S (E : Ev) (o1 a1 o2 a2 : Nat → Nat) (b : Int) (s : State) (H : Heap) (locs : List Loc) (I J : Nat → Int) (A B : Nat → Int → Int) (LL : Nat → Int64) : Prop := gH (eV E o1 a1) (fun q => s.heap.size ≤ q) s.heap s (xW (eV E o1 a1) I A LL ++ mW (eV E o2 a2) J B) H locs ∧ Rel b I J A B
section LL
variable {p : Program} {l : Launch} {e : Env} {R : Room} {s : State} {m : MethodId} {args : Array Value} {below : List Frame} {meth : Method} {c : Code} {H : Heap} {locs : List Loc} {cells slots : Nat} {Q : State → Prop}
variable {cc : ByteArray} {nL : Nat} {Ts : List Cond} {own : String} {pc : Nat} {ls : Array Slot} {rest : List Value} {sb L : Nat} {xs : Nat → Int32} {i j : Int} {lv : List (Nat × Value)}
theorem l_sld (F : CallFix p m c cc nL s args Ts own) (hX : va_X sb L xs s s.heap) (hbl : sb < s.heap.size) (hL : L ≤ 2048) (hS : va_S (fun q => s.heap.size ≤ q) s.heap H locs) {z : Int} (hz : 0 ≤ z ∧ z < (L : Int)) (hdg : decode cc pc = .ok (.iaload, 1))
    (k : W p l e R s m args below meth c H locs cells slots Q (F0 m (pc + 1) ls (.int (iI (sI xs z)) :: rest))) : W p l e R s m args below meth c H locs cells slots Q (F0 m pc ls (.int (iI z) :: .ref sb :: rest)) := by
  refine va_sld F.1 F.2.1 hX hbl (Nat.not_le.mpr hbl) hS (iI_in hz (by omega)) hdg ?_
  rw [iI_clamp (by omega)]
  unfold sI at k
  rw [iI_of] at k
  exact k
theorem l_ld (F : CallFix p m c cc nL s args Ts own) (hX : va_X sb L xs s s.heap) (hbl : sb < s.heap.size) (hL : L ≤ 2048) (hS : va_S (fun q => s.heap.size ≤ q) s.heap H locs) (h0 : ls[0]? = some (.val (.ref sb))) (h3 : ls[3]? = some (.val (.int (iI i)))) (hz : 0 ≤ i + j ∧ i + j < (L : Int)) (d0 : decode cc pc = .ok (.aload_n 0, 1)) (d1 : decode cc (pc + 1) = .ok (.iload_n 3, 1)) (d2 : decode cc (pc + 1 + 1) = .ok (.iconst j, 1)) (d3 : decode cc (pc + 1 + 1 + 1) = .ok (.iadd, 1)) (d4 : decode cc (pc + 1 + 1 + 1 + 1) = .ok (.iaload, 1))
    (k : W p l e R s m args below meth c H locs cells slots Q (F0 m (pc + 5) ls (.int (iI (sI xs (i + j))) :: rest))) : W p l e R s m args below meth c H locs cells slots Q (F0 m pc ls rest) := by
  refine lv_aload_n F.1 F.2.1 d0 rfl h0 ?_
  refine lv_iload_n F.1 F.2.1 d1 rfl h3 ?_
  refine bi_iconst F d2 ?_
  refine bi_iadd F d3 ?_
  exact l_sld F hX hbl hL hS hz d4 k
end LL
/-- what the reference's calls ask of its state -/
theorem Rel_m {b : Int} {I J : Nat → Int} {A B : Nat → Int → Int} (H : Rel b I J A B) : (0 ≤ J 0 ∧ J 0 ≤ 240) ∧ (0 ≤ J 2 ∧ J 2 ≤ 20) ∧ (0 ≤ J 4 ∧ J 4 ≤ 6) ∧ (0 ≤ J 5 ∧ J 5 ≤ 15) ∧ (0 < B 1 1 → 0 < B 1 0) ∧ (0 < B 1 2 → 0 < B 1 0) ∧ (0 < B 1 3 → 0 < B 1 0) ∧ (∀ k, 0 ≤ k ∧ k < J 4 → 0 ≤ B 16 (2 * k) ∧ B 16 (2 * k) < B 1 2) ∧ (∀ k, 0 ≤ B 16 k ∧ B 16 k ≤ 9999) ∧ (∀ k, 0 ≤ k ∧ k < J 5 → 0 ≤ B 17 (2 * k) ∧ B 17 (2 * k) < 4) ∧ (∀ k, 0 ≤ B 17 k ∧ B 17 k ≤ 9999) ∧ (∀ i, 0 ≤ B 21 i ∧ B 21 i ≤ 1) ∧ (∀ d, 0 ≤ d ∧ d < B 1 3 → B 11 (25 + 2 * d) - mSince (B 5) (B 11) d ≤ 999) ∧ (∀ k, 0 ≤ B 0 k ∧ B 0 k ≤ 255) ∧ (0 ≤ J 6 ∧ J 6 ≤ 240) ∧ (0 ≤ J 7 ∧ J 7 ≤ 3) := by
  obtain ⟨⟨t1, t2, t3, t4, t5⟩, T, R, ⟨p1, p2, p3, p4, p5, p6⟩, d1, ⟨s1, s2, s3, s4, s5⟩, ⟨k1, k2, k3, k4, k5⟩, ⟨i1, i2, i3, i4⟩, q1, q2, -⟩ := H
  have hN := Tal_n T
  have hT := id T
  obtain ⟨m0, ⟨c0, c1, c2, c3⟩, m2, m3, m4, m5, m6, -⟩ := hT
  refine ⟨by omega, p2, by omega, by omega, by omega, by omega, by omega, fun k hk => ?_, s5, fun k hk => ?_, k5, i3, fun d hd => ?_, by rw [← t3]; exact t4, q1, q2⟩
  · have := s3 k (by omega)
    omega
  · have := k3 k (by omega)
    omega
  · exact lack_le T R (by omega)
theorem jI_id {J : Nat → Int} : jI J (J 6) (J 7) = J := by
  unfold jI
  rw [st1_id, st1_id]
/-- answers that only a count wrote: as the machine has them -/
def xNo (A : Nat → Int → Int) : Nat → Int → Int := stA A 25 (fun k => (iI (A 25 k)).toInt)
theorem xW_n {E : Ev} {I : Nat → Int} {A : Nat → Int → Int} {L : Nat → Int64} : xW E I (xNo A) L = xW E I A L := by
  have h : ∀ (j : Nat) (k : Int), iI (xNo A j k) = iI (A j k) := by
    intro j k
    unfold xNo
    by_cases h : j = 25
    · subst h; rw [stA_s, iI_of]
    · rw [stA_n h]
  unfold xW xT gw
  simp only [h]
theorem xNo_s {A : Nat → Int → Int} : xSame A (xNo A) := xSame_st (Or.inr (Or.inr rfl))
theorem xNo_r {A : Nat → Int → Int} : ∀ k, -2147483648 ≤ xNo A 25 k ∧ xNo A 25 k ≤ 2147483647 := fun k => by
  unfold xNo
  rw [stA_s]
  exact iI_r _
