/-! LONGS -/
def MetW (l : Launch) (y : MethodName) (ws : List Cond) (rm : Room) (E : Ev) (av : List Value) (w0 : va_W) (z : Int64) : Prop := MetL l y ws rm E av w0 (fun _ : Unit => w0) (fun r _ => r = z)
section LW
variable {p : Program} {l : Launch} {e : Env} {R : Room} {s : State} {m : MethodId} {args : Array Value} {below : List Frame} {meth : Method} {c : Code} {H : Heap} {locs : List Loc} {cells slots : Nat} {Q : State → Prop}
variable {cc bytes : ByteArray} {nL maxL index n : Nat} {Ts ws ws' : List Cond} {own C : String} {pc b : Nat} {ls : Array Slot} {rest As st av : List Value} {y : MethodName} {rm : Room}
variable {E : Ev} {A0 : Nat → Prop} {H0 : Heap} {w0 : va_W}
theorem met_W {v : Int64} (hy : plainName y.cls = true) (hw : ws = Cond.code y cc nL (some .long) :: ws') (hsl : (lg_sl av).length ≤ nL)
    (body : ∀ (p : Program) (e : Env) (s : State) (m : MethodId) (args : Array Value) (below : List Frame) (meth : Method) (c : Code) (Q : State → Prop) (H0 : Heap) (A0 : Nat → Prop) (H : Heap) (locs : List Loc) (ls : Array Slot), CallFix p m c cc nL s args ws y.cls → gH E A0 H0 s w0 H locs → lv_has ls nL (lv_args 0 av) →
      (∀ (z : Int64) (H : Heap) (locs : List Loc) (pc : Nat) (ls : Array Slot), z = v → gH E A0 H0 s w0 H locs → decode cc pc = .ok (.lreturn, 1) → W p l e rm s m args below meth c H locs 0 0 Q (F0 m pc ls [.long z])) →
      W p l e rm s m args below meth c H locs 0 0 Q (F0 m 0 ls [])) : MetW l y ws rm E av w0 v := by
  intro sz
  refine Met.ofW (cc := cc) (maxL := nL) (ret := some .long) hy hw ?_
  intro p e s m args below meth c s₁ B hml hv
  obtain ⟨rfl, hpre⟩ := hv
  have hl := lv_entry av (n := nL) hsl
  rw [lg_entry_eq]
  refine body p e s m _ below meth c _ s.heap (va_A w0 sz) s.heap [] _ ⟨B.exec, B.bytes, hml, findClass_of_methodNamed B.named, atoms_spec (ws := ws) B.pre⟩ (gH_start hpre) hl (fun z H locs pc ls hp hg hd => ?_)
  refine W.lret B.exec B.bytes B.returns (fun t ht hW => ⟨⟨z, (), rfl, hp, by rw [ht]; exact hg.1, va_K.moved hW.alike hg.2.2.2.1.1, hg.2.1⟩, hg.2.2.1.F ht⟩) hg.2.2.1.2.2 hd B.notSynchronized
theorem call_W {v : Int64} (F : CallFix p m c cc nL s args Ts own) (hM : MetW l y ws rm E (.ref b :: As) w0 v) (cw : CallW R s args own C index y bytes maxL (some .long) ws rm 0 0 n) (hw : gH E A0 H0 s w0 H locs) (hrecv : ∃ cell : Cell, H[b]? = some cell ∧ cell.vm.isStatics = false ∧ s.vm.findClass C = some cell.cls)
    (hn : As.length = n) (hsize : ls.size = nL) (hstack : st = As.reverse ++ .ref b :: rest) (hcat : (rest.map fun v => v.category).sum ≤ 8) (hdg : decode cc pc = .ok (.invokevirtual index, 3)) (hf : cells ≤ R.cells ∧ slots ≤ R.slots)
    (kk : ∀ (H1 : Heap) (locs1 : List Loc), gH E A0 H0 s w0 H1 locs1 → W p l e R s m args below meth c H1 locs1 cells slots Q (F0 m (pc + 3) ls (.long v :: rest))) : W p l e R s m args below meth c H locs cells slots Q (F0 m pc ls st) := by
  refine va_calll (va_runV (g := F0 m pc ls st) F (hM H.size) cw ⟨gH_blind, hrecv, fun U hU hW => ⟨rfl, gH_pre hw hU hW⟩⟩ rfl hn hsize hstack (lv_room hcat) hdg hf) hw.2.2.1 (fun q _ h => gH_free hw q h) (gH_free hw) (fun r u t H1 locs1 ht hvm hp hB hz hk hS => ?_)
  subst hp
  exact kk H1 locs1 (gH_back hw ht hB hS)
def iCl (x y : Int64) : Int := if x = y then 0 else if y < x then 1 else -1
theorem iCl_r (x y : Int64) : (-1 ≤ iCl x y ∧ iCl x y ≤ 1) ∧ (iCl x y = 0 ↔ x = y) := by
  unfold iCl
  by_cases h : x = y
  · rw [if_pos h]; exact ⟨by decide, fun _ => h, fun _ => rfl⟩
  · rw [if_neg h]
    by_cases h2 : y < x
    · rw [if_pos h2]; exact ⟨by decide, fun q => absurd q (by decide), fun q => absurd q h⟩
    · rw [if_neg h2]; exact ⟨by decide, fun q => absurd q (by decide), fun q => absurd q h⟩
theorem bi_lcmp (F : CallFix p m c cc nL s args Ts own) {x y : Int64} (hdg : decode cc pc = .ok (.lcmp, 1))
    (k : W p l e R s m args below meth c H locs cells slots Q (F0 m (pc + 1) ls (.int (iI (iCl x y)) :: rest))) : W p l e R s m args below meth c H locs cells slots Q (F0 m pc ls (.long y :: .long x :: rest)) := by
  refine W.lcmp F.1 F.2.1 hdg ?_
  have e : lg_cmp x y = iI (iCl x y) := by
    unfold iCl lg_cmp
    by_cases h2 : y < x
    · rw [if_pos h2, if_neg (fun h => by subst h; exact (Int64.lt_irrefl h2).elim), if_pos h2]; rfl
    · rw [if_neg h2]
      by_cases h : x = y
      · rw [if_pos h, if_pos h]; rfl
      · rw [if_neg h, if_neg h, if_neg h2]; rfl
  rw [e]
  exact k
end LW
/-- a night's place in a set of nights -/
def xBit (n : Int) : Int64 := (1 : Int64) <<< ((iI n).toInt64 &&& 63)
def xNf (A : Nat → Int → Int) (l v : Int) (n : Nat) : Int64 := fld (fun a k => if A 11 v ≤ xAt (A 9) l (A 17 0) k 0 then a ||| xBit k else a) 0 n
theorem xNf_s {A : Nat → Int → Int} {l v k : Int} (h : 0 ≤ k) : xNf A l v (k + 1).toNat = if A 11 v ≤ xAt (A 9) l (A 17 0) k 0 then xNf A l v k.toNat ||| xBit k else xNf A l v k.toNat := fld_s (g := fun (a : Int64) k => if A 11 v ≤ xAt (A 9) l (A 17 0) k 0 then a ||| xBit k else a) h
/-- is a set among the first ones, as 1 or 0 -/
def xLb (L : Nat → Int64) (z : Int64) (n : Nat) : Int := fld (fun b u => if L u.toNat = z then 1 else b) 0 n
theorem xLb_b {L : Nat → Int64} {z : Int64} (n : Nat) : (xLb L z n = 0 ∧ ∀ v : Nat, v < n → ¬ L v = z) ∨ (xLb L z n = 1 ∧ ∃ v : Nat, v < n ∧ L v = z) := by
  induction n with
  | zero => exact Or.inl ⟨rfl, fun v hv => by omega⟩
  | succ n ih =>
    have e : xLb L z (n + 1) = if L ((n : Int)).toNat = z then 1 else xLb L z n := rfl
    rw [Int.toNat_natCast] at e
    by_cases h : L n = z
    · exact Or.inr ⟨by rw [e, if_pos h], n, by omega, h⟩
    · rw [e, if_neg h]
      rcases ih with ⟨h1, h2⟩ | ⟨h1, v, h2, h3⟩
      · refine Or.inl ⟨h1, fun v hv => ?_⟩
        by_cases hv2 : v = n
        · subst hv2; exact h
        · exact h2 v (by omega)
      · exact Or.inr ⟨h1, v, by omega, h3⟩
def xPol (A : Nat → Int → Int) (l : Int) (n : Nat) : Int := fld (fun a v => if xLb (fun u => xNf A l (u : Int) 40) (xNf A l v 40) v.toNat = 1 then a else a + 1) 0 n
theorem xPol_s {A : Nat → Int → Int} {l k : Int} (h : 0 ≤ k) : xPol A l (k + 1).toNat = if xLb (fun u => xNf A l (u : Int) 40) (xNf A l k 40) k.toNat = 1 then xPol A l k.toNat else xPol A l k.toNat + 1 := fld_s (g := fun a v => if xLb (fun u => xNf A l (u : Int) 40) (xNf A l v 40) v.toNat = 1 then a else a + 1) h
theorem xPol_b {A : Nat → Int → Int} {l : Int} (n : Nat) : 0 ≤ xPol A l n ∧ xPol A l n ≤ n := by
  induction n with
  | zero => exact ⟨Int.le_refl 0, Int.le_refl 0⟩
  | succ n ih =>
    show 0 ≤ (if xLb (fun u => xNf A l (u : Int) 40) (xNf A l n 40) (n : Int).toNat = 1 then xPol A l n else xPol A l n + 1) ∧ (if xLb (fun u => xNf A l (u : Int) 40) (xNf A l n 40) (n : Int).toNat = 1 then xPol A l n else xPol A l n + 1) ≤ ((n + 1 : Nat) : Int)
    split <;> omega
theorem xLb_c {L M : Nat → Int64} {z : Int64} (n : Nat) (h : ∀ u : Nat, u < n → L u = M u) : xLb L z n = xLb M z n := by
  induction n with
  | zero => rfl
  | succ n ih =>
    show (if L ((n : Int)).toNat = z then 1 else xLb L z n) = if M ((n : Int)).toNat = z then 1 else xLb M z n
    rw [Int.toNat_natCast, h n (by omega), ih (fun u hu => h u (by omega))]
def xBecA (A : Nat → Int → Int) : Nat → Int → Int := stA (stA (stA (stA (stA (stA (stA (stA A 9 (A 1)) 10 (A 2)) 11 (A 3)) 12 (A 4)) 13 (A 5)) 14 (A 6)) 15 (A 7)) 16 (A 8)
def xBecI (I : Nat → Int) : Nat → Int := st1 (st1 (st1 (st1 I 9 (I 5)) 10 (I 6)) 11 (I 7)) 12 (I 8)
