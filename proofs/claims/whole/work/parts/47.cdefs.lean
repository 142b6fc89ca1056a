/-! THE CLASS'S READER: faultAt, kind, at -/
abbrev CT : Type := Int × Int × Int
def cNum (T : Int → Int) (n lo hi : Int) (s : CT) : CT := (if s.2.1 = 0 ∧ pNumW T n lo hi s.2.2 s.2.1 ≠ 0 then pSk T n s.2.2 else s.1, pNumW T n lo hi s.2.2 s.2.1, if s.2.1 = 0 then (pRun T n (pSk T n s.2.2) (pSk T n s.2.2) 0).1 else s.2.2)
def cNv (T : Int → Int) (n : Int) (s : CT) : Int := pNumV T n s.2.2 s.2.1
def cEnd (T : Int → Int) (n : Int) (s : CT) : CT := (if s.2.1 = 0 ∧ pWordW T n 59 s.2.2 s.2.1 ≠ 0 then pSk T n s.2.2 else s.1, pWordW T n 59 s.2.2 s.2.1, pWordA T n 59 s.2.2 s.2.1)
def cFail (k q : Int) (s : CT) : CT := if s.2.1 = 0 then (q, k, s.2.2) else s
/-- its numbers lie in their bounds -/
def cGd (s : CT) : Prop := (-1 ≤ s.1 ∧ s.1 ≤ 240) ∧ (0 ≤ s.2.1 ∧ s.2.1 ≤ 3) ∧ (0 ≤ s.2.2 ∧ s.2.2 ≤ 240)
theorem cGd_num {T : Int → Int} {n lo hi : Int} {s : CT} (hn : 0 ≤ n ∧ n ≤ 240) (h : cGd s) : cGd (cNum T n lo hi s) := by
  obtain ⟨h1, h2, h3⟩ := h
  have h4 := pSk_240 (T := T) h3 hn.2
  have h5 := pNumW_r (T := T) (n := n) (lo := lo) (hi := hi) (a := s.2.2) h2
  have h6 := pSk_r (T := T) (n := n) (a := s.2.2)
  refine ⟨?_, h5, ?_⟩
  · show -1 ≤ (if s.2.1 = 0 ∧ pNumW T n lo hi s.2.2 s.2.1 ≠ 0 then pSk T n s.2.2 else s.1) ∧ (if s.2.1 = 0 ∧ pNumW T n lo hi s.2.2 s.2.1 ≠ 0 then pSk T n s.2.2 else s.1) ≤ 240
    split <;> omega
  · show 0 ≤ (if s.2.1 = 0 then (pRun T n (pSk T n s.2.2) (pSk T n s.2.2) 0).1 else s.2.2) ∧ (if s.2.1 = 0 then (pRun T n (pSk T n s.2.2) (pSk T n s.2.2) 0).1 else s.2.2) ≤ 240
    split
    · by_cases hq : pSk T n s.2.2 ≤ n
      · have := pRun_r (T := T) (n := n) (f := pSk T n s.2.2) (a := pSk T n s.2.2) (v := 0) hq
        omega
      · rw [pRun_f (by omega)]
        exact h4
    · exact h3
theorem cGd_end {T : Int → Int} {n : Int} {s : CT} (hn : 0 ≤ n ∧ n ≤ 240) (h : cGd s) : cGd (cEnd T n s) := by
  obtain ⟨h1, h2, h3⟩ := h
  have h4 := pSk_240 (T := T) h3 hn.2
  have h6 := pWordA_r (T := T) (n := n) (c := 59) (w := s.2.1) h3 hn.2 (by decide)
  refine ⟨?_, pWordW_r h2, h6.1⟩
  show -1 ≤ (if s.2.1 = 0 ∧ pWordW T n 59 s.2.2 s.2.1 ≠ 0 then pSk T n s.2.2 else s.1) ∧ (if s.2.1 = 0 ∧ pWordW T n 59 s.2.2 s.2.1 ≠ 0 then pSk T n s.2.2 else s.1) ≤ 240
  split <;> omega
theorem cGd_fail {k q : Int} {s : CT} (hk : 0 ≤ k ∧ k ≤ 3) (hq : -1 ≤ q ∧ q ≤ 240) (h : cGd s) : cGd (cFail k q s) := by
  unfold cFail
  split
  · exact ⟨hq, hk, h.2.2⟩
  · exact h
def jX (I : Nat → Int) (f k a c5 c6 c7 c8 : Int) : Nat → Int := st1 (st1 (st1 (st1 (st1 (st1 (st1 I 1 f) 2 k) 4 a) 5 c5) 6 c6) 7 c7) 8 c8
theorem xW_j {E : Ev} {I : Nat → Int} {f k a c5 c6 c7 c8 f' k' a' d5 d6 d7 d8 : Int} {A A' : Nat → Int → Int} {L : Nat → Int64} (h1 : f = f') (h2 : k = k') (h3 : a = a') (h5 : c5 = d5) (h6 : c6 = d6) (h7 : c7 = d7) (h8 : c8 = d8) (hA : A = A') : xW E (jX I f k a c5 c6 c7 c8) A L = xW E (jX I f' k' a' d5 d6 d7 d8) A' L := by rw [h1, h2, h3, h5, h6, h7, h8, hA]
def cMid (a b c : Int) : Int := iMx (iMn a b) (iMn (iMx a b) c)
section SN
variable {p : Program} {l : Launch} {e : Env} {R : Room} {s : State} {m : MethodId} {args : Array Value} {below : List Frame} {meth : Method} {c : Code} {H : Heap} {locs : List Loc} {cells slots : Nat} {Q : State → Prop}
variable {cc bytes : ByteArray} {nL maxL index n : Nat} {Ts ws : List Cond} {own C : String} {pc b : Nat} {ls : Array Slot} {rest As st : List Value} {y : MethodName} {rm : Room}
variable {E : Ev} {A0 : Nat → Prop} {H0 : Heap} {w0 : va_W}
theorem calls_N0 {v : Int} (F : CallFix p m c cc nL s args Ts own) (hM : MetN l y ws rm E As [] v) (cw : CallB R s args own index y bytes maxL (some .int) ws rm 0 0 n ∧ (Cond.static y).before args s = true) (hw : gH E A0 H0 s w0 H locs)
    (hn : As.length = n) (hsize : ls.size = nL) (hstack : st = As.reverse ++ rest) (hcat : (rest.map fun v => v.category).sum ≤ 8) (hdg : decode cc pc = .ok (.invokestatic index, 3)) (hf : cells ≤ R.cells ∧ slots ≤ R.slots)
    (kk : ∀ (H1 : Heap) (locs1 : List Loc), gH E A0 H0 s w0 H1 locs1 → W p l e R s m args below meth c H1 locs1 cells slots Q (F0 m (pc + 3) ls (.int (iI v) :: rest))) : W p l e R s m args below meth c H locs cells slots Q (F0 m pc ls st) := by
  refine va_calli (va_runS (g := F0 m pc ls st) F (hM H.size) cw ⟨gH_blind, fun U hU hW => ⟨rfl, gH_pre (gH_nil hw) hU hW⟩⟩ rfl hn hsize hstack (lv_room hcat) hdg hf) hw.2.2.1 (fun q _ h => gH_free (gH_nil hw) q h) (gH_free (gH_nil hw)) (fun r u t H1 locs1 ht hvm hp hB hz hk hS => ?_)
  obtain ⟨z, rfl, hp⟩ := hp
  subst hp
  exact kk H1 locs1 (gH_keep hw hk hS)
end SN
