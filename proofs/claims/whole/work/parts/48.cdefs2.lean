theorem calls_PN {p : Program} {l : Launch} {e : Env} {R : Room} {s : State} {m : MethodId} {args : Array Value} {below : List Frame} {meth : Method} {c : Code} {H : Heap} {locs : List Loc} {cells slots : Nat} {Q : State → Prop} {cc bytes : ByteArray} {nL maxL index n : Nat} {Ts ws ws' : List Cond} {own host : String} {pc : Nat} {ls : Array Slot} {rest As st : List Value} {y : MethodName} {rm : Room} {E : Ev} {A0 : Nat → Prop} {H0 : Heap} {w0 : va_W} {P : Prop} (F : CallFix p m c cc nL s args Ts own) (hM : MetP l y ws rm E As [] P) (hq : (own, index, y, host) ∈ nestL) (hG : GoodIn Ts ws) (hwc : ws = Cond.code y bytes maxL (some .boolean) :: ws') (hrc : rm.cells = 0) (hrs : rm.slots = 0) (hini : Cond.initialized y.cls ∈ Ts) (hstt : Cond.static y ∈ Ts)
    (hd : y.cls ≠ "java/lang/invoke/MethodHandle" ∧ y.cls ≠ "java/lang/invoke/VarHandle" ∧ (parseMethodDescriptor y.desc).map (fun d => d.parameters.length) = some n) (hR : rm.frames + 1 ≤ R.frames ∧ 8 + (maxL + 11) + rm.locals ≤ R.locals) (hw : gH E A0 H0 s w0 H locs)
    (hn : As.length = n) (hsize : ls.size = nL) (hstack : st = As.reverse ++ rest) (hcat : (rest.map fun v => v.category).sum ≤ 8) (hdg : decode cc pc = .ok (.invokestatic index, 3)) (hf : cells ≤ R.cells ∧ slots ≤ R.slots)
    (kt : P → ∀ (H1 : Heap) (locs1 : List Loc), gH E A0 H0 s w0 H1 locs1 → W p l e R s m args below meth c H1 locs1 cells slots Q (F0 m (pc + 3) ls (.int (iI 1) :: rest)))
    (kf : ¬ P → ∀ (H1 : Heap) (locs1 : List Loc), gH E A0 H0 s w0 H1 locs1 → W p l e R s m args below meth c H1 locs1 cells slots Q (F0 m (pc + 3) ls (.int (iI 0) :: rest))) : W p l e R s m args below meth c H locs cells slots Q (F0 m pc ls st) := by
  have cw : va_CN R s args own index y host bytes maxL (some .boolean) ws rm 0 0 n := va_cnB n F.2.2.2.2 hG hwc hrc hrs (hw.2.2.2.1.2 _ hq) (F.2.2.2.2 _ hini) hd hR
  refine va_calli (va_runSN (g := F0 m pc ls st) F (hM H.size) ⟨cw, F.2.2.2.2 _ hstt, trivial⟩ ⟨gH_blind, fun U hU hW => ⟨rfl, gH_pre (gH_nil hw) hU hW⟩⟩ rfl hn hsize hstack (lv_room hcat) hdg hf) hw.2.2.1 (fun q _ h => gH_free (gH_nil hw) q h) (gH_free (gH_nil hw)) (fun r u t H1 locs1 ht hvm hp hB hz hk hS => ?_)
  obtain ⟨b, rfl, hp⟩ := hp
  cases b with
  | true => exact kt (hp.mp rfl) H1 locs1 (gH_keep hw hk hS)
  | false => exact kf (fun h => by have := hp.mpr h; cases this) H1 locs1 (gH_keep hw hk hS)
theorem bi_lookup {p : Program} {l : Launch} {e : Env} {R : Room} {s : State} {m : MethodId} {args : Array Value} {below : List Frame} {meth : Method} {c : Code} {H : Heap} {locs : List Loc} {cells slots : Nat} {Q : State → Prop} {cc : ByteArray} {nL : Nat} {Ts : List Cond} {own : String} {pc : Nat} {ls : Array Slot} {rest : List Value} (F : CallFix p m c cc nL s args Ts own) {x dflt off : Int} {ps : Array (Int × Int)} {len tgt : Nat} (hdg : decode cc pc = .ok (.lookupswitch dflt ps, len)) (hx : -2147483648 ≤ x ∧ x ≤ 2147483647) (hp : (ps.toList.zip (ps.toList.drop 1)).all (fun (a, next) => a.1 < next.1) = true) (ho : Op.lookupswitch.offset ps.toList dflt x = off) (ht : (pc : Int) + off = (tgt : Int))
    (k : W p l e R s m args below meth c H locs cells slots Q (F0 m tgt ls rest)) : W p l e R s m args below meth c H locs cells slots Q (F0 m pc ls (.int (iI x) :: rest)) :=
  lv_lookup F.1 F.2.1 hdg hp (by rw [iI_t hx]; exact ho) ht k
theorem cMid_r (a b c : Int) : (cMid a b c = a ∨ cMid a b c = b ∨ cMid a b c = c) := by
  have h1 := iMn_r a b
  have h2 := iMx_r a b
  have h3 := iMn_r (iMx a b) c
  have h4 := iMx_r (iMn a b) (iMn (iMx a b) c)
  unfold cMid
  omega
def cV (T : Int → Int) (n : Int) (s : CT) : CT := cEnd T n (cNum T n 1 40 (cNum T n 0 40 (cNum T n 0 40 (cNum T n 0 40 (cNum T n 0 40 s)))))
def cP (T : Int → Int) (n lo nv : Int) (s : CT) : CT := cEnd T n (cNum T n lo 999 (cNum T n 0 (nv - 1) s))
/-- a village's entry among the class's arrays -/
def cVA (T : Int → Int) (n c6 : Int) (s : CT) (A : Nat → Int → Int) : Nat → Int → Int := st2 (st2 (st2 A 2 c6 (cNv T n s)) 3 c6 (cNv T n s + iMx 1 (cMid (cNv T n (cNum T n 0 40 s)) (cNv T n (cNum T n 0 40 (cNum T n 0 40 s))) (cNv T n (cNum T n 0 40 (cNum T n 0 40 (cNum T n 0 40 s))))))) 4 c6 (cNv T n (cNum T n 0 40 (cNum T n 0 40 (cNum T n 0 40 (cNum T n 0 40 s)))))
def cPA (T : Int → Int) (n nv : Int) (j : Nat) (c7 : Int) (s : CT) (A : Nat → Int → Int) : Nat → Int → Int := st2 (st2 A j c7 (cNv T n s)) (j + 1) c7 (cNv T n (cNum T n 0 (nv - 1) s))
/-- a winter: what is read, how many numbers, the numbers -/
def cWin (T : Int → Int) (n : Int) : Nat → Int → CT → Int → (Int → Int) → CT × Int × (Int → Int)
  | 0, _, s, c, g => (cEnd T n s, c, g)
  | m + 1, i, s, c, g => if (cNum T n 0 40 s).2.1 = 0 then (if pLook T n (pSk T n (cNum T n 0 40 s).2.2) = 44 ∧ i ≠ 19 then cWin T n m (i + 1) ((cNum T n 0 40 s).1, (cNum T n 0 40 s).2.1, pSk T n (cNum T n 0 40 s).2.2 + 1) (i + 1) (up1 g i (cNv T n s)) else (cEnd T n ((cNum T n 0 40 s).1, (cNum T n 0 40 s).2.1, pSk T n (cNum T n 0 40 s).2.2), i + 1, up1 g i (cNv T n s))) else (cNum T n 0 40 s, c, g)
