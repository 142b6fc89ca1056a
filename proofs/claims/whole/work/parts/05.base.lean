/-! NUMBERS: an int of the machine as an Int -/
def iI (z : Int) : Int32 := Int32.ofInt z
theorem iI_add (x y : Int) : iI (x + y) = iI x + iI y := Int32.ofInt_add x y
theorem iI_sub (x y : Int) : iI (x - y) = iI x - iI y := Int32.ofInt_sub x y
theorem iI_mul (x y : Int) : iI (x * y) = iI x * iI y := Int32.ofInt_mul x y
theorem iI_t {z : Int} (h : -2147483648 ≤ z ∧ z ≤ 2147483647) : (iI z).toInt = z := Int32.toInt_ofInt_of_le (by omega) (by omega)
theorem iI_of (x : Int32) : iI x.toInt = x := Int32.ofInt_toInt x
theorem iI_r (x : Int32) : -2147483648 ≤ x.toInt ∧ x.toInt ≤ 2147483647 := by
  have h1 := Int32.le_toInt x
  have h2 := Int32.toInt_lt x
  omega
theorem iI_lt {x y : Int} (h : (-2147483648 ≤ x ∧ x ≤ 2147483647) ∧ (-2147483648 ≤ y ∧ y ≤ 2147483647)) : iI x < iI y ↔ x < y := by rw [Int32.lt_iff_toInt_lt, iI_t h.1, iI_t h.2]
theorem iI_le {x y : Int} (h : (-2147483648 ≤ x ∧ x ≤ 2147483647) ∧ (-2147483648 ≤ y ∧ y ≤ 2147483647)) : iI x ≤ iI y ↔ x ≤ y := by rw [Int32.le_iff_toInt_le, iI_t h.1, iI_t h.2]
theorem iI_eq {x y : Int} (h : (-2147483648 ≤ x ∧ x ≤ 2147483647) ∧ (-2147483648 ≤ y ∧ y ≤ 2147483647)) : iI x = iI y ↔ x = y := by rw [← Int32.toInt_inj, iI_t h.1, iI_t h.2]
theorem iI_clamp {z : Int} (h : 0 ≤ z ∧ z ≤ 2147483647) : (iI z).toNatClampNeg = z.toNat := Int32.toNatClampNeg_ofInt_of_le (by omega) (by omega)
theorem iI_in {z : Int} {n : Nat} (h : 0 ≤ z ∧ z < (n : Int)) (hn : n ≤ 2147483647) : vp_in (iI z) n := vp_in_iff.mpr (by rw [iI_t (by omega)]; exact h)
theorem iI_nonneg {z : Int} (h : 0 ≤ z ∧ z ≤ 2147483647) : ¬ iI z < 0 := by
  have h2 : ¬ iI z < iI 0 := by rw [iI_lt (by omega)]; omega
  exact h2
theorem iI_ne0 {z : Int} (h : -2147483648 ≤ z ∧ z ≤ 2147483647) (h0 : z ≠ 0) : ¬ iI z = 0 := by
  have h2 : ¬ iI z = iI 0 := by rw [iI_eq (by omega)]; exact h0
  exact h2
theorem iI_div {x y : Int} (h : (0 ≤ x ∧ x ≤ 2147483647) ∧ 0 < y ∧ y ≤ 2147483647) : iI x / iI y = iI (x / y) := by
  rw [← Int.tdiv_eq_ediv_of_nonneg h.1.1]
  exact (Int32.ofInt_tdiv (by have : Int32.minValue.toInt = -2147483648 := by decide
                              omega) (by have : Int32.maxValue.toInt = 2147483647 := by decide
                                         omega) (by have : Int32.minValue.toInt = -2147483648 := by decide
                                                    omega) (by have : Int32.maxValue.toInt = 2147483647 := by decide
                                                               omega)).symm
theorem iI_rem {x y : Int} (h : (0 ≤ x ∧ x ≤ 2147483647) ∧ 0 < y ∧ y ≤ 2147483647) : iI x - iI x / iI y * iI y = iI (x % y) := by
  rw [iI_div h, ← iI_mul, ← iI_sub, Int.emod_def, Int.mul_comm y]
def iOr (x y : Int) : Int := (iI x ||| iI y).toInt
def iAnd (x y : Int) : Int := (iI x &&& iI y).toInt
def iXor (x y : Int) : Int := (iI x ^^^ iI y).toInt
def iShl (x y : Int) : Int := (iI x <<< (iI y &&& 31)).toInt
theorem iOr_r (x y : Int) : -2147483648 ≤ iOr x y ∧ iOr x y ≤ 2147483647 := iI_r _
theorem iAnd_r (x y : Int) : -2147483648 ≤ iAnd x y ∧ iAnd x y ≤ 2147483647 := iI_r _
theorem iXor_r (x y : Int) : -2147483648 ≤ iXor x y ∧ iXor x y ≤ 2147483647 := iI_r _
theorem iShl_r (x y : Int) : -2147483648 ≤ iShl x y ∧ iShl x y ≤ 2147483647 := iI_r _
section BI
variable {p : Program} {l : Launch} {e : Env} {R : Room} {s : State} {m : MethodId} {args : Array Value} {below : List Frame} {meth : Method} {c : Code} {H : Heap} {locs : List Loc} {cells slots : Nat} {Q : State → Prop}
variable {cc : ByteArray} {nL : Nat} {Ts : List Cond} {own : String} {pc : Nat} {ls : Array Slot} {rest : List Value}
theorem bi_iconst (F : CallFix p m c cc nL s args Ts own) {n : Int} (hdg : decode cc pc = .ok (.iconst n, 1))
    (k : W p l e R s m args below meth c H locs cells slots Q (F0 m (pc + 1) ls (.int (iI n) :: rest))) : W p l e R s m args below meth c H locs cells slots Q (F0 m pc ls rest) := lv_iconst F.1 F.2.1 hdg rfl k
theorem bi_bipush (F : CallFix p m c cc nL s args Ts own) {n : Int} (hdg : decode cc pc = .ok (.bipush n, 2)) (hn : (Int8.ofInt n).toInt32 = iI n)
    (k : W p l e R s m args below meth c H locs cells slots Q (F0 m (pc + 2) ls (.int (iI n) :: rest))) : W p l e R s m args below meth c H locs cells slots Q (F0 m pc ls rest) := lv_bipush F.1 F.2.1 hdg hn k
theorem bi_sipush (F : CallFix p m c cc nL s args Ts own) {n : Int} (hdg : decode cc pc = .ok (.sipush n, 3)) (hn : (Int16.ofInt n).toInt32 = iI n)
    (k : W p l e R s m args below meth c H locs cells slots Q (F0 m (pc + 3) ls (.int (iI n) :: rest))) : W p l e R s m args below meth c H locs cells slots Q (F0 m pc ls rest) := lv_sipush F.1 F.2.1 hdg hn k
theorem bi_ldc (F : CallFix p m c cc nL s args Ts own) {index : Nat} (n : Int) {v : Int32} (hc : Jvm.Cond.constant own index v ∈ Ts) (hv : v = iI n) (hdg : decode cc pc = .ok (.ldc index, 2))
    (k : W p l e R s m args below meth c H locs cells slots Q (F0 m (pc + 2) ls (.int (iI n) :: rest))) : W p l e R s m args below meth c H locs cells slots Q (F0 m pc ls rest) := by
  subst hv
  exact lv_ldc F.1 F.2.1 F.2.2.2.1 (F.2.2.2.2 _ hc) hdg k
theorem bi_iadd (F : CallFix p m c cc nL s args Ts own) {x y : Int} (hdg : decode cc pc = .ok (.iadd, 1))
    (k : W p l e R s m args below meth c H locs cells slots Q (F0 m (pc + 1) ls (.int (iI (x + y)) :: rest))) : W p l e R s m args below meth c H locs cells slots Q (F0 m pc ls (.int (iI y) :: .int (iI x) :: rest)) := by
  rw [iI_add] at k
  exact lv_iadd F.1 F.2.1 hdg k
theorem bi_isub (F : CallFix p m c cc nL s args Ts own) {x y : Int} (hdg : decode cc pc = .ok (.isub, 1))
    (k : W p l e R s m args below meth c H locs cells slots Q (F0 m (pc + 1) ls (.int (iI (x - y)) :: rest))) : W p l e R s m args below meth c H locs cells slots Q (F0 m pc ls (.int (iI y) :: .int (iI x) :: rest)) := by
  rw [iI_sub] at k
  exact lv_isub F.1 F.2.1 hdg k
theorem bi_imul (F : CallFix p m c cc nL s args Ts own) {x y : Int} (hdg : decode cc pc = .ok (.imul, 1))
    (k : W p l e R s m args below meth c H locs cells slots Q (F0 m (pc + 1) ls (.int (iI (x * y)) :: rest))) : W p l e R s m args below meth c H locs cells slots Q (F0 m pc ls (.int (iI y) :: .int (iI x) :: rest)) := by
  rw [iI_mul] at k
  exact lv_imul F.1 F.2.1 hdg k
theorem bi_idiv (F : CallFix p m c cc nL s args Ts own) {x y : Int} (hdg : decode cc pc = .ok (.idiv, 1)) (h : (0 ≤ x ∧ x ≤ 2147483647) ∧ 0 < y ∧ y ≤ 2147483647)
    (k : W p l e R s m args below meth c H locs cells slots Q (F0 m (pc + 1) ls (.int (iI (x / y)) :: rest))) : W p l e R s m args below meth c H locs cells slots Q (F0 m pc ls (.int (iI y) :: .int (iI x) :: rest)) := by
  rw [← iI_div h] at k
  exact lv_idiv F.1 F.2.1 hdg (iI_ne0 (by omega) (by omega)) k
theorem bi_irem (F : CallFix p m c cc nL s args Ts own) {x y : Int} (hdg : decode cc pc = .ok (.irem, 1)) (h : (0 ≤ x ∧ x ≤ 2147483647) ∧ 0 < y ∧ y ≤ 2147483647)
    (k : W p l e R s m args below meth c H locs cells slots Q (F0 m (pc + 1) ls (.int (iI (x % y)) :: rest))) : W p l e R s m args below meth c H locs cells slots Q (F0 m pc ls (.int (iI y) :: .int (iI x) :: rest)) := by
  rw [← iI_rem h] at k
  exact lv_irem F.1 F.2.1 hdg (iI_ne0 (by omega) (by omega)) k
theorem bi_ior (F : CallFix p m c cc nL s args Ts own) {x y : Int} (hdg : decode cc pc = .ok (.ior, 1))
    (k : W p l e R s m args below meth c H locs cells slots Q (F0 m (pc + 1) ls (.int (iI (iOr x y)) :: rest))) : W p l e R s m args below meth c H locs cells slots Q (F0 m pc ls (.int (iI y) :: .int (iI x) :: rest)) := by
  unfold iOr at k
  rw [iI_of] at k
  exact lv_ior F.1 F.2.1 hdg k
theorem bi_iand (F : CallFix p m c cc nL s args Ts own) {x y : Int} (hdg : decode cc pc = .ok (.iand, 1))
    (k : W p l e R s m args below meth c H locs cells slots Q (F0 m (pc + 1) ls (.int (iI (iAnd x y)) :: rest))) : W p l e R s m args below meth c H locs cells slots Q (F0 m pc ls (.int (iI y) :: .int (iI x) :: rest)) := by
  unfold iAnd at k
  rw [iI_of] at k
  exact lv_iand F.1 F.2.1 hdg k
theorem bi_ixor (F : CallFix p m c cc nL s args Ts own) {x y : Int} (hdg : decode cc pc = .ok (.ixor, 1))
    (k : W p l e R s m args below meth c H locs cells slots Q (F0 m (pc + 1) ls (.int (iI (iXor x y)) :: rest))) : W p l e R s m args below meth c H locs cells slots Q (F0 m pc ls (.int (iI y) :: .int (iI x) :: rest)) := by
  unfold iXor at k
  rw [iI_of] at k
  exact lv_ixor F.1 F.2.1 hdg k
theorem bi_ishl (F : CallFix p m c cc nL s args Ts own) {x y : Int} (hdg : decode cc pc = .ok (.ishl, 1))
    (k : W p l e R s m args below meth c H locs cells slots Q (F0 m (pc + 1) ls (.int (iI (iShl x y)) :: rest))) : W p l e R s m args below meth c H locs cells slots Q (F0 m pc ls (.int (iI y) :: .int (iI x) :: rest)) := by
  unfold iShl at k
  rw [iI_of] at k
  exact lv_ishl F.1 F.2.1 hdg k
theorem bi_icmp_lt (F : CallFix p m c cc nL s args Ts own) {x y : Int} {off : Int} {tgt : Nat} (hdg : decode cc pc = .ok (.if_icmp .lt off, 3)) (ht : (pc : Int) + off = (tgt : Int)) (h : (-2147483648 ≤ x ∧ x ≤ 2147483647) ∧ (-2147483648 ≤ y ∧ y ≤ 2147483647))
    (kt : x < y → W p l e R s m args below meth c H locs cells slots Q (F0 m tgt ls rest)) (kf : y ≤ x → W p l e R s m args below meth c H locs cells slots Q (F0 m (pc + 3) ls rest)) : W p l e R s m args below meth c H locs cells slots Q (F0 m pc ls (.int (iI y) :: .int (iI x) :: rest)) := by
  have e1 := iI_lt h
  exact lv_icmp_lt F.1 F.2.1 hdg ht (fun q => kt (e1.mp q)) (fun q => kf (by have q1 := mt e1.mpr q; omega))
theorem bi_if_lt (F : CallFix p m c cc nL s args Ts own) {x : Int} {off : Int} {tgt : Nat} (hdg : decode cc pc = .ok (.ifCond .lt off, 3)) (ht : (pc : Int) + off = (tgt : Int)) (h : -2147483648 ≤ x ∧ x ≤ 2147483647)
    (kt : x < 0 → W p l e R s m args below meth c H locs cells slots Q (F0 m tgt ls rest)) (kf : 0 ≤ x → W p l e R s m args below meth c H locs cells slots Q (F0 m (pc + 3) ls rest)) : W p l e R s m args below meth c H locs cells slots Q (F0 m pc ls (.int (iI x) :: rest)) := by
  have h : (-2147483648 ≤ x ∧ x ≤ 2147483647) ∧ (-2147483648 ≤ (0 : Int) ∧ (0 : Int) ≤ 2147483647) := ⟨h, by omega⟩
  have e1 : iI x < 0 ↔ x < 0 := iI_lt h
  exact lv_if_lt F.1 F.2.1 hdg ht (fun q => kt (e1.mp q)) (fun q => kf (by have q1 := mt e1.mpr q; omega))
theorem bi_icmp_ge (F : CallFix p m c cc nL s args Ts own) {x y : Int} {off : Int} {tgt : Nat} (hdg : decode cc pc = .ok (.if_icmp .ge off, 3)) (ht : (pc : Int) + off = (tgt : Int)) (h : (-2147483648 ≤ x ∧ x ≤ 2147483647) ∧ (-2147483648 ≤ y ∧ y ≤ 2147483647))
    (kt : y ≤ x → W p l e R s m args below meth c H locs cells slots Q (F0 m tgt ls rest)) (kf : x < y → W p l e R s m args below meth c H locs cells slots Q (F0 m (pc + 3) ls rest)) : W p l e R s m args below meth c H locs cells slots Q (F0 m pc ls (.int (iI y) :: .int (iI x) :: rest)) := by
  have e1 := iI_le (And.intro h.2 h.1)
  exact lv_icmp_ge F.1 F.2.1 hdg ht (fun q => kt (e1.mp q)) (fun q => kf (by have q1 := mt e1.mpr q; omega))
theorem bi_if_ge (F : CallFix p m c cc nL s args Ts own) {x : Int} {off : Int} {tgt : Nat} (hdg : decode cc pc = .ok (.ifCond .ge off, 3)) (ht : (pc : Int) + off = (tgt : Int)) (h : -2147483648 ≤ x ∧ x ≤ 2147483647)
    (kt : 0 ≤ x → W p l e R s m args below meth c H locs cells slots Q (F0 m tgt ls rest)) (kf : x < 0 → W p l e R s m args below meth c H locs cells slots Q (F0 m (pc + 3) ls rest)) : W p l e R s m args below meth c H locs cells slots Q (F0 m pc ls (.int (iI x) :: rest)) := by
  have h : (-2147483648 ≤ x ∧ x ≤ 2147483647) ∧ (-2147483648 ≤ (0 : Int) ∧ (0 : Int) ≤ 2147483647) := ⟨h, by omega⟩
  have e1 : 0 ≤ iI x ↔ 0 ≤ x := iI_le (And.intro h.2 h.1)
  exact lv_if_ge F.1 F.2.1 hdg ht (fun q => kt (e1.mp q)) (fun q => kf (by have q1 := mt e1.mpr q; omega))
theorem bi_icmp_gt (F : CallFix p m c cc nL s args Ts own) {x y : Int} {off : Int} {tgt : Nat} (hdg : decode cc pc = .ok (.if_icmp .gt off, 3)) (ht : (pc : Int) + off = (tgt : Int)) (h : (-2147483648 ≤ x ∧ x ≤ 2147483647) ∧ (-2147483648 ≤ y ∧ y ≤ 2147483647))
    (kt : y < x → W p l e R s m args below meth c H locs cells slots Q (F0 m tgt ls rest)) (kf : x ≤ y → W p l e R s m args below meth c H locs cells slots Q (F0 m (pc + 3) ls rest)) : W p l e R s m args below meth c H locs cells slots Q (F0 m pc ls (.int (iI y) :: .int (iI x) :: rest)) := by
  have e1 := iI_lt (And.intro h.2 h.1)
  exact lv_icmp_gt F.1 F.2.1 hdg ht (fun q => kt (e1.mp q)) (fun q => kf (by have q1 := mt e1.mpr q; omega))
theorem bi_if_gt (F : CallFix p m c cc nL s args Ts own) {x : Int} {off : Int} {tgt : Nat} (hdg : decode cc pc = .ok (.ifCond .gt off, 3)) (ht : (pc : Int) + off = (tgt : Int)) (h : -2147483648 ≤ x ∧ x ≤ 2147483647)
    (kt : 0 < x → W p l e R s m args below meth c H locs cells slots Q (F0 m tgt ls rest)) (kf : x ≤ 0 → W p l e R s m args below meth c H locs cells slots Q (F0 m (pc + 3) ls rest)) : W p l e R s m args below meth c H locs cells slots Q (F0 m pc ls (.int (iI x) :: rest)) := by
  have h : (-2147483648 ≤ x ∧ x ≤ 2147483647) ∧ (-2147483648 ≤ (0 : Int) ∧ (0 : Int) ≤ 2147483647) := ⟨h, by omega⟩
  have e1 : 0 < iI x ↔ 0 < x := iI_lt (And.intro h.2 h.1)
  exact lv_if_gt F.1 F.2.1 hdg ht (fun q => kt (e1.mp q)) (fun q => kf (by have q1 := mt e1.mpr q; omega))
theorem bi_icmp_le (F : CallFix p m c cc nL s args Ts own) {x y : Int} {off : Int} {tgt : Nat} (hdg : decode cc pc = .ok (.if_icmp .le off, 3)) (ht : (pc : Int) + off = (tgt : Int)) (h : (-2147483648 ≤ x ∧ x ≤ 2147483647) ∧ (-2147483648 ≤ y ∧ y ≤ 2147483647))
    (kt : x ≤ y → W p l e R s m args below meth c H locs cells slots Q (F0 m tgt ls rest)) (kf : y < x → W p l e R s m args below meth c H locs cells slots Q (F0 m (pc + 3) ls rest)) : W p l e R s m args below meth c H locs cells slots Q (F0 m pc ls (.int (iI y) :: .int (iI x) :: rest)) := by
  have e1 := iI_le h
  exact lv_icmp_le F.1 F.2.1 hdg ht (fun q => kt (e1.mp q)) (fun q => kf (by have q1 := mt e1.mpr q; omega))
theorem bi_if_le (F : CallFix p m c cc nL s args Ts own) {x : Int} {off : Int} {tgt : Nat} (hdg : decode cc pc = .ok (.ifCond .le off, 3)) (ht : (pc : Int) + off = (tgt : Int)) (h : -2147483648 ≤ x ∧ x ≤ 2147483647)
    (kt : x ≤ 0 → W p l e R s m args below meth c H locs cells slots Q (F0 m tgt ls rest)) (kf : 0 < x → W p l e R s m args below meth c H locs cells slots Q (F0 m (pc + 3) ls rest)) : W p l e R s m args below meth c H locs cells slots Q (F0 m pc ls (.int (iI x) :: rest)) := by
  have h : (-2147483648 ≤ x ∧ x ≤ 2147483647) ∧ (-2147483648 ≤ (0 : Int) ∧ (0 : Int) ≤ 2147483647) := ⟨h, by omega⟩
  have e1 : iI x ≤ 0 ↔ x ≤ 0 := iI_le h
  exact lv_if_le F.1 F.2.1 hdg ht (fun q => kt (e1.mp q)) (fun q => kf (by have q1 := mt e1.mpr q; omega))
theorem bi_icmp_eq (F : CallFix p m c cc nL s args Ts own) {x y : Int} {off : Int} {tgt : Nat} (hdg : decode cc pc = .ok (.if_icmp .eq off, 3)) (ht : (pc : Int) + off = (tgt : Int)) (h : (-2147483648 ≤ x ∧ x ≤ 2147483647) ∧ (-2147483648 ≤ y ∧ y ≤ 2147483647))
    (kt : x = y → W p l e R s m args below meth c H locs cells slots Q (F0 m tgt ls rest)) (kf : x ≠ y → W p l e R s m args below meth c H locs cells slots Q (F0 m (pc + 3) ls rest)) : W p l e R s m args below meth c H locs cells slots Q (F0 m pc ls (.int (iI y) :: .int (iI x) :: rest)) := by
  have e1 := iI_eq h
  exact lv_icmp_eq F.1 F.2.1 hdg ht (fun q => kt (e1.mp q)) (fun q => kf (mt e1.mpr q))
theorem bi_if_eq (F : CallFix p m c cc nL s args Ts own) {x : Int} {off : Int} {tgt : Nat} (hdg : decode cc pc = .ok (.ifCond .eq off, 3)) (ht : (pc : Int) + off = (tgt : Int)) (h : -2147483648 ≤ x ∧ x ≤ 2147483647)
    (kt : x = 0 → W p l e R s m args below meth c H locs cells slots Q (F0 m tgt ls rest)) (kf : x ≠ 0 → W p l e R s m args below meth c H locs cells slots Q (F0 m (pc + 3) ls rest)) : W p l e R s m args below meth c H locs cells slots Q (F0 m pc ls (.int (iI x) :: rest)) := by
  have h : (-2147483648 ≤ x ∧ x ≤ 2147483647) ∧ (-2147483648 ≤ (0 : Int) ∧ (0 : Int) ≤ 2147483647) := ⟨h, by omega⟩
  have e1 : iI x = 0 ↔ x = 0 := iI_eq h
  exact lv_if_eq F.1 F.2.1 hdg ht (fun q => kt (e1.mp q)) (fun q => kf (mt e1.mpr q))
theorem bi_icmp_ne (F : CallFix p m c cc nL s args Ts own) {x y : Int} {off : Int} {tgt : Nat} (hdg : decode cc pc = .ok (.if_icmp .ne off, 3)) (ht : (pc : Int) + off = (tgt : Int)) (h : (-2147483648 ≤ x ∧ x ≤ 2147483647) ∧ (-2147483648 ≤ y ∧ y ≤ 2147483647))
    (kt : x ≠ y → W p l e R s m args below meth c H locs cells slots Q (F0 m tgt ls rest)) (kf : x = y → W p l e R s m args below meth c H locs cells slots Q (F0 m (pc + 3) ls rest)) : W p l e R s m args below meth c H locs cells slots Q (F0 m pc ls (.int (iI y) :: .int (iI x) :: rest)) := by
  have e1 := iI_eq h
  exact lv_icmp_ne F.1 F.2.1 hdg ht (fun q => kt (mt e1.mpr q)) (fun q => kf (e1.mp q))
theorem bi_if_ne (F : CallFix p m c cc nL s args Ts own) {x : Int} {off : Int} {tgt : Nat} (hdg : decode cc pc = .ok (.ifCond .ne off, 3)) (ht : (pc : Int) + off = (tgt : Int)) (h : -2147483648 ≤ x ∧ x ≤ 2147483647)
    (kt : x ≠ 0 → W p l e R s m args below meth c H locs cells slots Q (F0 m tgt ls rest)) (kf : x = 0 → W p l e R s m args below meth c H locs cells slots Q (F0 m (pc + 3) ls rest)) : W p l e R s m args below meth c H locs cells slots Q (F0 m pc ls (.int (iI x) :: rest)) := by
  have h : (-2147483648 ≤ x ∧ x ≤ 2147483647) ∧ (-2147483648 ≤ (0 : Int) ∧ (0 : Int) ≤ 2147483647) := ⟨h, by omega⟩
  have e1 : iI x = 0 ↔ x = 0 := iI_eq h
  exact lv_if_ne F.1 F.2.1 hdg ht (fun q => kt (mt e1.mpr q)) (fun q => kf (e1.mp q))
end BI
