set_option maxRecDepth 100000 in
set_option maxHeartbeats 4000000 in
theorem x6_snow (l : Launch) (E : Ev) (I : Nat → Int) (A : Nat → Int → Int) (L : Nat → Int64) (x : Int) (hx : 0 ≤ x ∧ x ≤ 1000) (hnv : 0 ≤ I 10 ∧ I 10 ≤ 4) (hnp : 0 ≤ I 11 ∧ I 11 ≤ 6) (hdr : ∀ k, 0 ≤ A 10 k ∧ A 10 k ≤ 40) (hff : ∀ k, 0 ≤ A 11 k ∧ A 11 k ≤ 80) (hh : ∀ t, 13 ≤ t ∧ t < 19 → 0 ≤ A 17 t ∧ A 17 t ≤ 1000) : MetG l yX6_snow wsX6_snow ({ frames := 2, cells := 0, slots := 0, locals := 44 } : Room) E [.ref (eO E 4), .ref (eO E 3), .int (iI x)] (xW E I A L) (xW E (I) (stA A 17 (xSnow (A 11) (A 10) (I 10) (I 11) x (A 17))) L) := by
  have hin6 : ∀ w ∈ wsX60, w ∈ wsX6_snow := by decide +kernel
  have hin7 : ∀ w ∈ wsX70, w ∈ wsX6_snow := by decide +kernel
  refine met_G (cc := cX6_snow) (nL := 4) (by decide) rfl (Nat.le_of_ble_eq_true rfl) ?_
  intro p e s m args below meth c Q H0 A0 H locs ls F hw hl hret
  have F : CallFix p m c cX6_snow 4 s args wsX6_snow RX6 := F
  have hl : lv_has ls 4 [(0, .ref (eO E 4)), (1, .ref (eO E 3)), (2, .int (iI x))] := hl
  refine bi_iconst F dX6_snow_0 ?_
  refine lv_istore_n (lv' := [(3, .int (iI 0)), (0, .ref (eO E 4)), (1, .ref (eO E 3)), (2, .int (iI x))]) F.1 F.2.1 dX6_snow_1 rfl hl (by decide) rfl (fun ls hl => ?_)
  have loop_2 : ∀ (nf : Nat) (v : Int) (A1 : Nat → Int → Int) (H : Heap) (locs : List Loc) (ls : Array Slot) (hv : 0 ≤ v ∧ v ≤ I 10) (hA1 : A1 = stA A 17 (sN (A 11) (A 10) (I 11) x (A 17) v.toNat)) (hlo : ∀ t, 13 ≤ t ∧ t < 19 → A1 17 t = A 17 t) (hw : gH E A0 H0 s (xW E I A1 L) H locs) (hl : lv_has ls 4 [(3, .int (iI v)), (0, .ref (eO E 4)), (1, .ref (eO E 3)), (2, .int (iI x))]) (hnf : (I 10 - v).toNat < nf), W p l e ({ frames := 2, cells := 0, slots := 0, locals := 44 } : Room) s m args below meth c H locs 0 0 Q (F0 m 2 ls []) := by
    intro nf
    induction nf with
    | zero =>
      intro v A1 H locs ls hv hA1 hlo hw hl hnf
      exact absurd hnf (Nat.not_lt_zero _)
    | succ nf ih_2 =>
      intro v A1 H locs ls hv hA1 hlo hw hl hnf
      have h17 : A1 17 = sN (A 11) (A 10) (I 11) x (A 17) v.toNat := by rw [hA1]; rfl
      have h10 : A1 10 = A 10 := by rw [hA1]; rfl
      have h11 : A1 11 = A 11 := by rw [hA1]; rfl
      have hss : sN (A 11) (A 10) (I 11) x (A 17) (v + 1).toNat = sV (A 11) (A 10) (I 11) x (sN (A 11) (A 10) (I 11) x (A 17) v.toNat) v := fld_s (g := fun (g : Int → Int) v => sV (A 11) (A 10) (I 11) x g v) hv.1
      refine lv_iload_n F.1 F.2.1 dX6_snow_2 rfl (lv_at hl 0 rfl) ?_
      refine lv_aload_n F.1 F.2.1 dX6_snow_3 rfl (lv_at hl 2 rfl) ?_
      refine x_get F hin7 hw 3 7 rfl rfl 9 (by decide) (by decide +kernel) rfl rfl dX6_snow_4 ?_
      refine bi_icmp_ge (tgt := 60) F dX6_snow_7 (by decide) (by omega) (fun c_1 => ?_) (fun c_1 => ?_)
      · refine lv_aload_n F.1 F.2.1 dX6_snow_60 rfl (lv_at hl 1 rfl) ?_
        refine x_get F hin6 hw 4 6 rfl rfl 0 (by decide) (by decide +kernel) rfl rfl dX6_snow_61 ?_
        refine bi_iconst F dX6_snow_64 ?_
        refine lv_dup2_11 F.1 F.2.1 dX6_snow_65 rfl rfl ?_
        refine x_ld F hw 17 35 rfl (by decide) (by omega) dX6_snow_66 ?_
        refine bi_iconst F dX6_snow_67 ?_
        refine bi_iadd F dX6_snow_68 ?_
        refine x_st F hw 17 35 rfl (by decide) (by omega) dX6_snow_69 (fun H locs hw => ?_)
        generalize eA2 : st2 A1 17 0 (A1 17 0 + 1) = A2 at hw
        exact hret _ _ _ _ _ (xW_c rfl (by rw [← eA2, hA1, st2_A, stA_s, show v = I 10 by omega]; rfl) rfl) hw dX6_snow_70
      · refine lv_aload_n F.1 F.2.1 dX6_snow_10 rfl (lv_at hl 1 rfl) ?_
        refine x_get F hin6 hw 4 6 rfl rfl 0 (by decide) (by decide +kernel) rfl rfl dX6_snow_11 ?_
        refine bi_iconst F dX6_snow_14 ?_
        refine lv_iload_n F.1 F.2.1 dX6_snow_15 rfl (lv_at hl 0 rfl) ?_
        refine bi_iadd F dX6_snow_16 ?_
        refine lv_dup2_11 F.1 F.2.1 dX6_snow_17 rfl rfl ?_
        refine x_ld F hw 17 35 rfl (by decide) (by omega) dX6_snow_18 ?_
        refine lv_aload_n F.1 F.2.1 dX6_snow_19 rfl (lv_at hl 2 rfl) ?_
        refine lv_iload_n F.1 F.2.1 dX6_snow_20 rfl (lv_at hl 0 rfl) ?_
        refine lv_iload_n F.1 F.2.1 dX6_snow_21 rfl (lv_at hl 3 rfl) ?_
        refine call_N (As := [.int (iI v), .int (iI x)]) (rest := [.int (iI (A1 17 (5 + v))), .int (iI (5 + v)), .ref (eA E 17)]) F (x7_depth l E I A1 L v x (by omega) (by omega) (by rw [h10]; exact hdr)) (cwV 2 F.2.2.2.2 gX6_snow_X7_depth rfl rfl rfl (by decide +kernel) ⟨(Nat.le_of_ble_eq_true rfl), (Nat.le_of_ble_eq_true rfl)⟩) hw (x_recv hw 3 7 rfl rfl) rfl hl.1 rfl (Nat.le_of_ble_eq_true rfl) dX6_snow_22 ⟨Nat.zero_le _, Nat.zero_le _⟩ (fun H locs hw => ?_)
        refine bi_iadd F dX6_snow_25 ?_
        refine x_st F hw 17 35 rfl (by decide) (by omega) dX6_snow_26 (fun H locs hw => ?_)
        generalize eA3 : st2 A1 17 (5 + v) (A1 17 (5 + v) + (iMx 0 (x - A1 10 v))) = A3 at hw
        have eB1 := eA3
        have h10b : A3 10 = A 10 := by rw [← eA3, st2_n (show (10 : Nat) ≠ 17 by decide), h10]
        have h11b : A3 11 = A1 11 := by rw [← eA3, st2_n (show (11 : Nat) ≠ 17 by decide)]
        have hlo2 : ∀ t, 13 ≤ t ∧ t < 19 → A3 17 t = A 17 t := by intro t ht; rw [← eA3, st2_k (by omega)]; exact hlo t ht
        have h17a : A3 17 = up1 (A1 17) (5 + v) (A1 17 (5 + v) + iMx 0 (x - A 10 v)) := by rw [← eA3, st2_a, h10]
        refine lv_aload_n F.1 F.2.1 dX6_snow_27 rfl (lv_at hl 2 rfl) ?_
        refine lv_iload_n F.1 F.2.1 dX6_snow_28 rfl (lv_at hl 0 rfl) ?_
        refine lv_iload_n F.1 F.2.1 dX6_snow_29 rfl (lv_at hl 3 rfl) ?_
        refine call_P (As := [.int (iI v), .int (iI x)]) (rest := []) F (x7_isFall l E I A3 L v x (by omega) (by omega) (by rw [h11b, h11]; exact hff)) (cwV 2 F.2.2.2.2 gX6_snow_X7_isFall rfl rfl rfl (by decide +kernel) ⟨(Nat.le_of_ble_eq_true rfl), (Nat.le_of_ble_eq_true rfl)⟩) hw (x_recv hw 3 7 rfl rfl) rfl hl.1 rfl (Nat.le_of_ble_eq_true rfl) dX6_snow_30 ⟨Nat.zero_le _, Nat.zero_le _⟩ (fun q_4 H locs hw => ?_) (fun q_4 H locs hw => ?_)
        · have hfl : A1 11 v = A3 11 v := by rw [h11b]
          refine bi_if_eq (tgt := 54) F dX6_snow_33 (by decide) (by decide) (fun q => absurd q (by decide)) (fun _ => ?_)
          refine lv_aload_n F.1 F.2.1 dX6_snow_36 rfl (lv_at hl 1 rfl) ?_
          refine x_get F hin6 hw 4 6 rfl rfl 0 (by decide) (by decide +kernel) rfl rfl dX6_snow_37 ?_
          refine bi_iconst F dX6_snow_40 ?_
          refine lv_iload_n F.1 F.2.1 dX6_snow_41 rfl (lv_at hl 0 rfl) ?_
          refine bi_iadd F dX6_snow_42 ?_
          refine lv_dup2_11 F.1 F.2.1 dX6_snow_43 rfl rfl ?_
          refine x_ld F hw 17 35 rfl (by decide) (by omega) dX6_snow_44 ?_
          have f_6 : A3 17 (1 + v) = A1 17 (1 + v) ∨ 1 + v = 5 + v := by rw [← eA3]; exact st2_or
          refine bi_iconst F dX6_snow_45 ?_
          refine bi_iadd F dX6_snow_46 ?_
          refine x_st F hw 17 35 rfl (by decide) (by omega) dX6_snow_47 (fun H locs hw => ?_)
          generalize eA7 : st2 A3 17 (1 + v) (A3 17 (1 + v) + 1) = A7 at hw
          have eB2 := eA7
          have h17b : A7 17 = up1 (A3 17) (1 + v) (A3 17 (1 + v) + 1) := by rw [← eA7, st2_a]
          have hlo2 : ∀ t, 13 ≤ t ∧ t < 19 → A7 17 t = A 17 t := by intro t ht; rw [← eA7, st2_k (by omega)]; exact hlo2 t ht
          refine lv_aload_n F.1 F.2.1 dX6_snow_48 rfl (lv_at hl 1 rfl) ?_
          refine lv_aload_n F.1 F.2.1 dX6_snow_49 rfl (lv_at hl 2 rfl) ?_
          refine lv_iload_n F.1 F.2.1 dX6_snow_50 rfl (lv_at hl 0 rfl) ?_
          refine call_G (As := [.ref (eO E 3), .int (iI v)]) (rest := []) F (x6_ageAllIn l E I A7 L v (by omega) (by omega) (fun t ht => by rw [hlo2 t ht]; exact hh t ht)) (cwV 2 F.2.2.2.2 gX6_snow_X6_ageAllIn rfl rfl rfl (by decide +kernel) ⟨(Nat.le_of_ble_eq_true rfl), (Nat.le_of_ble_eq_true rfl)⟩) hw (x_recv hw 4 6 rfl rfl) rfl hl.1 rfl (Nat.le_of_ble_eq_true rfl) dX6_snow_51 ⟨Nat.zero_le _, Nat.zero_le _⟩ (fun H locs hw => ?_)
          generalize eA8 : stA A7 17 (sA v (A7 17) (I 11).toNat) = A8 at hw
          have ho : ∀ i, i ≠ 17 → A8 i = A i := by intro i hi; first | (rw [← eA8, stA_n hi, ← eB2, st2_n hi, ← eB1, st2_n hi, hA1]; exact stA_n hi) | (rw [← eB1, st2_n hi, hA1]; exact stA_n hi)
          have hx17 : A8 17 = sV (A 11) (A 10) (I 11) x (A1 17) v := by unfold sV; first | (rw [if_pos (by rw [← h11]; omega), ← eA8, stA_s, h17b, h17a]; done) | (rw [if_neg (by rw [← h11]; omega), h17a]; done)
          have hlo3 : ∀ t, 13 ≤ t ∧ t < 19 → A8 17 t = A 17 t := by first | exact hlo2 | (intro t ht; rw [← eA8, stA_s, sA_lo _ (by omega)]; exact hlo2 t ht)
          refine lv_iinc (v := iI (v + 1)) (lv' := [(3, .int (iI (v + 1))), (0, .ref (eO E 4)), (1, .ref (eO E 3)), (2, .int (iI x))]) F.1 F.2.1 dX6_snow_54 hl (k := 0) rfl (iI_add _ _).symm (by decide) rfl (fun ls hl => ?_)
          refine lv_goto (tgt := 2) F.1 F.2.1 dX6_snow_57 (by decide) ?_
          exact ih_2 (v + 1) A8 H locs ls (by omega) (by rw [hss, ← h17]; exact stA_of ho hx17) (hlo3) hw (lv_sub hl [0, 1, 2, 3] rfl) (by omega)
        · have hfl : A1 11 v = A3 11 v := by rw [h11b]
          refine bi_if_eq (tgt := 54) F dX6_snow_33 (by decide) (by decide) (fun _ => ?_) (fun q => absurd q (by decide))
          have ho : ∀ i, i ≠ 17 → A3 i = A i := by intro i hi; first | (rw [← eA3, stA_n hi, ← eB2, st2_n hi, ← eB1, st2_n hi, hA1]; exact stA_n hi) | (rw [← eB1, st2_n hi, hA1]; exact stA_n hi)
          have hx17 : A3 17 = sV (A 11) (A 10) (I 11) x (A1 17) v := by unfold sV; first | (rw [if_pos (by rw [← h11]; omega), ← eA3, stA_s, h17b, h17a]; done) | (rw [if_neg (by rw [← h11]; omega), h17a]; done)
          have hlo3 : ∀ t, 13 ≤ t ∧ t < 19 → A3 17 t = A 17 t := by first | exact hlo2 | (intro t ht; rw [← eA3, stA_s, sA_lo _ (by omega)]; exact hlo2 t ht)
          refine lv_iinc (v := iI (v + 1)) (lv' := [(3, .int (iI (v + 1))), (0, .ref (eO E 4)), (1, .ref (eO E 3)), (2, .int (iI x))]) F.1 F.2.1 dX6_snow_54 hl (k := 0) rfl (iI_add _ _).symm (by decide) rfl (fun ls hl => ?_)
          refine lv_goto (tgt := 2) F.1 F.2.1 dX6_snow_57 (by decide) ?_
          exact ih_2 (v + 1) A3 H locs ls (by omega) (by rw [hss, ← h17]; exact stA_of ho hx17) (hlo3) hw (lv_sub hl [0, 1, 2, 3] rfl) (by omega)
  exact loop_2 ((I 10 - 0 : Int).toNat + 1) 0 A H locs ls (by omega) (by exact stA_id.symm) (fun t _ => rfl) hw (lv_sub hl [0, 1, 2, 3] rfl) (by omega)
set_option maxRecDepth 100000 in
set_option maxHeartbeats 4000000 in
theorem x6_makeDebt (l : Launch) (E : Ev) (I : Nat → Int) (A : Nat → Int → Int) (L : Nat → Int64) (d : Int) (x : Int) (hd : 0 ≤ d ∧ d < 5) (hpl1 : 0 ≤ A 15 d ∧ A 15 d < 4) : MetG l yX6_makeDebt wsX6_makeDebt ({ frames := 1, cells := 0, slots := 0, locals := 21 } : Room) E [.ref (eO E 4), .ref (eO E 3), .int (iI d), .int (iI x)] (xW E I A L) (xW E (I) (st2 (st2 A 17 (25 + d) x) 17 (30 + d) (A 17 (5 + A 15 d))) L) := by
  have hin6 : ∀ w ∈ wsX60, w ∈ wsX6_makeDebt := by decide +kernel
  have hin7 : ∀ w ∈ wsX70, w ∈ wsX6_makeDebt := by decide +kernel
  refine met_G (cc := cX6_makeDebt) (nL := 4) (by decide) rfl (Nat.le_of_ble_eq_true rfl) ?_
  intro p e s m args below meth c Q H0 A0 H locs ls F hw hl hret
  have F : CallFix p m c cX6_makeDebt 4 s args wsX6_makeDebt RX6 := F
  have hl : lv_has ls 4 [(0, .ref (eO E 4)), (1, .ref (eO E 3)), (2, .int (iI d)), (3, .int (iI x))] := hl
  refine lv_aload_n F.1 F.2.1 dX6_makeDebt_0 rfl (lv_at hl 0 rfl) ?_
  refine x_get F hin6 hw 4 6 rfl rfl 0 (by decide) (by decide +kernel) rfl rfl dX6_makeDebt_1 ?_
  refine bi_bipush F dX6_makeDebt_4 (by decide) ?_
  refine lv_iload_n F.1 F.2.1 dX6_makeDebt_6 rfl (lv_at hl 2 rfl) ?_
  refine bi_iadd F dX6_makeDebt_7 ?_
  refine lv_iload_n F.1 F.2.1 dX6_makeDebt_8 rfl (lv_at hl 3 rfl) ?_
  refine x_st F hw 17 35 rfl (by decide) (by omega) dX6_makeDebt_9 (fun H locs hw => ?_)
  generalize eA1 : st2 A 17 (25 + d) x = A1 at hw
  refine lv_aload_n F.1 F.2.1 dX6_makeDebt_10 rfl (lv_at hl 0 rfl) ?_
  refine x_get F hin6 hw 4 6 rfl rfl 0 (by decide) (by decide +kernel) rfl rfl dX6_makeDebt_11 ?_
  refine bi_bipush F dX6_makeDebt_14 (by decide) ?_
  refine lv_iload_n F.1 F.2.1 dX6_makeDebt_16 rfl (lv_at hl 2 rfl) ?_
  refine bi_iadd F dX6_makeDebt_17 ?_
  refine lv_aload_n F.1 F.2.1 dX6_makeDebt_18 rfl (lv_at hl 0 rfl) ?_
  refine lv_aload_n F.1 F.2.1 dX6_makeDebt_19 rfl (lv_at hl 1 rfl) ?_
  refine x_get F hin7 hw 3 7 rfl rfl 6 (by decide) (by decide +kernel) rfl rfl dX6_makeDebt_20 ?_
  refine lv_iload_n F.1 F.2.1 dX6_makeDebt_23 rfl (lv_at hl 2 rfl) ?_
  refine x_ld F hw 15 5 rfl (by decide) (by omega) dX6_makeDebt_24 ?_
  have f_2 : A1 15 d = A 15 d := by rw [← eA1, st2_n (by decide)]
  have h15 : A1 15 d = A 15 d := by subst_vars; rfl
  refine call_N (As := [.int (iI (A1 15 d))]) (rest := [.int (iI (30 + d)), .ref (eA E 17)]) F (x6_fell l E I A1 L (A1 15 d) (by omega)) (cwV 1 F.2.2.2.2 gX6_makeDebt_X6_fell rfl rfl rfl (by decide +kernel) ⟨(Nat.le_of_ble_eq_true rfl), (Nat.le_of_ble_eq_true rfl)⟩) hw (x_recv hw 4 6 rfl rfl) rfl hl.1 rfl (Nat.le_of_ble_eq_true rfl) dX6_makeDebt_25 ⟨Nat.zero_le _, Nat.zero_le _⟩ (fun H locs hw => ?_)
  refine x_st F hw 17 35 rfl (by decide) (by omega) dX6_makeDebt_28 (fun H locs hw => ?_)
  generalize eA3 : st2 A1 17 (30 + d) (A1 17 (5 + (A1 15 d))) = A3 at hw
  exact hret _ _ _ _ _ (xW_c rfl (by subst_vars; (show st2 (st2 A 17 (25 + d) x) 17 (30 + d) (up1 (A 17) (25 + d) x (5 + A 15 d)) = _); rw [up1_n (by omega)]) rfl) hw dX6_makeDebt_29
set_option maxRecDepth 100000 in
set_option maxHeartbeats 4000000 in
theorem x3_add (l : Launch) (E : Ev) (I : Nat → Int) (A : Nat → Int → Int) (L : Nat → Int64) (hnx : 0 ≤ I 14 ∧ I 14 < 20) (hcn : 0 ≤ I 13 ∧ I 13 ≤ 20) : MetG l yX3_add wsX3_add ({ frames := 1, cells := 0, slots := 0, locals := 40 } : Room) E [.ref (eO E 5), .ref (eO E 4)] (xW E I A L) (xW E (st1 (st1 I 14 ((I 14 + 1) % 20)) 13 (iMn 20 (I 13 + 1))) (stA A 18 (cpI (A 17) (A 18) 0 (I 14 * 35) 35)) L) := by
  have hin3 : ∀ w ∈ wsX30, w ∈ wsX3_add := by decide +kernel
  have hin6 : ∀ w ∈ wsX60, w ∈ wsX3_add := by decide +kernel
  refine met_G (cc := cX3_add) (nL := 2) (by decide) rfl (Nat.le_of_ble_eq_true rfl) ?_
  intro p e s m args below meth c Q H0 A0 H locs ls F hw hl hret
  have F : CallFix p m c cX3_add 2 s args wsX3_add RX3 := F
  have hl : lv_has ls 2 [(0, .ref (eO E 5)), (1, .ref (eO E 4))] := hl
  refine lv_aload_n F.1 F.2.1 dX3_add_0 rfl (lv_at hl 1 rfl) ?_
  refine x_get F hin6 hw 4 6 rfl rfl 0 (by decide) (by decide +kernel) rfl rfl dX3_add_1 ?_
  refine bi_iconst F dX3_add_4 ?_
  refine lv_aload_n F.1 F.2.1 dX3_add_5 rfl (lv_at hl 0 rfl) ?_
  refine x_get F hin3 hw 5 3 rfl rfl 1 (by decide) (by decide +kernel) rfl rfl dX3_add_6 ?_
  refine lv_aload_n F.1 F.2.1 dX3_add_9 rfl (lv_at hl 0 rfl) ?_
  refine x_get F hin3 hw 5 3 rfl rfl 2 (by decide) (by decide +kernel) rfl rfl dX3_add_10 ?_
  refine bi_bipush F dX3_add_13 (by decide) ?_
  refine bi_imul F dX3_add_15 ?_
  refine bi_bipush F dX3_add_16 (by decide) ?_
  refine x_copy F hl.1 hw 17 18 35 700 (by decide) (by decide) rfl rfl (by decide +kernel) (by decide +kernel) (by decide +kernel) (by decide +kernel) (by omega) (by omega) (by omega) (by decide) (Nat.le_of_ble_eq_true rfl) (Nat.le_of_ble_eq_true rfl) dX3_add_18 (fun H locs hw => ?_)
  generalize eA1 : stA A 18 (cpI (A 17) (A 18) 0 ((I 14) * 35) 35) = A1 at hw
  refine lv_aload_n F.1 F.2.1 dX3_add_21 rfl (lv_at hl 0 rfl) ?_
  refine lv_aload_n F.1 F.2.1 dX3_add_22 rfl (lv_at hl 0 rfl) ?_
  refine x_get F hin3 hw 5 3 rfl rfl 2 (by decide) (by decide +kernel) rfl rfl dX3_add_23 ?_
  refine bi_iconst F dX3_add_26 ?_
  refine bi_iadd F dX3_add_27 ?_
  refine bi_bipush F dX3_add_28 (by decide) ?_
  refine bi_irem F dX3_add_30 (by omega) ?_
  refine x_put (I2 := st1 I 14 ((I 14 + 1) % 20)) F hin3 tyX3 tyX3_ok nmX3 hw 5 3 rfl rfl 2 (by decide) (by decide +kernel) rfl rfl (by decide +kernel) (Nat.le_of_ble_eq_true rfl) rfl (by decide) dX3_add_31 (fun H locs hw => ?_)
  generalize eI2 : st1 I 14 ((I 14 + 1) % 20) = I2 at hw
  refine lv_aload_n F.1 F.2.1 dX3_add_34 rfl (lv_at hl 0 rfl) ?_
  refine bi_bipush F dX3_add_35 (by decide) ?_
  refine lv_aload_n F.1 F.2.1 dX3_add_37 rfl (lv_at hl 0 rfl) ?_
  refine x_get F hin3 hw 5 3 rfl rfl 0 (by decide) (by decide +kernel) rfl rfl dX3_add_38 ?_
  have f_3 : I2 13 = I 13 := by rw [← eI2]; exact st1_n (by decide)
  refine bi_iconst F dX3_add_41 ?_
  refine bi_iadd F dX3_add_42 ?_
  refine bi_min F hl.1 (by decide +kernel) (by decide +kernel) (by decide +kernel) (by decide +kernel) (Nat.le_of_ble_eq_true rfl) (Nat.le_of_ble_eq_true rfl) (Nat.zero_le _) (Nat.zero_le _) (by omega) dX3_add_43 ?_
  have f_4 := iMn_r 20 (I2 13 + 1)
  refine x_put (I2 := st1 I2 13 (iMn 20 (I2 13 + 1))) F hin3 tyX3 tyX3_ok nmX3 hw 5 3 rfl rfl 0 (by decide) (by decide +kernel) rfl rfl (by decide +kernel) (Nat.le_of_ble_eq_true rfl) rfl (by decide) dX3_add_46 (fun H locs hw => ?_)
  generalize eI5 : st1 I2 13 (iMn 20 (I2 13 + 1)) = I5 at hw
  exact hret _ _ _ _ _ (xW_c (by subst_vars; rfl) (by subst_vars; rfl) rfl) hw dX3_add_49
set_option maxRecDepth 100000 in
set_option maxHeartbeats 4000000 in
theorem x3_takeLatest (l : Launch) (E : Ev) (I : Nat → Int) (A : Nat → Int → Int) (L : Nat → Int64) (hnx : 0 ≤ I 14 ∧ I 14 < 20) (hcn : 0 < I 13 ∧ I 13 ≤ 20) : MetG l yX3_takeLatest wsX3_takeLatest ({ frames := 1, cells := 0, slots := 0, locals := 40 } : Room) E [.ref (eO E 5), .ref (eO E 4)] (xW E I A L) (xW E (st1 (st1 I 14 ((I 14 + 20 - 1) % 20)) 13 (I 13 - 1)) (stA A 17 (fun k => A 18 ((I 14 + 20 - 1) % 20 * 35 + k))) L) := by
  have hin3 : ∀ w ∈ wsX30, w ∈ wsX3_takeLatest := by decide +kernel
  have hin6 : ∀ w ∈ wsX60, w ∈ wsX3_takeLatest := by decide +kernel
  refine met_G (cc := cX3_takeLatest) (nL := 2) (by decide) rfl (Nat.le_of_ble_eq_true rfl) ?_
  intro p e s m args below meth c Q H0 A0 H locs ls F hw hl hret
  have F : CallFix p m c cX3_takeLatest 2 s args wsX3_takeLatest RX3 := F
  have hl : lv_has ls 2 [(0, .ref (eO E 5)), (1, .ref (eO E 4))] := hl
  refine lv_aload_n F.1 F.2.1 dX3_takeLatest_0 rfl (lv_at hl 0 rfl) ?_
  refine x_get F hin3 hw 5 3 rfl rfl 0 (by decide) (by decide +kernel) rfl rfl dX3_takeLatest_1 ?_
  refine bi_if_le (tgt := 54) F dX3_takeLatest_4 (by decide) (by omega) (fun c_1 => ?_) (fun c_1 => ?_)
  · exfalso; omega
  refine lv_aload_n F.1 F.2.1 dX3_takeLatest_7 rfl (lv_at hl 0 rfl) ?_
  refine lv_aload_n F.1 F.2.1 dX3_takeLatest_8 rfl (lv_at hl 0 rfl) ?_
  refine x_get F hin3 hw 5 3 rfl rfl 2 (by decide) (by decide +kernel) rfl rfl dX3_takeLatest_9 ?_
  refine bi_bipush F dX3_takeLatest_12 (by decide) ?_
  refine bi_iadd F dX3_takeLatest_14 ?_
  refine bi_iconst F dX3_takeLatest_15 ?_
  refine bi_isub F dX3_takeLatest_16 ?_
  refine bi_bipush F dX3_takeLatest_17 (by decide) ?_
  refine bi_irem F dX3_takeLatest_19 (by omega) ?_
  refine x_put (I2 := st1 I 14 ((I 14 + 20 - 1) % 20)) F hin3 tyX3 tyX3_ok nmX3 hw 5 3 rfl rfl 2 (by decide) (by decide +kernel) rfl rfl (by decide +kernel) (Nat.le_of_ble_eq_true rfl) rfl (by decide) dX3_takeLatest_20 (fun H locs hw => ?_)
  generalize eI2 : st1 I 14 ((I 14 + 20 - 1) % 20) = I2 at hw
  refine lv_aload_n F.1 F.2.1 dX3_takeLatest_23 rfl (lv_at hl 0 rfl) ?_
  refine lv_dup F.1 F.2.1 dX3_takeLatest_24 rfl ?_
  refine x_get F hin3 hw 5 3 rfl rfl 0 (by decide) (by decide +kernel) rfl rfl dX3_takeLatest_25 ?_
  have f_3 : I2 13 = I 13 := by rw [← eI2]; exact st1_n (by decide)
  refine bi_iconst F dX3_takeLatest_28 ?_
  refine bi_isub F dX3_takeLatest_29 ?_
  refine x_put (I2 := st1 I2 13 (I2 13 - 1)) F hin3 tyX3 tyX3_ok nmX3 hw 5 3 rfl rfl 0 (by decide) (by decide +kernel) rfl rfl (by decide +kernel) (Nat.le_of_ble_eq_true rfl) rfl (by decide) dX3_takeLatest_30 (fun H locs hw => ?_)
  generalize eI4 : st1 I2 13 (I2 13 - 1) = I4 at hw
  refine lv_aload_n F.1 F.2.1 dX3_takeLatest_33 rfl (lv_at hl 0 rfl) ?_
  refine x_get F hin3 hw 5 3 rfl rfl 1 (by decide) (by decide +kernel) rfl rfl dX3_takeLatest_34 ?_
  refine lv_aload_n F.1 F.2.1 dX3_takeLatest_37 rfl (lv_at hl 0 rfl) ?_
  refine x_get F hin3 hw 5 3 rfl rfl 2 (by decide) (by decide +kernel) rfl rfl dX3_takeLatest_38 ?_
  have f_5 : I4 14 = I2 14 := by rw [← eI4]; exact st1_n (by decide)
  have f_6 : I2 14 = (I 14 + 20 - 1) % 20 := by rw [← eI2]; exact st1_s
  refine bi_bipush F dX3_takeLatest_41 (by decide) ?_
  refine bi_imul F dX3_takeLatest_43 ?_
  refine lv_aload_n F.1 F.2.1 dX3_takeLatest_44 rfl (lv_at hl 1 rfl) ?_
  refine x_get F hin6 hw 4 6 rfl rfl 0 (by decide) (by decide +kernel) rfl rfl dX3_takeLatest_45 ?_
  refine bi_iconst F dX3_takeLatest_48 ?_
  refine bi_bipush F dX3_takeLatest_49 (by decide) ?_
  have h14 : I4 14 = (I 14 + 20 - 1) % 20 := by subst_vars; rfl
  have h14b : 0 ≤ (I 14 + 20 - 1) % 20 ∧ (I 14 + 20 - 1) % 20 < 20 := by omega
  refine x_copy F hl.1 hw 18 17 700 35 (by decide) (by decide) rfl rfl (by decide +kernel) (by decide +kernel) (by decide +kernel) (by decide +kernel) (by omega) (by omega) (by omega) (by decide) (Nat.le_of_ble_eq_true rfl) (Nat.le_of_ble_eq_true rfl) dX3_takeLatest_51 (fun H locs hw => ?_)
  generalize eA7 : stA A 17 (cpI (A 18) (A 17) ((I4 14) * 35) 0 35) = A7 at hw
  have hw := x_norm hw 17 35 (by decide) rfl (fun k => A 18 ((I 14 + 20 - 1) % 20 * 35 + k)) (fun k hk => by subst_vars; rw [stA_s]; unfold cpI; rw [if_pos (by omega)]; rw [Int.sub_zero]; rfl)
  generalize eA8 : stA A7 17 (fun k => A 18 ((I 14 + 20 - 1) % 20 * 35 + k)) = A8 at hw
  exact hret _ _ _ _ _ (xW_c (by subst_vars; rfl) (by subst_vars; exact stA_2) rfl) hw dX3_takeLatest_54
set_option maxRecDepth 100000 in
set_option maxHeartbeats 4000000 in
theorem x2_forget (l : Launch) (E : Ev) (I : Nat → Int) (A : Nat → Int → Int) (L : Nat → Int64) : MetG l yX2_forget wsX2_forget ({ frames := 0, cells := 0, slots := 0, locals := 0 } : Room) E [.ref (eO E 6)] (xW E I A L) (xW E (I) (st2 (st2 A 28 0 0) 28 1 0) L) := by
  have hin2 : ∀ w ∈ wsX20, w ∈ wsX2_forget := by decide +kernel
  refine met_G (cc := cX2_forget) (nL := 2) (by decide) rfl (Nat.le_of_ble_eq_true rfl) ?_
  intro p e s m args below meth c Q H0 A0 H locs ls F hw hl hret
  have F : CallFix p m c cX2_forget 2 s args wsX2_forget RX2 := F
  have hl : lv_has ls 2 [(0, .ref (eO E 6))] := hl
  refine bi_iconst F dX2_forget_0 ?_
  refine lv_istore_n (lv' := [(1, .int (iI 0)), (0, .ref (eO E 6))]) F.1 F.2.1 dX2_forget_1 rfl hl (by decide) rfl (fun ls hl => ?_)
  have loop_2 : ∀ (nf : Nat) (k : Int) (A1 : Nat → Int → Int) (H : Heap) (locs : List Loc) (ls : Array Slot) (hk : 0 ≤ k ∧ k ≤ 2) (hA1 : A1 = fld (fun (g : Nat → Int → Int) i => st2 g 28 i 0) A k.toNat) (hw : gH E A0 H0 s (xW E I A1 L) H locs) (hl : lv_has ls 2 [(1, .int (iI k)), (0, .ref (eO E 6))]) (hnf : (2 - k).toNat < nf), W p l e ({ frames := 0, cells := 0, slots := 0, locals := 0 } : Room) s m args below meth c H locs 0 0 Q (F0 m 2 ls []) := by
    intro nf
    induction nf with
    | zero =>
      intro k A1 H locs ls hk hA1 hw hl hnf
      exact absurd hnf (Nat.not_lt_zero _)
    | succ nf ih_2 =>
      intro k A1 H locs ls hk hA1 hw hl hnf
      refine lv_iload_n F.1 F.2.1 dX2_forget_2 rfl (lv_at hl 0 rfl) ?_
      refine bi_iconst F dX2_forget_3 ?_
      refine bi_icmp_ge (tgt := 20) F dX2_forget_4 (by decide) (by omega) (fun c_1 => ?_) (fun c_1 => ?_)
      · exact hret _ _ _ _ _ (xW_c rfl (by rw [hA1, show k = 2 by omega]; rfl) rfl) hw dX2_forget_20
      · refine lv_aload_n F.1 F.2.1 dX2_forget_7 rfl (lv_at hl 1 rfl) ?_
        refine x_get F hin2 hw 6 2 rfl rfl 0 (by decide) (by decide +kernel) rfl rfl dX2_forget_8 ?_
        refine lv_iload_n F.1 F.2.1 dX2_forget_11 rfl (lv_at hl 0 rfl) ?_
        refine bi_iconst F dX2_forget_12 ?_
        refine x_zst F hw (by omega) (by decide) dX2_forget_13 (fun H locs hw => ?_)
        generalize eA2 : st2 A1 28 k 0 = A2 at hw
        refine lv_iinc (v := iI (k + 1)) (lv' := [(1, .int (iI (k + 1))), (0, .ref (eO E 6))]) F.1 F.2.1 dX2_forget_14 hl (k := 0) rfl (iI_add _ _).symm (by decide) rfl (fun ls hl => ?_)
        refine lv_goto (tgt := 2) F.1 F.2.1 dX2_forget_17 (by decide) ?_
        exact ih_2 (k + 1) A2 H locs ls (by omega) (by rw [fld_s hk.1, ← hA1]; exact eA2.symm) hw (lv_sub hl [0, 1] rfl) (by omega)
  exact loop_2 ((2 - 0 : Int).toNat + 1) 0 A H locs ls (by omega) (rfl) hw (lv_sub hl [0, 1] rfl) (by omega)
set_option maxRecDepth 100000 in
set_option maxHeartbeats 4000000 in
theorem x2_store (l : Launch) (E : Ev) (I : Nat → Int) (A : Nat → Int → Int) (L : Nat → Int64) (i : Int) (x : Int) (hi : 0 ≤ i ∧ i < 2) : MetG l yX2_store wsX2_store ({ frames := 1, cells := 0, slots := 0, locals := 40 } : Room) E [.ref (eO E 6), .int (iI i), .ref (eO E 4), .int (iI x)] (xW E I A L) (xW E (I) (st2 (st2 (stA A 20 (cpI (A 17) (A 20) 0 (i * 35) 35)) 19 i x) 28 i 1) L) := by
  have hin2 : ∀ w ∈ wsX20, w ∈ wsX2_store := by decide +kernel
  have hin6 : ∀ w ∈ wsX60, w ∈ wsX2_store := by decide +kernel
  refine met_G (cc := cX2_store) (nL := 4) (by decide) rfl (Nat.le_of_ble_eq_true rfl) ?_
  intro p e s m args below meth c Q H0 A0 H locs ls F hw hl hret
  have F : CallFix p m c cX2_store 4 s args wsX2_store RX2 := F
  have hl : lv_has ls 4 [(0, .ref (eO E 6)), (1, .int (iI i)), (2, .ref (eO E 4)), (3, .int (iI x))] := hl
  refine lv_aload_n F.1 F.2.1 dX2_store_0 rfl (lv_at hl 2 rfl) ?_
  refine x_get F hin6 hw 4 6 rfl rfl 0 (by decide) (by decide +kernel) rfl rfl dX2_store_1 ?_
  refine bi_iconst F dX2_store_4 ?_
  refine lv_aload_n F.1 F.2.1 dX2_store_5 rfl (lv_at hl 0 rfl) ?_
  refine x_get F hin2 hw 6 2 rfl rfl 2 (by decide) (by decide +kernel) rfl rfl dX2_store_6 ?_
  refine lv_iload_n F.1 F.2.1 dX2_store_9 rfl (lv_at hl 1 rfl) ?_
  refine bi_bipush F dX2_store_10 (by decide) ?_
  refine bi_imul F dX2_store_12 ?_
  refine bi_bipush F dX2_store_13 (by decide) ?_
  refine x_copy F hl.1 hw 17 20 35 70 (by decide) (by decide) rfl rfl (by decide +kernel) (by decide +kernel) (by decide +kernel) (by decide +kernel) (by omega) (by omega) (by omega) (by decide) (Nat.le_of_ble_eq_true rfl) (Nat.le_of_ble_eq_true rfl) dX2_store_15 (fun H locs hw => ?_)
  generalize eA1 : stA A 20 (cpI (A 17) (A 20) 0 (i * 35) 35) = A1 at hw
  refine lv_aload_n F.1 F.2.1 dX2_store_18 rfl (lv_at hl 0 rfl) ?_
  refine x_get F hin2 hw 6 2 rfl rfl 1 (by decide) (by decide +kernel) rfl rfl dX2_store_19 ?_
  refine lv_iload_n F.1 F.2.1 dX2_store_22 rfl (lv_at hl 1 rfl) ?_
  refine lv_iload_n F.1 F.2.1 dX2_store_23 rfl (lv_at hl 3 rfl) ?_
  refine x_st F hw 19 2 rfl (by decide) (by omega) dX2_store_24 (fun H locs hw => ?_)
  generalize eA2 : st2 A1 19 i x = A2 at hw
  refine lv_aload_n F.1 F.2.1 dX2_store_25 rfl (lv_at hl 0 rfl) ?_
  refine x_get F hin2 hw 6 2 rfl rfl 0 (by decide) (by decide +kernel) rfl rfl dX2_store_26 ?_
  refine lv_iload_n F.1 F.2.1 dX2_store_29 rfl (lv_at hl 1 rfl) ?_
  refine bi_iconst F dX2_store_30 ?_
  refine x_zst F hw (by omega) (by decide) dX2_store_31 (fun H locs hw => ?_)
  generalize eA3 : st2 A2 28 i 1 = A3 at hw
  exact hret _ _ _ _ _ (xW_c (by subst_vars; rfl) (by subst_vars; rfl) rfl) hw dX2_store_32
set_option maxRecDepth 100000 in
set_option maxHeartbeats 4000000 in
theorem x2_bringBack (l : Launch) (E : Ev) (I : Nat → Int) (A : Nat → Int → Int) (L : Nat → Int64) (i : Int) (hi : 0 ≤ i ∧ i < 2) : MetG l yX2_bringBack wsX2_bringBack ({ frames := 1, cells := 0, slots := 0, locals := 40 } : Room) E [.ref (eO E 6), .int (iI i), .ref (eO E 4)] (xW E I A L) (xW E (I) (stA A 17 (fun k => A 20 (i * 35 + k))) L) := by
  have hin2 : ∀ w ∈ wsX20, w ∈ wsX2_bringBack := by decide +kernel
  have hin6 : ∀ w ∈ wsX60, w ∈ wsX2_bringBack := by decide +kernel
  refine met_G (cc := cX2_bringBack) (nL := 3) (by decide) rfl (Nat.le_of_ble_eq_true rfl) ?_
  intro p e s m args below meth c Q H0 A0 H locs ls F hw hl hret
  have F : CallFix p m c cX2_bringBack 3 s args wsX2_bringBack RX2 := F
  have hl : lv_has ls 3 [(0, .ref (eO E 6)), (1, .int (iI i)), (2, .ref (eO E 4))] := hl
  refine lv_aload_n F.1 F.2.1 dX2_bringBack_0 rfl (lv_at hl 0 rfl) ?_
  refine x_get F hin2 hw 6 2 rfl rfl 2 (by decide) (by decide +kernel) rfl rfl dX2_bringBack_1 ?_
  refine lv_iload_n F.1 F.2.1 dX2_bringBack_4 rfl (lv_at hl 1 rfl) ?_
  refine bi_bipush F dX2_bringBack_5 (by decide) ?_
  refine bi_imul F dX2_bringBack_7 ?_
  refine lv_aload_n F.1 F.2.1 dX2_bringBack_8 rfl (lv_at hl 2 rfl) ?_
  refine x_get F hin6 hw 4 6 rfl rfl 0 (by decide) (by decide +kernel) rfl rfl dX2_bringBack_9 ?_
  refine bi_iconst F dX2_bringBack_12 ?_
  refine bi_bipush F dX2_bringBack_13 (by decide) ?_
  refine x_copy F hl.1 hw 20 17 70 35 (by decide) (by decide) rfl rfl (by decide +kernel) (by decide +kernel) (by decide +kernel) (by decide +kernel) (by omega) (by omega) (by omega) (by decide) (Nat.le_of_ble_eq_true rfl) (Nat.le_of_ble_eq_true rfl) dX2_bringBack_15 (fun H locs hw => ?_)
  generalize eA1 : stA A 17 (cpI (A 20) (A 17) (i * 35) 0 35) = A1 at hw
  have hw := x_norm hw 17 35 (by decide) rfl (fun k => A 20 (i * 35 + k)) (fun k hk => by subst_vars; rw [stA_s]; unfold cpI; rw [if_pos (by omega), Int.sub_zero])
  generalize eA2 : stA A1 17 (fun k => A 20 (i * 35 + k)) = A2 at hw
  exact hret _ _ _ _ _ (xW_c rfl (by subst_vars; exact stA_2) rfl) hw dX2_bringBack_18
set_option maxRecDepth 100000 in
set_option maxHeartbeats 4000000 in
theorem x1_draw (l : Launch) (E : Ev) (I : Nat → Int) (A : Nat → Int → Int) (L : Nat → Int64) (n : Int) (hn : 1 ≤ n ∧ n ≤ 1000) : MetF l yX1_draw wsX1_draw ({ frames := 0, cells := 0, slots := 0, locals := 0 } : Room) E [.ref (eO E 7), .int (iI n)] (xW E I A L) (xW E (st1 I 15 (mNx (I 15))) (A) L) (mNx (I 15) / 65536 % n) := by
  have hin1 : ∀ w ∈ wsX10, w ∈ wsX1_draw := by decide +kernel
  refine met_F (cc := cX1_draw) (nL := 2) (by decide) rfl (Nat.le_of_ble_eq_true rfl) ?_
  intro p e s m args below meth c Q H0 A0 H locs ls F hw hl hret
  have F : CallFix p m c cX1_draw 2 s args wsX1_draw RX1 := F
  have hl : lv_has ls 2 [(0, .ref (eO E 7)), (1, .int (iI n))] := hl
  refine lv_aload_n F.1 F.2.1 dX1_draw_0 rfl (lv_at hl 0 rfl) ?_
  refine lv_aload_n F.1 F.2.1 dX1_draw_1 rfl (lv_at hl 0 rfl) ?_
  refine x_get F hin1 hw 7 1 rfl rfl 0 (by decide) (by decide +kernel) rfl rfl dX1_draw_2 ?_
  refine bi_ldc F (1103515245) (by decide +kernel) rfl dX1_draw_5 ?_
  refine bi_imul F dX1_draw_7 ?_
  refine bi_sipush F dX1_draw_8 (by decide) ?_
  refine bi_iadd F dX1_draw_11 ?_
  refine bi_ldc F (2147483647) (by decide +kernel) rfl dX1_draw_12 ?_
  refine bi_iand F dX1_draw_14 ?_
  have f_1 := iAnd_r ((I 15) * 1103515245 + 12345) 2147483647
  rw [iAnd_mNx (I 15)]
  refine x_put (I2 := st1 I 15 (mNx (I 15))) F hin1 tyX1 tyX1_ok nmX1 hw 7 1 rfl rfl 0 (by decide) (by decide +kernel) rfl rfl (by decide +kernel) (Nat.le_of_ble_eq_true rfl) rfl (by decide) dX1_draw_15 (fun H locs hw => ?_)
  generalize eI2 : st1 I 15 (mNx (I 15)) = I2 at hw
  refine lv_iload_n F.1 F.2.1 dX1_draw_18 rfl (lv_at hl 1 rfl) ?_
  refine bi_if_le (tgt := 34) F dX1_draw_19 (by decide) (by omega) (fun c_3 => ?_) (fun c_3 => ?_)
  · exfalso; omega
  have hnx := mNx_r (I 15)
  refine lv_aload_n F.1 F.2.1 dX1_draw_22 rfl (lv_at hl 0 rfl) ?_
  refine x_get F hin1 hw 7 1 rfl rfl 0 (by decide) (by decide +kernel) rfl rfl dX1_draw_23 ?_
  have f_4 : I2 15 = mNx (I 15) := by rw [← eI2]; exact st1_s
  refine bi_ldc F (65536) (by decide +kernel) rfl dX1_draw_26 ?_
  refine bi_idiv F dX1_draw_28 (by omega) ?_
  refine lv_iload_n F.1 F.2.1 dX1_draw_29 rfl (lv_at hl 1 rfl) ?_
  have hdv : 0 ≤ I2 15 / 65536 ∧ I2 15 / 65536 ≤ 32767 := by omega
  refine bi_irem F dX1_draw_30 (by omega) ?_
  refine lv_goto (tgt := 35) F.1 F.2.1 dX1_draw_31 (by decide) ?_
  exact hret _ _ _ _ _ _ (by subst_vars; rw [st1_s]) (xW_c (by subst_vars; rfl) (by subst_vars; rfl) rfl) hw dX1_draw_35
set_option maxRecDepth 100000 in
set_option maxHeartbeats 4000000 in
theorem x0_add (l : Launch) (E : Ev) (I : Nat → Int) (A : Nat → Int → Int) (L : Nat → Int64) (v : Int) (x : Int) (hcn : 0 ≤ I 17 ∧ I 17 ≤ 15) : MetB l yX0_add wsX0_add ({ frames := 0, cells := 0, slots := 0, locals := 0 } : Room) E [.ref (eO E 10), .int (iI v), .int (iI x)] (xW E I A L) (xW E (st1 I 17 (I 17 + 1)) (st2 (st2 A 26 (I 17) v) 27 (I 17) x) L) (xW E (I) (A) L) (I 17 < 15) := by
  have hin0 : ∀ w ∈ wsX00, w ∈ wsX0_add := by decide +kernel
  refine met_B (cc := cX0_add) (nL := 3) (by decide) rfl (Nat.le_of_ble_eq_true rfl) ?_
  intro p e s m args below meth c Q H0 A0 H locs ls F hw hl hret
  have F : CallFix p m c cX0_add 3 s args wsX0_add RX0 := F
  have hl : lv_has ls 3 [(0, .ref (eO E 10)), (1, .int (iI v)), (2, .int (iI x))] := hl
  refine lv_aload_n F.1 F.2.1 dX0_add_0 rfl (lv_at hl 0 rfl) ?_
  refine x_get F hin0 hw 10 0 rfl rfl 0 (by decide) (by decide +kernel) rfl rfl dX0_add_1 ?_
  refine bi_bipush F dX0_add_4 (by decide) ?_
  refine bi_icmp_lt (tgt := 11) F dX0_add_6 (by decide) (by omega) (fun c_1 => ?_) (fun c_1 => ?_)
  · refine lv_aload_n F.1 F.2.1 dX0_add_11 rfl (lv_at hl 0 rfl) ?_
    refine x_get F hin0 hw 10 0 rfl rfl 2 (by decide) (by decide +kernel) rfl rfl dX0_add_12 ?_
    refine lv_aload_n F.1 F.2.1 dX0_add_15 rfl (lv_at hl 0 rfl) ?_
    refine x_get F hin0 hw 10 0 rfl rfl 0 (by decide) (by decide +kernel) rfl rfl dX0_add_16 ?_
    refine lv_iload_n F.1 F.2.1 dX0_add_19 rfl (lv_at hl 1 rfl) ?_
    refine x_st F hw 26 15 rfl (by decide) (by omega) dX0_add_20 (fun H locs hw => ?_)
    generalize eA2 : st2 A 26 (I 17) v = A2 at hw
    refine lv_aload_n F.1 F.2.1 dX0_add_21 rfl (lv_at hl 0 rfl) ?_
    refine x_get F hin0 hw 10 0 rfl rfl 3 (by decide) (by decide +kernel) rfl rfl dX0_add_22 ?_
    refine lv_aload_n F.1 F.2.1 dX0_add_25 rfl (lv_at hl 0 rfl) ?_
    refine x_get F hin0 hw 10 0 rfl rfl 0 (by decide) (by decide +kernel) rfl rfl dX0_add_26 ?_
    refine lv_iload_n F.1 F.2.1 dX0_add_29 rfl (lv_at hl 2 rfl) ?_
    refine x_st F hw 27 15 rfl (by decide) (by omega) dX0_add_30 (fun H locs hw => ?_)
    generalize eA3 : st2 A2 27 (I 17) x = A3 at hw
    refine lv_aload_n F.1 F.2.1 dX0_add_31 rfl (lv_at hl 0 rfl) ?_
    refine lv_dup F.1 F.2.1 dX0_add_32 rfl ?_
    refine x_get F hin0 hw 10 0 rfl rfl 0 (by decide) (by decide +kernel) rfl rfl dX0_add_33 ?_
    refine bi_iconst F dX0_add_36 ?_
    refine bi_iadd F dX0_add_37 ?_
    refine x_put (I2 := st1 I 17 (I 17 + 1)) F hin0 tyX0 tyX0_ok nmX0 hw 10 0 rfl rfl 0 (by decide) (by decide +kernel) rfl rfl (by decide +kernel) (Nat.le_of_ble_eq_true rfl) rfl (by decide) dX0_add_38 (fun H locs hw => ?_)
    generalize eI4 : st1 I 17 (I 17 + 1) = I4 at hw
    refine bi_iconst F dX0_add_41 ?_
    exact hret _ _ _ _ _ _ (Or.inl ⟨rfl, by omega, xW_c (by subst_vars; rfl) (by subst_vars; rfl) rfl⟩) hw dX0_add_42
  · refine bi_iconst F dX0_add_9 ?_
    exact hret _ _ _ _ _ _ (Or.inr ⟨rfl, by omega, xW_c (by subst_vars; rfl) (by subst_vars; rfl) rfl⟩) hw dX0_add_10
set_option maxRecDepth 100000 in
set_option maxHeartbeats 4000000 in
theorem x5_add (l : Launch) (E : Ev) (I : Nat → Int) (A : Nat → Int → Int) (L : Nat → Int64) (v : Int) (x : Int) (hcn : 0 ≤ I 16 ∧ I 16 ≤ 6) : MetB l yX5_add wsX5_add ({ frames := 0, cells := 0, slots := 0, locals := 0 } : Room) E [.ref (eO E 9), .int (iI v), .int (iI x)] (xW E I A L) (xW E (st1 I 16 (I 16 + 1)) (st2 (st2 A 22 (I 16) v) 23 (I 16) x) L) (xW E (I) (A) L) (I 16 < 6) := by
  have hin5 : ∀ w ∈ wsX50, w ∈ wsX5_add := by decide +kernel
  refine met_B (cc := cX5_add) (nL := 3) (by decide) rfl (Nat.le_of_ble_eq_true rfl) ?_
  intro p e s m args below meth c Q H0 A0 H locs ls F hw hl hret
  have F : CallFix p m c cX5_add 3 s args wsX5_add RX5 := F
  have hl : lv_has ls 3 [(0, .ref (eO E 9)), (1, .int (iI v)), (2, .int (iI x))] := hl
  refine lv_aload_n F.1 F.2.1 dX5_add_0 rfl (lv_at hl 0 rfl) ?_
  refine x_get F hin5 hw 9 5 rfl rfl 0 (by decide) (by decide +kernel) rfl rfl dX5_add_1 ?_
  refine bi_bipush F dX5_add_4 (by decide) ?_
  refine bi_icmp_lt (tgt := 11) F dX5_add_6 (by decide) (by omega) (fun c_1 => ?_) (fun c_1 => ?_)
  · refine lv_aload_n F.1 F.2.1 dX5_add_11 rfl (lv_at hl 0 rfl) ?_
    refine x_get F hin5 hw 9 5 rfl rfl 3 (by decide) (by decide +kernel) rfl rfl dX5_add_12 ?_
    refine lv_aload_n F.1 F.2.1 dX5_add_15 rfl (lv_at hl 0 rfl) ?_
    refine x_get F hin5 hw 9 5 rfl rfl 0 (by decide) (by decide +kernel) rfl rfl dX5_add_16 ?_
    refine lv_iload_n F.1 F.2.1 dX5_add_19 rfl (lv_at hl 1 rfl) ?_
    refine x_st F hw 22 6 rfl (by decide) (by omega) dX5_add_20 (fun H locs hw => ?_)
    generalize eA2 : st2 A 22 (I 16) v = A2 at hw
    refine lv_aload_n F.1 F.2.1 dX5_add_21 rfl (lv_at hl 0 rfl) ?_
    refine x_get F hin5 hw 9 5 rfl rfl 4 (by decide) (by decide +kernel) rfl rfl dX5_add_22 ?_
    refine lv_aload_n F.1 F.2.1 dX5_add_25 rfl (lv_at hl 0 rfl) ?_
    refine x_get F hin5 hw 9 5 rfl rfl 0 (by decide) (by decide +kernel) rfl rfl dX5_add_26 ?_
    refine lv_iload_n F.1 F.2.1 dX5_add_29 rfl (lv_at hl 2 rfl) ?_
    refine x_st F hw 23 6 rfl (by decide) (by omega) dX5_add_30 (fun H locs hw => ?_)
    generalize eA3 : st2 A2 23 (I 16) x = A3 at hw
    refine lv_aload_n F.1 F.2.1 dX5_add_31 rfl (lv_at hl 0 rfl) ?_
    refine lv_dup F.1 F.2.1 dX5_add_32 rfl ?_
    refine x_get F hin5 hw 9 5 rfl rfl 0 (by decide) (by decide +kernel) rfl rfl dX5_add_33 ?_
    refine bi_iconst F dX5_add_36 ?_
    refine bi_iadd F dX5_add_37 ?_
    refine x_put (I2 := st1 I 16 (I 16 + 1)) F hin5 tyX5 tyX5_ok nmX5 hw 9 5 rfl rfl 0 (by decide) (by decide +kernel) rfl rfl (by decide +kernel) (Nat.le_of_ble_eq_true rfl) rfl (by decide) dX5_add_38 (fun H locs hw => ?_)
    generalize eI4 : st1 I 16 (I 16 + 1) = I4 at hw
    refine bi_iconst F dX5_add_41 ?_
    exact hret _ _ _ _ _ _ (Or.inl ⟨rfl, by omega, xW_c (by subst_vars; rfl) (by subst_vars; rfl) rfl⟩) hw dX5_add_42
  · refine bi_iconst F dX5_add_9 ?_
    exact hret _ _ _ _ _ _ (Or.inr ⟨rfl, by omega, xW_c (by subst_vars; rfl) (by subst_vars; rfl) rfl⟩) hw dX5_add_10
set_option maxRecDepth 100000 in
set_option maxHeartbeats 4000000 in
theorem x0_firstWrong (l : Launch) (E : Ev) (I : Nat → Int) (A : Nat → Int → Int) (L : Nat → Int64) (hcn : 0 ≤ I 17 ∧ I 17 ≤ 15) (hb : ∀ k, 0 ≤ k ∧ k < I 17 → 0 ≤ A 26 k ∧ A 26 k < 4) (hb2 : ∀ k, 0 ≤ A 27 k ∧ A 27 k ≤ 9999) (hf : ∀ k, 0 ≤ A 17 k ∧ A 17 k ≤ 900000) : MetN l yX0_firstWrong wsX0_firstWrong ({ frames := 2, cells := 0, slots := 0, locals := 43 } : Room) E [.ref (eO E 10)] (xW E I A L) (xJud (A 17) (A 26) (A 27) 0 (I 17).toNat) := by
  have hin0 : ∀ w ∈ wsX00, w ∈ wsX0_firstWrong := by decide +kernel
  refine met_N (cc := cX0_firstWrong) (nL := 2) (by decide) rfl (Nat.le_of_ble_eq_true rfl) ?_
  intro p e s m args below meth c Q H0 A0 H locs ls F hw hl hret
  have F : CallFix p m c cX0_firstWrong 2 s args wsX0_firstWrong RX0 := F
  have hl : lv_has ls 2 [(0, .ref (eO E 10))] := hl
  refine bi_iconst F dX0_firstWrong_0 ?_
  refine lv_istore_n (lv' := [(1, .int (iI 0)), (0, .ref (eO E 10))]) F.1 F.2.1 dX0_firstWrong_1 rfl hl (by decide) rfl (fun ls hl => ?_)
  have loop_2 : ∀ (nf : Nat) (k : Int) (H : Heap) (locs : List Loc) (ls : Array Slot) (hk : 0 ≤ k ∧ k ≤ I 17) (hj : xJud (A 17) (A 26) (A 27) 0 (I 17).toNat = xJud (A 17) (A 26) (A 27) k (I 17 - k).toNat) (hw : gH E A0 H0 s (xW E I A L) H locs) (hl : lv_has ls 2 [(1, .int (iI k)), (0, .ref (eO E 10))]) (hnf : (I 17 - k).toNat < nf), W p l e ({ frames := 2, cells := 0, slots := 0, locals := 43 } : Room) s m args below meth c H locs 0 0 Q (F0 m 2 ls []) := by
    intro nf
    induction nf with
    | zero =>
      intro k H locs ls hk hj hw hl hnf
      exact absurd hnf (Nat.not_lt_zero _)
    | succ nf ih_2 =>
      intro k H locs ls hk hj hw hl hnf
      have hjs : k < I 17 → xJud (A 17) (A 26) (A 27) k (I 17 - k).toNat = if iMx 0 (A 17 (1 + A 26 k) - A 17 (9 + A 26 k)) = A 27 k then xJud (A 17) (A 26) (A 27) (k + 1) (I 17 - (k + 1)).toNat else k := fun h => by rw [show (I 17 - k).toNat = (I 17 - (k + 1)).toNat + 1 by omega]; rfl
      refine lv_iload_n F.1 F.2.1 dX0_firstWrong_2 rfl (lv_at hl 0 rfl) ?_
      refine lv_aload_n F.1 F.2.1 dX0_firstWrong_3 rfl (lv_at hl 1 rfl) ?_
      refine x_get F hin0 hw 10 0 rfl rfl 0 (by decide) (by decide +kernel) rfl rfl dX0_firstWrong_4 ?_
      refine bi_icmp_ge (tgt := 40) F dX0_firstWrong_7 (by decide) (by omega) (fun c_1 => ?_) (fun c_1 => ?_)
      · refine bi_iconst F dX0_firstWrong_40 ?_
        exact hret _ _ _ _ _ (by rw [hj, show (I 17 - k).toNat = 0 by omega]; rfl) hw dX0_firstWrong_41
      · refine lv_aload_n F.1 F.2.1 dX0_firstWrong_10 rfl (lv_at hl 1 rfl) ?_
        refine x_get F hin0 hw 10 0 rfl rfl 1 (by decide) (by decide +kernel) rfl rfl dX0_firstWrong_11 ?_
        refine lv_aload_n F.1 F.2.1 dX0_firstWrong_14 rfl (lv_at hl 1 rfl) ?_
        refine x_get F hin0 hw 10 0 rfl rfl 2 (by decide) (by decide +kernel) rfl rfl dX0_firstWrong_15 ?_
        have hb1 := hb k (by omega)
        have hp1 := hf (1 + A 26 k)
        have hp2 := hf (9 + A 26 k)
        have hp3 := iMx_r 0 (A 17 (1 + A 26 k) - A 17 (9 + A 26 k))
        refine lv_iload_n F.1 F.2.1 dX0_firstWrong_18 rfl (lv_at hl 0 rfl) ?_
        refine x_ld F hw 26 15 rfl (by decide) (by omega) dX0_firstWrong_19 ?_
        refine call_N (As := [.int (iI (A 26 k))]) (rest := []) F (x6_pole l E I A L (A 26 k) (by omega) hf) (cwV 1 F.2.2.2.2 gX0_firstWrong_X6_pole rfl rfl rfl (by decide +kernel) ⟨(Nat.le_of_ble_eq_true rfl), (Nat.le_of_ble_eq_true rfl)⟩) hw (x_recv hw 4 6 rfl rfl) rfl hl.1 rfl (Nat.le_of_ble_eq_true rfl) dX0_firstWrong_20 ⟨Nat.zero_le _, Nat.zero_le _⟩ (fun H locs hw => ?_)
        refine lv_aload_n F.1 F.2.1 dX0_firstWrong_23 rfl (lv_at hl 1 rfl) ?_
        refine x_get F hin0 hw 10 0 rfl rfl 3 (by decide) (by decide +kernel) rfl rfl dX0_firstWrong_24 ?_
        refine lv_iload_n F.1 F.2.1 dX0_firstWrong_27 rfl (lv_at hl 0 rfl) ?_
        refine x_ld F hw 27 15 rfl (by decide) (by omega) dX0_firstWrong_28 ?_
        have f_2 := hb2 (k)
        refine bi_icmp_eq (tgt := 34) F dX0_firstWrong_29 (by decide) (by omega) (fun c_3 => ?_) (fun c_3 => ?_)
        · refine lv_iinc (v := iI (k + 1)) (lv' := [(1, .int (iI (k + 1))), (0, .ref (eO E 10))]) F.1 F.2.1 dX0_firstWrong_34 hl (k := 0) rfl (iI_add _ _).symm (by decide) rfl (fun ls hl => ?_)
          refine lv_goto (tgt := 2) F.1 F.2.1 dX0_firstWrong_37 (by decide) ?_
          exact ih_2 (k + 1) H locs ls (by omega) (by rw [hj, hjs (by omega), if_pos (by omega)]) hw (lv_sub hl [0, 1] rfl) (by omega)
        · refine lv_iload_n F.1 F.2.1 dX0_firstWrong_32 rfl (lv_at hl 0 rfl) ?_
          exact hret _ _ _ _ _ (by rw [hj, hjs (by omega), if_neg (by omega)]) hw dX0_firstWrong_33
  exact loop_2 ((I 17 - 0 : Int).toNat + 1) 0 H locs ls (by omega) (by rw [Int.sub_zero]) hw (lv_sub hl [0, 1] rfl) (by omega)
set_option maxRecDepth 100000 in
set_option maxHeartbeats 4000000 in
theorem x5_ageByPole (l : Launch) (E : Ev) (I : Nat → Int) (A : Nat → Int → Int) (L : Nat → Int64) (w : Int) (q : Int) (hw1 : 0 ≤ w ∧ w < 40) (hp : 0 ≤ q ∧ q < 6) (hf : ∀ k, 0 ≤ A 17 k ∧ A 17 k ≤ 900000) (hyr : ∀ k, 0 ≤ A 12 k ∧ A 12 k ≤ 40) (hbn : ∀ k, 0 ≤ A 14 k ∧ A 14 k ≤ 999) (hh : A 17 (13 + q) < 4) : MetN l yX5_ageByPole wsX5_ageByPole ({ frames := 2, cells := 0, slots := 0, locals := 43 } : Room) E [.ref (eO E 9), .int (iI w), .int (iI q)] (xW E I A L) (xTB A w q) := by
  have hin5 : ∀ w ∈ wsX50, w ∈ wsX5_ageByPole := by decide +kernel
  have hin7 : ∀ w ∈ wsX70, w ∈ wsX5_ageByPole := by decide +kernel
  refine met_N (cc := cX5_ageByPole) (nL := 6) (by decide) rfl (Nat.le_of_ble_eq_true rfl) ?_
  intro p e s m args below meth c Q H0 A0 H locs ls F hw hl hret
  have F : CallFix p m c cX5_ageByPole 6 s args wsX5_ageByPole RX5 := F
  have hl : lv_has ls 6 [(0, .ref (eO E 9)), (1, .int (iI w)), (2, .int (iI q))] := hl
  have hf1 := hf (13 + q)
  have hf2 := hf (1 + A 17 (13 + q))
  have hf3 := hf (9 + A 17 (13 + q))
  have hm1 := iMx_r 0 (A 17 (1 + A 17 (13 + q)) - w % 10)
  have hm2 := iMx_r 0 (A 17 (1 + A 17 (13 + q)) - A 17 (9 + A 17 (13 + q)))
  refine lv_aload_n F.1 F.2.1 dX5_ageByPole_0 rfl (lv_at hl 0 rfl) ?_
  refine x_get F hin5 hw 9 5 rfl rfl 2 (by decide) (by decide +kernel) rfl rfl dX5_ageByPole_1 ?_
  refine lv_iload_n F.1 F.2.1 dX5_ageByPole_4 rfl (lv_at hl 2 rfl) ?_
  refine call_N (As := [.int (iI q)]) (rest := []) F (x6_home l E I A L q (by omega)) (cwV 1 F.2.2.2.2 gX5_ageByPole_X6_home rfl rfl rfl (by decide +kernel) ⟨(Nat.le_of_ble_eq_true rfl), (Nat.le_of_ble_eq_true rfl)⟩) hw (x_recv hw 4 6 rfl rfl) rfl hl.1 rfl (Nat.le_of_ble_eq_true rfl) dX5_ageByPole_5 ⟨Nat.zero_le _, Nat.zero_le _⟩ (fun H locs hw => ?_)
  refine lv_istore_n (lv' := [(3, .int (iI (A 17 (13 + q)))), (0, .ref (eO E 9)), (1, .int (iI w)), (2, .int (iI q))]) F.1 F.2.1 dX5_ageByPole_8 rfl hl (by decide) rfl (fun ls hl => ?_)
  refine lv_iload_n F.1 F.2.1 dX5_ageByPole_9 rfl (lv_at hl 2 rfl) ?_
  refine bi_bipush F dX5_ageByPole_10 (by decide) ?_
  refine bi_idiv F dX5_ageByPole_12 (by omega) ?_
  refine lv_iload_n F.1 F.2.1 dX5_ageByPole_13 rfl (lv_at hl 0 rfl) ?_
  refine bi_icmp_ne (tgt := 21) F dX5_ageByPole_14 (by decide) (by omega) (fun c_1 => ?_) (fun c_1 => ?_)
  · refine bi_iconst F dX5_ageByPole_21 ?_
    refine lv_istore (lv' := [(4, .int (iI 0)), (3, .int (iI (A 17 (13 + q)))), (0, .ref (eO E 9)), (1, .int (iI w)), (2, .int (iI q))]) F.1 F.2.1 dX5_ageByPole_22 hl (by decide) rfl (fun ls hl => ?_)
    refine lv_iload F.1 F.2.1 dX5_ageByPole_24 (lv_at hl 0 rfl) ?_
    refine bi_if_eq (tgt := 49) F dX5_ageByPole_26 (by decide) (by decide) (fun _ => ?_) (fun q => absurd q (by decide))
    refine lv_aload_n F.1 F.2.1 dX5_ageByPole_49 rfl (lv_at hl 2 rfl) ?_
    refine x_get F hin5 hw 9 5 rfl rfl 2 (by decide) (by decide +kernel) rfl rfl dX5_ageByPole_50 ?_
    refine lv_iload_n F.1 F.2.1 dX5_ageByPole_53 rfl (lv_at hl 1 rfl) ?_
    refine call_N (As := [.int (iI (A 17 (13 + q)))]) (rest := []) F (x6_pole l E I A L (A 17 (13 + q)) (by omega) hf) (cwV 1 F.2.2.2.2 gX5_ageByPole_X6_pole rfl rfl rfl (by decide +kernel) ⟨(Nat.le_of_ble_eq_true rfl), (Nat.le_of_ble_eq_true rfl)⟩) hw (x_recv hw 4 6 rfl rfl) rfl hl.1 rfl (Nat.le_of_ble_eq_true rfl) dX5_ageByPole_54 ⟨Nat.zero_le _, Nat.zero_le _⟩ (fun H locs hw => ?_)
    refine lv_istore (lv' := [(5, .int (iI (iMx 0 (A 17 (1 + (A 17 (13 + q))) - A 17 (9 + (A 17 (13 + q))))))), (4, .int (iI 0)), (3, .int (iI (A 17 (13 + q)))), (0, .ref (eO E 9)), (1, .int (iI w)), (2, .int (iI q))]) F.1 F.2.1 dX5_ageByPole_57 hl (by decide) rfl (fun ls hl => ?_)
    refine lv_aload_n F.1 F.2.1 dX5_ageByPole_59 rfl (lv_at hl 3 rfl) ?_
    refine x_get F hin5 hw 9 5 rfl rfl 1 (by decide) (by decide +kernel) rfl rfl dX5_ageByPole_60 ?_
    refine lv_aload_n F.1 F.2.1 dX5_ageByPole_63 rfl (lv_at hl 3 rfl) ?_
    refine x_get F hin5 hw 9 5 rfl rfl 1 (by decide) (by decide +kernel) rfl rfl dX5_ageByPole_64 ?_
    refine x_get F hin7 hw 3 7 rfl rfl 5 (by decide) (by decide +kernel) rfl rfl dX5_ageByPole_67 ?_
    refine lv_iload_n F.1 F.2.1 dX5_ageByPole_70 rfl (lv_at hl 5 rfl) ?_
    refine x_ld F hw 14 6 rfl (by decide) (by omega) dX5_ageByPole_71 ?_
    have f_3 := hbn (q)
    refine lv_iload F.1 F.2.1 dX5_ageByPole_72 (lv_at hl 0 rfl) ?_
    refine bi_iadd F dX5_ageByPole_74 ?_
    refine lv_iload_n F.1 F.2.1 dX5_ageByPole_75 rfl (lv_at hl 2 rfl) ?_
    refine call_N (As := [.int (iI (A 14 q + (iMx 0 (A 17 (1 + (A 17 (13 + q))) - A 17 (9 + (A 17 (13 + q))))))), .int (iI (A 17 (13 + q)))]) (rest := []) F (x7_years l E I A L (A 14 q + (iMx 0 (A 17 (1 + (A 17 (13 + q))) - A 17 (9 + (A 17 (13 + q)))))) (A 17 (13 + q)) (by omega) (by omega) hyr) (cwV 2 F.2.2.2.2 gX5_ageByPole_X7_years rfl rfl rfl (by decide +kernel) ⟨(Nat.le_of_ble_eq_true rfl), (Nat.le_of_ble_eq_true rfl)⟩) hw (x_recv hw 3 7 rfl rfl) rfl hl.1 rfl (Nat.le_of_ble_eq_true rfl) dX5_ageByPole_76 ⟨Nat.zero_le _, Nat.zero_le _⟩ (fun H locs hw => ?_)
    exact hret _ _ _ _ _ (by unfold xTB; first | (rw [if_pos (show w / 10 = A 17 (13 + q) by omega)]; done) | (rw [if_neg (show ¬ w / 10 = A 17 (13 + q) by omega)]; done)) hw dX5_ageByPole_79
  · refine bi_iconst F dX5_ageByPole_17 ?_
    refine lv_goto (tgt := 22) F.1 F.2.1 dX5_ageByPole_18 (by decide) ?_
    refine lv_istore (lv' := [(4, .int (iI 1)), (3, .int (iI (A 17 (13 + q)))), (0, .ref (eO E 9)), (1, .int (iI w)), (2, .int (iI q))]) F.1 F.2.1 dX5_ageByPole_22 hl (by decide) rfl (fun ls hl => ?_)
    refine lv_iload F.1 F.2.1 dX5_ageByPole_24 (lv_at hl 0 rfl) ?_
    refine bi_if_eq (tgt := 49) F dX5_ageByPole_26 (by decide) (by decide) (fun q => absurd q (by decide)) (fun _ => ?_)
    refine bi_iconst F dX5_ageByPole_29 ?_
    refine lv_aload_n F.1 F.2.1 dX5_ageByPole_30 rfl (lv_at hl 2 rfl) ?_
    refine x_get F hin5 hw 9 5 rfl rfl 2 (by decide) (by decide +kernel) rfl rfl dX5_ageByPole_31 ?_
    refine lv_iload_n F.1 F.2.1 dX5_ageByPole_34 rfl (lv_at hl 1 rfl) ?_
    refine call_N (As := [.int (iI (A 17 (13 + q)))]) (rest := [.int (iI 0)]) F (x6_falls l E I A L (A 17 (13 + q)) (by omega)) (cwV 1 F.2.2.2.2 gX5_ageByPole_X6_falls rfl rfl rfl (by decide +kernel) ⟨(Nat.le_of_ble_eq_true rfl), (Nat.le_of_ble_eq_true rfl)⟩) hw (x_recv hw 4 6 rfl rfl) rfl hl.1 rfl (Nat.le_of_ble_eq_true rfl) dX5_ageByPole_35 ⟨Nat.zero_le _, Nat.zero_le _⟩ (fun H locs hw => ?_)
    refine lv_iload_n F.1 F.2.1 dX5_ageByPole_38 rfl (lv_at hl 3 rfl) ?_
    refine bi_bipush F dX5_ageByPole_39 (by decide) ?_
    refine bi_irem F dX5_ageByPole_41 (by omega) ?_
    refine bi_isub F dX5_ageByPole_42 ?_
    refine bi_max F hl.1 (by decide +kernel) (by decide +kernel) (by decide +kernel) (by decide +kernel) (Nat.le_of_ble_eq_true rfl) (Nat.le_of_ble_eq_true rfl) (Nat.zero_le _) (Nat.zero_le _) (by omega) dX5_ageByPole_43 ?_
    have f_5 := iMx_r 0 (A 17 (1 + (A 17 (13 + q))) - (w % 10))
    refine lv_goto (tgt := 57) F.1 F.2.1 dX5_ageByPole_46 (by decide) ?_
    refine lv_istore (lv' := [(5, .int (iI (iMx 0 (A 17 (1 + (A 17 (13 + q))) - (w % 10))))), (4, .int (iI 1)), (3, .int (iI (A 17 (13 + q)))), (0, .ref (eO E 9)), (1, .int (iI w)), (2, .int (iI q))]) F.1 F.2.1 dX5_ageByPole_57 hl (by decide) rfl (fun ls hl => ?_)
    refine lv_aload_n F.1 F.2.1 dX5_ageByPole_59 rfl (lv_at hl 3 rfl) ?_
    refine x_get F hin5 hw 9 5 rfl rfl 1 (by decide) (by decide +kernel) rfl rfl dX5_ageByPole_60 ?_
    refine lv_aload_n F.1 F.2.1 dX5_ageByPole_63 rfl (lv_at hl 3 rfl) ?_
    refine x_get F hin5 hw 9 5 rfl rfl 1 (by decide) (by decide +kernel) rfl rfl dX5_ageByPole_64 ?_
    refine x_get F hin7 hw 3 7 rfl rfl 5 (by decide) (by decide +kernel) rfl rfl dX5_ageByPole_67 ?_
    refine lv_iload_n F.1 F.2.1 dX5_ageByPole_70 rfl (lv_at hl 5 rfl) ?_
    refine x_ld F hw 14 6 rfl (by decide) (by omega) dX5_ageByPole_71 ?_
    have f_6 := hbn (q)
    refine lv_iload F.1 F.2.1 dX5_ageByPole_72 (lv_at hl 0 rfl) ?_
    refine bi_iadd F dX5_ageByPole_74 ?_
    refine lv_iload_n F.1 F.2.1 dX5_ageByPole_75 rfl (lv_at hl 2 rfl) ?_
    refine call_N (As := [.int (iI (A 14 q + (iMx 0 (A 17 (1 + (A 17 (13 + q))) - (w % 10))))), .int (iI (A 17 (13 + q)))]) (rest := []) F (x7_years l E I A L (A 14 q + (iMx 0 (A 17 (1 + (A 17 (13 + q))) - (w % 10)))) (A 17 (13 + q)) (by omega) (by omega) hyr) (cwV 2 F.2.2.2.2 gX5_ageByPole_X7_years rfl rfl rfl (by decide +kernel) ⟨(Nat.le_of_ble_eq_true rfl), (Nat.le_of_ble_eq_true rfl)⟩) hw (x_recv hw 3 7 rfl rfl) rfl hl.1 rfl (Nat.le_of_ble_eq_true rfl) dX5_ageByPole_76 ⟨Nat.zero_le _, Nat.zero_le _⟩ (fun H locs hw => ?_)
    exact hret _ _ _ _ _ (by unfold xTB; first | (rw [if_pos (show w / 10 = A 17 (13 + q) by omega)]; done) | (rw [if_neg (show ¬ w / 10 = A 17 (13 + q) by omega)]; done)) hw dX5_ageByPole_79
set_option maxRecDepth 100000 in
set_option maxHeartbeats 4000000 in
theorem x5_fitsAll (l : Launch) (E : Ev) (I : Nat → Int) (A : Nat → Int → Int) (L : Nat → Int64) (w : Int) (hw1 : 0 ≤ w ∧ w < 40) (hcn : 0 ≤ I 16 ∧ I 16 ≤ 6) (hsp : ∀ k, 0 ≤ k ∧ k < I 16 → 0 ≤ A 22 k ∧ A 22 k < I 11) (hsa : ∀ k, 0 ≤ A 23 k ∧ A 23 k ≤ 9999) (hnp : 0 ≤ I 11 ∧ I 11 ≤ 6) (hnv : 0 ≤ I 10 ∧ I 10 ≤ 4) (hho : ∀ q, 0 ≤ q ∧ q < I 11 → A 17 (13 + q) < 4) (hf : ∀ k, 0 ≤ A 17 k ∧ A 17 k ≤ 900000) (hyr : ∀ k, 0 ≤ A 12 k ∧ A 12 k ≤ 40) (hbn : ∀ k, 0 ≤ A 14 k ∧ A 14 k ≤ 999) : MetP l yX5_fitsAll wsX5_fitsAll ({ frames := 3, cells := 0, slots := 0, locals := 68 } : Room) E [.ref (eO E 9), .int (iI w)] (xW E I A L) (xFit A w (I 16).toNat = 1) := by
  have hin5 : ∀ w ∈ wsX50, w ∈ wsX5_fitsAll := by decide +kernel
  refine met_P (cc := cX5_fitsAll) (nL := 3) (by decide) rfl (Nat.le_of_ble_eq_true rfl) ?_
  intro p e s m args below meth c Q H0 A0 H locs ls F hw hl hret
  have F : CallFix p m c cX5_fitsAll 3 s args wsX5_fitsAll RX5 := F
  have hl : lv_has ls 3 [(0, .ref (eO E 9)), (1, .int (iI w))] := hl
  refine bi_iconst F dX5_fitsAll_0 ?_
  refine lv_istore_n (lv' := [(2, .int (iI 0)), (0, .ref (eO E 9)), (1, .int (iI w))]) F.1 F.2.1 dX5_fitsAll_1 rfl hl (by decide) rfl (fun ls hl => ?_)
  have loop_2 : ∀ (nf : Nat) (k : Int) (H : Heap) (locs : List Loc) (ls : Array Slot) (hk : 0 ≤ k ∧ k ≤ I 16) (hb : xFit A w k.toNat = 1) (hw : gH E A0 H0 s (xW E I A L) H locs) (hl : lv_has ls 3 [(2, .int (iI k)), (0, .ref (eO E 9)), (1, .int (iI w))]) (hnf : (I 16 - k).toNat < nf), W p l e ({ frames := 3, cells := 0, slots := 0, locals := 68 } : Room) s m args below meth c H locs 0 0 Q (F0 m 2 ls []) := by
    intro nf
    induction nf with
    | zero =>
      intro k H locs ls hk hb hw hl hnf
      exact absurd hnf (Nat.not_lt_zero _)
    | succ nf ih_2 =>
      intro k H locs ls hk hb hw hl hnf
      have hfs : xFit A w (k + 1).toNat = if xFit A w k.toNat = 0 then 0 else (if xTB A w (A 22 k) = A 23 k then 1 else 0) := fg_s hk.1
      refine lv_iload_n F.1 F.2.1 dX5_fitsAll_2 rfl (lv_at hl 0 rfl) ?_
      refine lv_aload_n F.1 F.2.1 dX5_fitsAll_3 rfl (lv_at hl 1 rfl) ?_
      refine x_get F hin5 hw 9 5 rfl rfl 0 (by decide) (by decide +kernel) rfl rfl dX5_fitsAll_4 ?_
      refine bi_icmp_ge (tgt := 38) F dX5_fitsAll_7 (by decide) (by omega) (fun c_1 => ?_) (fun c_1 => ?_)
      · refine bi_iconst F dX5_fitsAll_38 ?_
        exact hret _ _ _ _ _ (Or.inl ⟨rfl, by rw [← show k = I 16 by omega]; exact hb⟩) hw dX5_fitsAll_39
      · refine lv_aload_n F.1 F.2.1 dX5_fitsAll_10 rfl (lv_at hl 1 rfl) ?_
        refine lv_iload_n F.1 F.2.1 dX5_fitsAll_11 rfl (lv_at hl 2 rfl) ?_
        refine lv_aload_n F.1 F.2.1 dX5_fitsAll_12 rfl (lv_at hl 1 rfl) ?_
        refine x_get F hin5 hw 9 5 rfl rfl 3 (by decide) (by decide +kernel) rfl rfl dX5_fitsAll_13 ?_
        refine lv_iload_n F.1 F.2.1 dX5_fitsAll_16 rfl (lv_at hl 0 rfl) ?_
        have hs1 := hsp k (by omega)
        have hh1 := hho (A 22 k) (by omega)
        refine x_ld F hw 22 6 rfl (by decide) (by omega) dX5_fitsAll_17 ?_
        refine call_N (As := [.int (iI w), .int (iI (A 22 k))]) (rest := []) F (x5_ageByPole l E I A L w (A 22 k) (by omega) (by omega) hf hyr hbn (by omega)) (cwV 2 F.2.2.2.2 gX5_fitsAll_X5_ageByPole rfl rfl rfl (by decide +kernel) ⟨(Nat.le_of_ble_eq_true rfl), (Nat.le_of_ble_eq_true rfl)⟩) hw (x_recv hw 9 5 rfl rfl) rfl hl.1 rfl (Nat.le_of_ble_eq_true rfl) dX5_fitsAll_18 ⟨Nat.zero_le _, Nat.zero_le _⟩ (fun H locs hw => ?_)
        have f_2 := xTB_r (A := A) (w := w) (q := (A 22 k)) hf hbn (by omega)
        refine lv_aload_n F.1 F.2.1 dX5_fitsAll_21 rfl (lv_at hl 1 rfl) ?_
        refine x_get F hin5 hw 9 5 rfl rfl 4 (by decide) (by decide +kernel) rfl rfl dX5_fitsAll_22 ?_
        refine lv_iload_n F.1 F.2.1 dX5_fitsAll_25 rfl (lv_at hl 0 rfl) ?_
        refine x_ld F hw 23 6 rfl (by decide) (by omega) dX5_fitsAll_26 ?_
        have f_3 := hsa (k)
        refine bi_icmp_eq (tgt := 32) F dX5_fitsAll_27 (by decide) (by omega) (fun c_4 => ?_) (fun c_4 => ?_)
        · refine lv_iinc (v := iI (k + 1)) (lv' := [(2, .int (iI (k + 1))), (0, .ref (eO E 9)), (1, .int (iI w))]) F.1 F.2.1 dX5_fitsAll_32 hl (k := 0) rfl (iI_add _ _).symm (by decide) rfl (fun ls hl => ?_)
          refine lv_goto (tgt := 2) F.1 F.2.1 dX5_fitsAll_35 (by decide) ?_
          exact ih_2 (k + 1) H locs ls (by omega) (by rw [hfs, if_neg (by omega), if_pos (by omega)]) hw (lv_sub hl [0, 1, 2] rfl) (by omega)
        · have h0 : xFit A w (k + 1).toNat = 0 := by rw [hfs, if_neg (by omega), if_neg (by omega)]
          have h00 : xFit A w (I 16).toNat = 0 := fg_0 h0 (by omega)
          refine bi_iconst F dX5_fitsAll_30 ?_
          exact hret _ _ _ _ _ (Or.inr ⟨rfl, by omega⟩) hw dX5_fitsAll_31
  exact loop_2 ((I 16 - 0 : Int).toNat + 1) 0 H locs ls (by omega) (rfl) hw (lv_sub hl [0, 1, 2] rfl) (by omega)
set_option maxRecDepth 100000 in
set_option maxHeartbeats 4000000 in
theorem x5_countFitting (l : Launch) (E : Ev) (I : Nat → Int) (A : Nat → Int → Int) (L : Nat → Int64) (hcn : 0 ≤ I 16 ∧ I 16 ≤ 6) (hsp : ∀ k, 0 ≤ k ∧ k < I 16 → 0 ≤ A 22 k ∧ A 22 k < I 11) (hsa : ∀ k, 0 ≤ A 23 k ∧ A 23 k ≤ 9999) (hnp : 0 ≤ I 11 ∧ I 11 ≤ 6) (hnv : 0 ≤ I 10 ∧ I 10 ≤ 4) (hho : ∀ q, 0 ≤ q ∧ q < I 11 → A 17 (13 + q) < 4) (hf : ∀ k, 0 ≤ A 17 k ∧ A 17 k ≤ 900000) (hyr : ∀ k, 0 ≤ A 12 k ∧ A 12 k ≤ 40) (hbn : ∀ k, 0 ≤ A 14 k ∧ A 14 k ≤ 999) : MetF l yX5_countFitting wsX5_countFitting ({ frames := 4, cells := 0, slots := 0, locals := 90 } : Room) E [.ref (eO E 9)] (xW E I A L) (xW E (I) (stA A 24 (xLays A (I 16) (I 10 * 10).toNat).2) L) ((xLays A (I 16) (I 10 * 10).toNat).1) := by
  have hin5 : ∀ w ∈ wsX50, w ∈ wsX5_countFitting := by decide +kernel
  have hin7 : ∀ w ∈ wsX70, w ∈ wsX5_countFitting := by decide +kernel
  refine met_F (cc := cX5_countFitting) (nL := 3) (by decide) rfl (Nat.le_of_ble_eq_true rfl) ?_
  intro p e s m args below meth c Q H0 A0 H locs ls F hw hl hret
  have F : CallFix p m c cX5_countFitting 3 s args wsX5_countFitting RX5 := F
  have hl : lv_has ls 3 [(0, .ref (eO E 9))] := hl
  refine bi_iconst F dX5_countFitting_0 ?_
  refine lv_istore_n (lv' := [(1, .int (iI 0)), (0, .ref (eO E 9))]) F.1 F.2.1 dX5_countFitting_1 rfl hl (by decide) rfl (fun ls hl => ?_)
  refine bi_iconst F dX5_countFitting_2 ?_
  refine lv_istore_n (lv' := [(2, .int (iI 0)), (1, .int (iI 0)), (0, .ref (eO E 9))]) F.1 F.2.1 dX5_countFitting_3 rfl hl (by decide) rfl (fun ls hl => ?_)
  have loop_4 : ∀ (nf : Nat) (c2 : Int) (w : Int) (A1 : Nat → Int → Int) (H : Heap) (locs : List Loc) (ls : Array Slot) (hw2 : 0 ≤ w ∧ w ≤ I 10 * 10) (hc : c2 = (xLays A (I 16) w.toNat).1) (hA1 : A1 = stA A 24 (xLays A (I 16) w.toNat).2) (hw : gH E A0 H0 s (xW E I A1 L) H locs) (hl : lv_has ls 3 [(2, .int (iI w)), (1, .int (iI c2)), (0, .ref (eO E 9))]) (hnf : (I 10 * 10 - w).toNat < nf), W p l e ({ frames := 4, cells := 0, slots := 0, locals := 90 } : Room) s m args below meth c H locs 0 0 Q (F0 m 4 ls []) := by
    intro nf
    induction nf with
    | zero =>
      intro c2 w A1 H locs ls hw2 hc hA1 hw hl hnf
      exact absurd hnf (Nat.not_lt_zero _)
    | succ nf ih_4 =>
      intro c2 w A1 H locs ls hw2 hc hA1 hw hl hnf
      have h12 : A1 12 = A 12 := by rw [hA1]; rfl
      have h14 : A1 14 = A 14 := by rw [hA1]; rfl
      have h17 : A1 17 = A 17 := by rw [hA1]; rfl
      have h22 : A1 22 = A 22 := by rw [hA1]; rfl
      have h23 : A1 23 = A 23 := by rw [hA1]; rfl
      have hft : xFit A1 w (I 16).toNat = xFit A w (I 16).toNat := by rw [hA1]; rfl
      have hcb := (xLays_b (A := A) (g := I 16) w.toNat).1
      have hfb := xFit_b (A := A1) (w := w) (I 16).toNat
      refine lv_iload_n F.1 F.2.1 dX5_countFitting_4 rfl (lv_at hl 0 rfl) ?_
      refine lv_aload_n F.1 F.2.1 dX5_countFitting_5 rfl (lv_at hl 2 rfl) ?_
      refine x_get F hin5 hw 9 5 rfl rfl 1 (by decide) (by decide +kernel) rfl rfl dX5_countFitting_6 ?_
      refine x_get F hin7 hw 3 7 rfl rfl 9 (by decide) (by decide +kernel) rfl rfl dX5_countFitting_9 ?_
      refine bi_bipush F dX5_countFitting_12 (by decide) ?_
      refine bi_imul F dX5_countFitting_14 ?_
      refine bi_icmp_ge (tgt := 42) F dX5_countFitting_15 (by decide) (by omega) (fun c_1 => ?_) (fun c_1 => ?_)
      · refine lv_iload_n F.1 F.2.1 dX5_countFitting_42 rfl (lv_at hl 1 rfl) ?_
        exact hret _ _ _ _ _ _ (by rw [hc, show w = I 10 * 10 by omega]) (xW_c rfl (by rw [hA1, show w = I 10 * 10 by omega]) rfl) hw dX5_countFitting_43
      · refine lv_aload_n F.1 F.2.1 dX5_countFitting_18 rfl (lv_at hl 2 rfl) ?_
        refine lv_iload_n F.1 F.2.1 dX5_countFitting_19 rfl (lv_at hl 0 rfl) ?_
        refine call_P (As := [.int (iI w)]) (rest := []) F (x5_fitsAll l E I A1 L w (by omega) (by omega) (by rw [h22]; exact hsp) (by rw [h23]; exact hsa) (by omega) (by omega) (by rw [h17]; exact hho) (by rw [h17]; exact hf) (by rw [h12]; exact hyr) (by rw [h14]; exact hbn)) (cwV 1 F.2.2.2.2 gX5_countFitting_X5_fitsAll rfl rfl rfl (by decide +kernel) ⟨(Nat.le_of_ble_eq_true rfl), (Nat.le_of_ble_eq_true rfl)⟩) hw (x_recv hw 9 5 rfl rfl) rfl hl.1 rfl (Nat.le_of_ble_eq_true rfl) dX5_countFitting_20 ⟨Nat.zero_le _, Nat.zero_le _⟩ (fun q_2 H locs hw => ?_) (fun q_2 H locs hw => ?_)
        · refine bi_if_eq (tgt := 36) F dX5_countFitting_23 (by decide) (by decide) (fun q => absurd q (by decide)) (fun _ => ?_)
          refine lv_aload_n F.1 F.2.1 dX5_countFitting_26 rfl (lv_at hl 2 rfl) ?_
          refine x_get F hin5 hw 9 5 rfl rfl 5 (by decide) (by decide +kernel) rfl rfl dX5_countFitting_27 ?_
          refine lv_iload_n F.1 F.2.1 dX5_countFitting_30 rfl (lv_at hl 1 rfl) ?_
          refine lv_iload_n F.1 F.2.1 dX5_countFitting_31 rfl (lv_at hl 0 rfl) ?_
          refine x_st F hw 24 40 rfl (by decide) (by omega) dX5_countFitting_32 (fun H locs hw => ?_)
          generalize eA4 : st2 A1 24 c2 w = A4 at hw
          refine lv_iinc (v := iI (c2 + 1)) (lv' := [(1, .int (iI (c2 + 1))), (2, .int (iI w)), (0, .ref (eO E 9))]) F.1 F.2.1 dX5_countFitting_33 hl (k := 1) rfl (iI_add _ _).symm (by decide) rfl (fun ls hl => ?_)
          refine lv_iinc (v := iI (w + 1)) (lv' := [(2, .int (iI (w + 1))), (1, .int (iI (c2 + 1))), (0, .ref (eO E 9))]) F.1 F.2.1 dX5_countFitting_36 hl (k := 1) rfl (iI_add _ _).symm (by decide) rfl (fun ls hl => ?_)
          refine lv_goto (tgt := 4) F.1 F.2.1 dX5_countFitting_39 (by decide) ?_
          exact ih_4 (c2 + 1) (w + 1) A4 H locs ls (by omega) (by rw [xLays_s hw2.1, ← hft]; first | (rw [if_neg (by omega)]; show _ = (xLays A (I 16) w.toNat).1 + 1; omega) | (rw [if_pos (by omega)]; omega)) (by rw [xLays_s hw2.1, ← hft]; first | (rw [if_neg (by omega), ← eA4, hA1, st2_A, hc]; done) | (rw [if_pos (by omega)]; exact hA1)) hw (lv_sub hl [0, 1, 2] rfl) (by omega)
        · refine bi_if_eq (tgt := 36) F dX5_countFitting_23 (by decide) (by decide) (fun _ => ?_) (fun q => absurd q (by decide))
          refine lv_iinc (v := iI (w + 1)) (lv' := [(2, .int (iI (w + 1))), (1, .int (iI c2)), (0, .ref (eO E 9))]) F.1 F.2.1 dX5_countFitting_36 hl (k := 0) rfl (iI_add _ _).symm (by decide) rfl (fun ls hl => ?_)
          refine lv_goto (tgt := 4) F.1 F.2.1 dX5_countFitting_39 (by decide) ?_
          exact ih_4 c2 (w + 1) A1 H locs ls (by omega) (by rw [xLays_s hw2.1, ← hft]; first | (rw [if_neg (by omega)]; show _ = (xLays A (I 16) w.toNat).1 + 1; omega) | (rw [if_pos (by omega)]; omega)) (by rw [xLays_s hw2.1, ← hft]; first | (rw [if_neg (by omega), ← eA1, hA1, st2_A, hc]; done) | (rw [if_pos (by omega)]; exact hA1)) hw (lv_sub hl [0, 1, 2] rfl) (by omega)
  exact loop_4 ((I 10 * 10 - 0 : Int).toNat + 1) 0 0 A H locs ls (by omega) (rfl) (stA_id.symm) hw (lv_sub hl [0, 1, 2] rfl) (by omega)
