set_option maxRecDepth 100000 in
set_option maxHeartbeats 4000000 in
theorem y_addVillage (l : Launch) (E : Ev) (I : Nat → Int) (A : Nat → Int → Int) (L : Nat → Int64) (f k a c5 c6 c7 c8 : Int) (x : Int) (y : Int) (z : Int) (hc6 : 0 ≤ c6 ∧ c6 < 4) : MetG l yX7_addVillage wsX7_addVillage ({ frames := 0, cells := 0, slots := 0, locals := 0 } : Room) E [.ref (eO E 2), .int (iI x), .int (iI y), .int (iI z)] (xW E (jX I f k a c5 c6 c7 c8) A L) (xW E (jX I f k a c5 (c6 + 1) c7 c8) (st2 (st2 (st2 A 2 c6 x) 3 c6 (x + y)) 4 c6 z) L) := by
  have hin7 : ∀ w ∈ wsX70, w ∈ wsX7_addVillage := by decide +kernel
  refine met_G (cc := cX7_addVillage) (nL := 4) (by decide) rfl (Nat.le_of_ble_eq_true rfl) ?_
  intro p e s m args below meth c Q H0 A0 H locs ls F hw hl hret
  have F : CallFix p m c cX7_addVillage 4 s args wsX7_addVillage RX7 := F
  have hl : lv_has ls 4 [(0, .ref (eO E 2)), (1, .int (iI x)), (2, .int (iI y)), (3, .int (iI z))] := hl
  refine lv_aload_n F.1 F.2.1 dX7_addVillage_0 rfl (lv_at hl 0 rfl) ?_
  refine x_get (v := .int (iI c6)) F hin7 hw 2 7 rfl rfl 9 (by decide) (by decide +kernel) rfl rfl dX7_addVillage_1 ?_
  refine bi_iconst F dX7_addVillage_4 ?_
  refine bi_icmp_ge (tgt := 50) F dX7_addVillage_5 (by decide) (by omega) (fun c_1 => ?_) (fun c_1 => ?_)
  · exfalso; omega
  refine lv_aload_n F.1 F.2.1 dX7_addVillage_8 rfl (lv_at hl 0 rfl) ?_
  refine x_get (v := .ref (eA E 2)) F hin7 hw 2 7 rfl rfl 1 (by decide) (by decide +kernel) rfl rfl dX7_addVillage_9 ?_
  refine lv_aload_n F.1 F.2.1 dX7_addVillage_12 rfl (lv_at hl 0 rfl) ?_
  refine x_get (v := .int (iI c6)) F hin7 hw 2 7 rfl rfl 9 (by decide) (by decide +kernel) rfl rfl dX7_addVillage_13 ?_
  refine lv_iload_n F.1 F.2.1 dX7_addVillage_16 rfl (lv_at hl 1 rfl) ?_
  refine x_st F hw 2 4 rfl (by decide) (by omega) dX7_addVillage_17 (fun H locs hw => ?_)
  generalize eA2 : st2 A 2 c6 x = A2 at hw
  refine lv_aload_n F.1 F.2.1 dX7_addVillage_18 rfl (lv_at hl 0 rfl) ?_
  refine x_get (v := .ref (eA E 3)) F hin7 hw 2 7 rfl rfl 2 (by decide) (by decide +kernel) rfl rfl dX7_addVillage_19 ?_
  refine lv_aload_n F.1 F.2.1 dX7_addVillage_22 rfl (lv_at hl 0 rfl) ?_
  refine x_get (v := .int (iI c6)) F hin7 hw 2 7 rfl rfl 9 (by decide) (by decide +kernel) rfl rfl dX7_addVillage_23 ?_
  refine lv_iload_n F.1 F.2.1 dX7_addVillage_26 rfl (lv_at hl 1 rfl) ?_
  refine lv_iload_n F.1 F.2.1 dX7_addVillage_27 rfl (lv_at hl 2 rfl) ?_
  refine bi_iadd F dX7_addVillage_28 ?_
  refine x_st F hw 3 4 rfl (by decide) (by omega) dX7_addVillage_29 (fun H locs hw => ?_)
  generalize eA3 : st2 A2 3 c6 (x + y) = A3 at hw
  refine lv_aload_n F.1 F.2.1 dX7_addVillage_30 rfl (lv_at hl 0 rfl) ?_
  refine x_get (v := .ref (eA E 4)) F hin7 hw 2 7 rfl rfl 3 (by decide) (by decide +kernel) rfl rfl dX7_addVillage_31 ?_
  refine lv_aload_n F.1 F.2.1 dX7_addVillage_34 rfl (lv_at hl 0 rfl) ?_
  refine x_get (v := .int (iI c6)) F hin7 hw 2 7 rfl rfl 9 (by decide) (by decide +kernel) rfl rfl dX7_addVillage_35 ?_
  refine lv_iload_n F.1 F.2.1 dX7_addVillage_38 rfl (lv_at hl 3 rfl) ?_
  refine x_st F hw 4 4 rfl (by decide) (by omega) dX7_addVillage_39 (fun H locs hw => ?_)
  generalize eA4 : st2 A3 4 c6 z = A4 at hw
  refine lv_aload_n F.1 F.2.1 dX7_addVillage_40 rfl (lv_at hl 0 rfl) ?_
  refine lv_dup F.1 F.2.1 dX7_addVillage_41 rfl ?_
  refine x_get (v := .int (iI c6)) F hin7 hw 2 7 rfl rfl 9 (by decide) (by decide +kernel) rfl rfl dX7_addVillage_42 ?_
  refine bi_iconst F dX7_addVillage_45 ?_
  refine bi_iadd F dX7_addVillage_46 ?_
  refine x_put (I2 := jX I f k a c5 (c6 + 1) c7 c8) F hin7 tyX7 tyX7_ok nmX7 hw 2 7 rfl rfl 9 (by decide) (by decide +kernel) rfl rfl (by decide +kernel) (Nat.le_of_ble_eq_true rfl) rfl (by decide) dX7_addVillage_47 (fun H locs hw => ?_)
  exact hret _ _ _ _ _ (xW_j (rfl) (rfl) (rfl) (rfl) (rfl) (rfl) (rfl) (by subst_vars; rfl)) hw dX7_addVillage_50
set_option maxRecDepth 100000 in
set_option maxHeartbeats 4000000 in
theorem y_addPerson (l : Launch) (E : Ev) (I : Nat → Int) (A : Nat → Int → Int) (L : Nat → Int64) (f k a c5 c6 c7 c8 : Int) (x : Int) (y : Int) (hc7 : 0 ≤ c7 ∧ c7 < 6) : MetG l yX7_addPerson wsX7_addPerson ({ frames := 0, cells := 0, slots := 0, locals := 0 } : Room) E [.ref (eO E 2), .int (iI x), .int (iI y)] (xW E (jX I f k a c5 c6 c7 c8) A L) (xW E (jX I f k a c5 c6 (c7 + 1) c8) (st2 (st2 A 5 c7 x) 6 c7 y) L) := by
  have hin7 : ∀ w ∈ wsX70, w ∈ wsX7_addPerson := by decide +kernel
  refine met_G (cc := cX7_addPerson) (nL := 3) (by decide) rfl (Nat.le_of_ble_eq_true rfl) ?_
  intro p e s m args below meth c Q H0 A0 H locs ls F hw hl hret
  have F : CallFix p m c cX7_addPerson 3 s args wsX7_addPerson RX7 := F
  have hl : lv_has ls 3 [(0, .ref (eO E 2)), (1, .int (iI x)), (2, .int (iI y))] := hl
  refine lv_aload_n F.1 F.2.1 dX7_addPerson_0 rfl (lv_at hl 0 rfl) ?_
  refine x_get (v := .int (iI c7)) F hin7 hw 2 7 rfl rfl 10 (by decide) (by decide +kernel) rfl rfl dX7_addPerson_1 ?_
  refine bi_bipush F dX7_addPerson_4 (by decide) ?_
  refine bi_icmp_ge (tgt := 39) F dX7_addPerson_6 (by decide) (by omega) (fun c_1 => ?_) (fun c_1 => ?_)
  · exfalso; omega
  refine lv_aload_n F.1 F.2.1 dX7_addPerson_9 rfl (lv_at hl 0 rfl) ?_
  refine x_get (v := .ref (eA E 5)) F hin7 hw 2 7 rfl rfl 4 (by decide) (by decide +kernel) rfl rfl dX7_addPerson_10 ?_
  refine lv_aload_n F.1 F.2.1 dX7_addPerson_13 rfl (lv_at hl 0 rfl) ?_
  refine x_get (v := .int (iI c7)) F hin7 hw 2 7 rfl rfl 10 (by decide) (by decide +kernel) rfl rfl dX7_addPerson_14 ?_
  refine lv_iload_n F.1 F.2.1 dX7_addPerson_17 rfl (lv_at hl 1 rfl) ?_
  refine x_st F hw 5 6 rfl (by decide) (by omega) dX7_addPerson_18 (fun H locs hw => ?_)
  generalize eA2 : st2 A 5 c7 x = A2 at hw
  refine lv_aload_n F.1 F.2.1 dX7_addPerson_19 rfl (lv_at hl 0 rfl) ?_
  refine x_get (v := .ref (eA E 6)) F hin7 hw 2 7 rfl rfl 5 (by decide) (by decide +kernel) rfl rfl dX7_addPerson_20 ?_
  refine lv_aload_n F.1 F.2.1 dX7_addPerson_23 rfl (lv_at hl 0 rfl) ?_
  refine x_get (v := .int (iI c7)) F hin7 hw 2 7 rfl rfl 10 (by decide) (by decide +kernel) rfl rfl dX7_addPerson_24 ?_
  refine lv_iload_n F.1 F.2.1 dX7_addPerson_27 rfl (lv_at hl 2 rfl) ?_
  refine x_st F hw 6 6 rfl (by decide) (by omega) dX7_addPerson_28 (fun H locs hw => ?_)
  generalize eA3 : st2 A2 6 c7 y = A3 at hw
  refine lv_aload_n F.1 F.2.1 dX7_addPerson_29 rfl (lv_at hl 0 rfl) ?_
  refine lv_dup F.1 F.2.1 dX7_addPerson_30 rfl ?_
  refine x_get (v := .int (iI c7)) F hin7 hw 2 7 rfl rfl 10 (by decide) (by decide +kernel) rfl rfl dX7_addPerson_31 ?_
  refine bi_iconst F dX7_addPerson_34 ?_
  refine bi_iadd F dX7_addPerson_35 ?_
  refine x_put (I2 := jX I f k a c5 c6 (c7 + 1) c8) F hin7 tyX7 tyX7_ok nmX7 hw 2 7 rfl rfl 10 (by decide) (by decide +kernel) rfl rfl (by decide +kernel) (Nat.le_of_ble_eq_true rfl) rfl (by decide) dX7_addPerson_36 (fun H locs hw => ?_)
  exact hret _ _ _ _ _ (xW_j (rfl) (rfl) (rfl) (rfl) (rfl) (rfl) (rfl) (by subst_vars; rfl)) hw dX7_addPerson_39
set_option maxRecDepth 100000 in
set_option maxHeartbeats 4000000 in
theorem y_addDebt (l : Launch) (E : Ev) (I : Nat → Int) (A : Nat → Int → Int) (L : Nat → Int64) (f k a c5 c6 c7 c8 : Int) (x : Int) (y : Int) (hc8 : 0 ≤ c8 ∧ c8 < 5) : MetG l yX7_addDebt wsX7_addDebt ({ frames := 0, cells := 0, slots := 0, locals := 0 } : Room) E [.ref (eO E 2), .int (iI x), .int (iI y)] (xW E (jX I f k a c5 c6 c7 c8) A L) (xW E (jX I f k a c5 c6 c7 (c8 + 1)) (st2 (st2 A 7 c8 x) 8 c8 y) L) := by
  have hin7 : ∀ w ∈ wsX70, w ∈ wsX7_addDebt := by decide +kernel
  refine met_G (cc := cX7_addDebt) (nL := 3) (by decide) rfl (Nat.le_of_ble_eq_true rfl) ?_
  intro p e s m args below meth c Q H0 A0 H locs ls F hw hl hret
  have F : CallFix p m c cX7_addDebt 3 s args wsX7_addDebt RX7 := F
  have hl : lv_has ls 3 [(0, .ref (eO E 2)), (1, .int (iI x)), (2, .int (iI y))] := hl
  refine lv_aload_n F.1 F.2.1 dX7_addDebt_0 rfl (lv_at hl 0 rfl) ?_
  refine x_get (v := .int (iI c8)) F hin7 hw 2 7 rfl rfl 11 (by decide) (by decide +kernel) rfl rfl dX7_addDebt_1 ?_
  refine bi_iconst F dX7_addDebt_4 ?_
  refine bi_icmp_ge (tgt := 38) F dX7_addDebt_5 (by decide) (by omega) (fun c_1 => ?_) (fun c_1 => ?_)
  · exfalso; omega
  refine lv_aload_n F.1 F.2.1 dX7_addDebt_8 rfl (lv_at hl 0 rfl) ?_
  refine x_get (v := .ref (eA E 7)) F hin7 hw 2 7 rfl rfl 6 (by decide) (by decide +kernel) rfl rfl dX7_addDebt_9 ?_
  refine lv_aload_n F.1 F.2.1 dX7_addDebt_12 rfl (lv_at hl 0 rfl) ?_
  refine x_get (v := .int (iI c8)) F hin7 hw 2 7 rfl rfl 11 (by decide) (by decide +kernel) rfl rfl dX7_addDebt_13 ?_
  refine lv_iload_n F.1 F.2.1 dX7_addDebt_16 rfl (lv_at hl 1 rfl) ?_
  refine x_st F hw 7 5 rfl (by decide) (by omega) dX7_addDebt_17 (fun H locs hw => ?_)
  generalize eA2 : st2 A 7 c8 x = A2 at hw
  refine lv_aload_n F.1 F.2.1 dX7_addDebt_18 rfl (lv_at hl 0 rfl) ?_
  refine x_get (v := .ref (eA E 8)) F hin7 hw 2 7 rfl rfl 7 (by decide) (by decide +kernel) rfl rfl dX7_addDebt_19 ?_
  refine lv_aload_n F.1 F.2.1 dX7_addDebt_22 rfl (lv_at hl 0 rfl) ?_
  refine x_get (v := .int (iI c8)) F hin7 hw 2 7 rfl rfl 11 (by decide) (by decide +kernel) rfl rfl dX7_addDebt_23 ?_
  refine lv_iload_n F.1 F.2.1 dX7_addDebt_26 rfl (lv_at hl 2 rfl) ?_
  refine x_st F hw 8 5 rfl (by decide) (by omega) dX7_addDebt_27 (fun H locs hw => ?_)
  generalize eA3 : st2 A2 8 c8 y = A3 at hw
  refine lv_aload_n F.1 F.2.1 dX7_addDebt_28 rfl (lv_at hl 0 rfl) ?_
  refine lv_dup F.1 F.2.1 dX7_addDebt_29 rfl ?_
  refine x_get (v := .int (iI c8)) F hin7 hw 2 7 rfl rfl 11 (by decide) (by decide +kernel) rfl rfl dX7_addDebt_30 ?_
  refine bi_iconst F dX7_addDebt_33 ?_
  refine bi_iadd F dX7_addDebt_34 ?_
  refine x_put (I2 := jX I f k a c5 c6 c7 (c8 + 1)) F hin7 tyX7 tyX7_ok nmX7 hw 2 7 rfl rfl 11 (by decide) (by decide +kernel) rfl rfl (by decide +kernel) (Nat.le_of_ble_eq_true rfl) rfl (by decide) dX7_addDebt_35 (fun H locs hw => ?_)
  exact hret _ _ _ _ _ (xW_j (rfl) (rfl) (rfl) (rfl) (rfl) (rfl) (rfl) (by subst_vars; rfl)) hw dX7_addDebt_38
set_option maxRecDepth 100000 in
set_option maxHeartbeats 4000000 in
theorem y_clear (l : Launch) (E : Ev) (I : Nat → Int) (A : Nat → Int → Int) (L : Nat → Int64) (f k a c5 c6 c7 c8 : Int) : MetG l yX7_clear wsX7_clear ({ frames := 0, cells := 0, slots := 0, locals := 0 } : Room) E [.ref (eO E 2)] (xW E (jX I f k a c5 c6 c7 c8) A L) (xW E (jX I f k a 0 0 0 0) (A) L) := by
  have hin7 : ∀ w ∈ wsX70, w ∈ wsX7_clear := by decide +kernel
  refine met_G (cc := cX7_clear) (nL := 1) (by decide) rfl (Nat.le_of_ble_eq_true rfl) ?_
  intro p e s m args below meth c Q H0 A0 H locs ls F hw hl hret
  have F : CallFix p m c cX7_clear 1 s args wsX7_clear RX7 := F
  have hl : lv_has ls 1 [(0, .ref (eO E 2))] := hl
  refine lv_aload_n F.1 F.2.1 dX7_clear_0 rfl (lv_at hl 0 rfl) ?_
  refine bi_iconst F dX7_clear_1 ?_
  refine x_put (I2 := jX I f k a 0 c6 c7 c8) F hin7 tyX7 tyX7_ok nmX7 hw 2 7 rfl rfl 8 (by decide) (by decide +kernel) rfl rfl (by decide +kernel) (Nat.le_of_ble_eq_true rfl) rfl (by decide) dX7_clear_2 (fun H locs hw => ?_)
  refine lv_aload_n F.1 F.2.1 dX7_clear_5 rfl (lv_at hl 0 rfl) ?_
  refine bi_iconst F dX7_clear_6 ?_
  refine x_put (I2 := jX I f k a 0 0 c7 c8) F hin7 tyX7 tyX7_ok nmX7 hw 2 7 rfl rfl 9 (by decide) (by decide +kernel) rfl rfl (by decide +kernel) (Nat.le_of_ble_eq_true rfl) rfl (by decide) dX7_clear_7 (fun H locs hw => ?_)
  refine lv_aload_n F.1 F.2.1 dX7_clear_10 rfl (lv_at hl 0 rfl) ?_
  refine bi_iconst F dX7_clear_11 ?_
  refine x_put (I2 := jX I f k a 0 0 0 c8) F hin7 tyX7 tyX7_ok nmX7 hw 2 7 rfl rfl 10 (by decide) (by decide +kernel) rfl rfl (by decide +kernel) (Nat.le_of_ble_eq_true rfl) rfl (by decide) dX7_clear_12 (fun H locs hw => ?_)
  refine lv_aload_n F.1 F.2.1 dX7_clear_15 rfl (lv_at hl 0 rfl) ?_
  refine bi_iconst F dX7_clear_16 ?_
  refine x_put (I2 := jX I f k a 0 0 0 0) F hin7 tyX7 tyX7_ok nmX7 hw 2 7 rfl rfl 11 (by decide) (by decide +kernel) rfl rfl (by decide +kernel) (Nat.le_of_ble_eq_true rfl) rfl (by decide) dX7_clear_17 (fun H locs hw => ?_)
  exact hret _ _ _ _ _ (xW_j (rfl) (rfl) (rfl) (rfl) (rfl) (rfl) (rfl) (rfl)) hw dX7_clear_20
set_option maxRecDepth 100000 in
set_option maxHeartbeats 4000000 in
theorem y_readVillage (l : Launch) (E : Ev) (I : Nat → Int) (A : Nat → Int → Int) (L : Nat → Int64) (f k a c5 c6 c7 c8 : Int) (hT : 0 ≤ I 3 ∧ I 3 ≤ 240) (hl0 : ∀ k, 0 ≤ A 0 k ∧ A 0 k ≤ 255) (hff0 : -1 ≤ f ∧ f ≤ 240) (hkk : 0 ≤ k ∧ k ≤ 3) (haa : 0 ≤ a ∧ a ≤ 240) (hk0 : k = 0) (ha2 : a < I 3) (hc5 : 0 ≤ c5 ∧ c5 ≤ 20) (hc6 : 0 ≤ c6 ∧ c6 ≤ 4) (hc7 : 0 ≤ c7 ∧ c7 ≤ 6) (hc8 : 0 ≤ c8 ∧ c8 ≤ 5) : MetG l yX4_readVillage wsX4_readVillage ({ frames := 2, cells := 0, slots := 0, locals := 47 } : Room) E [.ref (eO E 1)] (xW E (jX I f k a c5 c6 c7 c8) A L) (xW E (jX I (if c6 < 4 then (cV (A 0) (I 3) (f, 0, a + 1)).1 else a) (if c6 < 4 then (cV (A 0) (I 3) (f, 0, a + 1)).2.1 else 3) (if c6 < 4 then (cV (A 0) (I 3) (f, 0, a + 1)).2.2 else a) c5 (if c6 < 4 ∧ (cV (A 0) (I 3) (f, 0, a + 1)).2.1 = 0 then c6 + 1 else c6) c7 c8) (if c6 < 4 ∧ (cV (A 0) (I 3) (f, 0, a + 1)).2.1 = 0 then cVA (A 0) (I 3) c6 (f, 0, a + 1) A else A) L) := by
  have hin4 : ∀ w ∈ wsX40, w ∈ wsX4_readVillage := by decide +kernel
  have hin7 : ∀ w ∈ wsX70, w ∈ wsX4_readVillage := by decide +kernel
  refine met_G (cc := cX4_readVillage) (nL := 6) (by decide) rfl (Nat.le_of_ble_eq_true rfl) ?_
  intro p e s m args below meth c Q H0 A0 H locs ls F hw hl hret
  have F : CallFix p m c cX4_readVillage 6 s args wsX4_readVillage RX4 := F
  have hl : lv_has ls 6 [(0, .ref (eO E 1))] := hl
  refine lv_aload_n F.1 F.2.1 dX4_readVillage_0 rfl (lv_at hl 0 rfl) ?_
  refine x_get (v := .ref (eO E 2)) F hin4 hw 1 4 rfl rfl 0 (by decide) (by decide +kernel) rfl rfl dX4_readVillage_1 ?_
  refine x_get (v := .int (iI c6)) F hin7 hw 2 7 rfl rfl 9 (by decide) (by decide +kernel) rfl rfl dX4_readVillage_4 ?_
  refine bi_iconst F dX4_readVillage_7 ?_
  refine bi_icmp_lt (tgt := 21) F dX4_readVillage_8 (by decide) (by omega) (fun c_1 => ?_) (fun c_1 => ?_)
  · refine lv_aload_n F.1 F.2.1 dX4_readVillage_21 rfl (lv_at hl 0 rfl) ?_
    refine lv_dup F.1 F.2.1 dX4_readVillage_22 rfl ?_
    refine x_get (v := .int (iI a)) F hin4 hw 1 4 rfl rfl 5 (by decide) (by decide +kernel) rfl rfl dX4_readVillage_23 ?_
    refine bi_iconst F dX4_readVillage_26 ?_
    refine bi_iadd F dX4_readVillage_27 ?_
    refine x_put (I2 := jX I f k (a + 1) c5 c6 c7 c8) F hin4 tyX4 tyX4_ok nmX4 hw 1 4 rfl rfl 5 (by decide) (by decide +kernel) rfl rfl (by decide +kernel) (Nat.le_of_ble_eq_true rfl) rfl (by decide) dX4_readVillage_28 (fun H locs hw => ?_)
    refine lv_aload_n F.1 F.2.1 dX4_readVillage_31 rfl (lv_at hl 0 rfl) ?_
    refine bi_iconst F dX4_readVillage_32 ?_
    refine bi_bipush F dX4_readVillage_33 (by decide) ?_
    refine call_F (As := [.int (iI 0), .int (iI 40)]) (rest := []) F (y_readNumber l E I A L f k (a + 1) c5 c6 c7 c8 0 40 (by omega) hl0 (by omega) (by omega) (by omega) (by omega) (by omega)) (cwV 2 F.2.2.2.2 gX4_readVillage_X4_readNumber rfl rfl rfl (by decide +kernel) ⟨(Nat.le_of_ble_eq_true rfl), (Nat.le_of_ble_eq_true rfl)⟩) hw (x_recv hw 1 4 rfl rfl) rfl hl.1 rfl (Nat.le_of_ble_eq_true rfl) dX4_readVillage_35 ⟨Nat.zero_le _, Nat.zero_le _⟩ (fun H locs hw => ?_)
    generalize ev2 : cNv (A 0) (I 3) (f, k, (a + 1)) = v2
    have fvv2 : 0 ≤ v2 ∧ v2 ≤ 999 := by rw [← ev2]; exact pNumV_r
    generalize ef_3 : ((cNum (A 0) (I 3) 0 40 (f, k, (a + 1))).1) = f_3 at hw
    generalize ek_4 : ((cNum (A 0) (I 3) 0 40 (f, k, (a + 1))).2.1) = k_4 at hw
    generalize ea_5 : ((cNum (A 0) (I 3) 0 40 (f, k, (a + 1))).2.2) = a_5 at hw
    obtain ⟨g_61, g_62, g_63⟩ := cGd_num (T := A 0) (n := I 3) (lo := 0) (hi := 40) (s := (f, k, a + 1)) hT ⟨by show -1 ≤ f ∧ f ≤ 240; omega, by show 0 ≤ k ∧ k ≤ 3; omega, by show 0 ≤ a + 1 ∧ a + 1 ≤ 240; omega⟩
    rw [ef_3] at g_61
    rw [ek_4] at g_62
    rw [ea_5] at g_63
    refine lv_istore_n (lv' := [(1, .int (iI v2)), (0, .ref (eO E 1))]) F.1 F.2.1 dX4_readVillage_38 rfl hl (by decide) rfl (fun ls hl => ?_)
    refine lv_aload_n F.1 F.2.1 dX4_readVillage_39 rfl (lv_at hl 1 rfl) ?_
    refine bi_iconst F dX4_readVillage_40 ?_
    refine bi_bipush F dX4_readVillage_41 (by decide) ?_
    refine call_F (As := [.int (iI 0), .int (iI 40)]) (rest := []) F (y_readNumber l E I A L f_3 k_4 a_5 c5 c6 c7 c8 0 40 (by omega) hl0 (by omega) (by omega) (by omega) (by omega) (by omega)) (cwV 2 F.2.2.2.2 gX4_readVillage_X4_readNumber rfl rfl rfl (by decide +kernel) ⟨(Nat.le_of_ble_eq_true rfl), (Nat.le_of_ble_eq_true rfl)⟩) hw (x_recv hw 1 4 rfl rfl) rfl hl.1 rfl (Nat.le_of_ble_eq_true rfl) dX4_readVillage_43 ⟨Nat.zero_le _, Nat.zero_le _⟩ (fun H locs hw => ?_)
    generalize ev7 : cNv (A 0) (I 3) (f_3, k_4, a_5) = v7
    have fvv7 : 0 ≤ v7 ∧ v7 ≤ 999 := by rw [← ev7]; exact pNumV_r
    generalize ef_8 : ((cNum (A 0) (I 3) 0 40 (f_3, k_4, a_5)).1) = f_8 at hw
    generalize ek_9 : ((cNum (A 0) (I 3) 0 40 (f_3, k_4, a_5)).2.1) = k_9 at hw
    generalize ea_10 : ((cNum (A 0) (I 3) 0 40 (f_3, k_4, a_5)).2.2) = a_10 at hw
    obtain ⟨g_111, g_112, g_113⟩ := cGd_num (T := A 0) (n := I 3) (lo := 0) (hi := 40) (s := (f_3, k_4, a_5)) hT ⟨by show -1 ≤ f_3 ∧ f_3 ≤ 240; omega, by show 0 ≤ k_4 ∧ k_4 ≤ 3; omega, by show 0 ≤ a_5 ∧ a_5 ≤ 240; omega⟩
    rw [ef_8] at g_111
    rw [ek_9] at g_112
    rw [ea_10] at g_113
    refine lv_istore_n (lv' := [(2, .int (iI v7)), (1, .int (iI v2)), (0, .ref (eO E 1))]) F.1 F.2.1 dX4_readVillage_46 rfl hl (by decide) rfl (fun ls hl => ?_)
    refine lv_aload_n F.1 F.2.1 dX4_readVillage_47 rfl (lv_at hl 2 rfl) ?_
    refine bi_iconst F dX4_readVillage_48 ?_
    refine bi_bipush F dX4_readVillage_49 (by decide) ?_
    refine call_F (As := [.int (iI 0), .int (iI 40)]) (rest := []) F (y_readNumber l E I A L f_8 k_9 a_10 c5 c6 c7 c8 0 40 (by omega) hl0 (by omega) (by omega) (by omega) (by omega) (by omega)) (cwV 2 F.2.2.2.2 gX4_readVillage_X4_readNumber rfl rfl rfl (by decide +kernel) ⟨(Nat.le_of_ble_eq_true rfl), (Nat.le_of_ble_eq_true rfl)⟩) hw (x_recv hw 1 4 rfl rfl) rfl hl.1 rfl (Nat.le_of_ble_eq_true rfl) dX4_readVillage_51 ⟨Nat.zero_le _, Nat.zero_le _⟩ (fun H locs hw => ?_)
    generalize ev12 : cNv (A 0) (I 3) (f_8, k_9, a_10) = v12
    have fvv12 : 0 ≤ v12 ∧ v12 ≤ 999 := by rw [← ev12]; exact pNumV_r
    generalize ef_13 : ((cNum (A 0) (I 3) 0 40 (f_8, k_9, a_10)).1) = f_13 at hw
    generalize ek_14 : ((cNum (A 0) (I 3) 0 40 (f_8, k_9, a_10)).2.1) = k_14 at hw
    generalize ea_15 : ((cNum (A 0) (I 3) 0 40 (f_8, k_9, a_10)).2.2) = a_15 at hw
    obtain ⟨g_161, g_162, g_163⟩ := cGd_num (T := A 0) (n := I 3) (lo := 0) (hi := 40) (s := (f_8, k_9, a_10)) hT ⟨by show -1 ≤ f_8 ∧ f_8 ≤ 240; omega, by show 0 ≤ k_9 ∧ k_9 ≤ 3; omega, by show 0 ≤ a_10 ∧ a_10 ≤ 240; omega⟩
    rw [ef_13] at g_161
    rw [ek_14] at g_162
    rw [ea_15] at g_163
    refine lv_istore_n (lv' := [(3, .int (iI v12)), (2, .int (iI v7)), (1, .int (iI v2)), (0, .ref (eO E 1))]) F.1 F.2.1 dX4_readVillage_54 rfl hl (by decide) rfl (fun ls hl => ?_)
    refine lv_aload_n F.1 F.2.1 dX4_readVillage_55 rfl (lv_at hl 3 rfl) ?_
    refine bi_iconst F dX4_readVillage_56 ?_
    refine bi_bipush F dX4_readVillage_57 (by decide) ?_
    refine call_F (As := [.int (iI 0), .int (iI 40)]) (rest := []) F (y_readNumber l E I A L f_13 k_14 a_15 c5 c6 c7 c8 0 40 (by omega) hl0 (by omega) (by omega) (by omega) (by omega) (by omega)) (cwV 2 F.2.2.2.2 gX4_readVillage_X4_readNumber rfl rfl rfl (by decide +kernel) ⟨(Nat.le_of_ble_eq_true rfl), (Nat.le_of_ble_eq_true rfl)⟩) hw (x_recv hw 1 4 rfl rfl) rfl hl.1 rfl (Nat.le_of_ble_eq_true rfl) dX4_readVillage_59 ⟨Nat.zero_le _, Nat.zero_le _⟩ (fun H locs hw => ?_)
    generalize ev17 : cNv (A 0) (I 3) (f_13, k_14, a_15) = v17
    have fvv17 : 0 ≤ v17 ∧ v17 ≤ 999 := by rw [← ev17]; exact pNumV_r
    generalize ef_18 : ((cNum (A 0) (I 3) 0 40 (f_13, k_14, a_15)).1) = f_18 at hw
    generalize ek_19 : ((cNum (A 0) (I 3) 0 40 (f_13, k_14, a_15)).2.1) = k_19 at hw
    generalize ea_20 : ((cNum (A 0) (I 3) 0 40 (f_13, k_14, a_15)).2.2) = a_20 at hw
    obtain ⟨g_211, g_212, g_213⟩ := cGd_num (T := A 0) (n := I 3) (lo := 0) (hi := 40) (s := (f_13, k_14, a_15)) hT ⟨by show -1 ≤ f_13 ∧ f_13 ≤ 240; omega, by show 0 ≤ k_14 ∧ k_14 ≤ 3; omega, by show 0 ≤ a_15 ∧ a_15 ≤ 240; omega⟩
    rw [ef_18] at g_211
    rw [ek_19] at g_212
    rw [ea_20] at g_213
    refine lv_istore (lv' := [(4, .int (iI v17)), (3, .int (iI v12)), (2, .int (iI v7)), (1, .int (iI v2)), (0, .ref (eO E 1))]) F.1 F.2.1 dX4_readVillage_62 hl (by decide) rfl (fun ls hl => ?_)
    refine lv_aload_n F.1 F.2.1 dX4_readVillage_64 rfl (lv_at hl 4 rfl) ?_
    refine bi_iconst F dX4_readVillage_65 ?_
    refine bi_bipush F dX4_readVillage_66 (by decide) ?_
    refine call_F (As := [.int (iI 1), .int (iI 40)]) (rest := []) F (y_readNumber l E I A L f_18 k_19 a_20 c5 c6 c7 c8 1 40 (by omega) hl0 (by omega) (by omega) (by omega) (by omega) (by omega)) (cwV 2 F.2.2.2.2 gX4_readVillage_X4_readNumber rfl rfl rfl (by decide +kernel) ⟨(Nat.le_of_ble_eq_true rfl), (Nat.le_of_ble_eq_true rfl)⟩) hw (x_recv hw 1 4 rfl rfl) rfl hl.1 rfl (Nat.le_of_ble_eq_true rfl) dX4_readVillage_68 ⟨Nat.zero_le _, Nat.zero_le _⟩ (fun H locs hw => ?_)
    generalize ev22 : cNv (A 0) (I 3) (f_18, k_19, a_20) = v22
    have fvv22 : 0 ≤ v22 ∧ v22 ≤ 999 := by rw [← ev22]; exact pNumV_r
    generalize ef_23 : ((cNum (A 0) (I 3) 1 40 (f_18, k_19, a_20)).1) = f_23 at hw
    generalize ek_24 : ((cNum (A 0) (I 3) 1 40 (f_18, k_19, a_20)).2.1) = k_24 at hw
    generalize ea_25 : ((cNum (A 0) (I 3) 1 40 (f_18, k_19, a_20)).2.2) = a_25 at hw
    obtain ⟨g_261, g_262, g_263⟩ := cGd_num (T := A 0) (n := I 3) (lo := 1) (hi := 40) (s := (f_18, k_19, a_20)) hT ⟨by show -1 ≤ f_18 ∧ f_18 ≤ 240; omega, by show 0 ≤ k_19 ∧ k_19 ≤ 3; omega, by show 0 ≤ a_20 ∧ a_20 ≤ 240; omega⟩
    rw [ef_23] at g_261
    rw [ek_24] at g_262
    rw [ea_25] at g_263
    refine lv_istore (lv' := [(5, .int (iI v22)), (4, .int (iI v17)), (3, .int (iI v12)), (2, .int (iI v7)), (1, .int (iI v2)), (0, .ref (eO E 1))]) F.1 F.2.1 dX4_readVillage_71 hl (by decide) rfl (fun ls hl => ?_)
    refine lv_aload_n F.1 F.2.1 dX4_readVillage_73 rfl (lv_at hl 5 rfl) ?_
    refine call_G (As := []) (rest := []) F (y_readEnd l E I A L f_23 k_24 a_25 c5 c6 c7 c8  (by omega) hl0 (by omega) (by omega) (by omega)) (cwV 0 F.2.2.2.2 gX4_readVillage_X4_readEnd rfl rfl rfl (by decide +kernel) ⟨(Nat.le_of_ble_eq_true rfl), (Nat.le_of_ble_eq_true rfl)⟩) hw (x_recv hw 1 4 rfl rfl) rfl hl.1 rfl (Nat.le_of_ble_eq_true rfl) dX4_readVillage_74 ⟨Nat.zero_le _, Nat.zero_le _⟩ (fun H locs hw => ?_)
    generalize ef_27 : ((cEnd (A 0) (I 3) (f_23, k_24, a_25)).1) = f_27 at hw
    generalize ek_28 : ((cEnd (A 0) (I 3) (f_23, k_24, a_25)).2.1) = k_28 at hw
    generalize ea_29 : ((cEnd (A 0) (I 3) (f_23, k_24, a_25)).2.2) = a_29 at hw
    obtain ⟨g_301, g_302, g_303⟩ := cGd_end (T := A 0) (n := I 3) (s := (f_23, k_24, a_25)) hT ⟨by show -1 ≤ f_23 ∧ f_23 ≤ 240; omega, by show 0 ≤ k_24 ∧ k_24 ≤ 3; omega, by show 0 ≤ a_25 ∧ a_25 ≤ 240; omega⟩
    rw [ef_27] at g_301
    rw [ek_28] at g_302
    rw [ea_29] at g_303
    have hfin : cV (A 0) (I 3) (f, 0, a + 1) = (f_27, k_28, a_29) := by subst_vars; rfl
    refine lv_aload_n F.1 F.2.1 dX4_readVillage_77 rfl (lv_at hl 5 rfl) ?_
    refine x_get (v := .int (iI k_28)) F hin4 hw 1 4 rfl rfl 3 (by decide) (by decide +kernel) rfl rfl dX4_readVillage_78 ?_
    refine bi_if_ne (tgt := 105) F dX4_readVillage_81 (by decide) (by omega) (fun c_31 => ?_) (fun c_31 => ?_)
    · exact hret _ _ _ _ _ (xW_j (by rw [if_pos (by omega), hfin]) (by rw [if_pos (by omega), hfin]) (by rw [if_pos (by omega), hfin]) (rfl) (by rw [hfin]; first | (rw [if_pos ⟨by omega, (show k_28 = 0 by omega)⟩]; first | rfl | (rw [← ec6]; done)) | (rw [if_neg (fun hq => (show ¬ k_28 = 0 by omega) hq.2)]; done)) (rfl) (rfl) (by rw [hfin]; first | (rw [if_pos ⟨by omega, (show k_28 = 0 by omega)⟩]; subst_vars; rfl) | (rw [if_neg (fun hq => (show ¬ k_28 = 0 by omega) hq.2)]; done))) hw dX4_readVillage_105
    · refine lv_aload_n F.1 F.2.1 dX4_readVillage_84 rfl (lv_at hl 5 rfl) ?_
      refine x_get (v := .ref (eO E 2)) F hin4 hw 1 4 rfl rfl 0 (by decide) (by decide +kernel) rfl rfl dX4_readVillage_85 ?_
      refine lv_iload_n F.1 F.2.1 dX4_readVillage_88 rfl (lv_at hl 4 rfl) ?_
      refine bi_iconst F dX4_readVillage_89 ?_
      refine lv_iload_n F.1 F.2.1 dX4_readVillage_90 rfl (lv_at hl 3 rfl) ?_
      refine lv_iload_n F.1 F.2.1 dX4_readVillage_91 rfl (lv_at hl 2 rfl) ?_
      refine lv_iload F.1 F.2.1 dX4_readVillage_92 (lv_at hl 1 rfl) ?_
      refine calls_N0 (As := [.int (iI v7), .int (iI v12), .int (iI v17)]) (rest := [.int (iI 1), .int (iI v2), .ref (eO E 2)]) F (x4_middle l E v7 v12 v17 (by omega) (by omega) (by omega)) (va_cwS 3 F.2.2.2.2 gX4_readVillage_X4_middle rfl rfl rfl (by decide +kernel) ⟨(Nat.le_of_ble_eq_true rfl), (Nat.le_of_ble_eq_true rfl)⟩) hw rfl hl.1 rfl (Nat.le_of_ble_eq_true rfl) dX4_readVillage_94 ⟨Nat.zero_le _, Nat.zero_le _⟩ (fun H locs hw => ?_)
      have f_32 := cMid_r v7 v12 v17
      refine bi_max F hl.1 (by decide +kernel) (by decide +kernel) (by decide +kernel) (by decide +kernel) (Nat.le_of_ble_eq_true rfl) (Nat.le_of_ble_eq_true rfl) (Nat.zero_le _) (Nat.zero_le _) (by omega) dX4_readVillage_97 ?_
      have f_33 := iMx_r 1 (cMid v7 v12 v17)
      refine lv_iload F.1 F.2.1 dX4_readVillage_100 (lv_at hl 0 rfl) ?_
      refine call_G (As := [.int (iI v2), .int (iI (iMx 1 (cMid v7 v12 v17))), .int (iI v22)]) (rest := []) F (y_addVillage l E I A L f_27 k_28 a_29 c5 c6 c7 c8 v2 (iMx 1 (cMid v7 v12 v17)) v22 (by omega)) (cwV 3 F.2.2.2.2 gX4_readVillage_X7_addVillage rfl rfl rfl (by decide +kernel) ⟨(Nat.le_of_ble_eq_true rfl), (Nat.le_of_ble_eq_true rfl)⟩) hw (x_recv hw 2 7 rfl rfl) rfl hl.1 rfl (Nat.le_of_ble_eq_true rfl) dX4_readVillage_102 ⟨Nat.zero_le _, Nat.zero_le _⟩ (fun H locs hw => ?_)
      generalize ec6_34 : (c6 + 1) = c6_34 at hw
      generalize eA35 : (st2 (st2 (st2 A 2 c6 v2) 3 c6 (v2 + (iMx 1 (cMid v7 v12 v17)))) 4 c6 v22) = A35 at hw
      exact hret _ _ _ _ _ (xW_j (by rw [if_pos (by omega), hfin]) (by rw [if_pos (by omega), hfin]) (by rw [if_pos (by omega), hfin]) (rfl) (by rw [hfin]; first | (rw [if_pos ⟨by omega, (show k_28 = 0 by omega)⟩]; first | rfl | (rw [← ec6_34]; done)) | (rw [if_neg (fun hq => (show ¬ k_28 = 0 by omega) hq.2)]; done)) (rfl) (rfl) (by rw [hfin]; first | (rw [if_pos ⟨by omega, (show k_28 = 0 by omega)⟩]; subst_vars; rfl) | (rw [if_neg (fun hq => (show ¬ k_28 = 0 by omega) hq.2)]; done))) hw dX4_readVillage_105
  · refine lv_aload_n F.1 F.2.1 dX4_readVillage_11 rfl (lv_at hl 0 rfl) ?_
    refine bi_iconst F dX4_readVillage_12 ?_
    refine lv_aload_n F.1 F.2.1 dX4_readVillage_13 rfl (lv_at hl 0 rfl) ?_
    refine x_get (v := .int (iI a)) F hin4 hw 1 4 rfl rfl 5 (by decide) (by decide +kernel) rfl rfl dX4_readVillage_14 ?_
    refine call_G (As := [.int (iI 3), .int (iI a)]) (rest := []) F (y_fail l E I A L f k a c5 c6 c7 c8 3 a (by omega)) (cwV 2 F.2.2.2.2 gX4_readVillage_X4_fail rfl rfl rfl (by decide +kernel) ⟨(Nat.le_of_ble_eq_true rfl), (Nat.le_of_ble_eq_true rfl)⟩) hw (x_recv hw 1 4 rfl rfl) rfl hl.1 rfl (Nat.le_of_ble_eq_true rfl) dX4_readVillage_17 ⟨Nat.zero_le _, Nat.zero_le _⟩ (fun H locs hw => ?_)
    generalize ef_36 : (if k = 0 then a else f) = f_36 at hw
    generalize ek_37 : (if k = 0 then 3 else k) = k_37 at hw
    exact hret _ _ _ _ _ (xW_j (by rw [if_neg (by omega), ← ef_36, if_pos hk0]) (by rw [if_neg (by omega), ← ek_37, if_pos hk0]) (by rw [if_neg (by omega)]) (rfl) (by rw [if_neg (by omega)]) (rfl) (rfl) (by rw [if_neg (by omega)])) hw dX4_readVillage_20
set_option maxRecDepth 100000 in
set_option maxHeartbeats 4000000 in
theorem y_readPerson (l : Launch) (E : Ev) (I : Nat → Int) (A : Nat → Int → Int) (L : Nat → Int64) (f k a c5 c6 c7 c8 : Int) (hT : 0 ≤ I 3 ∧ I 3 ≤ 240) (hl0 : ∀ k, 0 ≤ A 0 k ∧ A 0 k ≤ 255) (hff0 : -1 ≤ f ∧ f ≤ 240) (hkk : 0 ≤ k ∧ k ≤ 3) (haa : 0 ≤ a ∧ a ≤ 240) (hk0 : k = 0) (ha2 : a < I 3) (hc5 : 0 ≤ c5 ∧ c5 ≤ 20) (hc6 : 0 ≤ c6 ∧ c6 ≤ 4) (hc7 : 0 ≤ c7 ∧ c7 ≤ 6) (hc8 : 0 ≤ c8 ∧ c8 ≤ 5) : MetG l yX4_readPerson wsX4_readPerson ({ frames := 2, cells := 0, slots := 0, locals := 47 } : Room) E [.ref (eO E 1)] (xW E (jX I f k a c5 c6 c7 c8) A L) (xW E (jX I (if c7 < 6 then (cP (A 0) (I 3) 0 c6 (f, 0, a + 1)).1 else a) (if c7 < 6 then (cP (A 0) (I 3) 0 c6 (f, 0, a + 1)).2.1 else 3) (if c7 < 6 then (cP (A 0) (I 3) 0 c6 (f, 0, a + 1)).2.2 else a) c5 c6 (if c7 < 6 ∧ (cP (A 0) (I 3) 0 c6 (f, 0, a + 1)).2.1 = 0 then c7 + 1 else c7) c8) (if c7 < 6 ∧ (cP (A 0) (I 3) 0 c6 (f, 0, a + 1)).2.1 = 0 then cPA (A 0) (I 3) c6 5 c7 (f, 0, a + 1) A else A) L) := by
  have hin4 : ∀ w ∈ wsX40, w ∈ wsX4_readPerson := by decide +kernel
  have hin7 : ∀ w ∈ wsX70, w ∈ wsX4_readPerson := by decide +kernel
  refine met_G (cc := cX4_readPerson) (nL := 3) (by decide) rfl (Nat.le_of_ble_eq_true rfl) ?_
  intro p e s m args below meth c Q H0 A0 H locs ls F hw hl hret
  have F : CallFix p m c cX4_readPerson 3 s args wsX4_readPerson RX4 := F
  have hl : lv_has ls 3 [(0, .ref (eO E 1))] := hl
  refine lv_aload_n F.1 F.2.1 dX4_readPerson_0 rfl (lv_at hl 0 rfl) ?_
  refine x_get (v := .ref (eO E 2)) F hin4 hw 1 4 rfl rfl 0 (by decide) (by decide +kernel) rfl rfl dX4_readPerson_1 ?_
  refine x_get (v := .int (iI c7)) F hin7 hw 2 7 rfl rfl 10 (by decide) (by decide +kernel) rfl rfl dX4_readPerson_4 ?_
  refine bi_bipush F dX4_readPerson_7 (by decide) ?_
  refine bi_icmp_lt (tgt := 22) F dX4_readPerson_9 (by decide) (by omega) (fun c_1 => ?_) (fun c_1 => ?_)
  · refine lv_aload_n F.1 F.2.1 dX4_readPerson_22 rfl (lv_at hl 0 rfl) ?_
    refine lv_dup F.1 F.2.1 dX4_readPerson_23 rfl ?_
    refine x_get (v := .int (iI a)) F hin4 hw 1 4 rfl rfl 5 (by decide) (by decide +kernel) rfl rfl dX4_readPerson_24 ?_
    refine bi_iconst F dX4_readPerson_27 ?_
    refine bi_iadd F dX4_readPerson_28 ?_
    refine x_put (I2 := jX I f k (a + 1) c5 c6 c7 c8) F hin4 tyX4 tyX4_ok nmX4 hw 1 4 rfl rfl 5 (by decide) (by decide +kernel) rfl rfl (by decide +kernel) (Nat.le_of_ble_eq_true rfl) rfl (by decide) dX4_readPerson_29 (fun H locs hw => ?_)
    refine lv_aload_n F.1 F.2.1 dX4_readPerson_32 rfl (lv_at hl 0 rfl) ?_
    refine bi_iconst F dX4_readPerson_33 ?_
    refine lv_aload_n F.1 F.2.1 dX4_readPerson_34 rfl (lv_at hl 0 rfl) ?_
    refine x_get (v := .ref (eO E 2)) F hin4 hw 1 4 rfl rfl 0 (by decide) (by decide +kernel) rfl rfl dX4_readPerson_35 ?_
    refine x_get (v := .int (iI c6)) F hin7 hw 2 7 rfl rfl 9 (by decide) (by decide +kernel) rfl rfl dX4_readPerson_38 ?_
    refine bi_iconst F dX4_readPerson_41 ?_
    refine bi_isub F dX4_readPerson_42 ?_
    refine call_F (As := [.int (iI 0), .int (iI (c6 - 1))]) (rest := []) F (y_readNumber l E I A L f k (a + 1) c5 c6 c7 c8 0 (c6 - 1) (by omega) hl0 (by omega) (by omega) (by omega) (by omega) (by omega)) (cwV 2 F.2.2.2.2 gX4_readPerson_X4_readNumber rfl rfl rfl (by decide +kernel) ⟨(Nat.le_of_ble_eq_true rfl), (Nat.le_of_ble_eq_true rfl)⟩) hw (x_recv hw 1 4 rfl rfl) rfl hl.1 rfl (Nat.le_of_ble_eq_true rfl) dX4_readPerson_43 ⟨Nat.zero_le _, Nat.zero_le _⟩ (fun H locs hw => ?_)
    generalize ev2 : cNv (A 0) (I 3) (f, k, (a + 1)) = v2
    have fvv2 : 0 ≤ v2 ∧ v2 ≤ 999 := by rw [← ev2]; exact pNumV_r
    generalize ef_3 : ((cNum (A 0) (I 3) 0 (c6 - 1) (f, k, (a + 1))).1) = f_3 at hw
    generalize ek_4 : ((cNum (A 0) (I 3) 0 (c6 - 1) (f, k, (a + 1))).2.1) = k_4 at hw
    generalize ea_5 : ((cNum (A 0) (I 3) 0 (c6 - 1) (f, k, (a + 1))).2.2) = a_5 at hw
    obtain ⟨g_61, g_62, g_63⟩ := cGd_num (T := A 0) (n := I 3) (lo := 0) (hi := c6 - 1) (s := (f, k, a + 1)) hT ⟨by show -1 ≤ f ∧ f ≤ 240; omega, by show 0 ≤ k ∧ k ≤ 3; omega, by show 0 ≤ a + 1 ∧ a + 1 ≤ 240; omega⟩
    rw [ef_3] at g_61
    rw [ek_4] at g_62
    rw [ea_5] at g_63
    refine lv_istore_n (lv' := [(1, .int (iI v2)), (0, .ref (eO E 1))]) F.1 F.2.1 dX4_readPerson_46 rfl hl (by decide) rfl (fun ls hl => ?_)
    refine lv_aload_n F.1 F.2.1 dX4_readPerson_47 rfl (lv_at hl 1 rfl) ?_
    refine bi_iconst F dX4_readPerson_48 ?_
    refine bi_sipush F dX4_readPerson_49 (by decide) ?_
    refine call_F (As := [.int (iI 0), .int (iI 999)]) (rest := []) F (y_readNumber l E I A L f_3 k_4 a_5 c5 c6 c7 c8 0 999 (by omega) hl0 (by omega) (by omega) (by omega) (by omega) (by omega)) (cwV 2 F.2.2.2.2 gX4_readPerson_X4_readNumber rfl rfl rfl (by decide +kernel) ⟨(Nat.le_of_ble_eq_true rfl), (Nat.le_of_ble_eq_true rfl)⟩) hw (x_recv hw 1 4 rfl rfl) rfl hl.1 rfl (Nat.le_of_ble_eq_true rfl) dX4_readPerson_52 ⟨Nat.zero_le _, Nat.zero_le _⟩ (fun H locs hw => ?_)
    generalize ev7 : cNv (A 0) (I 3) (f_3, k_4, a_5) = v7
    have fvv7 : 0 ≤ v7 ∧ v7 ≤ 999 := by rw [← ev7]; exact pNumV_r
    generalize ef_8 : ((cNum (A 0) (I 3) 0 999 (f_3, k_4, a_5)).1) = f_8 at hw
    generalize ek_9 : ((cNum (A 0) (I 3) 0 999 (f_3, k_4, a_5)).2.1) = k_9 at hw
    generalize ea_10 : ((cNum (A 0) (I 3) 0 999 (f_3, k_4, a_5)).2.2) = a_10 at hw
    obtain ⟨g_111, g_112, g_113⟩ := cGd_num (T := A 0) (n := I 3) (lo := 0) (hi := 999) (s := (f_3, k_4, a_5)) hT ⟨by show -1 ≤ f_3 ∧ f_3 ≤ 240; omega, by show 0 ≤ k_4 ∧ k_4 ≤ 3; omega, by show 0 ≤ a_5 ∧ a_5 ≤ 240; omega⟩
    rw [ef_8] at g_111
    rw [ek_9] at g_112
    rw [ea_10] at g_113
    refine lv_istore_n (lv' := [(2, .int (iI v7)), (1, .int (iI v2)), (0, .ref (eO E 1))]) F.1 F.2.1 dX4_readPerson_55 rfl hl (by decide) rfl (fun ls hl => ?_)
    refine lv_aload_n F.1 F.2.1 dX4_readPerson_56 rfl (lv_at hl 2 rfl) ?_
    refine call_G (As := []) (rest := []) F (y_readEnd l E I A L f_8 k_9 a_10 c5 c6 c7 c8  (by omega) hl0 (by omega) (by omega) (by omega)) (cwV 0 F.2.2.2.2 gX4_readPerson_X4_readEnd rfl rfl rfl (by decide +kernel) ⟨(Nat.le_of_ble_eq_true rfl), (Nat.le_of_ble_eq_true rfl)⟩) hw (x_recv hw 1 4 rfl rfl) rfl hl.1 rfl (Nat.le_of_ble_eq_true rfl) dX4_readPerson_57 ⟨Nat.zero_le _, Nat.zero_le _⟩ (fun H locs hw => ?_)
    generalize ef_12 : ((cEnd (A 0) (I 3) (f_8, k_9, a_10)).1) = f_12 at hw
    generalize ek_13 : ((cEnd (A 0) (I 3) (f_8, k_9, a_10)).2.1) = k_13 at hw
    generalize ea_14 : ((cEnd (A 0) (I 3) (f_8, k_9, a_10)).2.2) = a_14 at hw
    obtain ⟨g_151, g_152, g_153⟩ := cGd_end (T := A 0) (n := I 3) (s := (f_8, k_9, a_10)) hT ⟨by show -1 ≤ f_8 ∧ f_8 ≤ 240; omega, by show 0 ≤ k_9 ∧ k_9 ≤ 3; omega, by show 0 ≤ a_10 ∧ a_10 ≤ 240; omega⟩
    rw [ef_12] at g_151
    rw [ek_13] at g_152
    rw [ea_14] at g_153
    have hfin : cP (A 0) (I 3) 0 c6 (f, 0, a + 1) = (f_12, k_13, a_14) := by subst_vars; rfl
    refine lv_aload_n F.1 F.2.1 dX4_readPerson_60 rfl (lv_at hl 2 rfl) ?_
    refine x_get (v := .int (iI k_13)) F hin4 hw 1 4 rfl rfl 3 (by decide) (by decide +kernel) rfl rfl dX4_readPerson_61 ?_
    refine bi_if_ne (tgt := 76) F dX4_readPerson_64 (by decide) (by omega) (fun c_16 => ?_) (fun c_16 => ?_)
    · exact hret _ _ _ _ _ (xW_j (by rw [if_pos (by omega), hfin]) (by rw [if_pos (by omega), hfin]) (by rw [if_pos (by omega), hfin]) (rfl) (rfl) (by rw [hfin]; first | (rw [if_pos ⟨by omega, (show k_13 = 0 by omega)⟩]; first | rfl | (rw [← ec7]; done)) | (rw [if_neg (fun hq => (show ¬ k_13 = 0 by omega) hq.2)]; done)) (rfl) (by rw [hfin]; first | (rw [if_pos ⟨by omega, (show k_13 = 0 by omega)⟩]; subst_vars; rfl) | (rw [if_neg (fun hq => (show ¬ k_13 = 0 by omega) hq.2)]; done))) hw dX4_readPerson_76
    · refine lv_aload_n F.1 F.2.1 dX4_readPerson_67 rfl (lv_at hl 2 rfl) ?_
      refine x_get (v := .ref (eO E 2)) F hin4 hw 1 4 rfl rfl 0 (by decide) (by decide +kernel) rfl rfl dX4_readPerson_68 ?_
      refine lv_iload_n F.1 F.2.1 dX4_readPerson_71 rfl (lv_at hl 1 rfl) ?_
      refine lv_iload_n F.1 F.2.1 dX4_readPerson_72 rfl (lv_at hl 0 rfl) ?_
      refine call_G (As := [.int (iI v2), .int (iI v7)]) (rest := []) F (y_addPerson l E I A L f_12 k_13 a_14 c5 c6 c7 c8 v2 v7 (by omega)) (cwV 2 F.2.2.2.2 gX4_readPerson_X7_addPerson rfl rfl rfl (by decide +kernel) ⟨(Nat.le_of_ble_eq_true rfl), (Nat.le_of_ble_eq_true rfl)⟩) hw (x_recv hw 2 7 rfl rfl) rfl hl.1 rfl (Nat.le_of_ble_eq_true rfl) dX4_readPerson_73 ⟨Nat.zero_le _, Nat.zero_le _⟩ (fun H locs hw => ?_)
      generalize ec7_17 : (c7 + 1) = c7_17 at hw
      generalize eA18 : (st2 (st2 A 5 c7 v2) 6 c7 v7) = A18 at hw
      exact hret _ _ _ _ _ (xW_j (by rw [if_pos (by omega), hfin]) (by rw [if_pos (by omega), hfin]) (by rw [if_pos (by omega), hfin]) (rfl) (rfl) (by rw [hfin]; first | (rw [if_pos ⟨by omega, (show k_13 = 0 by omega)⟩]; first | rfl | (rw [← ec7_17]; done)) | (rw [if_neg (fun hq => (show ¬ k_13 = 0 by omega) hq.2)]; done)) (rfl) (by rw [hfin]; first | (rw [if_pos ⟨by omega, (show k_13 = 0 by omega)⟩]; subst_vars; rfl) | (rw [if_neg (fun hq => (show ¬ k_13 = 0 by omega) hq.2)]; done))) hw dX4_readPerson_76
  · refine lv_aload_n F.1 F.2.1 dX4_readPerson_12 rfl (lv_at hl 0 rfl) ?_
    refine bi_iconst F dX4_readPerson_13 ?_
    refine lv_aload_n F.1 F.2.1 dX4_readPerson_14 rfl (lv_at hl 0 rfl) ?_
    refine x_get (v := .int (iI a)) F hin4 hw 1 4 rfl rfl 5 (by decide) (by decide +kernel) rfl rfl dX4_readPerson_15 ?_
    refine call_G (As := [.int (iI 3), .int (iI a)]) (rest := []) F (y_fail l E I A L f k a c5 c6 c7 c8 3 a (by omega)) (cwV 2 F.2.2.2.2 gX4_readPerson_X4_fail rfl rfl rfl (by decide +kernel) ⟨(Nat.le_of_ble_eq_true rfl), (Nat.le_of_ble_eq_true rfl)⟩) hw (x_recv hw 1 4 rfl rfl) rfl hl.1 rfl (Nat.le_of_ble_eq_true rfl) dX4_readPerson_18 ⟨Nat.zero_le _, Nat.zero_le _⟩ (fun H locs hw => ?_)
    generalize ef_19 : (if k = 0 then a else f) = f_19 at hw
    generalize ek_20 : (if k = 0 then 3 else k) = k_20 at hw
    exact hret _ _ _ _ _ (xW_j (by rw [if_neg (by omega), ← ef_19, if_pos hk0]) (by rw [if_neg (by omega), ← ek_20, if_pos hk0]) (by rw [if_neg (by omega)]) (rfl) (rfl) (by rw [if_neg (by omega)]) (rfl) (by rw [if_neg (by omega)])) hw dX4_readPerson_21
set_option maxRecDepth 100000 in
set_option maxHeartbeats 4000000 in
theorem y_readDebt (l : Launch) (E : Ev) (I : Nat → Int) (A : Nat → Int → Int) (L : Nat → Int64) (f k a c5 c6 c7 c8 : Int) (hT : 0 ≤ I 3 ∧ I 3 ≤ 240) (hl0 : ∀ k, 0 ≤ A 0 k ∧ A 0 k ≤ 255) (hff0 : -1 ≤ f ∧ f ≤ 240) (hkk : 0 ≤ k ∧ k ≤ 3) (haa : 0 ≤ a ∧ a ≤ 240) (hk0 : k = 0) (ha2 : a < I 3) (hc5 : 0 ≤ c5 ∧ c5 ≤ 20) (hc6 : 0 ≤ c6 ∧ c6 ≤ 4) (hc7 : 0 ≤ c7 ∧ c7 ≤ 6) (hc8 : 0 ≤ c8 ∧ c8 ≤ 5) : MetG l yX4_readDebt wsX4_readDebt ({ frames := 2, cells := 0, slots := 0, locals := 47 } : Room) E [.ref (eO E 1)] (xW E (jX I f k a c5 c6 c7 c8) A L) (xW E (jX I (if c8 < 5 then (cP (A 0) (I 3) 1 c6 (f, 0, a + 1)).1 else a) (if c8 < 5 then (cP (A 0) (I 3) 1 c6 (f, 0, a + 1)).2.1 else 3) (if c8 < 5 then (cP (A 0) (I 3) 1 c6 (f, 0, a + 1)).2.2 else a) c5 c6 c7 (if c8 < 5 ∧ (cP (A 0) (I 3) 1 c6 (f, 0, a + 1)).2.1 = 0 then c8 + 1 else c8)) (if c8 < 5 ∧ (cP (A 0) (I 3) 1 c6 (f, 0, a + 1)).2.1 = 0 then cPA (A 0) (I 3) c6 7 c8 (f, 0, a + 1) A else A) L) := by
  have hin4 : ∀ w ∈ wsX40, w ∈ wsX4_readDebt := by decide +kernel
  have hin7 : ∀ w ∈ wsX70, w ∈ wsX4_readDebt := by decide +kernel
  refine met_G (cc := cX4_readDebt) (nL := 3) (by decide) rfl (Nat.le_of_ble_eq_true rfl) ?_
  intro p e s m args below meth c Q H0 A0 H locs ls F hw hl hret
  have F : CallFix p m c cX4_readDebt 3 s args wsX4_readDebt RX4 := F
  have hl : lv_has ls 3 [(0, .ref (eO E 1))] := hl
  refine lv_aload_n F.1 F.2.1 dX4_readDebt_0 rfl (lv_at hl 0 rfl) ?_
  refine x_get (v := .ref (eO E 2)) F hin4 hw 1 4 rfl rfl 0 (by decide) (by decide +kernel) rfl rfl dX4_readDebt_1 ?_
  refine x_get (v := .int (iI c8)) F hin7 hw 2 7 rfl rfl 11 (by decide) (by decide +kernel) rfl rfl dX4_readDebt_4 ?_
  refine bi_iconst F dX4_readDebt_7 ?_
  refine bi_icmp_lt (tgt := 21) F dX4_readDebt_8 (by decide) (by omega) (fun c_1 => ?_) (fun c_1 => ?_)
  · refine lv_aload_n F.1 F.2.1 dX4_readDebt_21 rfl (lv_at hl 0 rfl) ?_
    refine lv_dup F.1 F.2.1 dX4_readDebt_22 rfl ?_
    refine x_get (v := .int (iI a)) F hin4 hw 1 4 rfl rfl 5 (by decide) (by decide +kernel) rfl rfl dX4_readDebt_23 ?_
    refine bi_iconst F dX4_readDebt_26 ?_
    refine bi_iadd F dX4_readDebt_27 ?_
    refine x_put (I2 := jX I f k (a + 1) c5 c6 c7 c8) F hin4 tyX4 tyX4_ok nmX4 hw 1 4 rfl rfl 5 (by decide) (by decide +kernel) rfl rfl (by decide +kernel) (Nat.le_of_ble_eq_true rfl) rfl (by decide) dX4_readDebt_28 (fun H locs hw => ?_)
    refine lv_aload_n F.1 F.2.1 dX4_readDebt_31 rfl (lv_at hl 0 rfl) ?_
    refine bi_iconst F dX4_readDebt_32 ?_
    refine lv_aload_n F.1 F.2.1 dX4_readDebt_33 rfl (lv_at hl 0 rfl) ?_
    refine x_get (v := .ref (eO E 2)) F hin4 hw 1 4 rfl rfl 0 (by decide) (by decide +kernel) rfl rfl dX4_readDebt_34 ?_
    refine x_get (v := .int (iI c6)) F hin7 hw 2 7 rfl rfl 9 (by decide) (by decide +kernel) rfl rfl dX4_readDebt_37 ?_
    refine bi_iconst F dX4_readDebt_40 ?_
    refine bi_isub F dX4_readDebt_41 ?_
    refine call_F (As := [.int (iI 0), .int (iI (c6 - 1))]) (rest := []) F (y_readNumber l E I A L f k (a + 1) c5 c6 c7 c8 0 (c6 - 1) (by omega) hl0 (by omega) (by omega) (by omega) (by omega) (by omega)) (cwV 2 F.2.2.2.2 gX4_readDebt_X4_readNumber rfl rfl rfl (by decide +kernel) ⟨(Nat.le_of_ble_eq_true rfl), (Nat.le_of_ble_eq_true rfl)⟩) hw (x_recv hw 1 4 rfl rfl) rfl hl.1 rfl (Nat.le_of_ble_eq_true rfl) dX4_readDebt_42 ⟨Nat.zero_le _, Nat.zero_le _⟩ (fun H locs hw => ?_)
    generalize ev2 : cNv (A 0) (I 3) (f, k, (a + 1)) = v2
    have fvv2 : 0 ≤ v2 ∧ v2 ≤ 999 := by rw [← ev2]; exact pNumV_r
    generalize ef_3 : ((cNum (A 0) (I 3) 0 (c6 - 1) (f, k, (a + 1))).1) = f_3 at hw
    generalize ek_4 : ((cNum (A 0) (I 3) 0 (c6 - 1) (f, k, (a + 1))).2.1) = k_4 at hw
    generalize ea_5 : ((cNum (A 0) (I 3) 0 (c6 - 1) (f, k, (a + 1))).2.2) = a_5 at hw
    obtain ⟨g_61, g_62, g_63⟩ := cGd_num (T := A 0) (n := I 3) (lo := 0) (hi := c6 - 1) (s := (f, k, a + 1)) hT ⟨by show -1 ≤ f ∧ f ≤ 240; omega, by show 0 ≤ k ∧ k ≤ 3; omega, by show 0 ≤ a + 1 ∧ a + 1 ≤ 240; omega⟩
    rw [ef_3] at g_61
    rw [ek_4] at g_62
    rw [ea_5] at g_63
    refine lv_istore_n (lv' := [(1, .int (iI v2)), (0, .ref (eO E 1))]) F.1 F.2.1 dX4_readDebt_45 rfl hl (by decide) rfl (fun ls hl => ?_)
    refine lv_aload_n F.1 F.2.1 dX4_readDebt_46 rfl (lv_at hl 1 rfl) ?_
    refine bi_iconst F dX4_readDebt_47 ?_
    refine bi_sipush F dX4_readDebt_48 (by decide) ?_
    refine call_F (As := [.int (iI 1), .int (iI 999)]) (rest := []) F (y_readNumber l E I A L f_3 k_4 a_5 c5 c6 c7 c8 1 999 (by omega) hl0 (by omega) (by omega) (by omega) (by omega) (by omega)) (cwV 2 F.2.2.2.2 gX4_readDebt_X4_readNumber rfl rfl rfl (by decide +kernel) ⟨(Nat.le_of_ble_eq_true rfl), (Nat.le_of_ble_eq_true rfl)⟩) hw (x_recv hw 1 4 rfl rfl) rfl hl.1 rfl (Nat.le_of_ble_eq_true rfl) dX4_readDebt_51 ⟨Nat.zero_le _, Nat.zero_le _⟩ (fun H locs hw => ?_)
    generalize ev7 : cNv (A 0) (I 3) (f_3, k_4, a_5) = v7
    have fvv7 : 0 ≤ v7 ∧ v7 ≤ 999 := by rw [← ev7]; exact pNumV_r
    generalize ef_8 : ((cNum (A 0) (I 3) 1 999 (f_3, k_4, a_5)).1) = f_8 at hw
    generalize ek_9 : ((cNum (A 0) (I 3) 1 999 (f_3, k_4, a_5)).2.1) = k_9 at hw
    generalize ea_10 : ((cNum (A 0) (I 3) 1 999 (f_3, k_4, a_5)).2.2) = a_10 at hw
    obtain ⟨g_111, g_112, g_113⟩ := cGd_num (T := A 0) (n := I 3) (lo := 1) (hi := 999) (s := (f_3, k_4, a_5)) hT ⟨by show -1 ≤ f_3 ∧ f_3 ≤ 240; omega, by show 0 ≤ k_4 ∧ k_4 ≤ 3; omega, by show 0 ≤ a_5 ∧ a_5 ≤ 240; omega⟩
    rw [ef_8] at g_111
    rw [ek_9] at g_112
    rw [ea_10] at g_113
    refine lv_istore_n (lv' := [(2, .int (iI v7)), (1, .int (iI v2)), (0, .ref (eO E 1))]) F.1 F.2.1 dX4_readDebt_54 rfl hl (by decide) rfl (fun ls hl => ?_)
    refine lv_aload_n F.1 F.2.1 dX4_readDebt_55 rfl (lv_at hl 2 rfl) ?_
    refine call_G (As := []) (rest := []) F (y_readEnd l E I A L f_8 k_9 a_10 c5 c6 c7 c8  (by omega) hl0 (by omega) (by omega) (by omega)) (cwV 0 F.2.2.2.2 gX4_readDebt_X4_readEnd rfl rfl rfl (by decide +kernel) ⟨(Nat.le_of_ble_eq_true rfl), (Nat.le_of_ble_eq_true rfl)⟩) hw (x_recv hw 1 4 rfl rfl) rfl hl.1 rfl (Nat.le_of_ble_eq_true rfl) dX4_readDebt_56 ⟨Nat.zero_le _, Nat.zero_le _⟩ (fun H locs hw => ?_)
    generalize ef_12 : ((cEnd (A 0) (I 3) (f_8, k_9, a_10)).1) = f_12 at hw
    generalize ek_13 : ((cEnd (A 0) (I 3) (f_8, k_9, a_10)).2.1) = k_13 at hw
    generalize ea_14 : ((cEnd (A 0) (I 3) (f_8, k_9, a_10)).2.2) = a_14 at hw
    obtain ⟨g_151, g_152, g_153⟩ := cGd_end (T := A 0) (n := I 3) (s := (f_8, k_9, a_10)) hT ⟨by show -1 ≤ f_8 ∧ f_8 ≤ 240; omega, by show 0 ≤ k_9 ∧ k_9 ≤ 3; omega, by show 0 ≤ a_10 ∧ a_10 ≤ 240; omega⟩
    rw [ef_12] at g_151
    rw [ek_13] at g_152
    rw [ea_14] at g_153
    have hfin : cP (A 0) (I 3) 1 c6 (f, 0, a + 1) = (f_12, k_13, a_14) := by subst_vars; rfl
    refine lv_aload_n F.1 F.2.1 dX4_readDebt_59 rfl (lv_at hl 2 rfl) ?_
    refine x_get (v := .int (iI k_13)) F hin4 hw 1 4 rfl rfl 3 (by decide) (by decide +kernel) rfl rfl dX4_readDebt_60 ?_
    refine bi_if_ne (tgt := 75) F dX4_readDebt_63 (by decide) (by omega) (fun c_16 => ?_) (fun c_16 => ?_)
    · exact hret _ _ _ _ _ (xW_j (by rw [if_pos (by omega), hfin]) (by rw [if_pos (by omega), hfin]) (by rw [if_pos (by omega), hfin]) (rfl) (rfl) (rfl) (by rw [hfin]; first | (rw [if_pos ⟨by omega, (show k_13 = 0 by omega)⟩]; first | rfl | (rw [← ec8]; done)) | (rw [if_neg (fun hq => (show ¬ k_13 = 0 by omega) hq.2)]; done)) (by rw [hfin]; first | (rw [if_pos ⟨by omega, (show k_13 = 0 by omega)⟩]; subst_vars; rfl) | (rw [if_neg (fun hq => (show ¬ k_13 = 0 by omega) hq.2)]; done))) hw dX4_readDebt_75
    · refine lv_aload_n F.1 F.2.1 dX4_readDebt_66 rfl (lv_at hl 2 rfl) ?_
      refine x_get (v := .ref (eO E 2)) F hin4 hw 1 4 rfl rfl 0 (by decide) (by decide +kernel) rfl rfl dX4_readDebt_67 ?_
      refine lv_iload_n F.1 F.2.1 dX4_readDebt_70 rfl (lv_at hl 1 rfl) ?_
      refine lv_iload_n F.1 F.2.1 dX4_readDebt_71 rfl (lv_at hl 0 rfl) ?_
      refine call_G (As := [.int (iI v2), .int (iI v7)]) (rest := []) F (y_addDebt l E I A L f_12 k_13 a_14 c5 c6 c7 c8 v2 v7 (by omega)) (cwV 2 F.2.2.2.2 gX4_readDebt_X7_addDebt rfl rfl rfl (by decide +kernel) ⟨(Nat.le_of_ble_eq_true rfl), (Nat.le_of_ble_eq_true rfl)⟩) hw (x_recv hw 2 7 rfl rfl) rfl hl.1 rfl (Nat.le_of_ble_eq_true rfl) dX4_readDebt_72 ⟨Nat.zero_le _, Nat.zero_le _⟩ (fun H locs hw => ?_)
      generalize ec8_17 : (c8 + 1) = c8_17 at hw
      generalize eA18 : (st2 (st2 A 7 c8 v2) 8 c8 v7) = A18 at hw
      exact hret _ _ _ _ _ (xW_j (by rw [if_pos (by omega), hfin]) (by rw [if_pos (by omega), hfin]) (by rw [if_pos (by omega), hfin]) (rfl) (rfl) (rfl) (by rw [hfin]; first | (rw [if_pos ⟨by omega, (show k_13 = 0 by omega)⟩]; first | rfl | (rw [← ec8_17]; done)) | (rw [if_neg (fun hq => (show ¬ k_13 = 0 by omega) hq.2)]; done)) (by rw [hfin]; first | (rw [if_pos ⟨by omega, (show k_13 = 0 by omega)⟩]; subst_vars; rfl) | (rw [if_neg (fun hq => (show ¬ k_13 = 0 by omega) hq.2)]; done))) hw dX4_readDebt_75
  · refine lv_aload_n F.1 F.2.1 dX4_readDebt_11 rfl (lv_at hl 0 rfl) ?_
    refine bi_iconst F dX4_readDebt_12 ?_
    refine lv_aload_n F.1 F.2.1 dX4_readDebt_13 rfl (lv_at hl 0 rfl) ?_
    refine x_get (v := .int (iI a)) F hin4 hw 1 4 rfl rfl 5 (by decide) (by decide +kernel) rfl rfl dX4_readDebt_14 ?_
    refine call_G (As := [.int (iI 3), .int (iI a)]) (rest := []) F (y_fail l E I A L f k a c5 c6 c7 c8 3 a (by omega)) (cwV 2 F.2.2.2.2 gX4_readDebt_X4_fail rfl rfl rfl (by decide +kernel) ⟨(Nat.le_of_ble_eq_true rfl), (Nat.le_of_ble_eq_true rfl)⟩) hw (x_recv hw 1 4 rfl rfl) rfl hl.1 rfl (Nat.le_of_ble_eq_true rfl) dX4_readDebt_17 ⟨Nat.zero_le _, Nat.zero_le _⟩ (fun H locs hw => ?_)
    generalize ef_19 : (if k = 0 then a else f) = f_19 at hw
    generalize ek_20 : (if k = 0 then 3 else k) = k_20 at hw
    exact hret _ _ _ _ _ (xW_j (by rw [if_neg (by omega), ← ef_19, if_pos hk0]) (by rw [if_neg (by omega), ← ek_20, if_pos hk0]) (by rw [if_neg (by omega)]) (rfl) (rfl) (rfl) (by rw [if_neg (by omega)]) (by rw [if_neg (by omega)])) hw dX4_readDebt_20
