set_option maxRecDepth 100000 in
set_option maxHeartbeats 4000000 in
theorem x9_isOut (l : Launch) (E : Ev) (x : Int) (lo : Int) (hi : Int) (hx : -2147483648 ≤ x ∧ x ≤ 2147483647) (hlo : -2147483648 ≤ lo ∧ lo ≤ 2147483647) (hhi : -2147483648 ≤ hi ∧ hi ≤ 2147483647) : MetP l yX9_isOut wsX9_isOut ({ frames := 0, cells := 0, slots := 0, locals := 0 } : Room) E [.int (iI x), .int (iI lo), .int (iI hi)] ([]) (x < lo ∨ hi < x) := by
  refine met_P (cc := cX9_isOut) (nL := 3) (by decide) rfl (Nat.le_of_ble_eq_true rfl) ?_
  intro p e s m args below meth c Q H0 A0 H locs ls F hw hl hret
  have F : CallFix p m c cX9_isOut 3 s args wsX9_isOut RX9 := F
  have hl : lv_has ls 3 [(0, .int (iI x)), (1, .int (iI lo)), (2, .int (iI hi))] := hl
  refine lv_iload_n F.1 F.2.1 dX9_isOut_0 rfl (lv_at hl 0 rfl) ?_
  refine lv_iload_n F.1 F.2.1 dX9_isOut_1 rfl (lv_at hl 1 rfl) ?_
  refine bi_icmp_lt (tgt := 10) F dX9_isOut_2 (by decide) (by omega) (fun c_1 => ?_) (fun c_1 => ?_)
  · refine bi_iconst F dX9_isOut_10 ?_
    refine lv_goto (tgt := 15) F.1 F.2.1 dX9_isOut_11 (by decide) ?_
    exact hret _ _ _ _ _ (Or.inl ⟨rfl, by omega⟩) hw dX9_isOut_15
  · refine lv_iload_n F.1 F.2.1 dX9_isOut_5 rfl (lv_at hl 0 rfl) ?_
    refine lv_iload_n F.1 F.2.1 dX9_isOut_6 rfl (lv_at hl 2 rfl) ?_
    refine bi_icmp_le (tgt := 14) F dX9_isOut_7 (by decide) (by omega) (fun c_2 => ?_) (fun c_2 => ?_)
    · refine bi_iconst F dX9_isOut_14 ?_
      exact hret _ _ _ _ _ (Or.inr ⟨rfl, by omega⟩) hw dX9_isOut_15
    · refine bi_iconst F dX9_isOut_10 ?_
      refine lv_goto (tgt := 15) F.1 F.2.1 dX9_isOut_11 (by decide) ?_
      exact hret _ _ _ _ _ (Or.inl ⟨rfl, by omega⟩) hw dX9_isOut_15
set_option maxRecDepth 100000 in
set_option maxHeartbeats 4000000 in
theorem x7_isThere (l : Launch) (E : Ev) (I : Nat → Int) (A : Nat → Int → Int) (L : Nat → Int64) (hnn : 0 ≤ I 9 ∧ I 9 ≤ 20) : MetP l yX7_isThere wsX7_isThere ({ frames := 0, cells := 0, slots := 0, locals := 0 } : Room) E [.ref (eO E 3)] (xW E I A L) (0 < I 9) := by
  have hin7 : ∀ w ∈ wsX70, w ∈ wsX7_isThere := by decide +kernel
  refine met_P (cc := cX7_isThere) (nL := 1) (by decide) rfl (Nat.le_of_ble_eq_true rfl) ?_
  intro p e s m args below meth c Q H0 A0 H locs ls F hw hl hret
  have F : CallFix p m c cX7_isThere 1 s args wsX7_isThere RX7 := F
  have hl : lv_has ls 1 [(0, .ref (eO E 3))] := hl
  refine lv_aload_n F.1 F.2.1 dX7_isThere_0 rfl (lv_at hl 0 rfl) ?_
  refine x_get F hin7 hw 3 7 rfl rfl 8 (by decide) (by decide +kernel) rfl rfl dX7_isThere_1 ?_
  refine bi_if_le (tgt := 11) F dX7_isThere_4 (by decide) (by omega) (fun c_1 => ?_) (fun c_1 => ?_)
  · refine bi_iconst F dX7_isThere_11 ?_
    exact hret _ _ _ _ _ (Or.inr ⟨rfl, by omega⟩) hw dX7_isThere_12
  · refine bi_iconst F dX7_isThere_7 ?_
    refine lv_goto (tgt := 12) F.1 F.2.1 dX7_isThere_8 (by decide) ?_
    exact hret _ _ _ _ _ (Or.inl ⟨rfl, by omega⟩) hw dX7_isThere_12
set_option maxRecDepth 100000 in
set_option maxHeartbeats 4000000 in
theorem x7_hasVillage (l : Launch) (E : Ev) (I : Nat → Int) (A : Nat → Int → Int) (L : Nat → Int64) (v : Int) (hv : -2147483648 ≤ v ∧ v ≤ 2147483647) (hnv : 0 ≤ I 10 ∧ I 10 ≤ 4) : MetP l yX7_hasVillage wsX7_hasVillage ({ frames := 0, cells := 0, slots := 0, locals := 0 } : Room) E [.ref (eO E 3), .int (iI v)] (xW E I A L) (0 ≤ v ∧ v < I 10) := by
  have hin7 : ∀ w ∈ wsX70, w ∈ wsX7_hasVillage := by decide +kernel
  refine met_P (cc := cX7_hasVillage) (nL := 2) (by decide) rfl (Nat.le_of_ble_eq_true rfl) ?_
  intro p e s m args below meth c Q H0 A0 H locs ls F hw hl hret
  have F : CallFix p m c cX7_hasVillage 2 s args wsX7_hasVillage RX7 := F
  have hl : lv_has ls 2 [(0, .ref (eO E 3)), (1, .int (iI v))] := hl
  refine lv_iload_n F.1 F.2.1 dX7_hasVillage_0 rfl (lv_at hl 1 rfl) ?_
  refine bi_if_lt (tgt := 16) F dX7_hasVillage_1 (by decide) (by omega) (fun c_1 => ?_) (fun c_1 => ?_)
  · refine bi_iconst F dX7_hasVillage_16 ?_
    exact hret _ _ _ _ _ (Or.inr ⟨rfl, by omega⟩) hw dX7_hasVillage_17
  · refine lv_iload_n F.1 F.2.1 dX7_hasVillage_4 rfl (lv_at hl 1 rfl) ?_
    refine lv_aload_n F.1 F.2.1 dX7_hasVillage_5 rfl (lv_at hl 0 rfl) ?_
    refine x_get F hin7 hw 3 7 rfl rfl 9 (by decide) (by decide +kernel) rfl rfl dX7_hasVillage_6 ?_
    refine bi_icmp_ge (tgt := 16) F dX7_hasVillage_9 (by decide) (by omega) (fun c_2 => ?_) (fun c_2 => ?_)
    · refine bi_iconst F dX7_hasVillage_16 ?_
      exact hret _ _ _ _ _ (Or.inr ⟨rfl, by omega⟩) hw dX7_hasVillage_17
    · refine bi_iconst F dX7_hasVillage_12 ?_
      refine lv_goto (tgt := 17) F.1 F.2.1 dX7_hasVillage_13 (by decide) ?_
      exact hret _ _ _ _ _ (Or.inl ⟨rfl, by omega⟩) hw dX7_hasVillage_17
set_option maxRecDepth 100000 in
set_option maxHeartbeats 4000000 in
theorem x7_hasPerson (l : Launch) (E : Ev) (I : Nat → Int) (A : Nat → Int → Int) (L : Nat → Int64) (q : Int) (hq : -2147483648 ≤ q ∧ q ≤ 2147483647) (hnp : 0 ≤ I 11 ∧ I 11 ≤ 6) : MetP l yX7_hasPerson wsX7_hasPerson ({ frames := 0, cells := 0, slots := 0, locals := 0 } : Room) E [.ref (eO E 3), .int (iI q)] (xW E I A L) (0 ≤ q ∧ q < I 11) := by
  have hin7 : ∀ w ∈ wsX70, w ∈ wsX7_hasPerson := by decide +kernel
  refine met_P (cc := cX7_hasPerson) (nL := 2) (by decide) rfl (Nat.le_of_ble_eq_true rfl) ?_
  intro p e s m args below meth c Q H0 A0 H locs ls F hw hl hret
  have F : CallFix p m c cX7_hasPerson 2 s args wsX7_hasPerson RX7 := F
  have hl : lv_has ls 2 [(0, .ref (eO E 3)), (1, .int (iI q))] := hl
  refine lv_iload_n F.1 F.2.1 dX7_hasPerson_0 rfl (lv_at hl 1 rfl) ?_
  refine bi_if_lt (tgt := 16) F dX7_hasPerson_1 (by decide) (by omega) (fun c_1 => ?_) (fun c_1 => ?_)
  · refine bi_iconst F dX7_hasPerson_16 ?_
    exact hret _ _ _ _ _ (Or.inr ⟨rfl, by omega⟩) hw dX7_hasPerson_17
  · refine lv_iload_n F.1 F.2.1 dX7_hasPerson_4 rfl (lv_at hl 1 rfl) ?_
    refine lv_aload_n F.1 F.2.1 dX7_hasPerson_5 rfl (lv_at hl 0 rfl) ?_
    refine x_get F hin7 hw 3 7 rfl rfl 10 (by decide) (by decide +kernel) rfl rfl dX7_hasPerson_6 ?_
    refine bi_icmp_ge (tgt := 16) F dX7_hasPerson_9 (by decide) (by omega) (fun c_2 => ?_) (fun c_2 => ?_)
    · refine bi_iconst F dX7_hasPerson_16 ?_
      exact hret _ _ _ _ _ (Or.inr ⟨rfl, by omega⟩) hw dX7_hasPerson_17
    · refine bi_iconst F dX7_hasPerson_12 ?_
      refine lv_goto (tgt := 17) F.1 F.2.1 dX7_hasPerson_13 (by decide) ?_
      exact hret _ _ _ _ _ (Or.inl ⟨rfl, by omega⟩) hw dX7_hasPerson_17
set_option maxRecDepth 100000 in
set_option maxHeartbeats 4000000 in
theorem x7_hasDebt (l : Launch) (E : Ev) (I : Nat → Int) (A : Nat → Int → Int) (L : Nat → Int64) (d : Int) (hd : -2147483648 ≤ d ∧ d ≤ 2147483647) (hnd : 0 ≤ I 12 ∧ I 12 ≤ 5) : MetP l yX7_hasDebt wsX7_hasDebt ({ frames := 0, cells := 0, slots := 0, locals := 0 } : Room) E [.ref (eO E 3), .int (iI d)] (xW E I A L) (0 ≤ d ∧ d < I 12) := by
  have hin7 : ∀ w ∈ wsX70, w ∈ wsX7_hasDebt := by decide +kernel
  refine met_P (cc := cX7_hasDebt) (nL := 2) (by decide) rfl (Nat.le_of_ble_eq_true rfl) ?_
  intro p e s m args below meth c Q H0 A0 H locs ls F hw hl hret
  have F : CallFix p m c cX7_hasDebt 2 s args wsX7_hasDebt RX7 := F
  have hl : lv_has ls 2 [(0, .ref (eO E 3)), (1, .int (iI d))] := hl
  refine lv_iload_n F.1 F.2.1 dX7_hasDebt_0 rfl (lv_at hl 1 rfl) ?_
  refine bi_if_lt (tgt := 16) F dX7_hasDebt_1 (by decide) (by omega) (fun c_1 => ?_) (fun c_1 => ?_)
  · refine bi_iconst F dX7_hasDebt_16 ?_
    exact hret _ _ _ _ _ (Or.inr ⟨rfl, by omega⟩) hw dX7_hasDebt_17
  · refine lv_iload_n F.1 F.2.1 dX7_hasDebt_4 rfl (lv_at hl 1 rfl) ?_
    refine lv_aload_n F.1 F.2.1 dX7_hasDebt_5 rfl (lv_at hl 0 rfl) ?_
    refine x_get F hin7 hw 3 7 rfl rfl 11 (by decide) (by decide +kernel) rfl rfl dX7_hasDebt_6 ?_
    refine bi_icmp_ge (tgt := 16) F dX7_hasDebt_9 (by decide) (by omega) (fun c_2 => ?_) (fun c_2 => ?_)
    · refine bi_iconst F dX7_hasDebt_16 ?_
      exact hret _ _ _ _ _ (Or.inr ⟨rfl, by omega⟩) hw dX7_hasDebt_17
    · refine bi_iconst F dX7_hasDebt_12 ?_
      refine lv_goto (tgt := 17) F.1 F.2.1 dX7_hasDebt_13 (by decide) ?_
      exact hret _ _ _ _ _ (Or.inl ⟨rfl, by omega⟩) hw dX7_hasDebt_17
set_option maxRecDepth 100000 in
set_option maxHeartbeats 4000000 in
theorem x7_inchesOf (l : Launch) (E : Ev) (I : Nat → Int) (A : Nat → Int → Int) (L : Nat → Int64) (k : Int) (hk : 0 ≤ k ∧ k ≤ 100000) (hnn : 0 ≤ I 9 ∧ I 9 ≤ 20) : MetN l yX7_inchesOf wsX7_inchesOf ({ frames := 0, cells := 0, slots := 0, locals := 0 } : Room) E [.ref (eO E 3), .int (iI k)] (xW E I A L) (if 0 < I 9 then A 9 (k % I 9) else 0) := by
  have hin7 : ∀ w ∈ wsX70, w ∈ wsX7_inchesOf := by decide +kernel
  refine met_N (cc := cX7_inchesOf) (nL := 2) (by decide) rfl (Nat.le_of_ble_eq_true rfl) ?_
  intro p e s m args below meth c Q H0 A0 H locs ls F hw hl hret
  have F : CallFix p m c cX7_inchesOf 2 s args wsX7_inchesOf RX7 := F
  have hl : lv_has ls 2 [(0, .ref (eO E 3)), (1, .int (iI k))] := hl
  refine lv_aload_n F.1 F.2.1 dX7_inchesOf_0 rfl (lv_at hl 0 rfl) ?_
  refine x_get F hin7 hw 3 7 rfl rfl 8 (by decide) (by decide +kernel) rfl rfl dX7_inchesOf_1 ?_
  refine bi_if_le (tgt := 25) F dX7_inchesOf_4 (by decide) (by omega) (fun c_1 => ?_) (fun c_1 => ?_)
  · refine bi_iconst F dX7_inchesOf_25 ?_
    exact hret _ _ _ _ _ (by first | (exfalso; omega) | rw [if_pos (by omega)] | rw [if_neg (by omega)]) hw dX7_inchesOf_26
  · refine lv_iload_n F.1 F.2.1 dX7_inchesOf_7 rfl (lv_at hl 1 rfl) ?_
    refine bi_if_lt (tgt := 25) F dX7_inchesOf_8 (by decide) (by omega) (fun c_2 => ?_) (fun c_2 => ?_)
    · refine bi_iconst F dX7_inchesOf_25 ?_
      exact hret _ _ _ _ _ (by first | (exfalso; omega) | rw [if_pos (by omega)] | rw [if_neg (by omega)]) hw dX7_inchesOf_26
    · refine lv_aload_n F.1 F.2.1 dX7_inchesOf_11 rfl (lv_at hl 0 rfl) ?_
      refine x_get F hin7 hw 3 7 rfl rfl 0 (by decide) (by decide +kernel) rfl rfl dX7_inchesOf_12 ?_
      refine lv_iload_n F.1 F.2.1 dX7_inchesOf_15 rfl (lv_at hl 1 rfl) ?_
      refine lv_aload_n F.1 F.2.1 dX7_inchesOf_16 rfl (lv_at hl 0 rfl) ?_
      refine x_get F hin7 hw 3 7 rfl rfl 8 (by decide) (by decide +kernel) rfl rfl dX7_inchesOf_17 ?_
      refine bi_irem F dX7_inchesOf_20 (by omega) ?_
      have e1 := Int.emod_nonneg k (show I 9 ≠ 0 by omega)
      have e2 := Int.emod_lt_of_pos k (show 0 < I 9 by omega)
      refine x_ld F hw 9 20 rfl (by decide) (by omega) dX7_inchesOf_21 ?_
      refine lv_goto (tgt := 26) F.1 F.2.1 dX7_inchesOf_22 (by decide) ?_
      exact hret _ _ _ _ _ (by first | (exfalso; omega) | rw [if_pos (by omega)] | rw [if_neg (by omega)]) hw dX7_inchesOf_26
set_option maxRecDepth 100000 in
set_option maxHeartbeats 4000000 in
theorem x7_depth (l : Launch) (E : Ev) (I : Nat → Int) (A : Nat → Int → Int) (L : Nat → Int64) (v : Int) (x : Int) (hv : 0 ≤ v ∧ v < 4) (hx : 0 ≤ x ∧ x ≤ 1000) (hdr : ∀ k, 0 ≤ A 10 k ∧ A 10 k ≤ 40) : MetN l yX7_depth wsX7_depth ({ frames := 1, cells := 0, slots := 0, locals := 22 } : Room) E [.ref (eO E 3), .int (iI v), .int (iI x)] (xW E I A L) (iMx 0 (x - A 10 v)) := by
  have hin7 : ∀ w ∈ wsX70, w ∈ wsX7_depth := by decide +kernel
  refine met_N (cc := cX7_depth) (nL := 3) (by decide) rfl (Nat.le_of_ble_eq_true rfl) ?_
  intro p e s m args below meth c Q H0 A0 H locs ls F hw hl hret
  have F : CallFix p m c cX7_depth 3 s args wsX7_depth RX7 := F
  have hl : lv_has ls 3 [(0, .ref (eO E 3)), (1, .int (iI v)), (2, .int (iI x))] := hl
  refine bi_iconst F dX7_depth_0 ?_
  refine lv_iload_n F.1 F.2.1 dX7_depth_1 rfl (lv_at hl 2 rfl) ?_
  refine lv_aload_n F.1 F.2.1 dX7_depth_2 rfl (lv_at hl 0 rfl) ?_
  refine x_get F hin7 hw 3 7 rfl rfl 1 (by decide) (by decide +kernel) rfl rfl dX7_depth_3 ?_
  refine lv_iload_n F.1 F.2.1 dX7_depth_6 rfl (lv_at hl 1 rfl) ?_
  refine x_ld F hw 10 4 rfl (by decide) (by omega) dX7_depth_7 ?_
  have f_1 := hdr (v)
  refine bi_isub F dX7_depth_8 ?_
  refine bi_max F hl.1 (by decide +kernel) (by decide +kernel) (by decide +kernel) (by decide +kernel) (Nat.le_of_ble_eq_true rfl) (Nat.le_of_ble_eq_true rfl) (Nat.zero_le _) (Nat.zero_le _) (by omega) dX7_depth_9 ?_
  have f_2 := iMx_r 0 (x - (A 10 v))
  exact hret _ _ _ _ _ (rfl) hw dX7_depth_12
set_option maxRecDepth 100000 in
set_option maxHeartbeats 4000000 in
theorem x7_isFall (l : Launch) (E : Ev) (I : Nat → Int) (A : Nat → Int → Int) (L : Nat → Int64) (v : Int) (x : Int) (hv : 0 ≤ v ∧ v < 4) (hx : 0 ≤ x ∧ x ≤ 1000) (hff : ∀ k, 0 ≤ A 11 k ∧ A 11 k ≤ 80) : MetP l yX7_isFall wsX7_isFall ({ frames := 0, cells := 0, slots := 0, locals := 0 } : Room) E [.ref (eO E 3), .int (iI v), .int (iI x)] (xW E I A L) (A 11 v ≤ x) := by
  have hin7 : ∀ w ∈ wsX70, w ∈ wsX7_isFall := by decide +kernel
  refine met_P (cc := cX7_isFall) (nL := 3) (by decide) rfl (Nat.le_of_ble_eq_true rfl) ?_
  intro p e s m args below meth c Q H0 A0 H locs ls F hw hl hret
  have F : CallFix p m c cX7_isFall 3 s args wsX7_isFall RX7 := F
  have hl : lv_has ls 3 [(0, .ref (eO E 3)), (1, .int (iI v)), (2, .int (iI x))] := hl
  refine lv_iload_n F.1 F.2.1 dX7_isFall_0 rfl (lv_at hl 2 rfl) ?_
  refine lv_aload_n F.1 F.2.1 dX7_isFall_1 rfl (lv_at hl 0 rfl) ?_
  refine x_get F hin7 hw 3 7 rfl rfl 2 (by decide) (by decide +kernel) rfl rfl dX7_isFall_2 ?_
  refine lv_iload_n F.1 F.2.1 dX7_isFall_5 rfl (lv_at hl 1 rfl) ?_
  refine x_ld F hw 11 4 rfl (by decide) (by omega) dX7_isFall_6 ?_
  have f_1 := hff (v)
  refine bi_icmp_lt (tgt := 14) F dX7_isFall_7 (by decide) (by omega) (fun c_2 => ?_) (fun c_2 => ?_)
  · refine bi_iconst F dX7_isFall_14 ?_
    exact hret _ _ _ _ _ (Or.inr ⟨rfl, by omega⟩) hw dX7_isFall_15
  · refine bi_iconst F dX7_isFall_10 ?_
    refine lv_goto (tgt := 15) F.1 F.2.1 dX7_isFall_11 (by decide) ?_
    exact hret _ _ _ _ _ (Or.inl ⟨rfl, by omega⟩) hw dX7_isFall_15
set_option maxRecDepth 100000 in
set_option maxHeartbeats 4000000 in
theorem x7_years (l : Launch) (E : Ev) (I : Nat → Int) (A : Nat → Int → Int) (L : Nat → Int64) (x : Int) (v : Int) (hv : 0 ≤ v ∧ v < 4) (hx : 0 ≤ x ∧ x ≤ 1000000) (hyr : ∀ k, 0 ≤ A 12 k ∧ A 12 k ≤ 40) : MetN l yX7_years wsX7_years ({ frames := 0, cells := 0, slots := 0, locals := 0 } : Room) E [.ref (eO E 3), .int (iI x), .int (iI v)] (xW E I A L) (if 0 < A 12 v then x / A 12 v else 0) := by
  have hin7 : ∀ w ∈ wsX70, w ∈ wsX7_years := by decide +kernel
  refine met_N (cc := cX7_years) (nL := 3) (by decide) rfl (Nat.le_of_ble_eq_true rfl) ?_
  intro p e s m args below meth c Q H0 A0 H locs ls F hw hl hret
  have F : CallFix p m c cX7_years 3 s args wsX7_years RX7 := F
  have hl : lv_has ls 3 [(0, .ref (eO E 3)), (1, .int (iI x)), (2, .int (iI v))] := hl
  refine lv_aload_n F.1 F.2.1 dX7_years_0 rfl (lv_at hl 0 rfl) ?_
  refine x_get F hin7 hw 3 7 rfl rfl 3 (by decide) (by decide +kernel) rfl rfl dX7_years_1 ?_
  refine lv_iload_n F.1 F.2.1 dX7_years_4 rfl (lv_at hl 2 rfl) ?_
  refine x_ld F hw 12 4 rfl (by decide) (by omega) dX7_years_5 ?_
  have f_1 := hyr (v)
  refine bi_if_le (tgt := 20) F dX7_years_6 (by decide) (by omega) (fun c_2 => ?_) (fun c_2 => ?_)
  · refine bi_iconst F dX7_years_20 ?_
    exact hret _ _ _ _ _ (by first | rw [if_pos (by omega)] | rw [if_neg (by omega)]) hw dX7_years_21
  · refine lv_iload_n F.1 F.2.1 dX7_years_9 rfl (lv_at hl 1 rfl) ?_
    refine lv_aload_n F.1 F.2.1 dX7_years_10 rfl (lv_at hl 0 rfl) ?_
    refine x_get F hin7 hw 3 7 rfl rfl 3 (by decide) (by decide +kernel) rfl rfl dX7_years_11 ?_
    refine lv_iload_n F.1 F.2.1 dX7_years_14 rfl (lv_at hl 2 rfl) ?_
    refine x_ld F hw 12 4 rfl (by decide) (by omega) dX7_years_15 ?_
    have f_3 := hyr (v)
    refine bi_idiv F dX7_years_16 (by omega) ?_
    refine lv_goto (tgt := 21) F.1 F.2.1 dX7_years_17 (by decide) ?_
    exact hret _ _ _ _ _ (by first | rw [if_pos (by omega)] | rw [if_neg (by omega)]) hw dX7_years_21
set_option maxRecDepth 100000 in
set_option maxHeartbeats 4000000 in
theorem x7_fallOfYear (l : Launch) (E : Ev) (I : Nat → Int) (A : Nat → Int → Int) (L : Nat → Int64) (x : Int) (v : Int) (hv : 0 ≤ v ∧ v < 4) (hx : 0 ≤ x ∧ x ≤ 1000000) (hyr : ∀ k, 0 ≤ A 12 k ∧ A 12 k ≤ 40) : MetN l yX7_fallOfYear wsX7_fallOfYear ({ frames := 0, cells := 0, slots := 0, locals := 0 } : Room) E [.ref (eO E 3), .int (iI x), .int (iI v)] (xW E I A L) (if 0 < A 12 v then x % A 12 v else 0) := by
  have hin7 : ∀ w ∈ wsX70, w ∈ wsX7_fallOfYear := by decide +kernel
  refine met_N (cc := cX7_fallOfYear) (nL := 3) (by decide) rfl (Nat.le_of_ble_eq_true rfl) ?_
  intro p e s m args below meth c Q H0 A0 H locs ls F hw hl hret
  have F : CallFix p m c cX7_fallOfYear 3 s args wsX7_fallOfYear RX7 := F
  have hl : lv_has ls 3 [(0, .ref (eO E 3)), (1, .int (iI x)), (2, .int (iI v))] := hl
  refine lv_aload_n F.1 F.2.1 dX7_fallOfYear_0 rfl (lv_at hl 0 rfl) ?_
  refine x_get F hin7 hw 3 7 rfl rfl 3 (by decide) (by decide +kernel) rfl rfl dX7_fallOfYear_1 ?_
  refine lv_iload_n F.1 F.2.1 dX7_fallOfYear_4 rfl (lv_at hl 2 rfl) ?_
  refine x_ld F hw 12 4 rfl (by decide) (by omega) dX7_fallOfYear_5 ?_
  have f_1 := hyr (v)
  refine bi_if_le (tgt := 20) F dX7_fallOfYear_6 (by decide) (by omega) (fun c_2 => ?_) (fun c_2 => ?_)
  · refine bi_iconst F dX7_fallOfYear_20 ?_
    exact hret _ _ _ _ _ (by first | rw [if_pos (by omega)] | rw [if_neg (by omega)]) hw dX7_fallOfYear_21
  · refine lv_iload_n F.1 F.2.1 dX7_fallOfYear_9 rfl (lv_at hl 1 rfl) ?_
    refine lv_aload_n F.1 F.2.1 dX7_fallOfYear_10 rfl (lv_at hl 0 rfl) ?_
    refine x_get F hin7 hw 3 7 rfl rfl 3 (by decide) (by decide +kernel) rfl rfl dX7_fallOfYear_11 ?_
    refine lv_iload_n F.1 F.2.1 dX7_fallOfYear_14 rfl (lv_at hl 2 rfl) ?_
    refine x_ld F hw 12 4 rfl (by decide) (by omega) dX7_fallOfYear_15 ?_
    have f_3 := hyr (v)
    refine bi_irem F dX7_fallOfYear_16 (by omega) ?_
    refine lv_goto (tgt := 21) F.1 F.2.1 dX7_fallOfYear_17 (by decide) ?_
    exact hret _ _ _ _ _ (by first | rw [if_pos (by omega)] | rw [if_neg (by omega)]) hw dX7_fallOfYear_21
set_option maxRecDepth 100000 in
set_option maxHeartbeats 4000000 in
theorem x6_nights (l : Launch) (E : Ev) (I : Nat → Int) (A : Nat → Int → Int) (L : Nat → Int64) : MetN l yX6_nights wsX6_nights ({ frames := 0, cells := 0, slots := 0, locals := 0 } : Room) E [.ref (eO E 4)] (xW E I A L) (A 17 0) := by
  have hin6 : ∀ w ∈ wsX60, w ∈ wsX6_nights := by decide +kernel
  refine met_N (cc := cX6_nights) (nL := 1) (by decide) rfl (Nat.le_of_ble_eq_true rfl) ?_
  intro p e s m args below meth c Q H0 A0 H locs ls F hw hl hret
  have F : CallFix p m c cX6_nights 1 s args wsX6_nights RX6 := F
  have hl : lv_has ls 1 [(0, .ref (eO E 4))] := hl
  refine lv_aload_n F.1 F.2.1 dX6_nights_0 rfl (lv_at hl 0 rfl) ?_
  refine x_get F hin6 hw 4 6 rfl rfl 0 (by decide) (by decide +kernel) rfl rfl dX6_nights_1 ?_
  refine bi_iconst F dX6_nights_4 ?_
  refine x_ld F hw 17 35 rfl (by decide) (by omega) dX6_nights_5 ?_
  exact hret _ _ _ _ _ (rfl) hw dX6_nights_6
set_option maxRecDepth 100000 in
set_option maxHeartbeats 4000000 in
theorem x6_falls (l : Launch) (E : Ev) (I : Nat → Int) (A : Nat → Int → Int) (L : Nat → Int64) (v : Int) (hv : 0 ≤ v ∧ v < 4) : MetN l yX6_falls wsX6_falls ({ frames := 0, cells := 0, slots := 0, locals := 0 } : Room) E [.ref (eO E 4), .int (iI v)] (xW E I A L) (A 17 (1 + v)) := by
  have hin6 : ∀ w ∈ wsX60, w ∈ wsX6_falls := by decide +kernel
  refine met_N (cc := cX6_falls) (nL := 2) (by decide) rfl (Nat.le_of_ble_eq_true rfl) ?_
  intro p e s m args below meth c Q H0 A0 H locs ls F hw hl hret
  have F : CallFix p m c cX6_falls 2 s args wsX6_falls RX6 := F
  have hl : lv_has ls 2 [(0, .ref (eO E 4)), (1, .int (iI v))] := hl
  refine lv_aload_n F.1 F.2.1 dX6_falls_0 rfl (lv_at hl 0 rfl) ?_
  refine x_get F hin6 hw 4 6 rfl rfl 0 (by decide) (by decide +kernel) rfl rfl dX6_falls_1 ?_
  refine bi_iconst F dX6_falls_4 ?_
  refine lv_iload_n F.1 F.2.1 dX6_falls_5 rfl (lv_at hl 1 rfl) ?_
  refine bi_iadd F dX6_falls_6 ?_
  refine x_ld F hw 17 35 rfl (by decide) (by omega) dX6_falls_7 ?_
  exact hret _ _ _ _ _ (rfl) hw dX6_falls_8
set_option maxRecDepth 100000 in
set_option maxHeartbeats 4000000 in
theorem x6_fell (l : Launch) (E : Ev) (I : Nat → Int) (A : Nat → Int → Int) (L : Nat → Int64) (v : Int) (hv : 0 ≤ v ∧ v < 4) : MetN l yX6_fell wsX6_fell ({ frames := 0, cells := 0, slots := 0, locals := 0 } : Room) E [.ref (eO E 4), .int (iI v)] (xW E I A L) (A 17 (5 + v)) := by
  have hin6 : ∀ w ∈ wsX60, w ∈ wsX6_fell := by decide +kernel
  refine met_N (cc := cX6_fell) (nL := 2) (by decide) rfl (Nat.le_of_ble_eq_true rfl) ?_
  intro p e s m args below meth c Q H0 A0 H locs ls F hw hl hret
  have F : CallFix p m c cX6_fell 2 s args wsX6_fell RX6 := F
  have hl : lv_has ls 2 [(0, .ref (eO E 4)), (1, .int (iI v))] := hl
  refine lv_aload_n F.1 F.2.1 dX6_fell_0 rfl (lv_at hl 0 rfl) ?_
  refine x_get F hin6 hw 4 6 rfl rfl 0 (by decide) (by decide +kernel) rfl rfl dX6_fell_1 ?_
  refine bi_iconst F dX6_fell_4 ?_
  refine lv_iload_n F.1 F.2.1 dX6_fell_5 rfl (lv_at hl 1 rfl) ?_
  refine bi_iadd F dX6_fell_6 ?_
  refine x_ld F hw 17 35 rfl (by decide) (by omega) dX6_fell_7 ?_
  exact hret _ _ _ _ _ (rfl) hw dX6_fell_8
set_option maxRecDepth 100000 in
set_option maxHeartbeats 4000000 in
theorem x6_sawedOff (l : Launch) (E : Ev) (I : Nat → Int) (A : Nat → Int → Int) (L : Nat → Int64) (v : Int) (hv : 0 ≤ v ∧ v < 4) : MetN l yX6_sawedOff wsX6_sawedOff ({ frames := 0, cells := 0, slots := 0, locals := 0 } : Room) E [.ref (eO E 4), .int (iI v)] (xW E I A L) (A 17 (9 + v)) := by
  have hin6 : ∀ w ∈ wsX60, w ∈ wsX6_sawedOff := by decide +kernel
  refine met_N (cc := cX6_sawedOff) (nL := 2) (by decide) rfl (Nat.le_of_ble_eq_true rfl) ?_
  intro p e s m args below meth c Q H0 A0 H locs ls F hw hl hret
  have F : CallFix p m c cX6_sawedOff 2 s args wsX6_sawedOff RX6 := F
  have hl : lv_has ls 2 [(0, .ref (eO E 4)), (1, .int (iI v))] := hl
  refine lv_aload_n F.1 F.2.1 dX6_sawedOff_0 rfl (lv_at hl 0 rfl) ?_
  refine x_get F hin6 hw 4 6 rfl rfl 0 (by decide) (by decide +kernel) rfl rfl dX6_sawedOff_1 ?_
  refine bi_bipush F dX6_sawedOff_4 (by decide) ?_
  refine lv_iload_n F.1 F.2.1 dX6_sawedOff_6 rfl (lv_at hl 1 rfl) ?_
  refine bi_iadd F dX6_sawedOff_7 ?_
  refine x_ld F hw 17 35 rfl (by decide) (by omega) dX6_sawedOff_8 ?_
  exact hret _ _ _ _ _ (rfl) hw dX6_sawedOff_9
set_option maxRecDepth 100000 in
set_option maxHeartbeats 4000000 in
theorem x6_home (l : Launch) (E : Ev) (I : Nat → Int) (A : Nat → Int → Int) (L : Nat → Int64) (q : Int) (hp : 0 ≤ q ∧ q < 6) : MetN l yX6_home wsX6_home ({ frames := 0, cells := 0, slots := 0, locals := 0 } : Room) E [.ref (eO E 4), .int (iI q)] (xW E I A L) (A 17 (13 + q)) := by
  have hin6 : ∀ w ∈ wsX60, w ∈ wsX6_home := by decide +kernel
  refine met_N (cc := cX6_home) (nL := 2) (by decide) rfl (Nat.le_of_ble_eq_true rfl) ?_
  intro p e s m args below meth c Q H0 A0 H locs ls F hw hl hret
  have F : CallFix p m c cX6_home 2 s args wsX6_home RX6 := F
  have hl : lv_has ls 2 [(0, .ref (eO E 4)), (1, .int (iI q))] := hl
  refine lv_aload_n F.1 F.2.1 dX6_home_0 rfl (lv_at hl 0 rfl) ?_
  refine x_get F hin6 hw 4 6 rfl rfl 0 (by decide) (by decide +kernel) rfl rfl dX6_home_1 ?_
  refine bi_bipush F dX6_home_4 (by decide) ?_
  refine lv_iload_n F.1 F.2.1 dX6_home_6 rfl (lv_at hl 1 rfl) ?_
  refine bi_iadd F dX6_home_7 ?_
  refine x_ld F hw 17 35 rfl (by decide) (by omega) dX6_home_8 ?_
  exact hret _ _ _ _ _ (rfl) hw dX6_home_9
set_option maxRecDepth 100000 in
set_option maxHeartbeats 4000000 in
theorem x6_lived (l : Launch) (E : Ev) (I : Nat → Int) (A : Nat → Int → Int) (L : Nat → Int64) (q : Int) (hp : 0 ≤ q ∧ q < 6) : MetN l yX6_lived wsX6_lived ({ frames := 0, cells := 0, slots := 0, locals := 0 } : Room) E [.ref (eO E 4), .int (iI q)] (xW E I A L) (A 17 (19 + q)) := by
  have hin6 : ∀ w ∈ wsX60, w ∈ wsX6_lived := by decide +kernel
  refine met_N (cc := cX6_lived) (nL := 2) (by decide) rfl (Nat.le_of_ble_eq_true rfl) ?_
  intro p e s m args below meth c Q H0 A0 H locs ls F hw hl hret
  have F : CallFix p m c cX6_lived 2 s args wsX6_lived RX6 := F
  have hl : lv_has ls 2 [(0, .ref (eO E 4)), (1, .int (iI q))] := hl
  refine lv_aload_n F.1 F.2.1 dX6_lived_0 rfl (lv_at hl 0 rfl) ?_
  refine x_get F hin6 hw 4 6 rfl rfl 0 (by decide) (by decide +kernel) rfl rfl dX6_lived_1 ?_
  refine bi_bipush F dX6_lived_4 (by decide) ?_
  refine lv_iload_n F.1 F.2.1 dX6_lived_6 rfl (lv_at hl 1 rfl) ?_
  refine bi_iadd F dX6_lived_7 ?_
  refine x_ld F hw 17 35 rfl (by decide) (by omega) dX6_lived_8 ?_
  exact hret _ _ _ _ _ (rfl) hw dX6_lived_9
set_option maxRecDepth 100000 in
set_option maxHeartbeats 4000000 in
theorem x6_owed (l : Launch) (E : Ev) (I : Nat → Int) (A : Nat → Int → Int) (L : Nat → Int64) (d : Int) (hd : 0 ≤ d ∧ d < 5) : MetN l yX6_owed wsX6_owed ({ frames := 0, cells := 0, slots := 0, locals := 0 } : Room) E [.ref (eO E 4), .int (iI d)] (xW E I A L) (A 17 (25 + d)) := by
  have hin6 : ∀ w ∈ wsX60, w ∈ wsX6_owed := by decide +kernel
  refine met_N (cc := cX6_owed) (nL := 2) (by decide) rfl (Nat.le_of_ble_eq_true rfl) ?_
  intro p e s m args below meth c Q H0 A0 H locs ls F hw hl hret
  have F : CallFix p m c cX6_owed 2 s args wsX6_owed RX6 := F
  have hl : lv_has ls 2 [(0, .ref (eO E 4)), (1, .int (iI d))] := hl
  refine lv_aload_n F.1 F.2.1 dX6_owed_0 rfl (lv_at hl 0 rfl) ?_
  refine x_get F hin6 hw 4 6 rfl rfl 0 (by decide) (by decide +kernel) rfl rfl dX6_owed_1 ?_
  refine bi_bipush F dX6_owed_4 (by decide) ?_
  refine lv_iload_n F.1 F.2.1 dX6_owed_6 rfl (lv_at hl 1 rfl) ?_
  refine bi_iadd F dX6_owed_7 ?_
  refine x_ld F hw 17 35 rfl (by decide) (by omega) dX6_owed_8 ?_
  exact hret _ _ _ _ _ (rfl) hw dX6_owed_9
set_option maxRecDepth 100000 in
set_option maxHeartbeats 4000000 in
theorem x6_pole (l : Launch) (E : Ev) (I : Nat → Int) (A : Nat → Int → Int) (L : Nat → Int64) (v : Int) (hv : 0 ≤ v ∧ v < 4) (hf : ∀ k, 0 ≤ A 17 k ∧ A 17 k ≤ 900000) : MetN l yX6_pole wsX6_pole ({ frames := 1, cells := 0, slots := 0, locals := 22 } : Room) E [.ref (eO E 4), .int (iI v)] (xW E I A L) (iMx 0 (A 17 (1 + v) - A 17 (9 + v))) := by
  have hin6 : ∀ w ∈ wsX60, w ∈ wsX6_pole := by decide +kernel
  refine met_N (cc := cX6_pole) (nL := 2) (by decide) rfl (Nat.le_of_ble_eq_true rfl) ?_
  intro p e s m args below meth c Q H0 A0 H locs ls F hw hl hret
  have F : CallFix p m c cX6_pole 2 s args wsX6_pole RX6 := F
  have hl : lv_has ls 2 [(0, .ref (eO E 4)), (1, .int (iI v))] := hl
  refine bi_iconst F dX6_pole_0 ?_
  refine lv_aload_n F.1 F.2.1 dX6_pole_1 rfl (lv_at hl 0 rfl) ?_
  refine x_get F hin6 hw 4 6 rfl rfl 0 (by decide) (by decide +kernel) rfl rfl dX6_pole_2 ?_
  refine bi_iconst F dX6_pole_5 ?_
  refine lv_iload_n F.1 F.2.1 dX6_pole_6 rfl (lv_at hl 1 rfl) ?_
  refine bi_iadd F dX6_pole_7 ?_
  refine x_ld F hw 17 35 rfl (by decide) (by omega) dX6_pole_8 ?_
  have f_1 := hf (1 + v)
  refine lv_aload_n F.1 F.2.1 dX6_pole_9 rfl (lv_at hl 0 rfl) ?_
  refine x_get F hin6 hw 4 6 rfl rfl 0 (by decide) (by decide +kernel) rfl rfl dX6_pole_10 ?_
  refine bi_bipush F dX6_pole_13 (by decide) ?_
  refine lv_iload_n F.1 F.2.1 dX6_pole_15 rfl (lv_at hl 1 rfl) ?_
  refine bi_iadd F dX6_pole_16 ?_
  refine x_ld F hw 17 35 rfl (by decide) (by omega) dX6_pole_17 ?_
  have f_2 := hf (9 + v)
  refine bi_isub F dX6_pole_18 ?_
  refine bi_max F hl.1 (by decide +kernel) (by decide +kernel) (by decide +kernel) (by decide +kernel) (Nat.le_of_ble_eq_true rfl) (Nat.le_of_ble_eq_true rfl) (Nat.zero_le _) (Nat.zero_le _) (by omega) dX6_pole_19 ?_
  have f_3 := iMx_r 0 (A 17 (1 + v) - (A 17 (9 + v)))
  exact hret _ _ _ _ _ (rfl) hw dX6_pole_22
set_option maxRecDepth 100000 in
set_option maxHeartbeats 4000000 in
theorem x6_poleOf (l : Launch) (E : Ev) (I : Nat → Int) (A : Nat → Int → Int) (L : Nat → Int64) (v : Int) (x : Int) (hv : 0 ≤ v ∧ v < 4) (hx : 0 ≤ x ∧ x ≤ 1000000) (hf : ∀ k, 0 ≤ A 17 k ∧ A 17 k ≤ 900000) : MetN l yX6_poleOf wsX6_poleOf ({ frames := 1, cells := 0, slots := 0, locals := 22 } : Room) E [.ref (eO E 4), .int (iI v), .int (iI x)] (xW E I A L) (iMx 0 (x - A 17 (9 + v))) := by
  have hin6 : ∀ w ∈ wsX60, w ∈ wsX6_poleOf := by decide +kernel
  refine met_N (cc := cX6_poleOf) (nL := 3) (by decide) rfl (Nat.le_of_ble_eq_true rfl) ?_
  intro p e s m args below meth c Q H0 A0 H locs ls F hw hl hret
  have F : CallFix p m c cX6_poleOf 3 s args wsX6_poleOf RX6 := F
  have hl : lv_has ls 3 [(0, .ref (eO E 4)), (1, .int (iI v)), (2, .int (iI x))] := hl
  refine bi_iconst F dX6_poleOf_0 ?_
  refine lv_iload_n F.1 F.2.1 dX6_poleOf_1 rfl (lv_at hl 2 rfl) ?_
  refine lv_aload_n F.1 F.2.1 dX6_poleOf_2 rfl (lv_at hl 0 rfl) ?_
  refine x_get F hin6 hw 4 6 rfl rfl 0 (by decide) (by decide +kernel) rfl rfl dX6_poleOf_3 ?_
  refine bi_bipush F dX6_poleOf_6 (by decide) ?_
  refine lv_iload_n F.1 F.2.1 dX6_poleOf_8 rfl (lv_at hl 1 rfl) ?_
  refine bi_iadd F dX6_poleOf_9 ?_
  refine x_ld F hw 17 35 rfl (by decide) (by omega) dX6_poleOf_10 ?_
  have f_1 := hf (9 + v)
  refine bi_isub F dX6_poleOf_11 ?_
  refine bi_max F hl.1 (by decide +kernel) (by decide +kernel) (by decide +kernel) (by decide +kernel) (Nat.le_of_ble_eq_true rfl) (Nat.le_of_ble_eq_true rfl) (Nat.zero_le _) (Nat.zero_le _) (by omega) dX6_poleOf_12 ?_
  have f_2 := iMx_r 0 (x - (A 17 (9 + v)))
  exact hret _ _ _ _ _ (rfl) hw dX6_poleOf_15
set_option maxRecDepth 100000 in
set_option maxHeartbeats 4000000 in
theorem x6_settle (l : Launch) (E : Ev) (I : Nat → Int) (A : Nat → Int → Int) (L : Nat → Int64) (q : Int) (v : Int) (hp : 0 ≤ q ∧ q < 6) : MetG l yX6_settle wsX6_settle ({ frames := 0, cells := 0, slots := 0, locals := 0 } : Room) E [.ref (eO E 4), .int (iI q), .int (iI v)] (xW E I A L) (xW E (I) (st2 A 17 (13 + q) v) L) := by
  have hin6 : ∀ w ∈ wsX60, w ∈ wsX6_settle := by decide +kernel
  refine met_G (cc := cX6_settle) (nL := 3) (by decide) rfl (Nat.le_of_ble_eq_true rfl) ?_
  intro p e s m args below meth c Q H0 A0 H locs ls F hw hl hret
  have F : CallFix p m c cX6_settle 3 s args wsX6_settle RX6 := F
  have hl : lv_has ls 3 [(0, .ref (eO E 4)), (1, .int (iI q)), (2, .int (iI v))] := hl
  refine lv_aload_n F.1 F.2.1 dX6_settle_0 rfl (lv_at hl 0 rfl) ?_
  refine x_get F hin6 hw 4 6 rfl rfl 0 (by decide) (by decide +kernel) rfl rfl dX6_settle_1 ?_
  refine bi_bipush F dX6_settle_4 (by decide) ?_
  refine lv_iload_n F.1 F.2.1 dX6_settle_6 rfl (lv_at hl 1 rfl) ?_
  refine bi_iadd F dX6_settle_7 ?_
  refine lv_iload_n F.1 F.2.1 dX6_settle_8 rfl (lv_at hl 2 rfl) ?_
  refine x_st F hw 17 35 rfl (by decide) (by omega) dX6_settle_9 (fun H locs hw => ?_)
  generalize eA1 : st2 A 17 (13 + q) v = A1 at hw
  exact hret _ _ _ _ _ (xW_c (by subst_vars; rfl) (by subst_vars; rfl) rfl) hw dX6_settle_10
set_option maxRecDepth 100000 in
set_option maxHeartbeats 4000000 in
theorem x6_cutPole (l : Launch) (E : Ev) (I : Nat → Int) (A : Nat → Int → Int) (L : Nat → Int64) (v : Int) (k : Int) (hv : 0 ≤ v ∧ v < 4) : MetG l yX6_cutPole wsX6_cutPole ({ frames := 0, cells := 0, slots := 0, locals := 0 } : Room) E [.ref (eO E 4), .int (iI v), .int (iI k)] (xW E I A L) (xW E (I) (st2 A 17 (9 + v) (A 17 (9 + v) + k)) L) := by
  have hin6 : ∀ w ∈ wsX60, w ∈ wsX6_cutPole := by decide +kernel
  refine met_G (cc := cX6_cutPole) (nL := 3) (by decide) rfl (Nat.le_of_ble_eq_true rfl) ?_
  intro p e s m args below meth c Q H0 A0 H locs ls F hw hl hret
  have F : CallFix p m c cX6_cutPole 3 s args wsX6_cutPole RX6 := F
  have hl : lv_has ls 3 [(0, .ref (eO E 4)), (1, .int (iI v)), (2, .int (iI k))] := hl
  refine lv_aload_n F.1 F.2.1 dX6_cutPole_0 rfl (lv_at hl 0 rfl) ?_
  refine x_get F hin6 hw 4 6 rfl rfl 0 (by decide) (by decide +kernel) rfl rfl dX6_cutPole_1 ?_
  refine bi_bipush F dX6_cutPole_4 (by decide) ?_
  refine lv_iload_n F.1 F.2.1 dX6_cutPole_6 rfl (lv_at hl 1 rfl) ?_
  refine bi_iadd F dX6_cutPole_7 ?_
  refine lv_dup2_11 F.1 F.2.1 dX6_cutPole_8 rfl rfl ?_
  refine x_ld F hw 17 35 rfl (by decide) (by omega) dX6_cutPole_9 ?_
  refine lv_iload_n F.1 F.2.1 dX6_cutPole_10 rfl (lv_at hl 2 rfl) ?_
  refine bi_iadd F dX6_cutPole_11 ?_
  refine x_st F hw 17 35 rfl (by decide) (by omega) dX6_cutPole_12 (fun H locs hw => ?_)
  generalize eA1 : st2 A 17 (9 + v) (A 17 (9 + v) + k) = A1 at hw
  exact hret _ _ _ _ _ (xW_c (by subst_vars; rfl) (by subst_vars; rfl) rfl) hw dX6_cutPole_13
set_option maxRecDepth 100000 in
set_option maxHeartbeats 4000000 in
theorem x6_clearDebt (l : Launch) (E : Ev) (I : Nat → Int) (A : Nat → Int → Int) (L : Nat → Int64) (d : Int) (hd : 0 ≤ d ∧ d < 5) : MetG l yX6_clearDebt wsX6_clearDebt ({ frames := 0, cells := 0, slots := 0, locals := 0 } : Room) E [.ref (eO E 4), .int (iI d)] (xW E I A L) (xW E (I) (st2 A 17 (25 + d) 0) L) := by
  have hin6 : ∀ w ∈ wsX60, w ∈ wsX6_clearDebt := by decide +kernel
  refine met_G (cc := cX6_clearDebt) (nL := 2) (by decide) rfl (Nat.le_of_ble_eq_true rfl) ?_
  intro p e s m args below meth c Q H0 A0 H locs ls F hw hl hret
  have F : CallFix p m c cX6_clearDebt 2 s args wsX6_clearDebt RX6 := F
  have hl : lv_has ls 2 [(0, .ref (eO E 4)), (1, .int (iI d))] := hl
  refine lv_aload_n F.1 F.2.1 dX6_clearDebt_0 rfl (lv_at hl 0 rfl) ?_
  refine x_get F hin6 hw 4 6 rfl rfl 0 (by decide) (by decide +kernel) rfl rfl dX6_clearDebt_1 ?_
  refine bi_bipush F dX6_clearDebt_4 (by decide) ?_
  refine lv_iload_n F.1 F.2.1 dX6_clearDebt_6 rfl (lv_at hl 1 rfl) ?_
  refine bi_iadd F dX6_clearDebt_7 ?_
  refine bi_iconst F dX6_clearDebt_8 ?_
  refine x_st F hw 17 35 rfl (by decide) (by omega) dX6_clearDebt_9 (fun H locs hw => ?_)
  generalize eA1 : st2 A 17 (25 + d) 0 = A1 at hw
  exact hret _ _ _ _ _ (xW_c (by subst_vars; rfl) (by subst_vars; rfl) rfl) hw dX6_clearDebt_10
set_option maxRecDepth 100000 in
set_option maxHeartbeats 4000000 in
theorem x3_forget (l : Launch) (E : Ev) (I : Nat → Int) (A : Nat → Int → Int) (L : Nat → Int64) : MetG l yX3_forget wsX3_forget ({ frames := 0, cells := 0, slots := 0, locals := 0 } : Room) E [.ref (eO E 5)] (xW E I A L) (xW E (st1 (st1 I 13 0) 14 0) (A) L) := by
  have hin3 : ∀ w ∈ wsX30, w ∈ wsX3_forget := by decide +kernel
  refine met_G (cc := cX3_forget) (nL := 1) (by decide) rfl (Nat.le_of_ble_eq_true rfl) ?_
  intro p e s m args below meth c Q H0 A0 H locs ls F hw hl hret
  have F : CallFix p m c cX3_forget 1 s args wsX3_forget RX3 := F
  have hl : lv_has ls 1 [(0, .ref (eO E 5))] := hl
  refine lv_aload_n F.1 F.2.1 dX3_forget_0 rfl (lv_at hl 0 rfl) ?_
  refine bi_iconst F dX3_forget_1 ?_
  refine x_put (I2 := st1 I 13 0) F hin3 tyX3 tyX3_ok nmX3 hw 5 3 rfl rfl 0 (by decide) (by decide +kernel) rfl rfl (by decide +kernel) (Nat.le_of_ble_eq_true rfl) rfl (by decide) dX3_forget_2 (fun H locs hw => ?_)
  generalize eI1 : st1 I 13 0 = I1 at hw
  refine lv_aload_n F.1 F.2.1 dX3_forget_5 rfl (lv_at hl 0 rfl) ?_
  refine bi_iconst F dX3_forget_6 ?_
  refine x_put (I2 := st1 I1 14 0) F hin3 tyX3 tyX3_ok nmX3 hw 5 3 rfl rfl 2 (by decide) (by decide +kernel) rfl rfl (by decide +kernel) (Nat.le_of_ble_eq_true rfl) rfl (by decide) dX3_forget_7 (fun H locs hw => ?_)
  generalize eI2 : st1 I1 14 0 = I2 at hw
  exact hret _ _ _ _ _ (xW_c (by subst_vars; rfl) (by subst_vars; rfl) rfl) hw dX3_forget_10
set_option maxRecDepth 100000 in
set_option maxHeartbeats 4000000 in
theorem x5_forget (l : Launch) (E : Ev) (I : Nat → Int) (A : Nat → Int → Int) (L : Nat → Int64) : MetG l yX5_forget wsX5_forget ({ frames := 0, cells := 0, slots := 0, locals := 0 } : Room) E [.ref (eO E 9)] (xW E I A L) (xW E (st1 I 16 0) (A) L) := by
  have hin5 : ∀ w ∈ wsX50, w ∈ wsX5_forget := by decide +kernel
  refine met_G (cc := cX5_forget) (nL := 1) (by decide) rfl (Nat.le_of_ble_eq_true rfl) ?_
  intro p e s m args below meth c Q H0 A0 H locs ls F hw hl hret
  have F : CallFix p m c cX5_forget 1 s args wsX5_forget RX5 := F
  have hl : lv_has ls 1 [(0, .ref (eO E 9))] := hl
  refine lv_aload_n F.1 F.2.1 dX5_forget_0 rfl (lv_at hl 0 rfl) ?_
  refine bi_iconst F dX5_forget_1 ?_
  refine x_put (I2 := st1 I 16 0) F hin5 tyX5 tyX5_ok nmX5 hw 9 5 rfl rfl 0 (by decide) (by decide +kernel) rfl rfl (by decide +kernel) (Nat.le_of_ble_eq_true rfl) rfl (by decide) dX5_forget_2 (fun H locs hw => ?_)
  generalize eI1 : st1 I 16 0 = I1 at hw
  exact hret _ _ _ _ _ (xW_c (by subst_vars; rfl) (by subst_vars; rfl) rfl) hw dX5_forget_5
set_option maxRecDepth 100000 in
set_option maxHeartbeats 4000000 in
theorem x0_forget (l : Launch) (E : Ev) (I : Nat → Int) (A : Nat → Int → Int) (L : Nat → Int64) : MetG l yX0_forget wsX0_forget ({ frames := 0, cells := 0, slots := 0, locals := 0 } : Room) E [.ref (eO E 10)] (xW E I A L) (xW E (st1 I 17 0) (A) L) := by
  have hin0 : ∀ w ∈ wsX00, w ∈ wsX0_forget := by decide +kernel
  refine met_G (cc := cX0_forget) (nL := 1) (by decide) rfl (Nat.le_of_ble_eq_true rfl) ?_
  intro p e s m args below meth c Q H0 A0 H locs ls F hw hl hret
  have F : CallFix p m c cX0_forget 1 s args wsX0_forget RX0 := F
  have hl : lv_has ls 1 [(0, .ref (eO E 10))] := hl
  refine lv_aload_n F.1 F.2.1 dX0_forget_0 rfl (lv_at hl 0 rfl) ?_
  refine bi_iconst F dX0_forget_1 ?_
  refine x_put (I2 := st1 I 17 0) F hin0 tyX0 tyX0_ok nmX0 hw 10 0 rfl rfl 0 (by decide) (by decide +kernel) rfl rfl (by decide +kernel) (Nat.le_of_ble_eq_true rfl) rfl (by decide) dX0_forget_2 (fun H locs hw => ?_)
  generalize eI1 : st1 I 17 0 = I1 at hw
  exact hret _ _ _ _ _ (xW_c (by subst_vars; rfl) (by subst_vars; rfl) rfl) hw dX0_forget_5
set_option maxRecDepth 100000 in
set_option maxHeartbeats 4000000 in
theorem x2_has (l : Launch) (E : Ev) (I : Nat → Int) (A : Nat → Int → Int) (L : Nat → Int64) (i : Int) (hi : -2147483648 ≤ i ∧ i ≤ 2147483647) : MetP l yX2_has wsX2_has ({ frames := 0, cells := 0, slots := 0, locals := 0 } : Room) E [.ref (eO E 6), .int (iI i)] (xW E I A L) (0 ≤ i ∧ i < 2) := by
  refine met_P (cc := cX2_has) (nL := 2) (by decide) rfl (Nat.le_of_ble_eq_true rfl) ?_
  intro p e s m args below meth c Q H0 A0 H locs ls F hw hl hret
  have F : CallFix p m c cX2_has 2 s args wsX2_has RX2 := F
  have hl : lv_has ls 2 [(0, .ref (eO E 6)), (1, .int (iI i))] := hl
  refine lv_iload_n F.1 F.2.1 dX2_has_0 rfl (lv_at hl 1 rfl) ?_
  refine bi_if_lt (tgt := 13) F dX2_has_1 (by decide) (by omega) (fun c_1 => ?_) (fun c_1 => ?_)
  · refine bi_iconst F dX2_has_13 ?_
    exact hret _ _ _ _ _ (Or.inr ⟨rfl, by omega⟩) hw dX2_has_14
  · refine lv_iload_n F.1 F.2.1 dX2_has_4 rfl (lv_at hl 1 rfl) ?_
    refine bi_iconst F dX2_has_5 ?_
    refine bi_icmp_ge (tgt := 13) F dX2_has_6 (by decide) (by omega) (fun c_2 => ?_) (fun c_2 => ?_)
    · refine bi_iconst F dX2_has_13 ?_
      exact hret _ _ _ _ _ (Or.inr ⟨rfl, by omega⟩) hw dX2_has_14
    · refine bi_iconst F dX2_has_9 ?_
      refine lv_goto (tgt := 14) F.1 F.2.1 dX2_has_10 (by decide) ?_
      exact hret _ _ _ _ _ (Or.inl ⟨rfl, by omega⟩) hw dX2_has_14
set_option maxRecDepth 100000 in
set_option maxHeartbeats 4000000 in
theorem x7_clear (l : Launch) (E : Ev) (I : Nat → Int) (A : Nat → Int → Int) (L : Nat → Int64) : MetG l yX7_clear wsX7_clear ({ frames := 0, cells := 0, slots := 0, locals := 0 } : Room) E [.ref (eO E 2)] (xW E I A L) (xW E (st1 (st1 (st1 (st1 I 5 0) 6 0) 7 0) 8 0) (A) L) := by
  have hin7 : ∀ w ∈ wsX70, w ∈ wsX7_clear := by decide +kernel
  refine met_G (cc := cX7_clear) (nL := 1) (by decide) rfl (Nat.le_of_ble_eq_true rfl) ?_
  intro p e s m args below meth c Q H0 A0 H locs ls F hw hl hret
  have F : CallFix p m c cX7_clear 1 s args wsX7_clear RX7 := F
  have hl : lv_has ls 1 [(0, .ref (eO E 2))] := hl
  refine lv_aload_n F.1 F.2.1 dX7_clear_0 rfl (lv_at hl 0 rfl) ?_
  refine bi_iconst F dX7_clear_1 ?_
  refine x_put (I2 := st1 I 5 0) F hin7 tyX7 tyX7_ok nmX7 hw 2 7 rfl rfl 8 (by decide) (by decide +kernel) rfl rfl (by decide +kernel) (Nat.le_of_ble_eq_true rfl) rfl (by decide) dX7_clear_2 (fun H locs hw => ?_)
  generalize eI1 : st1 I 5 0 = I1 at hw
  refine lv_aload_n F.1 F.2.1 dX7_clear_5 rfl (lv_at hl 0 rfl) ?_
  refine bi_iconst F dX7_clear_6 ?_
  refine x_put (I2 := st1 I1 6 0) F hin7 tyX7 tyX7_ok nmX7 hw 2 7 rfl rfl 9 (by decide) (by decide +kernel) rfl rfl (by decide +kernel) (Nat.le_of_ble_eq_true rfl) rfl (by decide) dX7_clear_7 (fun H locs hw => ?_)
  generalize eI2 : st1 I1 6 0 = I2 at hw
  refine lv_aload_n F.1 F.2.1 dX7_clear_10 rfl (lv_at hl 0 rfl) ?_
  refine bi_iconst F dX7_clear_11 ?_
  refine x_put (I2 := st1 I2 7 0) F hin7 tyX7 tyX7_ok nmX7 hw 2 7 rfl rfl 10 (by decide) (by decide +kernel) rfl rfl (by decide +kernel) (Nat.le_of_ble_eq_true rfl) rfl (by decide) dX7_clear_12 (fun H locs hw => ?_)
  generalize eI3 : st1 I2 7 0 = I3 at hw
  refine lv_aload_n F.1 F.2.1 dX7_clear_15 rfl (lv_at hl 0 rfl) ?_
  refine bi_iconst F dX7_clear_16 ?_
  refine x_put (I2 := st1 I3 8 0) F hin7 tyX7 tyX7_ok nmX7 hw 2 7 rfl rfl 11 (by decide) (by decide +kernel) rfl rfl (by decide +kernel) (Nat.le_of_ble_eq_true rfl) rfl (by decide) dX7_clear_17 (fun H locs hw => ?_)
  generalize eI4 : st1 I3 8 0 = I4 at hw
  exact hret _ _ _ _ _ (xW_c (by subst_vars; rfl) (by subst_vars; rfl) rfl) hw dX7_clear_20
