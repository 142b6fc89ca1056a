set_option maxRecDepth 100000 in
set_option maxHeartbeats 4000000 in
theorem c_in (l : Launch) (E : Ev) (v : Int) (lo : Int) (hi : Int) (hv : -2147483648 ≤ v ∧ v ≤ 2147483647) (hlo : -2147483648 ≤ lo ∧ lo ≤ 2147483647) (hhi : -2147483648 ≤ hi ∧ hi ≤ 2147483647) : MetP l yX10_in wsX10_in ({ frames := 0, cells := 0, slots := 0, locals := 0 } : Room) E [.int (iI v), .int (iI lo), .int (iI hi)] ([]) (lo ≤ v ∧ v ≤ hi) := by
  refine met_P (cc := cX10_in) (nL := 3) (by decide) rfl (Nat.le_of_ble_eq_true rfl) ?_
  intro p e s m args below meth c Q H0 A0 H locs ls F hw hl hret
  have F : CallFix p m c cX10_in 3 s args wsX10_in RX10 := F
  have hl : lv_has ls 3 [(0, .int (iI v)), (1, .int (iI lo)), (2, .int (iI hi))] := hl
  refine lv_iload_n F.1 F.2.1 dX10_in_0 rfl (lv_at hl 0 rfl) ?_
  refine lv_iload_n F.1 F.2.1 dX10_in_1 rfl (lv_at hl 1 rfl) ?_
  refine bi_icmp_lt (tgt := 14) F dX10_in_2 (by decide) (by omega) (fun c_1 => ?_) (fun c_1 => ?_)
  · refine bi_iconst F dX10_in_14 ?_
    exact hret _ _ _ _ _ (Or.inr ⟨rfl, by omega⟩) hw dX10_in_15
  · refine lv_iload_n F.1 F.2.1 dX10_in_5 rfl (lv_at hl 0 rfl) ?_
    refine lv_iload_n F.1 F.2.1 dX10_in_6 rfl (lv_at hl 2 rfl) ?_
    refine bi_icmp_gt (tgt := 14) F dX10_in_7 (by decide) (by omega) (fun c_2 => ?_) (fun c_2 => ?_)
    · refine bi_iconst F dX10_in_14 ?_
      exact hret _ _ _ _ _ (Or.inr ⟨rfl, by omega⟩) hw dX10_in_15
    · refine bi_iconst F dX10_in_10 ?_
      refine lv_goto (tgt := 15) F.1 F.2.1 dX10_in_11 (by decide) ?_
      exact hret _ _ _ _ _ (Or.inl ⟨rfl, by omega⟩) hw dX10_in_15
set_option maxRecDepth 100000 in
set_option maxHeartbeats 4000000 in
theorem c_look (l : Launch) (E : Ev) (I : Nat → Int) (A : Nat → Int → Int) (h1 : 0 ≤ I 6 ∧ I 6 ≤ 1000) (h2 : 0 ≤ I 0 ∧ I 0 ≤ 240) : MetN l yX10_look wsX10_look ({ frames := 0, cells := 0, slots := 0, locals := 0 } : Room) E [.ref (eO E 0)] (mW E I A) (if I 6 < I 0 then A 0 (I 6) else -1) := by
  have hin : ∀ w ∈ wsX100, w ∈ wsX10_look := fun w h => in_tail h
  refine met_N (cc := cX10_look) (nL := 1) (by decide) rfl (Nat.le_of_ble_eq_true rfl) ?_
  intro p e s m args below meth c Q H0 A0 H locs ls F hw hl hret
  have F : CallFix p m c cX10_look 1 s args wsX10_look RX10 := F
  have hl : lv_has ls 1 [(0, .ref (eO E 0))] := hl
  refine lv_aload_n F.1 F.2.1 dX10_look_0 rfl (lv_at hl 0 rfl) ?_
  refine m_get F hin hw 25 (by decide) (by decide +kernel) rfl dX10_look_1 ?_
  refine lv_aload_n F.1 F.2.1 dX10_look_4 rfl (lv_at hl 0 rfl) ?_
  refine m_get F hin hw 1 (by decide) (by decide +kernel) rfl dX10_look_5 ?_
  refine bi_icmp_ge (tgt := 23) F dX10_look_8 (by decide) (by omega) (fun c_1 => ?_) (fun c_1 => ?_)
  · refine bi_iconst F dX10_look_23 ?_
    exact hret _ _ _ _ _ (by first | (rw [if_pos (by omega)]) | (rw [if_neg (by omega)])) hw dX10_look_24
  · refine lv_aload_n F.1 F.2.1 dX10_look_11 rfl (lv_at hl 0 rfl) ?_
    refine m_get F hin hw 0 (by decide) (by decide +kernel) rfl dX10_look_12 ?_
    refine lv_aload_n F.1 F.2.1 dX10_look_15 rfl (lv_at hl 0 rfl) ?_
    refine m_get F hin hw 25 (by decide) (by decide +kernel) rfl dX10_look_16 ?_
    refine m_ld F hw 0 240 rfl (by decide) (by omega) dX10_look_19 ?_
    refine lv_goto (tgt := 24) F.1 F.2.1 dX10_look_20 (by decide) ?_
    exact hret _ _ _ _ _ (by first | (rw [if_pos (by omega)]) | (rw [if_neg (by omega)])) hw dX10_look_24
set_option maxRecDepth 100000 in
set_option maxHeartbeats 4000000 in
theorem c_fault (l : Launch) (E : Ev) (I : Nat → Int) (A : Nat → Int → Int) : MetN l yX10_fault wsX10_fault ({ frames := 0, cells := 0, slots := 0, locals := 0 } : Room) E [.ref (eO E 0)] (mW E I A) (I 1) := by
  have hin : ∀ w ∈ wsX100, w ∈ wsX10_fault := fun w h => in_tail h
  refine met_N (cc := cX10_fault) (nL := 1) (by decide) rfl (Nat.le_of_ble_eq_true rfl) ?_
  intro p e s m args below meth c Q H0 A0 H locs ls F hw hl hret
  have F : CallFix p m c cX10_fault 1 s args wsX10_fault RX10 := F
  have hl : lv_has ls 1 [(0, .ref (eO E 0))] := hl
  refine lv_aload_n F.1 F.2.1 dX10_fault_0 rfl (lv_at hl 0 rfl) ?_
  refine m_get F hin hw 2 (by decide) (by decide +kernel) rfl dX10_fault_1 ?_
  exact hret _ _ _ _ _ (rfl) hw dX10_fault_4
set_option maxRecDepth 100000 in
set_option maxHeartbeats 4000000 in
theorem c_isValley (l : Launch) (E : Ev) (I : Nat → Int) (A : Nat → Int → Int) (h1 : 0 ≤ A 1 0 ∧ A 1 0 ≤ 20) : MetP l yX10_isValley wsX10_isValley ({ frames := 0, cells := 0, slots := 0, locals := 0 } : Room) E [.ref (eO E 0)] (mW E I A) (0 < A 1 0) := by
  have hin : ∀ w ∈ wsX100, w ∈ wsX10_isValley := fun w h => in_tail h
  refine met_P (cc := cX10_isValley) (nL := 1) (by decide) rfl (Nat.le_of_ble_eq_true rfl) ?_
  intro p e s m args below meth c Q H0 A0 H locs ls F hw hl hret
  have F : CallFix p m c cX10_isValley 1 s args wsX10_isValley RX10 := F
  have hl : lv_has ls 1 [(0, .ref (eO E 0))] := hl
  refine lv_aload_n F.1 F.2.1 dX10_isValley_0 rfl (lv_at hl 0 rfl) ?_
  refine m_get F hin hw 3 (by decide) (by decide +kernel) rfl dX10_isValley_1 ?_
  refine bi_iconst F dX10_isValley_4 ?_
  refine m_ld F hw 1 4 rfl (by decide) (by omega) dX10_isValley_5 ?_
  refine bi_if_le (tgt := 13) F dX10_isValley_6 (by decide) (by omega) (fun c_1 => ?_) (fun c_1 => ?_)
  · refine bi_iconst F dX10_isValley_13 ?_
    exact hret _ _ _ _ _ (Or.inr ⟨rfl, by omega⟩) hw dX10_isValley_14
  · refine bi_iconst F dX10_isValley_9 ?_
    refine lv_goto (tgt := 14) F.1 F.2.1 dX10_isValley_10 (by decide) ?_
    exact hret _ _ _ _ _ (Or.inl ⟨rfl, by omega⟩) hw dX10_isValley_14
set_option maxRecDepth 100000 in
set_option maxHeartbeats 4000000 in
theorem c_isVillage (l : Launch) (E : Ev) (I : Nat → Int) (A : Nat → Int → Int) (v : Int) (hv : -2147483648 ≤ v ∧ v ≤ 2147483647) (h1 : 0 ≤ A 1 1 ∧ A 1 1 ≤ 4) : MetP l yX10_isVillage wsX10_isVillage ({ frames := 1, cells := 0, slots := 0, locals := 22 } : Room) E [.ref (eO E 0), .int (iI v)] (mW E I A) (0 ≤ v ∧ v < A 1 1) := by
  have hin : ∀ w ∈ wsX100, w ∈ wsX10_isVillage := fun w h => in_tail h
  refine met_P (cc := cX10_isVillage) (nL := 2) (by decide) rfl (Nat.le_of_ble_eq_true rfl) ?_
  intro p e s m args below meth c Q H0 A0 H locs ls F hw hl hret
  have F : CallFix p m c cX10_isVillage 2 s args wsX10_isVillage RX10 := F
  have hl : lv_has ls 2 [(0, .ref (eO E 0)), (1, .int (iI v))] := hl
  refine lv_iload_n F.1 F.2.1 dX10_isVillage_0 rfl (lv_at hl 1 rfl) ?_
  refine bi_iconst F dX10_isVillage_1 ?_
  refine lv_aload_n F.1 F.2.1 dX10_isVillage_2 rfl (lv_at hl 0 rfl) ?_
  refine m_get F hin hw 3 (by decide) (by decide +kernel) rfl dX10_isVillage_3 ?_
  refine bi_iconst F dX10_isVillage_6 ?_
  refine m_ld F hw 1 4 rfl (by decide) (by omega) dX10_isVillage_7 ?_
  refine bi_iconst F dX10_isVillage_8 ?_
  refine bi_isub F dX10_isVillage_9 ?_
  refine calls_P0 (As := [.int (iI v), .int (iI 0), .int (iI (A 1 1 - 1))]) (rest := []) F (c_in l E v 0 (A 1 1 - 1) (by omega) (by omega) (by omega)) (va_cwS 3 F.2.2.2.2 gX10_isVillage_X10_in rfl rfl rfl (by decide +kernel) ⟨Nat.le_of_ble_eq_true rfl, Nat.le_of_ble_eq_true rfl⟩) hw rfl hl.1 rfl (Nat.le_of_ble_eq_true rfl) dX10_isVillage_10 ⟨Nat.zero_le _, Nat.zero_le _⟩ (fun q_1 H locs hw => ?_) (fun q_1 H locs hw => ?_)
  · exact hret _ _ _ _ _ (Or.inl ⟨rfl, by omega⟩) hw dX10_isVillage_13
  · exact hret _ _ _ _ _ (Or.inr ⟨rfl, by omega⟩) hw dX10_isVillage_13
set_option maxRecDepth 100000 in
set_option maxHeartbeats 4000000 in
theorem c_isPerson (l : Launch) (E : Ev) (I : Nat → Int) (A : Nat → Int → Int) (v : Int) (hv : -2147483648 ≤ v ∧ v ≤ 2147483647) (h1 : 0 ≤ A 1 2 ∧ A 1 2 ≤ 6) : MetP l yX10_isPerson wsX10_isPerson ({ frames := 1, cells := 0, slots := 0, locals := 22 } : Room) E [.ref (eO E 0), .int (iI v)] (mW E I A) (0 ≤ v ∧ v < A 1 2) := by
  have hin : ∀ w ∈ wsX100, w ∈ wsX10_isPerson := fun w h => in_tail h
  refine met_P (cc := cX10_isPerson) (nL := 2) (by decide) rfl (Nat.le_of_ble_eq_true rfl) ?_
  intro p e s m args below meth c Q H0 A0 H locs ls F hw hl hret
  have F : CallFix p m c cX10_isPerson 2 s args wsX10_isPerson RX10 := F
  have hl : lv_has ls 2 [(0, .ref (eO E 0)), (1, .int (iI v))] := hl
  refine lv_iload_n F.1 F.2.1 dX10_isPerson_0 rfl (lv_at hl 1 rfl) ?_
  refine bi_iconst F dX10_isPerson_1 ?_
  refine lv_aload_n F.1 F.2.1 dX10_isPerson_2 rfl (lv_at hl 0 rfl) ?_
  refine m_get F hin hw 3 (by decide) (by decide +kernel) rfl dX10_isPerson_3 ?_
  refine bi_iconst F dX10_isPerson_6 ?_
  refine m_ld F hw 1 4 rfl (by decide) (by omega) dX10_isPerson_7 ?_
  refine bi_iconst F dX10_isPerson_8 ?_
  refine bi_isub F dX10_isPerson_9 ?_
  refine calls_P0 (As := [.int (iI v), .int (iI 0), .int (iI (A 1 2 - 1))]) (rest := []) F (c_in l E v 0 (A 1 2 - 1) (by omega) (by omega) (by omega)) (va_cwS 3 F.2.2.2.2 gX10_isPerson_X10_in rfl rfl rfl (by decide +kernel) ⟨Nat.le_of_ble_eq_true rfl, Nat.le_of_ble_eq_true rfl⟩) hw rfl hl.1 rfl (Nat.le_of_ble_eq_true rfl) dX10_isPerson_10 ⟨Nat.zero_le _, Nat.zero_le _⟩ (fun q_1 H locs hw => ?_) (fun q_1 H locs hw => ?_)
  · exact hret _ _ _ _ _ (Or.inl ⟨rfl, by omega⟩) hw dX10_isPerson_13
  · exact hret _ _ _ _ _ (Or.inr ⟨rfl, by omega⟩) hw dX10_isPerson_13
set_option maxRecDepth 100000 in
set_option maxHeartbeats 4000000 in
theorem c_isDebt (l : Launch) (E : Ev) (I : Nat → Int) (A : Nat → Int → Int) (v : Int) (hv : -2147483648 ≤ v ∧ v ≤ 2147483647) (h1 : 0 ≤ A 1 3 ∧ A 1 3 ≤ 5) : MetP l yX10_isDebt wsX10_isDebt ({ frames := 1, cells := 0, slots := 0, locals := 22 } : Room) E [.ref (eO E 0), .int (iI v)] (mW E I A) (0 ≤ v ∧ v < A 1 3) := by
  have hin : ∀ w ∈ wsX100, w ∈ wsX10_isDebt := fun w h => in_tail h
  refine met_P (cc := cX10_isDebt) (nL := 2) (by decide) rfl (Nat.le_of_ble_eq_true rfl) ?_
  intro p e s m args below meth c Q H0 A0 H locs ls F hw hl hret
  have F : CallFix p m c cX10_isDebt 2 s args wsX10_isDebt RX10 := F
  have hl : lv_has ls 2 [(0, .ref (eO E 0)), (1, .int (iI v))] := hl
  refine lv_iload_n F.1 F.2.1 dX10_isDebt_0 rfl (lv_at hl 1 rfl) ?_
  refine bi_iconst F dX10_isDebt_1 ?_
  refine lv_aload_n F.1 F.2.1 dX10_isDebt_2 rfl (lv_at hl 0 rfl) ?_
  refine m_get F hin hw 3 (by decide) (by decide +kernel) rfl dX10_isDebt_3 ?_
  refine bi_iconst F dX10_isDebt_6 ?_
  refine m_ld F hw 1 4 rfl (by decide) (by omega) dX10_isDebt_7 ?_
  refine bi_iconst F dX10_isDebt_8 ?_
  refine bi_isub F dX10_isDebt_9 ?_
  refine calls_P0 (As := [.int (iI v), .int (iI 0), .int (iI (A 1 3 - 1))]) (rest := []) F (c_in l E v 0 (A 1 3 - 1) (by omega) (by omega) (by omega)) (va_cwS 3 F.2.2.2.2 gX10_isDebt_X10_in rfl rfl rfl (by decide +kernel) ⟨Nat.le_of_ble_eq_true rfl, Nat.le_of_ble_eq_true rfl⟩) hw rfl hl.1 rfl (Nat.le_of_ble_eq_true rfl) dX10_isDebt_10 ⟨Nat.zero_le _, Nat.zero_le _⟩ (fun q_1 H locs hw => ?_) (fun q_1 H locs hw => ?_)
  · exact hret _ _ _ _ _ (Or.inl ⟨rfl, by omega⟩) hw dX10_isDebt_13
  · exact hret _ _ _ _ _ (Or.inr ⟨rfl, by omega⟩) hw dX10_isDebt_13
set_option maxRecDepth 100000 in
set_option maxHeartbeats 4000000 in
theorem c_fallsOf (l : Launch) (E : Ev) (I : Nat → Int) (A : Nat → Int → Int) (x : Int) (v : Int) (hx : -1000 ≤ x ∧ x ≤ 1000) (hv : 0 ≤ v ∧ v < 4) (hA : ∀ k, 0 ≤ A 3 k ∧ A 3 k ≤ 40) : MetN l yX10_fallsOf wsX10_fallsOf ({ frames := 0, cells := 0, slots := 0, locals := 0 } : Room) E [.ref (eO E 0), .int (iI x), .int (iI v)] (mW E I A) (mFo (A 3) x v) := by
  have hin : ∀ w ∈ wsX100, w ∈ wsX10_fallsOf := fun w h => in_tail h
  refine met_N (cc := cX10_fallsOf) (nL := 3) (by decide) rfl (Nat.le_of_ble_eq_true rfl) ?_
  intro p e s m args below meth c Q H0 A0 H locs ls F hw hl hret
  have F : CallFix p m c cX10_fallsOf 3 s args wsX10_fallsOf RX10 := F
  have hl : lv_has ls 3 [(0, .ref (eO E 0)), (1, .int (iI x)), (2, .int (iI v))] := hl
  refine lv_iload_n F.1 F.2.1 dX10_fallsOf_0 rfl (lv_at hl 1 rfl) ?_
  refine lv_aload_n F.1 F.2.1 dX10_fallsOf_1 rfl (lv_at hl 0 rfl) ?_
  refine m_get F hin hw 5 (by decide) (by decide +kernel) rfl dX10_fallsOf_2 ?_
  refine bi_iconst F dX10_fallsOf_5 ?_
  refine lv_iload_n F.1 F.2.1 dX10_fallsOf_6 rfl (lv_at hl 2 rfl) ?_
  refine bi_imul F dX10_fallsOf_7 ?_
  refine m_ld F hw 3 20 rfl (by decide) (by omega) dX10_fallsOf_8 ?_
  have f_1 := hA (5 * v)
  refine bi_icmp_le (tgt := 25) F dX10_fallsOf_9 (by decide) (by omega) (fun c_2 => ?_) (fun c_2 => ?_)
  · refine bi_iconst F dX10_fallsOf_25 ?_
    exact hret _ _ _ _ _ (by unfold mFo; first | rw [if_pos (by omega)] | rw [if_neg (by omega)]) hw dX10_fallsOf_26
  · refine lv_iload_n F.1 F.2.1 dX10_fallsOf_12 rfl (lv_at hl 1 rfl) ?_
    refine lv_aload_n F.1 F.2.1 dX10_fallsOf_13 rfl (lv_at hl 0 rfl) ?_
    refine m_get F hin hw 5 (by decide) (by decide +kernel) rfl dX10_fallsOf_14 ?_
    refine bi_iconst F dX10_fallsOf_17 ?_
    refine lv_iload_n F.1 F.2.1 dX10_fallsOf_18 rfl (lv_at hl 2 rfl) ?_
    refine bi_imul F dX10_fallsOf_19 ?_
    refine m_ld F hw 3 20 rfl (by decide) (by omega) dX10_fallsOf_20 ?_
    have f_3 := hA (5 * v)
    refine bi_isub F dX10_fallsOf_21 ?_
    refine lv_goto (tgt := 26) F.1 F.2.1 dX10_fallsOf_22 (by decide) ?_
    exact hret _ _ _ _ _ (by unfold mFo; first | rw [if_pos (by omega)] | rw [if_neg (by omega)]) hw dX10_fallsOf_26
set_option maxRecDepth 100000 in
set_option maxHeartbeats 4000000 in
theorem c_middle (l : Launch) (E : Ev) (I : Nat → Int) (A : Nat → Int → Int) (v : Int) (hv : 0 ≤ v ∧ v < 4) (hA : ∀ k, 0 ≤ A 3 k ∧ A 3 k ≤ 40) : MetN l yX10_middle wsX10_middle ({ frames := 0, cells := 0, slots := 0, locals := 0 } : Room) E [.ref (eO E 0), .int (iI v)] (mW E I A) (mMid (A 3) v) := by
  have hin : ∀ w ∈ wsX100, w ∈ wsX10_middle := fun w h => in_tail h
  refine met_N (cc := cX10_middle) (nL := 7) (by decide) rfl (Nat.le_of_ble_eq_true rfl) ?_
  intro p e s m args below meth c Q H0 A0 H locs ls F hw hl hret
  have F : CallFix p m c cX10_middle 7 s args wsX10_middle RX10 := F
  have hl : lv_has ls 7 [(0, .ref (eO E 0)), (1, .int (iI v))] := hl
  refine lv_aload_n F.1 F.2.1 dX10_middle_0 rfl (lv_at hl 0 rfl) ?_
  refine m_get F hin hw 5 (by decide) (by decide +kernel) rfl dX10_middle_1 ?_
  refine bi_iconst F dX10_middle_4 ?_
  refine lv_iload_n F.1 F.2.1 dX10_middle_5 rfl (lv_at hl 1 rfl) ?_
  refine bi_imul F dX10_middle_6 ?_
  refine bi_iconst F dX10_middle_7 ?_
  refine bi_iadd F dX10_middle_8 ?_
  refine m_ld F hw 3 20 rfl (by decide) (by omega) dX10_middle_9 ?_
  have f_1 := hA (5 * v + 1)
  refine lv_istore_n (lv' := [(2, .int (iI (A 3 (5 * v + 1)))), (0, .ref (eO E 0)), (1, .int (iI v))]) F.1 F.2.1 dX10_middle_10 rfl hl (by decide) rfl (fun ls hl => ?_)
  refine lv_aload_n F.1 F.2.1 dX10_middle_11 rfl (lv_at hl 1 rfl) ?_
  refine m_get F hin hw 5 (by decide) (by decide +kernel) rfl dX10_middle_12 ?_
  refine bi_iconst F dX10_middle_15 ?_
  refine lv_iload_n F.1 F.2.1 dX10_middle_16 rfl (lv_at hl 2 rfl) ?_
  refine bi_imul F dX10_middle_17 ?_
  refine bi_iconst F dX10_middle_18 ?_
  refine bi_iadd F dX10_middle_19 ?_
  refine m_ld F hw 3 20 rfl (by decide) (by omega) dX10_middle_20 ?_
  have f_2 := hA (5 * v + 2)
  refine lv_istore_n (lv' := [(3, .int (iI (A 3 (5 * v + 2)))), (2, .int (iI (A 3 (5 * v + 1)))), (0, .ref (eO E 0)), (1, .int (iI v))]) F.1 F.2.1 dX10_middle_21 rfl hl (by decide) rfl (fun ls hl => ?_)
  refine lv_aload_n F.1 F.2.1 dX10_middle_22 rfl (lv_at hl 2 rfl) ?_
  refine m_get F hin hw 5 (by decide) (by decide +kernel) rfl dX10_middle_23 ?_
  refine bi_iconst F dX10_middle_26 ?_
  refine lv_iload_n F.1 F.2.1 dX10_middle_27 rfl (lv_at hl 3 rfl) ?_
  refine bi_imul F dX10_middle_28 ?_
  refine bi_iconst F dX10_middle_29 ?_
  refine bi_iadd F dX10_middle_30 ?_
  refine m_ld F hw 3 20 rfl (by decide) (by omega) dX10_middle_31 ?_
  have f_3 := hA (5 * v + 3)
  refine lv_istore (lv' := [(4, .int (iI (A 3 (5 * v + 3)))), (3, .int (iI (A 3 (5 * v + 2)))), (2, .int (iI (A 3 (5 * v + 1)))), (0, .ref (eO E 0)), (1, .int (iI v))]) F.1 F.2.1 dX10_middle_32 hl (by decide) rfl (fun ls hl => ?_)
  refine lv_iload_n F.1 F.2.1 dX10_middle_34 rfl (lv_at hl 2 rfl) ?_
  refine lv_iload_n F.1 F.2.1 dX10_middle_35 rfl (lv_at hl 1 rfl) ?_
  refine bi_icmp_ge (tgt := 43) F dX10_middle_36 (by decide) (by omega) (fun c_4 => ?_) (fun c_4 => ?_)
  · refine lv_iload_n F.1 F.2.1 dX10_middle_43 rfl (lv_at hl 1 rfl) ?_
    refine lv_istore (lv' := [(5, .int (iI (A 3 (5 * v + 2)))), (4, .int (iI (A 3 (5 * v + 3)))), (3, .int (iI (A 3 (5 * v + 2)))), (2, .int (iI (A 3 (5 * v + 1)))), (0, .ref (eO E 0)), (1, .int (iI v))]) F.1 F.2.1 dX10_middle_44 hl (by decide) rfl (fun ls hl => ?_)
    refine lv_iload_n F.1 F.2.1 dX10_middle_46 rfl (lv_at hl 3 rfl) ?_
    refine lv_iload_n F.1 F.2.1 dX10_middle_47 rfl (lv_at hl 2 rfl) ?_
    refine bi_icmp_ge (tgt := 55) F dX10_middle_48 (by decide) (by omega) (fun c_5 => ?_) (fun c_5 => ?_)
    · refine lv_iload_n F.1 F.2.1 dX10_middle_55 rfl (lv_at hl 3 rfl) ?_
      refine lv_istore (lv' := [(6, .int (iI (A 3 (5 * v + 1)))), (5, .int (iI (A 3 (5 * v + 2)))), (4, .int (iI (A 3 (5 * v + 3)))), (3, .int (iI (A 3 (5 * v + 2)))), (2, .int (iI (A 3 (5 * v + 1)))), (0, .ref (eO E 0)), (1, .int (iI v))]) F.1 F.2.1 dX10_middle_56 hl (by decide) rfl (fun ls hl => ?_)
      refine lv_iload F.1 F.2.1 dX10_middle_58 (lv_at hl 2 rfl) ?_
      refine lv_iload F.1 F.2.1 dX10_middle_60 (lv_at hl 1 rfl) ?_
      refine bi_icmp_ge (tgt := 70) F dX10_middle_62 (by decide) (by omega) (fun c_6 => ?_) (fun c_6 => ?_)
      · refine lv_iload F.1 F.2.1 dX10_middle_70 (lv_at hl 2 rfl) ?_
        refine lv_iload F.1 F.2.1 dX10_middle_72 (lv_at hl 0 rfl) ?_
        refine bi_icmp_le (tgt := 82) F dX10_middle_74 (by decide) (by omega) (fun c_7 => ?_) (fun c_7 => ?_)
        · refine lv_iload F.1 F.2.1 dX10_middle_82 (lv_at hl 2 rfl) ?_
          exact hret _ _ _ _ _ (by unfold mMid mLow mHigh; (repeat' split) <;> omega) hw dX10_middle_84
        · refine lv_iload F.1 F.2.1 dX10_middle_77 (lv_at hl 0 rfl) ?_
          refine lv_goto (tgt := 84) F.1 F.2.1 dX10_middle_79 (by decide) ?_
          exact hret _ _ _ _ _ (by unfold mMid mLow mHigh; (repeat' split) <;> omega) hw dX10_middle_84
      · refine lv_iload F.1 F.2.1 dX10_middle_65 (lv_at hl 1 rfl) ?_
        refine lv_goto (tgt := 84) F.1 F.2.1 dX10_middle_67 (by decide) ?_
        exact hret _ _ _ _ _ (by unfold mMid mLow mHigh; (repeat' split) <;> omega) hw dX10_middle_84
    · refine lv_iload_n F.1 F.2.1 dX10_middle_51 rfl (lv_at hl 2 rfl) ?_
      refine lv_goto (tgt := 56) F.1 F.2.1 dX10_middle_52 (by decide) ?_
      refine lv_istore (lv' := [(6, .int (iI (A 3 (5 * v + 2)))), (5, .int (iI (A 3 (5 * v + 2)))), (4, .int (iI (A 3 (5 * v + 3)))), (3, .int (iI (A 3 (5 * v + 2)))), (2, .int (iI (A 3 (5 * v + 1)))), (0, .ref (eO E 0)), (1, .int (iI v))]) F.1 F.2.1 dX10_middle_56 hl (by decide) rfl (fun ls hl => ?_)
      refine lv_iload F.1 F.2.1 dX10_middle_58 (lv_at hl 2 rfl) ?_
      refine lv_iload F.1 F.2.1 dX10_middle_60 (lv_at hl 1 rfl) ?_
      refine bi_icmp_ge (tgt := 70) F dX10_middle_62 (by decide) (by omega) (fun c_8 => ?_) (fun c_8 => ?_)
      · refine lv_iload F.1 F.2.1 dX10_middle_70 (lv_at hl 2 rfl) ?_
        refine lv_iload F.1 F.2.1 dX10_middle_72 (lv_at hl 0 rfl) ?_
        refine bi_icmp_le (tgt := 82) F dX10_middle_74 (by decide) (by omega) (fun c_9 => ?_) (fun c_9 => ?_)
        · refine lv_iload F.1 F.2.1 dX10_middle_82 (lv_at hl 2 rfl) ?_
          exact hret _ _ _ _ _ (by unfold mMid mLow mHigh; (repeat' split) <;> omega) hw dX10_middle_84
        · refine lv_iload F.1 F.2.1 dX10_middle_77 (lv_at hl 0 rfl) ?_
          refine lv_goto (tgt := 84) F.1 F.2.1 dX10_middle_79 (by decide) ?_
          exact hret _ _ _ _ _ (by unfold mMid mLow mHigh; (repeat' split) <;> omega) hw dX10_middle_84
      · refine lv_iload F.1 F.2.1 dX10_middle_65 (lv_at hl 1 rfl) ?_
        refine lv_goto (tgt := 84) F.1 F.2.1 dX10_middle_67 (by decide) ?_
        exact hret _ _ _ _ _ (by unfold mMid mLow mHigh; (repeat' split) <;> omega) hw dX10_middle_84
  · refine lv_iload_n F.1 F.2.1 dX10_middle_39 rfl (lv_at hl 2 rfl) ?_
    refine lv_goto (tgt := 44) F.1 F.2.1 dX10_middle_40 (by decide) ?_
    refine lv_istore (lv' := [(5, .int (iI (A 3 (5 * v + 1)))), (4, .int (iI (A 3 (5 * v + 3)))), (3, .int (iI (A 3 (5 * v + 2)))), (2, .int (iI (A 3 (5 * v + 1)))), (0, .ref (eO E 0)), (1, .int (iI v))]) F.1 F.2.1 dX10_middle_44 hl (by decide) rfl (fun ls hl => ?_)
    refine lv_iload_n F.1 F.2.1 dX10_middle_46 rfl (lv_at hl 3 rfl) ?_
    refine lv_iload_n F.1 F.2.1 dX10_middle_47 rfl (lv_at hl 2 rfl) ?_
    refine bi_icmp_ge (tgt := 55) F dX10_middle_48 (by decide) (by omega) (fun c_10 => ?_) (fun c_10 => ?_)
    · refine lv_iload_n F.1 F.2.1 dX10_middle_55 rfl (lv_at hl 3 rfl) ?_
      refine lv_istore (lv' := [(6, .int (iI (A 3 (5 * v + 1)))), (5, .int (iI (A 3 (5 * v + 1)))), (4, .int (iI (A 3 (5 * v + 3)))), (3, .int (iI (A 3 (5 * v + 2)))), (2, .int (iI (A 3 (5 * v + 1)))), (0, .ref (eO E 0)), (1, .int (iI v))]) F.1 F.2.1 dX10_middle_56 hl (by decide) rfl (fun ls hl => ?_)
      refine lv_iload F.1 F.2.1 dX10_middle_58 (lv_at hl 2 rfl) ?_
      refine lv_iload F.1 F.2.1 dX10_middle_60 (lv_at hl 1 rfl) ?_
      refine bi_icmp_ge (tgt := 70) F dX10_middle_62 (by decide) (by omega) (fun c_11 => ?_) (fun c_11 => ?_)
      · refine lv_iload F.1 F.2.1 dX10_middle_70 (lv_at hl 2 rfl) ?_
        refine lv_iload F.1 F.2.1 dX10_middle_72 (lv_at hl 0 rfl) ?_
        refine bi_icmp_le (tgt := 82) F dX10_middle_74 (by decide) (by omega) (fun c_12 => ?_) (fun c_12 => ?_)
        · refine lv_iload F.1 F.2.1 dX10_middle_82 (lv_at hl 2 rfl) ?_
          exact hret _ _ _ _ _ (by unfold mMid mLow mHigh; (repeat' split) <;> omega) hw dX10_middle_84
        · refine lv_iload F.1 F.2.1 dX10_middle_77 (lv_at hl 0 rfl) ?_
          refine lv_goto (tgt := 84) F.1 F.2.1 dX10_middle_79 (by decide) ?_
          exact hret _ _ _ _ _ (by unfold mMid mLow mHigh; (repeat' split) <;> omega) hw dX10_middle_84
      · refine lv_iload F.1 F.2.1 dX10_middle_65 (lv_at hl 1 rfl) ?_
        refine lv_goto (tgt := 84) F.1 F.2.1 dX10_middle_67 (by decide) ?_
        exact hret _ _ _ _ _ (by unfold mMid mLow mHigh; (repeat' split) <;> omega) hw dX10_middle_84
    · refine lv_iload_n F.1 F.2.1 dX10_middle_51 rfl (lv_at hl 2 rfl) ?_
      refine lv_goto (tgt := 56) F.1 F.2.1 dX10_middle_52 (by decide) ?_
      refine lv_istore (lv' := [(6, .int (iI (A 3 (5 * v + 2)))), (5, .int (iI (A 3 (5 * v + 1)))), (4, .int (iI (A 3 (5 * v + 3)))), (3, .int (iI (A 3 (5 * v + 2)))), (2, .int (iI (A 3 (5 * v + 1)))), (0, .ref (eO E 0)), (1, .int (iI v))]) F.1 F.2.1 dX10_middle_56 hl (by decide) rfl (fun ls hl => ?_)
      refine lv_iload F.1 F.2.1 dX10_middle_58 (lv_at hl 2 rfl) ?_
      refine lv_iload F.1 F.2.1 dX10_middle_60 (lv_at hl 1 rfl) ?_
      refine bi_icmp_ge (tgt := 70) F dX10_middle_62 (by decide) (by omega) (fun c_13 => ?_) (fun c_13 => ?_)
      · refine lv_iload F.1 F.2.1 dX10_middle_70 (lv_at hl 2 rfl) ?_
        refine lv_iload F.1 F.2.1 dX10_middle_72 (lv_at hl 0 rfl) ?_
        refine bi_icmp_le (tgt := 82) F dX10_middle_74 (by decide) (by omega) (fun c_14 => ?_) (fun c_14 => ?_)
        · refine lv_iload F.1 F.2.1 dX10_middle_82 (lv_at hl 2 rfl) ?_
          exact hret _ _ _ _ _ (by unfold mMid mLow mHigh; (repeat' split) <;> omega) hw dX10_middle_84
        · refine lv_iload F.1 F.2.1 dX10_middle_77 (lv_at hl 0 rfl) ?_
          refine lv_goto (tgt := 84) F.1 F.2.1 dX10_middle_79 (by decide) ?_
          exact hret _ _ _ _ _ (by unfold mMid mLow mHigh; (repeat' split) <;> omega) hw dX10_middle_84
      · refine lv_iload F.1 F.2.1 dX10_middle_65 (lv_at hl 1 rfl) ?_
        refine lv_goto (tgt := 84) F.1 F.2.1 dX10_middle_67 (by decide) ?_
        exact hret _ _ _ _ _ (by unfold mMid mLow mHigh; (repeat' split) <;> omega) hw dX10_middle_84
set_option maxRecDepth 100000 in
set_option maxHeartbeats 4000000 in
theorem c_isFall (l : Launch) (E : Ev) (I : Nat → Int) (A : Nat → Int → Int) (x : Int) (v : Int) (hx : -1000 ≤ x ∧ x ≤ 1000) (hv : 0 ≤ v ∧ v < 4) (hA : ∀ k, 0 ≤ A 3 k ∧ A 3 k ≤ 40) : MetP l yX10_isFall wsX10_isFall ({ frames := 1, cells := 0, slots := 0, locals := 26 } : Room) E [.ref (eO E 0), .int (iI x), .int (iI v)] (mW E I A) (mFall (A 3) x v) := by
  refine met_P (cc := cX10_isFall) (nL := 4) (by decide) rfl (Nat.le_of_ble_eq_true rfl) ?_
  intro p e s m args below meth c Q H0 A0 H locs ls F hw hl hret
  have F : CallFix p m c cX10_isFall 4 s args wsX10_isFall RX10 := F
  have hl : lv_has ls 4 [(0, .ref (eO E 0)), (1, .int (iI x)), (2, .int (iI v))] := hl
  refine lv_aload_n F.1 F.2.1 dX10_isFall_0 rfl (lv_at hl 0 rfl) ?_
  refine lv_iload_n F.1 F.2.1 dX10_isFall_1 rfl (lv_at hl 1 rfl) ?_
  refine lv_iload_n F.1 F.2.1 dX10_isFall_2 rfl (lv_at hl 2 rfl) ?_
  refine call_N (As := [.int (iI x), .int (iI v)]) (rest := []) F (c_fallsOf l E I A x v (by omega) (by omega) (hA)) (cwV 2 F.2.2.2.2 gX10_isFall_X10_fallsOf rfl rfl rfl (by decide +kernel) ⟨Nat.le_of_ble_eq_true rfl, Nat.le_of_ble_eq_true rfl⟩) hw (m_recv hw) rfl hl.1 rfl (Nat.le_of_ble_eq_true rfl) dX10_isFall_3 ⟨Nat.zero_le _, Nat.zero_le _⟩ (fun H locs hw => ?_)
  have f_1 := mFo_r (V := A 3) (x := x) (v := v) hA (by omega)
  refine lv_istore_n (lv' := [(3, .int (iI (mFo (A 3) x v))), (0, .ref (eO E 0)), (1, .int (iI x)), (2, .int (iI v))]) F.1 F.2.1 dX10_isFall_6 rfl hl (by decide) rfl (fun ls hl => ?_)
  refine lv_iload_n F.1 F.2.1 dX10_isFall_7 rfl (lv_at hl 0 rfl) ?_
  refine bi_if_le (tgt := 24) F dX10_isFall_8 (by decide) (by omega) (fun c_2 => ?_) (fun c_2 => ?_)
  · refine bi_iconst F dX10_isFall_24 ?_
    exact hret _ _ _ _ _ (Or.inr ⟨rfl, by unfold mFall; omega⟩) hw dX10_isFall_25
  · refine lv_iload_n F.1 F.2.1 dX10_isFall_11 rfl (lv_at hl 0 rfl) ?_
    refine lv_aload_n F.1 F.2.1 dX10_isFall_12 rfl (lv_at hl 1 rfl) ?_
    refine lv_iload_n F.1 F.2.1 dX10_isFall_13 rfl (lv_at hl 3 rfl) ?_
    refine call_N (As := [.int (iI v)]) (rest := [.int (iI (mFo (A 3) x v))]) F (c_middle l E I A v (by omega) hA) (cwV 1 F.2.2.2.2 gX10_isFall_X10_middle rfl rfl rfl (by decide +kernel) ⟨Nat.le_of_ble_eq_true rfl, Nat.le_of_ble_eq_true rfl⟩) hw (m_recv hw) rfl hl.1 rfl (Nat.le_of_ble_eq_true rfl) dX10_isFall_14 ⟨Nat.zero_le _, Nat.zero_le _⟩ (fun H locs hw => ?_)
    have f_3 := mMid_r (V := A 3) (v := v) hA
    refine bi_icmp_lt (tgt := 24) F dX10_isFall_17 (by decide) (by omega) (fun c_4 => ?_) (fun c_4 => ?_)
    · refine bi_iconst F dX10_isFall_24 ?_
      exact hret _ _ _ _ _ (Or.inr ⟨rfl, by unfold mFall; omega⟩) hw dX10_isFall_25
    · refine bi_iconst F dX10_isFall_20 ?_
      refine lv_goto (tgt := 25) F.1 F.2.1 dX10_isFall_21 (by decide) ?_
      exact hret _ _ _ _ _ (Or.inl ⟨rfl, by unfold mFall; omega⟩) hw dX10_isFall_25
set_option maxRecDepth 100000 in
set_option maxHeartbeats 4000000 in
theorem c_poleOf (l : Launch) (E : Ev) (I : Nat → Int) (A : Nat → Int → Int) (j : Nat) (v : Int) (hj : mLen j = 35) (hj2 : j < 21) (hv : 0 ≤ v ∧ v < 4) (hf : ∀ k, 0 ≤ A j k ∧ A j k ≤ 900000) : MetN l yX10_poleOf wsX10_poleOf ({ frames := 0, cells := 0, slots := 0, locals := 0 } : Room) E [.ref (eO E 0), .ref (eA E j), .int (iI v)] (mW E I A) (mPole (A j) v) := by
  refine met_N (cc := cX10_poleOf) (nL := 4) (by decide) rfl (Nat.le_of_ble_eq_true rfl) ?_
  intro p e s m args below meth c Q H0 A0 H locs ls F hw hl hret
  have F : CallFix p m c cX10_poleOf 4 s args wsX10_poleOf RX10 := F
  have hl : lv_has ls 4 [(0, .ref (eO E 0)), (1, .ref (eA E j)), (2, .int (iI v))] := hl
  refine lv_aload_n F.1 F.2.1 dX10_poleOf_0 rfl (lv_at hl 1 rfl) ?_
  refine bi_iconst F dX10_poleOf_1 ?_
  refine bi_iconst F dX10_poleOf_2 ?_
  refine lv_iload_n F.1 F.2.1 dX10_poleOf_3 rfl (lv_at hl 2 rfl) ?_
  refine bi_imul F dX10_poleOf_4 ?_
  refine bi_iadd F dX10_poleOf_5 ?_
  refine m_ld F hw j 35 hj hj2 (by omega) dX10_poleOf_6 ?_
  have f_1 := hf (1 + (3 * v))
  refine lv_aload_n F.1 F.2.1 dX10_poleOf_7 rfl (lv_at hl 1 rfl) ?_
  refine bi_iconst F dX10_poleOf_8 ?_
  refine bi_iconst F dX10_poleOf_9 ?_
  refine lv_iload_n F.1 F.2.1 dX10_poleOf_10 rfl (lv_at hl 2 rfl) ?_
  refine bi_imul F dX10_poleOf_11 ?_
  refine bi_iadd F dX10_poleOf_12 ?_
  refine bi_iconst F dX10_poleOf_13 ?_
  refine bi_iadd F dX10_poleOf_14 ?_
  refine m_ld F hw j 35 hj hj2 (by omega) dX10_poleOf_15 ?_
  have f_2 := hf (1 + (3 * v) + 1)
  refine bi_isub F dX10_poleOf_16 ?_
  refine lv_istore_n (lv' := [(3, .int (iI (A j (1 + (3 * v)) - (A j (1 + (3 * v) + 1))))), (0, .ref (eO E 0)), (1, .ref (eA E j)), (2, .int (iI v))]) F.1 F.2.1 dX10_poleOf_17 rfl hl (by decide) rfl (fun ls hl => ?_)
  refine lv_iload_n F.1 F.2.1 dX10_poleOf_18 rfl (lv_at hl 0 rfl) ?_
  refine bi_if_ge (tgt := 26) F dX10_poleOf_19 (by decide) (by omega) (fun c_3 => ?_) (fun c_3 => ?_)
  · refine lv_iload_n F.1 F.2.1 dX10_poleOf_26 rfl (lv_at hl 0 rfl) ?_
    exact hret _ _ _ _ _ (by unfold mPole; first | rw [if_pos (by omega)] | rw [if_neg (by omega)]) hw dX10_poleOf_27
  · refine bi_iconst F dX10_poleOf_22 ?_
    refine lv_goto (tgt := 27) F.1 F.2.1 dX10_poleOf_23 (by decide) ?_
    exact hret _ _ _ _ _ (by unfold mPole; first | rw [if_pos (by omega)] | rw [if_neg (by omega)]) hw dX10_poleOf_27
set_option maxRecDepth 100000 in
set_option maxHeartbeats 4000000 in
theorem c_ageOf (l : Launch) (E : Ev) (I : Nat → Int) (A : Nat → Int → Int) (j : Nat) (q : Int) (hj : mLen j = 35) (hj2 : j < 21) (hq : 0 ≤ q ∧ q < 6) (hf : ∀ k, 0 ≤ A j k ∧ A j k ≤ 900000) (hA : ∀ k, 0 ≤ A 3 k ∧ A 3 k ≤ 40) (hh : A j (13 + 2 * q) < 4) (hy : 0 < A 3 (5 * A j (13 + 2 * q) + 4)) : MetN l yX10_ageOf wsX10_ageOf ({ frames := 0, cells := 0, slots := 0, locals := 0 } : Room) E [.ref (eO E 0), .ref (eA E j), .int (iI q)] (mW E I A) (mAge (A 3) (A j) q) := by
  have hin : ∀ w ∈ wsX100, w ∈ wsX10_ageOf := fun w h => in_tail h
  refine met_N (cc := cX10_ageOf) (nL := 3) (by decide) rfl (Nat.le_of_ble_eq_true rfl) ?_
  intro p e s m args below meth c Q H0 A0 H locs ls F hw hl hret
  have F : CallFix p m c cX10_ageOf 3 s args wsX10_ageOf RX10 := F
  have hl : lv_has ls 3 [(0, .ref (eO E 0)), (1, .ref (eA E j)), (2, .int (iI q))] := hl
  refine lv_aload_n F.1 F.2.1 dX10_ageOf_0 rfl (lv_at hl 1 rfl) ?_
  refine bi_bipush F dX10_ageOf_1 (by decide) ?_
  refine bi_iconst F dX10_ageOf_3 ?_
  refine lv_iload_n F.1 F.2.1 dX10_ageOf_4 rfl (lv_at hl 2 rfl) ?_
  refine bi_imul F dX10_ageOf_5 ?_
  refine bi_iadd F dX10_ageOf_6 ?_
  refine bi_iconst F dX10_ageOf_7 ?_
  refine bi_iadd F dX10_ageOf_8 ?_
  refine m_ld F hw j 35 hj hj2 (by omega) dX10_ageOf_9 ?_
  have f_1 := hf (13 + (2 * q) + 1)
  refine lv_aload_n F.1 F.2.1 dX10_ageOf_10 rfl (lv_at hl 0 rfl) ?_
  refine m_get F hin hw 5 (by decide) (by decide +kernel) rfl dX10_ageOf_11 ?_
  refine bi_iconst F dX10_ageOf_14 ?_
  refine lv_aload_n F.1 F.2.1 dX10_ageOf_15 rfl (lv_at hl 1 rfl) ?_
  refine bi_bipush F dX10_ageOf_16 (by decide) ?_
  refine bi_iconst F dX10_ageOf_18 ?_
  refine lv_iload_n F.1 F.2.1 dX10_ageOf_19 rfl (lv_at hl 2 rfl) ?_
  refine bi_imul F dX10_ageOf_20 ?_
  refine bi_iadd F dX10_ageOf_21 ?_
  refine m_ld F hw j 35 hj hj2 (by omega) dX10_ageOf_22 ?_
  have f_2 := hf (13 + (2 * q))
  refine bi_imul F dX10_ageOf_23 ?_
  refine bi_iconst F dX10_ageOf_24 ?_
  refine bi_iadd F dX10_ageOf_25 ?_
  refine m_ld F hw 3 20 rfl (by decide) (by omega) dX10_ageOf_26 ?_
  have f_3 := hA (5 * (A j (13 + (2 * q))) + 4)
  refine bi_idiv F dX10_ageOf_27 (by omega) ?_
  exact hret _ _ _ _ _ (rfl) hw dX10_ageOf_28
set_option maxRecDepth 100000 in
set_option maxHeartbeats 4000000 in
theorem c_sinceOf (l : Launch) (E : Ev) (I : Nat → Int) (A : Nat → Int → Int) (j : Nat) (d : Int) (hj : mLen j = 35) (hj2 : j < 21) (hd : 0 ≤ d ∧ d < 5) (hf : ∀ k, 0 ≤ A j k ∧ A j k ≤ 900000) (hA : 0 ≤ A 5 (2 * d) ∧ A 5 (2 * d) < 4) : MetN l yX10_sinceOf wsX10_sinceOf ({ frames := 0, cells := 0, slots := 0, locals := 0 } : Room) E [.ref (eO E 0), .ref (eA E j), .int (iI d)] (mW E I A) (mSince (A 5) (A j) d) := by
  have hin : ∀ w ∈ wsX100, w ∈ wsX10_sinceOf := fun w h => in_tail h
  refine met_N (cc := cX10_sinceOf) (nL := 3) (by decide) rfl (Nat.le_of_ble_eq_true rfl) ?_
  intro p e s m args below meth c Q H0 A0 H locs ls F hw hl hret
  have F : CallFix p m c cX10_sinceOf 3 s args wsX10_sinceOf RX10 := F
  have hl : lv_has ls 3 [(0, .ref (eO E 0)), (1, .ref (eA E j)), (2, .int (iI d))] := hl
  refine lv_aload_n F.1 F.2.1 dX10_sinceOf_0 rfl (lv_at hl 1 rfl) ?_
  refine bi_bipush F dX10_sinceOf_1 (by decide) ?_
  refine bi_iconst F dX10_sinceOf_3 ?_
  refine lv_iload_n F.1 F.2.1 dX10_sinceOf_4 rfl (lv_at hl 2 rfl) ?_
  refine bi_imul F dX10_sinceOf_5 ?_
  refine bi_iadd F dX10_sinceOf_6 ?_
  refine m_ld F hw j 35 hj hj2 (by omega) dX10_sinceOf_7 ?_
  have f_1 := hf (25 + (2 * d))
  refine bi_if_ne (tgt := 15) F dX10_sinceOf_8 (by decide) (by omega) (fun c_2 => ?_) (fun c_2 => ?_)
  · refine lv_aload_n F.1 F.2.1 dX10_sinceOf_15 rfl (lv_at hl 1 rfl) ?_
    refine bi_iconst F dX10_sinceOf_16 ?_
    refine bi_iconst F dX10_sinceOf_17 ?_
    refine lv_aload_n F.1 F.2.1 dX10_sinceOf_18 rfl (lv_at hl 0 rfl) ?_
    refine m_get F hin hw 7 (by decide) (by decide +kernel) rfl dX10_sinceOf_19 ?_
    refine bi_iconst F dX10_sinceOf_22 ?_
    refine lv_iload_n F.1 F.2.1 dX10_sinceOf_23 rfl (lv_at hl 2 rfl) ?_
    refine bi_imul F dX10_sinceOf_24 ?_
    refine m_ld F hw 5 10 rfl (by decide) (by omega) dX10_sinceOf_25 ?_
    have f_3 := hA
    refine bi_imul F dX10_sinceOf_26 ?_
    refine bi_iadd F dX10_sinceOf_27 ?_
    refine bi_iconst F dX10_sinceOf_28 ?_
    refine bi_iadd F dX10_sinceOf_29 ?_
    refine m_ld F hw j 35 hj hj2 (by omega) dX10_sinceOf_30 ?_
    have f_4 := hf (1 + (3 * (A 5 (2 * d))) + 2)
    refine lv_aload_n F.1 F.2.1 dX10_sinceOf_31 rfl (lv_at hl 1 rfl) ?_
    refine bi_bipush F dX10_sinceOf_32 (by decide) ?_
    refine bi_iconst F dX10_sinceOf_34 ?_
    refine lv_iload_n F.1 F.2.1 dX10_sinceOf_35 rfl (lv_at hl 2 rfl) ?_
    refine bi_imul F dX10_sinceOf_36 ?_
    refine bi_iadd F dX10_sinceOf_37 ?_
    refine bi_iconst F dX10_sinceOf_38 ?_
    refine bi_iadd F dX10_sinceOf_39 ?_
    refine m_ld F hw j 35 hj hj2 (by omega) dX10_sinceOf_40 ?_
    have f_5 := hf (25 + (2 * d) + 1)
    refine bi_isub F dX10_sinceOf_41 ?_
    exact hret _ _ _ _ _ (by unfold mSince; first | rw [if_pos (by omega)] | rw [if_neg (by omega)]) hw dX10_sinceOf_42
  · refine bi_iconst F dX10_sinceOf_11 ?_
    refine lv_goto (tgt := 42) F.1 F.2.1 dX10_sinceOf_12 (by decide) ?_
    exact hret _ _ _ _ _ (by unfold mSince; first | rw [if_pos (by omega)] | rw [if_neg (by omega)]) hw dX10_sinceOf_42
set_option maxRecDepth 100000 in
set_option maxHeartbeats 4000000 in
theorem c_isDue (l : Launch) (E : Ev) (I : Nat → Int) (A : Nat → Int → Int) (j : Nat) (d : Int) (hj : mLen j = 35) (hj2 : j < 21) (hd : 0 ≤ d ∧ d < 5) (hf : ∀ k, 0 ≤ A j k ∧ A j k ≤ 900000) (hA : 0 ≤ A 5 (2 * d) ∧ A 5 (2 * d) < 4) : MetP l yX10_isDue wsX10_isDue ({ frames := 1, cells := 0, slots := 0, locals := 22 } : Room) E [.ref (eO E 0), .ref (eA E j), .int (iI d)] (mW E I A) (mDue (A 5) (A j) d) := by
  refine met_P (cc := cX10_isDue) (nL := 3) (by decide) rfl (Nat.le_of_ble_eq_true rfl) ?_
  intro p e s m args below meth c Q H0 A0 H locs ls F hw hl hret
  have F : CallFix p m c cX10_isDue 3 s args wsX10_isDue RX10 := F
  have hl : lv_has ls 3 [(0, .ref (eO E 0)), (1, .ref (eA E j)), (2, .int (iI d))] := hl
  refine lv_aload_n F.1 F.2.1 dX10_isDue_0 rfl (lv_at hl 1 rfl) ?_
  refine bi_bipush F dX10_isDue_1 (by decide) ?_
  refine bi_iconst F dX10_isDue_3 ?_
  refine lv_iload_n F.1 F.2.1 dX10_isDue_4 rfl (lv_at hl 2 rfl) ?_
  refine bi_imul F dX10_isDue_5 ?_
  refine bi_iadd F dX10_isDue_6 ?_
  refine m_ld F hw j 35 hj hj2 (by omega) dX10_isDue_7 ?_
  have f_1 := hf (25 + (2 * d))
  refine bi_if_le (tgt := 32) F dX10_isDue_8 (by decide) (by omega) (fun c_2 => ?_) (fun c_2 => ?_)
  · refine bi_iconst F dX10_isDue_32 ?_
    exact hret _ _ _ _ _ (Or.inr ⟨rfl, by unfold mDue; omega⟩) hw dX10_isDue_33
  · refine lv_aload_n F.1 F.2.1 dX10_isDue_11 rfl (lv_at hl 0 rfl) ?_
    refine lv_aload_n F.1 F.2.1 dX10_isDue_12 rfl (lv_at hl 1 rfl) ?_
    refine lv_iload_n F.1 F.2.1 dX10_isDue_13 rfl (lv_at hl 2 rfl) ?_
    refine call_N (As := [.ref (eA E j), .int (iI d)]) (rest := []) F (c_sinceOf l E I A j d hj hj2 (by omega) hf (hA)) (cwV 2 F.2.2.2.2 gX10_isDue_X10_sinceOf rfl rfl rfl (by decide +kernel) ⟨Nat.le_of_ble_eq_true rfl, Nat.le_of_ble_eq_true rfl⟩) hw (m_recv hw) rfl hl.1 rfl (Nat.le_of_ble_eq_true rfl) dX10_isDue_14 ⟨Nat.zero_le _, Nat.zero_le _⟩ (fun H locs hw => ?_)
    have f_3 := mSince_r (P := A 5) (f := A j) (d := d) hf
    refine lv_aload_n F.1 F.2.1 dX10_isDue_17 rfl (lv_at hl 1 rfl) ?_
    refine bi_bipush F dX10_isDue_18 (by decide) ?_
    refine bi_iconst F dX10_isDue_20 ?_
    refine lv_iload_n F.1 F.2.1 dX10_isDue_21 rfl (lv_at hl 2 rfl) ?_
    refine bi_imul F dX10_isDue_22 ?_
    refine bi_iadd F dX10_isDue_23 ?_
    refine m_ld F hw j 35 hj hj2 (by omega) dX10_isDue_24 ?_
    have f_4 := hf (25 + (2 * d))
    refine bi_icmp_lt (tgt := 32) F dX10_isDue_25 (by decide) (by omega) (fun c_5 => ?_) (fun c_5 => ?_)
    · refine bi_iconst F dX10_isDue_32 ?_
      exact hret _ _ _ _ _ (Or.inr ⟨rfl, by unfold mDue; omega⟩) hw dX10_isDue_33
    · refine bi_iconst F dX10_isDue_28 ?_
      refine lv_goto (tgt := 33) F.1 F.2.1 dX10_isDue_29 (by decide) ?_
      exact hret _ _ _ _ _ (Or.inl ⟨rfl, by unfold mDue; omega⟩) hw dX10_isDue_33
