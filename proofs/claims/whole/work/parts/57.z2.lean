set_option maxRecDepth 100000 in
set_option maxHeartbeats 4000000 in
theorem x9_undo (l : Launch) (E : Ev) (I : Nat → Int) (A : Nat → Int → Int) (L : Nat → Int64) (hx : xOk I A) : MetF l yX9_undo wsX9_undo ({ frames := 2, cells := 0, slots := 0, locals := 61 } : Room) E [.ref (eO E 0)] (xW E I A L) (xW E (xUndoI I) (xUndoA I A) L) (if I 13 = 0 then -1000000003 else I 13 - 1) := by
  have hin3 : ∀ w ∈ wsX30, w ∈ wsX9_undo := by decide +kernel
  have hin9 : ∀ w ∈ wsX90, w ∈ wsX9_undo := by decide +kernel
  refine met_F (cc := cX9_undo) (nL := 1) (by decide) rfl (Nat.le_of_ble_eq_true rfl) ?_
  intro p e s m args below meth c Q H0 A0 H locs ls F hw hl hret
  have F : CallFix p m c cX9_undo 1 s args wsX9_undo RX9 := F
  have hl : lv_has ls 1 [(0, .ref (eO E 0))] := hl
  obtain ⟨ht, hl0, hnn, hnv, hnp, hnd, h00, hin9k, hdr, hff, hyr, hbn, hpl, hf5, hni, hhm, hcn3, hnx, hcn, hsp, hsa, hcn0, hb, hb2, hlk, hkp⟩ := id hx
  have hf : ∀ k, 0 ≤ A 17 k ∧ A 17 k ≤ 900000 := fun k => by have := hf5 k; omega
  have hh : ∀ t, 13 ≤ t ∧ t < 19 → 0 ≤ A 17 t ∧ A 17 t ≤ 1000 := fun t h => by have h1 := hhm t h; have h2 := hf t; omega
  have hho : ∀ q, 0 ≤ q ∧ q < I 11 → A 17 (13 + q) < 4 := fun q h => hhm (13 + q) (by omega)
  have hin0 := hin9k
  refine lv_aload_n F.1 F.2.1 dX9_undo_0 rfl (lv_at hl 0 rfl) ?_
  refine x_get F hin9 hw 0 9 rfl rfl 5 (by decide) (by decide +kernel) rfl rfl dX9_undo_1 ?_
  refine x_get F hin3 hw 5 3 rfl rfl 0 (by decide) (by decide +kernel) rfl rfl dX9_undo_4 ?_
  refine bi_if_ne (tgt := 13) F dX9_undo_7 (by decide) (by omega) (fun c_1 => ?_) (fun c_1 => ?_)
  · refine lv_aload_n F.1 F.2.1 dX9_undo_13 rfl (lv_at hl 0 rfl) ?_
    refine x_get F hin9 hw 0 9 rfl rfl 5 (by decide) (by decide +kernel) rfl rfl dX9_undo_14 ?_
    refine lv_aload_n F.1 F.2.1 dX9_undo_17 rfl (lv_at hl 0 rfl) ?_
    refine x_get F hin9 hw 0 9 rfl rfl 4 (by decide) (by decide +kernel) rfl rfl dX9_undo_18 ?_
    refine call_G (As := [.ref (eO E 4)]) (rest := []) F (x3_takeLatest l E I A L  (by omega) (by omega)) (cwV 1 F.2.2.2.2 gX9_undo_X3_takeLatest rfl rfl rfl (by decide +kernel) ⟨(Nat.le_of_ble_eq_true rfl), (Nat.le_of_ble_eq_true rfl)⟩) hw (x_recv hw 5 3 rfl rfl) rfl hl.1 rfl (Nat.le_of_ble_eq_true rfl) dX9_undo_21 ⟨Nat.zero_le _, Nat.zero_le _⟩ (fun H locs hw => ?_)
    generalize eI2 : st1 (st1 I 14 ((I 14 + 20 - 1) % 20)) 13 (I 13 - 1) = I2 at hw
    generalize eA3 : stA A 17 (fun k => A 18 ((I 14 + 20 - 1) % 20 * 35 + k)) = A3 at hw
    refine lv_aload_n F.1 F.2.1 dX9_undo_24 rfl (lv_at hl 0 rfl) ?_
    refine x_get F hin9 hw 0 9 rfl rfl 5 (by decide) (by decide +kernel) rfl rfl dX9_undo_25 ?_
    refine x_get F hin3 hw 5 3 rfl rfl 0 (by decide) (by decide +kernel) rfl rfl dX9_undo_28 ?_
    exact hret _ _ _ _ _ _ (by rw [if_neg (by omega)]; subst_vars; rfl) (xW_c (by unfold xUndoI; rw [if_neg (by omega)]; subst_vars; rfl) (by unfold xUndoA; rw [if_neg (by omega)]; subst_vars; rfl) rfl) hw dX9_undo_31
  · refine bi_ldc F (-1000000003) (by decide +kernel) rfl dX9_undo_10 ?_
    exact hret _ _ _ _ _ _ (by rw [if_pos (by omega)]) (xW_c (by unfold xUndoI; rw [if_pos (by omega)]) (by unfold xUndoA; rw [if_pos (by omega)]) rfl) hw dX9_undo_12
set_option maxRecDepth 100000 in
set_option maxHeartbeats 4000000 in
theorem x9_due (l : Launch) (E : Ev) (I : Nat → Int) (A : Nat → Int → Int) (L : Nat → Int64) (d : Int) (b_d : -2147483648 ≤ d ∧ d ≤ 2147483647) (hx : xOk I A) : MetN l yX9_due wsX9_due ({ frames := 4, cells := 0, slots := 0, locals := 89 } : Room) E [.ref (eO E 0), .int (iI d)] (xW E I A L) (xDueR I A d) := by
  have hin9 : ∀ w ∈ wsX90, w ∈ wsX9_due := by decide +kernel
  refine met_N (cc := cX9_due) (nL := 2) (by decide) rfl (Nat.le_of_ble_eq_true rfl) ?_
  intro p e s m args below meth c Q H0 A0 H locs ls F hw hl hret
  have F : CallFix p m c cX9_due 2 s args wsX9_due RX9 := F
  have hl : lv_has ls 2 [(0, .ref (eO E 0)), (1, .int (iI d))] := hl
  obtain ⟨ht, hl0, hnn, hnv, hnp, hnd, h00, hin9k, hdr, hff, hyr, hbn, hpl, hf5, hni, hhm, hcn3, hnx, hcn, hsp, hsa, hcn0, hb, hb2, hlk, hkp⟩ := id hx
  have hf : ∀ k, 0 ≤ A 17 k ∧ A 17 k ≤ 900000 := fun k => by have := hf5 k; omega
  have hh : ∀ t, 13 ≤ t ∧ t < 19 → 0 ≤ A 17 t ∧ A 17 t ≤ 1000 := fun t h => by have h1 := hhm t h; have h2 := hf t; omega
  have hho : ∀ q, 0 ≤ q ∧ q < I 11 → A 17 (13 + q) < 4 := fun q h => hhm (13 + q) (by omega)
  have hin0 := hin9k
  refine lv_aload_n F.1 F.2.1 dX9_due_0 rfl (lv_at hl 0 rfl) ?_
  refine x_get F hin9 hw 0 9 rfl rfl 3 (by decide) (by decide +kernel) rfl rfl dX9_due_1 ?_
  refine lv_iload_n F.1 F.2.1 dX9_due_4 rfl (lv_at hl 1 rfl) ?_
  refine call_P (As := [.int (iI d)]) (rest := []) F (x7_hasDebt l E I A L d (by omega) (by omega)) (cwV 1 F.2.2.2.2 gX9_due_X7_hasDebt rfl rfl rfl (by decide +kernel) ⟨(Nat.le_of_ble_eq_true rfl), (Nat.le_of_ble_eq_true rfl)⟩) hw (x_recv hw 3 7 rfl rfl) rfl hl.1 rfl (Nat.le_of_ble_eq_true rfl) dX9_due_5 ⟨Nat.zero_le _, Nat.zero_le _⟩ (fun q_1 H locs hw => ?_) (fun q_1 H locs hw => ?_)
  · refine bi_if_ne (tgt := 14) F dX9_due_8 (by decide) (by decide) (fun _ => ?_) (fun q => absurd q (by decide))
    have hp1 := hpl d (by omega)
    have hf9 := hf (25 + d)
    refine lv_aload_n F.1 F.2.1 dX9_due_14 rfl (lv_at hl 0 rfl) ?_
    refine x_get F hin9 hw 0 9 rfl rfl 4 (by decide) (by decide +kernel) rfl rfl dX9_due_15 ?_
    refine lv_iload_n F.1 F.2.1 dX9_due_18 rfl (lv_at hl 1 rfl) ?_
    refine call_N (As := [.int (iI d)]) (rest := []) F (x6_owed l E I A L d (by omega)) (cwV 1 F.2.2.2.2 gX9_due_X6_owed rfl rfl rfl (by decide +kernel) ⟨(Nat.le_of_ble_eq_true rfl), (Nat.le_of_ble_eq_true rfl)⟩) hw (x_recv hw 4 6 rfl rfl) rfl hl.1 rfl (Nat.le_of_ble_eq_true rfl) dX9_due_19 ⟨Nat.zero_le _, Nat.zero_le _⟩ (fun H locs hw => ?_)
    refine bi_if_ne (tgt := 30) F dX9_due_22 (by decide) (by omega) (fun c_3 => ?_) (fun c_3 => ?_)
    · refine lv_aload_n F.1 F.2.1 dX9_due_30 rfl (lv_at hl 0 rfl) ?_
      refine x_get F hin9 hw 0 9 rfl rfl 8 (by decide) (by decide +kernel) rfl rfl dX9_due_31 ?_
      refine lv_iload_n F.1 F.2.1 dX9_due_34 rfl (lv_at hl 1 rfl) ?_
      refine call_N (As := [.int (iI d)]) (rest := []) F (x8_nightsTillDue l E I A L d (by omega) (by omega) hf (by omega) (by omega) hin0 hdr) (cwV 1 F.2.2.2.2 gX9_due_X8_nightsTillDue rfl rfl rfl (by decide +kernel) ⟨(Nat.le_of_ble_eq_true rfl), (Nat.le_of_ble_eq_true rfl)⟩) hw (x_recv hw 8 8 rfl rfl) rfl hl.1 rfl (Nat.le_of_ble_eq_true rfl) dX9_due_35 ⟨Nat.zero_le _, Nat.zero_le _⟩ (fun H locs hw => ?_)
      exact hret _ _ _ _ _ (by unfold xDueR; first | (rw [if_pos (by omega), if_pos (by omega)]; done) | (rw [if_pos (by omega), if_neg (by omega)]; done)) hw dX9_due_38
    · refine bi_ldc F (-1000000003) (by decide +kernel) rfl dX9_due_25 ?_
      refine lv_goto (tgt := 38) F.1 F.2.1 dX9_due_27 (by decide) ?_
      exact hret _ _ _ _ _ (by unfold xDueR; first | (rw [if_pos (by omega), if_pos (by omega)]; done) | (rw [if_pos (by omega), if_neg (by omega)]; done)) hw dX9_due_38
  · refine bi_if_ne (tgt := 14) F dX9_due_8 (by decide) (by decide) (fun q => absurd q (by decide)) (fun _ => ?_)
    refine bi_ldc F (-1000000001) (by decide +kernel) rfl dX9_due_11 ?_
    exact hret _ _ _ _ _ (by unfold xDueR; rw [if_neg (by omega)]) hw dX9_due_13
set_option maxRecDepth 100000 in
set_option maxHeartbeats 4000000 in
theorem x9_old (l : Launch) (E : Ev) (I : Nat → Int) (A : Nat → Int → Int) (L : Nat → Int64) (q : Int) (n : Int) (b_q : -2147483648 ≤ q ∧ q ≤ 2147483647) (b_n : -2147483648 ≤ n ∧ n ≤ 2147483647) (hx : xOk I A) : MetN l yX9_old wsX9_old ({ frames := 3, cells := 0, slots := 0, locals := 70 } : Room) E [.ref (eO E 0), .int (iI q), .int (iI n)] (xW E I A L) (xOldR I A q n) := by
  have hin9 : ∀ w ∈ wsX90, w ∈ wsX9_old := by decide +kernel
  refine met_N (cc := cX9_old) (nL := 3) (by decide) rfl (Nat.le_of_ble_eq_true rfl) ?_
  intro p e s m args below meth c Q H0 A0 H locs ls F hw hl hret
  have F : CallFix p m c cX9_old 3 s args wsX9_old RX9 := F
  have hl : lv_has ls 3 [(0, .ref (eO E 0)), (1, .int (iI q)), (2, .int (iI n))] := hl
  obtain ⟨ht, hl0, hnn, hnv, hnp, hnd, h00, hin9k, hdr, hff, hyr, hbn, hpl, hf5, hni, hhm, hcn3, hnx, hcn, hsp, hsa, hcn0, hb, hb2, hlk, hkp⟩ := id hx
  have hf : ∀ k, 0 ≤ A 17 k ∧ A 17 k ≤ 900000 := fun k => by have := hf5 k; omega
  have hh : ∀ t, 13 ≤ t ∧ t < 19 → 0 ≤ A 17 t ∧ A 17 t ≤ 1000 := fun t h => by have h1 := hhm t h; have h2 := hf t; omega
  have hho : ∀ q, 0 ≤ q ∧ q < I 11 → A 17 (13 + q) < 4 := fun q h => hhm (13 + q) (by omega)
  have hin0 := hin9k
  refine lv_aload_n F.1 F.2.1 dX9_old_0 rfl (lv_at hl 0 rfl) ?_
  refine x_get F hin9 hw 0 9 rfl rfl 3 (by decide) (by decide +kernel) rfl rfl dX9_old_1 ?_
  refine lv_iload_n F.1 F.2.1 dX9_old_4 rfl (lv_at hl 1 rfl) ?_
  refine call_P (As := [.int (iI q)]) (rest := []) F (x7_hasPerson l E I A L q (by omega) (by omega)) (cwV 1 F.2.2.2.2 gX9_old_X7_hasPerson rfl rfl rfl (by decide +kernel) ⟨(Nat.le_of_ble_eq_true rfl), (Nat.le_of_ble_eq_true rfl)⟩) hw (x_recv hw 3 7 rfl rfl) rfl hl.1 rfl (Nat.le_of_ble_eq_true rfl) dX9_old_5 ⟨Nat.zero_le _, Nat.zero_le _⟩ (fun q_1 H locs hw => ?_) (fun q_1 H locs hw => ?_)
  · refine bi_if_ne (tgt := 14) F dX9_old_8 (by decide) (by decide) (fun _ => ?_) (fun q => absurd q (by decide))
    have hh1 := hho q (by omega)
    refine lv_iload_n F.1 F.2.1 dX9_old_14 rfl (lv_at hl 2 rfl) ?_
    refine bi_iconst F dX9_old_15 ?_
    refine bi_sipush F dX9_old_16 (by decide) ?_
    refine calls_P0 (As := [.int (iI n), .int (iI 0), .int (iI 200)]) (rest := []) F (x9_isOut l E n 0 200 (by omega) (by omega) (by omega)) (va_cwS 3 F.2.2.2.2 gX9_old_X9_isOut rfl rfl rfl (by decide +kernel) ⟨(Nat.le_of_ble_eq_true rfl), (Nat.le_of_ble_eq_true rfl)⟩) hw rfl hl.1 rfl (Nat.le_of_ble_eq_true rfl) dX9_old_19 ⟨Nat.zero_le _, Nat.zero_le _⟩ (fun q_3 H locs hw => ?_) (fun q_3 H locs hw => ?_)
    · refine bi_if_eq (tgt := 30) F dX9_old_22 (by decide) (by decide) (fun q => absurd q (by decide)) (fun _ => ?_)
      refine bi_ldc F (-1000000002) (by decide +kernel) rfl dX9_old_25 ?_
      refine lv_goto (tgt := 40) F.1 F.2.1 dX9_old_27 (by decide) ?_
      exact hret _ _ _ _ _ (by unfold xOldR; first | (rw [if_pos (by omega), if_neg (by omega)]; done) | (rw [if_pos (by omega), if_pos (by omega)]; rfl)) hw dX9_old_40
    · refine bi_if_eq (tgt := 30) F dX9_old_22 (by decide) (by decide) (fun _ => ?_) (fun q => absurd q (by decide))
      refine lv_aload_n F.1 F.2.1 dX9_old_30 rfl (lv_at hl 0 rfl) ?_
      refine x_get F hin9 hw 0 9 rfl rfl 8 (by decide) (by decide +kernel) rfl rfl dX9_old_31 ?_
      refine lv_iload_n F.1 F.2.1 dX9_old_34 rfl (lv_at hl 1 rfl) ?_
      refine lv_iload_n F.1 F.2.1 dX9_old_35 rfl (lv_at hl 2 rfl) ?_
      refine bi_iconst F dX9_old_36 ?_
      refine call_N (As := [.int (iI q), .int (iI n), .int (iI 0)]) (rest := []) F (x8_ageBehind l E I A L q n 0 (by omega) (by omega) (by omega) hf hyr hff (by omega) (by omega) (by omega) hin0) (cwV 3 F.2.2.2.2 gX9_old_X8_ageBehind rfl rfl rfl (by decide +kernel) ⟨(Nat.le_of_ble_eq_true rfl), (Nat.le_of_ble_eq_true rfl)⟩) hw (x_recv hw 8 8 rfl rfl) rfl hl.1 rfl (Nat.le_of_ble_eq_true rfl) dX9_old_37 ⟨Nat.zero_le _, Nat.zero_le _⟩ (fun H locs hw => ?_)
      exact hret _ _ _ _ _ (by unfold xOldR; first | (rw [if_pos (by omega), if_neg (by omega)]; done) | (rw [if_pos (by omega), if_pos (by omega)]; rfl)) hw dX9_old_40
  · refine bi_if_ne (tgt := 14) F dX9_old_8 (by decide) (by decide) (fun q => absurd q (by decide)) (fun _ => ?_)
    refine bi_ldc F (-1000000001) (by decide +kernel) rfl dX9_old_11 ?_
    exact hret _ _ _ _ _ (by unfold xOldR; rw [if_neg (by omega)]) hw dX9_old_13
set_option maxRecDepth 100000 in
set_option maxHeartbeats 4000000 in
theorem x9_feast (l : Launch) (E : Ev) (I : Nat → Int) (A : Nat → Int → Int) (L : Nat → Int64) (v : Int) (u : Int) (b_v : -2147483648 ≤ v ∧ v ≤ 2147483647) (b_u : -2147483648 ≤ u ∧ u ≤ 2147483647) (hx : xOk I A) : MetN l yX9_feast wsX9_feast ({ frames := 4, cells := 0, slots := 0, locals := 91 } : Room) E [.ref (eO E 0), .int (iI v), .int (iI u)] (xW E I A L) (xFeaR I A v u) := by
  have hin9 : ∀ w ∈ wsX90, w ∈ wsX9_feast := by decide +kernel
  refine met_N (cc := cX9_feast) (nL := 3) (by decide) rfl (Nat.le_of_ble_eq_true rfl) ?_
  intro p e s m args below meth c Q H0 A0 H locs ls F hw hl hret
  have F : CallFix p m c cX9_feast 3 s args wsX9_feast RX9 := F
  have hl : lv_has ls 3 [(0, .ref (eO E 0)), (1, .int (iI v)), (2, .int (iI u))] := hl
  obtain ⟨ht, hl0, hnn, hnv, hnp, hnd, h00, hin9k, hdr, hff, hyr, hbn, hpl, hf5, hni, hhm, hcn3, hnx, hcn, hsp, hsa, hcn0, hb, hb2, hlk, hkp⟩ := id hx
  have hf : ∀ k, 0 ≤ A 17 k ∧ A 17 k ≤ 900000 := fun k => by have := hf5 k; omega
  have hh : ∀ t, 13 ≤ t ∧ t < 19 → 0 ≤ A 17 t ∧ A 17 t ≤ 1000 := fun t h => by have h1 := hhm t h; have h2 := hf t; omega
  have hho : ∀ q, 0 ≤ q ∧ q < I 11 → A 17 (13 + q) < 4 := fun q h => hhm (13 + q) (by omega)
  have hin0 := hin9k
  refine lv_aload_n F.1 F.2.1 dX9_feast_0 rfl (lv_at hl 0 rfl) ?_
  refine x_get F hin9 hw 0 9 rfl rfl 3 (by decide) (by decide +kernel) rfl rfl dX9_feast_1 ?_
  refine lv_iload_n F.1 F.2.1 dX9_feast_4 rfl (lv_at hl 1 rfl) ?_
  refine call_P (As := [.int (iI v)]) (rest := []) F (x7_hasVillage l E I A L v (by omega) (by omega)) (cwV 1 F.2.2.2.2 gX9_feast_X7_hasVillage rfl rfl rfl (by decide +kernel) ⟨(Nat.le_of_ble_eq_true rfl), (Nat.le_of_ble_eq_true rfl)⟩) hw (x_recv hw 3 7 rfl rfl) rfl hl.1 rfl (Nat.le_of_ble_eq_true rfl) dX9_feast_5 ⟨Nat.zero_le _, Nat.zero_le _⟩ (fun q_1 H locs hw => ?_) (fun q_1 H locs hw => ?_)
  · refine bi_if_eq (tgt := 27) F dX9_feast_8 (by decide) (by decide) (fun q => absurd q (by decide)) (fun _ => ?_)
    refine lv_aload_n F.1 F.2.1 dX9_feast_11 rfl (lv_at hl 0 rfl) ?_
    refine x_get F hin9 hw 0 9 rfl rfl 3 (by decide) (by decide +kernel) rfl rfl dX9_feast_12 ?_
    refine lv_iload_n F.1 F.2.1 dX9_feast_15 rfl (lv_at hl 2 rfl) ?_
    refine call_P (As := [.int (iI u)]) (rest := []) F (x7_hasVillage l E I A L u (by omega) (by omega)) (cwV 1 F.2.2.2.2 gX9_feast_X7_hasVillage rfl rfl rfl (by decide +kernel) ⟨(Nat.le_of_ble_eq_true rfl), (Nat.le_of_ble_eq_true rfl)⟩) hw (x_recv hw 3 7 rfl rfl) rfl hl.1 rfl (Nat.le_of_ble_eq_true rfl) dX9_feast_16 ⟨Nat.zero_le _, Nat.zero_le _⟩ (fun q_3 H locs hw => ?_) (fun q_3 H locs hw => ?_)
    · refine bi_if_eq (tgt := 27) F dX9_feast_19 (by decide) (by decide) (fun q => absurd q (by decide)) (fun _ => ?_)
      refine lv_iload_n F.1 F.2.1 dX9_feast_22 rfl (lv_at hl 1 rfl) ?_
      refine lv_iload_n F.1 F.2.1 dX9_feast_23 rfl (lv_at hl 2 rfl) ?_
      refine bi_icmp_ne (tgt := 30) F dX9_feast_24 (by decide) (by omega) (fun c_5 => ?_) (fun c_5 => ?_)
      · refine lv_aload_n F.1 F.2.1 dX9_feast_30 rfl (lv_at hl 0 rfl) ?_
        refine x_get F hin9 hw 0 9 rfl rfl 8 (by decide) (by decide +kernel) rfl rfl dX9_feast_31 ?_
        refine lv_iload_n F.1 F.2.1 dX9_feast_34 rfl (lv_at hl 1 rfl) ?_
        refine lv_iload_n F.1 F.2.1 dX9_feast_35 rfl (lv_at hl 2 rfl) ?_
        refine call_N (As := [.int (iI v), .int (iI u)]) (rest := []) F (x8_nightsTillFeast l E I A L v u (by omega) (by omega) hf hyr hff (by omega) (by omega) hin0) (cwV 2 F.2.2.2.2 gX9_feast_X8_nightsTillFeast rfl rfl rfl (by decide +kernel) ⟨(Nat.le_of_ble_eq_true rfl), (Nat.le_of_ble_eq_true rfl)⟩) hw (x_recv hw 8 8 rfl rfl) rfl hl.1 rfl (Nat.le_of_ble_eq_true rfl) dX9_feast_36 ⟨Nat.zero_le _, Nat.zero_le _⟩ (fun H locs hw => ?_)
        exact hret _ _ _ _ _ (by unfold xFeaR; rw [if_pos (by omega)]) hw dX9_feast_39
      · refine bi_ldc F (-1000000001) (by decide +kernel) rfl dX9_feast_27 ?_
        exact hret _ _ _ _ _ (by unfold xFeaR; rw [if_neg (by omega)]) hw dX9_feast_29
    · refine bi_if_eq (tgt := 27) F dX9_feast_19 (by decide) (by decide) (fun _ => ?_) (fun q => absurd q (by decide))
      refine bi_ldc F (-1000000001) (by decide +kernel) rfl dX9_feast_27 ?_
      exact hret _ _ _ _ _ (by unfold xFeaR; rw [if_neg (by omega)]) hw dX9_feast_29
  · refine bi_if_eq (tgt := 27) F dX9_feast_8 (by decide) (by decide) (fun _ => ?_) (fun q => absurd q (by decide))
    refine bi_ldc F (-1000000001) (by decide +kernel) rfl dX9_feast_27 ?_
    exact hret _ _ _ _ _ (by unfold xFeaR; rw [if_neg (by omega)]) hw dX9_feast_29
set_option maxRecDepth 100000 in
set_option maxHeartbeats 4000000 in
theorem x9_mild (l : Launch) (E : Ev) (I : Nat → Int) (A : Nat → Int → Int) (L : Nat → Int64) (q : Int) (g : Int) (n : Int) (b_q : -2147483648 ≤ q ∧ q ≤ 2147483647) (b_g : -2147483648 ≤ g ∧ g ≤ 2147483647) (b_n : -2147483648 ≤ n ∧ n ≤ 2147483647) (hx : xOk I A) : MetN l yX9_mild wsX9_mild ({ frames := 3, cells := 0, slots := 0, locals := 70 } : Room) E [.ref (eO E 0), .int (iI q), .int (iI g), .int (iI n)] (xW E I A L) (xMildR I A q g n) := by
  have hin9 : ∀ w ∈ wsX90, w ∈ wsX9_mild := by decide +kernel
  refine met_N (cc := cX9_mild) (nL := 4) (by decide) rfl (Nat.le_of_ble_eq_true rfl) ?_
  intro p e s m args below meth c Q H0 A0 H locs ls F hw hl hret
  have F : CallFix p m c cX9_mild 4 s args wsX9_mild RX9 := F
  have hl : lv_has ls 4 [(0, .ref (eO E 0)), (1, .int (iI q)), (2, .int (iI g)), (3, .int (iI n))] := hl
  obtain ⟨ht, hl0, hnn, hnv, hnp, hnd, h00, hin9k, hdr, hff, hyr, hbn, hpl, hf5, hni, hhm, hcn3, hnx, hcn, hsp, hsa, hcn0, hb, hb2, hlk, hkp⟩ := id hx
  have hf : ∀ k, 0 ≤ A 17 k ∧ A 17 k ≤ 900000 := fun k => by have := hf5 k; omega
  have hh : ∀ t, 13 ≤ t ∧ t < 19 → 0 ≤ A 17 t ∧ A 17 t ≤ 1000 := fun t h => by have h1 := hhm t h; have h2 := hf t; omega
  have hho : ∀ q, 0 ≤ q ∧ q < I 11 → A 17 (13 + q) < 4 := fun q h => hhm (13 + q) (by omega)
  have hin0 := hin9k
  refine lv_aload_n F.1 F.2.1 dX9_mild_0 rfl (lv_at hl 0 rfl) ?_
  refine x_get F hin9 hw 0 9 rfl rfl 3 (by decide) (by decide +kernel) rfl rfl dX9_mild_1 ?_
  refine lv_iload_n F.1 F.2.1 dX9_mild_4 rfl (lv_at hl 1 rfl) ?_
  refine call_P (As := [.int (iI q)]) (rest := []) F (x7_hasPerson l E I A L q (by omega) (by omega)) (cwV 1 F.2.2.2.2 gX9_mild_X7_hasPerson rfl rfl rfl (by decide +kernel) ⟨(Nat.le_of_ble_eq_true rfl), (Nat.le_of_ble_eq_true rfl)⟩) hw (x_recv hw 3 7 rfl rfl) rfl hl.1 rfl (Nat.le_of_ble_eq_true rfl) dX9_mild_5 ⟨Nat.zero_le _, Nat.zero_le _⟩ (fun q_1 H locs hw => ?_) (fun q_1 H locs hw => ?_)
  · refine bi_if_ne (tgt := 14) F dX9_mild_8 (by decide) (by decide) (fun _ => ?_) (fun q => absurd q (by decide))
    have hh1 := hho q (by omega)
    refine lv_iload_n F.1 F.2.1 dX9_mild_14 rfl (lv_at hl 2 rfl) ?_
    refine bi_iconst F dX9_mild_15 ?_
    refine bi_bipush F dX9_mild_16 (by decide) ?_
    refine calls_P0 (As := [.int (iI g), .int (iI 0), .int (iI 40)]) (rest := []) F (x9_isOut l E g 0 40 (by omega) (by omega) (by omega)) (va_cwS 3 F.2.2.2.2 gX9_mild_X9_isOut rfl rfl rfl (by decide +kernel) ⟨(Nat.le_of_ble_eq_true rfl), (Nat.le_of_ble_eq_true rfl)⟩) hw rfl hl.1 rfl (Nat.le_of_ble_eq_true rfl) dX9_mild_18 ⟨Nat.zero_le _, Nat.zero_le _⟩ (fun q_3 H locs hw => ?_) (fun q_3 H locs hw => ?_)
    · refine bi_if_ne (tgt := 35) F dX9_mild_21 (by decide) (by decide) (fun _ => ?_) (fun q => absurd q (by decide))
      refine bi_ldc F (-1000000002) (by decide +kernel) rfl dX9_mild_35 ?_
      exact hret _ _ _ _ _ (by unfold xMildR; rw [if_pos (by omega), if_neg (by omega)]) hw dX9_mild_37
    · refine bi_if_ne (tgt := 35) F dX9_mild_21 (by decide) (by decide) (fun q => absurd q (by decide)) (fun _ => ?_)
      refine lv_iload_n F.1 F.2.1 dX9_mild_24 rfl (lv_at hl 3 rfl) ?_
      refine bi_iconst F dX9_mild_25 ?_
      refine bi_sipush F dX9_mild_26 (by decide) ?_
      refine calls_P0 (As := [.int (iI n), .int (iI 0), .int (iI 200)]) (rest := []) F (x9_isOut l E n 0 200 (by omega) (by omega) (by omega)) (va_cwS 3 F.2.2.2.2 gX9_mild_X9_isOut rfl rfl rfl (by decide +kernel) ⟨(Nat.le_of_ble_eq_true rfl), (Nat.le_of_ble_eq_true rfl)⟩) hw rfl hl.1 rfl (Nat.le_of_ble_eq_true rfl) dX9_mild_29 ⟨Nat.zero_le _, Nat.zero_le _⟩ (fun q_6 H locs hw => ?_) (fun q_6 H locs hw => ?_)
      · refine bi_if_eq (tgt := 38) F dX9_mild_32 (by decide) (by decide) (fun q => absurd q (by decide)) (fun _ => ?_)
        refine bi_ldc F (-1000000002) (by decide +kernel) rfl dX9_mild_35 ?_
        exact hret _ _ _ _ _ (by unfold xMildR; rw [if_pos (by omega), if_neg (by omega)]) hw dX9_mild_37
      · refine bi_if_eq (tgt := 38) F dX9_mild_32 (by decide) (by decide) (fun _ => ?_) (fun q => absurd q (by decide))
        refine lv_aload_n F.1 F.2.1 dX9_mild_38 rfl (lv_at hl 0 rfl) ?_
        refine x_get F hin9 hw 0 9 rfl rfl 8 (by decide) (by decide +kernel) rfl rfl dX9_mild_39 ?_
        refine lv_iload_n F.1 F.2.1 dX9_mild_42 rfl (lv_at hl 1 rfl) ?_
        refine lv_iload_n F.1 F.2.1 dX9_mild_43 rfl (lv_at hl 3 rfl) ?_
        refine bi_iconst F dX9_mild_44 ?_
        refine call_N (As := [.int (iI q), .int (iI n), .int (iI 0)]) (rest := []) F (x8_ageBehind l E I A L q n 0 (by omega) (by omega) (by omega) hf hyr hff (by omega) (by omega) (by omega) hin0) (cwV 3 F.2.2.2.2 gX9_mild_X8_ageBehind rfl rfl rfl (by decide +kernel) ⟨(Nat.le_of_ble_eq_true rfl), (Nat.le_of_ble_eq_true rfl)⟩) hw (x_recv hw 8 8 rfl rfl) rfl hl.1 rfl (Nat.le_of_ble_eq_true rfl) dX9_mild_45 ⟨Nat.zero_le _, Nat.zero_le _⟩ (fun H locs hw => ?_)
        refine lv_aload_n F.1 F.2.1 dX9_mild_48 rfl (lv_at hl 0 rfl) ?_
        refine x_get F hin9 hw 0 9 rfl rfl 8 (by decide) (by decide +kernel) rfl rfl dX9_mild_49 ?_
        refine lv_iload_n F.1 F.2.1 dX9_mild_52 rfl (lv_at hl 1 rfl) ?_
        refine lv_iload_n F.1 F.2.1 dX9_mild_53 rfl (lv_at hl 3 rfl) ?_
        refine lv_iload_n F.1 F.2.1 dX9_mild_54 rfl (lv_at hl 2 rfl) ?_
        refine call_N (As := [.int (iI q), .int (iI n), .int (iI g)]) (rest := [.int (iI (xYr A (xFls A (I 9) 0 (A 17 (13 + q)) (A 17 (19 + q)) n.toNat) (A 17 (13 + q))))]) F (x8_ageBehind l E I A L q n g (by omega) (by omega) (by omega) hf hyr hff (by omega) (by omega) (by omega) hin0) (cwV 3 F.2.2.2.2 gX9_mild_X8_ageBehind rfl rfl rfl (by decide +kernel) ⟨(Nat.le_of_ble_eq_true rfl), (Nat.le_of_ble_eq_true rfl)⟩) hw (x_recv hw 8 8 rfl rfl) rfl hl.1 rfl (Nat.le_of_ble_eq_true rfl) dX9_mild_55 ⟨Nat.zero_le _, Nat.zero_le _⟩ (fun H locs hw => ?_)
        refine bi_isub F dX9_mild_58 ?_
        exact hret _ _ _ _ _ (by unfold xMildR; rw [if_pos (by omega), if_pos (by omega)]; rfl) hw dX9_mild_59
  · refine bi_if_ne (tgt := 14) F dX9_mild_8 (by decide) (by decide) (fun q => absurd q (by decide)) (fun _ => ?_)
    refine bi_ldc F (-1000000001) (by decide +kernel) rfl dX9_mild_11 ?_
    exact hret _ _ _ _ _ (by unfold xMildR; rw [if_neg (by omega)]) hw dX9_mild_13
set_option maxRecDepth 100000 in
set_option maxHeartbeats 4000000 in
theorem x9_mildDebts (l : Launch) (E : Ev) (I : Nat → Int) (A : Nat → Int → Int) (L : Nat → Int64) (g : Int) (n : Int) (b_g : -2147483648 ≤ g ∧ g ≤ 2147483647) (b_n : -2147483648 ≤ n ∧ n ≤ 2147483647) (hx : xOk I A) : MetN l yX9_mildDebts wsX9_mildDebts ({ frames := 5, cells := 0, slots := 0, locals := 115 } : Room) E [.ref (eO E 0), .int (iI g), .int (iI n)] (xW E I A L) (xMilDR I A g n) := by
  have hin9 : ∀ w ∈ wsX90, w ∈ wsX9_mildDebts := by decide +kernel
  refine met_N (cc := cX9_mildDebts) (nL := 3) (by decide) rfl (Nat.le_of_ble_eq_true rfl) ?_
  intro p e s m args below meth c Q H0 A0 H locs ls F hw hl hret
  have F : CallFix p m c cX9_mildDebts 3 s args wsX9_mildDebts RX9 := F
  have hl : lv_has ls 3 [(0, .ref (eO E 0)), (1, .int (iI g)), (2, .int (iI n))] := hl
  obtain ⟨ht, hl0, hnn, hnv, hnp, hnd, h00, hin9k, hdr, hff, hyr, hbn, hpl, hf5, hni, hhm, hcn3, hnx, hcn, hsp, hsa, hcn0, hb, hb2, hlk, hkp⟩ := id hx
  have hf : ∀ k, 0 ≤ A 17 k ∧ A 17 k ≤ 900000 := fun k => by have := hf5 k; omega
  have hh : ∀ t, 13 ≤ t ∧ t < 19 → 0 ≤ A 17 t ∧ A 17 t ≤ 1000 := fun t h => by have h1 := hhm t h; have h2 := hf t; omega
  have hho : ∀ q, 0 ≤ q ∧ q < I 11 → A 17 (13 + q) < 4 := fun q h => hhm (13 + q) (by omega)
  have hin0 := hin9k
  refine lv_iload_n F.1 F.2.1 dX9_mildDebts_0 rfl (lv_at hl 1 rfl) ?_
  refine bi_iconst F dX9_mildDebts_1 ?_
  refine bi_bipush F dX9_mildDebts_2 (by decide) ?_
  refine calls_P0 (As := [.int (iI g), .int (iI 0), .int (iI 40)]) (rest := []) F (x9_isOut l E g 0 40 (by omega) (by omega) (by omega)) (va_cwS 3 F.2.2.2.2 gX9_mildDebts_X9_isOut rfl rfl rfl (by decide +kernel) ⟨(Nat.le_of_ble_eq_true rfl), (Nat.le_of_ble_eq_true rfl)⟩) hw rfl hl.1 rfl (Nat.le_of_ble_eq_true rfl) dX9_mildDebts_4 ⟨Nat.zero_le _, Nat.zero_le _⟩ (fun q_1 H locs hw => ?_) (fun q_1 H locs hw => ?_)
  · refine bi_if_ne (tgt := 21) F dX9_mildDebts_7 (by decide) (by decide) (fun _ => ?_) (fun q => absurd q (by decide))
    refine bi_ldc F (-1000000002) (by decide +kernel) rfl dX9_mildDebts_21 ?_
    exact hret _ _ _ _ _ (by unfold xMilDR; rw [if_neg (by omega)]) hw dX9_mildDebts_23
  · refine bi_if_ne (tgt := 21) F dX9_mildDebts_7 (by decide) (by decide) (fun q => absurd q (by decide)) (fun _ => ?_)
    refine lv_iload_n F.1 F.2.1 dX9_mildDebts_10 rfl (lv_at hl 2 rfl) ?_
    refine bi_iconst F dX9_mildDebts_11 ?_
    refine bi_sipush F dX9_mildDebts_12 (by decide) ?_
    refine calls_P0 (As := [.int (iI n), .int (iI 0), .int (iI 200)]) (rest := []) F (x9_isOut l E n 0 200 (by omega) (by omega) (by omega)) (va_cwS 3 F.2.2.2.2 gX9_mildDebts_X9_isOut rfl rfl rfl (by decide +kernel) ⟨(Nat.le_of_ble_eq_true rfl), (Nat.le_of_ble_eq_true rfl)⟩) hw rfl hl.1 rfl (Nat.le_of_ble_eq_true rfl) dX9_mildDebts_15 ⟨Nat.zero_le _, Nat.zero_le _⟩ (fun q_4 H locs hw => ?_) (fun q_4 H locs hw => ?_)
    · refine bi_if_eq (tgt := 24) F dX9_mildDebts_18 (by decide) (by decide) (fun q => absurd q (by decide)) (fun _ => ?_)
      refine bi_ldc F (-1000000002) (by decide +kernel) rfl dX9_mildDebts_21 ?_
      exact hret _ _ _ _ _ (by unfold xMilDR; rw [if_neg (by omega)]) hw dX9_mildDebts_23
    · refine bi_if_eq (tgt := 24) F dX9_mildDebts_18 (by decide) (by decide) (fun _ => ?_) (fun q => absurd q (by decide))
      refine lv_aload_n F.1 F.2.1 dX9_mildDebts_24 rfl (lv_at hl 0 rfl) ?_
      refine x_get F hin9 hw 0 9 rfl rfl 8 (by decide) (by decide +kernel) rfl rfl dX9_mildDebts_25 ?_
      refine lv_iload_n F.1 F.2.1 dX9_mildDebts_28 rfl (lv_at hl 2 rfl) ?_
      refine bi_iconst F dX9_mildDebts_29 ?_
      refine call_N (As := [.int (iI n), .int (iI 0)]) (rest := []) F (x8_debtsDueBehind l E I A L n 0 (by omega) (by omega) (by omega) hpl hf (by omega) (by omega) hin0 hdr) (cwV 2 F.2.2.2.2 gX9_mildDebts_X8_debtsDueBehind rfl rfl rfl (by decide +kernel) ⟨(Nat.le_of_ble_eq_true rfl), (Nat.le_of_ble_eq_true rfl)⟩) hw (x_recv hw 8 8 rfl rfl) rfl hl.1 rfl (Nat.le_of_ble_eq_true rfl) dX9_mildDebts_30 ⟨Nat.zero_le _, Nat.zero_le _⟩ (fun H locs hw => ?_)
      have f_7 := xDbN_r A (I 9) 0 n (I 12).toNat
      refine lv_aload_n F.1 F.2.1 dX9_mildDebts_33 rfl (lv_at hl 0 rfl) ?_
      refine x_get F hin9 hw 0 9 rfl rfl 8 (by decide) (by decide +kernel) rfl rfl dX9_mildDebts_34 ?_
      refine lv_iload_n F.1 F.2.1 dX9_mildDebts_37 rfl (lv_at hl 2 rfl) ?_
      refine lv_iload_n F.1 F.2.1 dX9_mildDebts_38 rfl (lv_at hl 1 rfl) ?_
      refine call_N (As := [.int (iI n), .int (iI g)]) (rest := [.int (iI (xDbN A (I 9) n 0 (I 12).toNat))]) F (x8_debtsDueBehind l E I A L n g (by omega) (by omega) (by omega) hpl hf (by omega) (by omega) hin0 hdr) (cwV 2 F.2.2.2.2 gX9_mildDebts_X8_debtsDueBehind rfl rfl rfl (by decide +kernel) ⟨(Nat.le_of_ble_eq_true rfl), (Nat.le_of_ble_eq_true rfl)⟩) hw (x_recv hw 8 8 rfl rfl) rfl hl.1 rfl (Nat.le_of_ble_eq_true rfl) dX9_mildDebts_39 ⟨Nat.zero_le _, Nat.zero_le _⟩ (fun H locs hw => ?_)
      have f_8 := xDbN_r A (I 9) g n (I 12).toNat
      refine bi_iconst F dX9_mildDebts_42 ?_
      refine bi_ixor F dX9_mildDebts_43 ?_
      have f_9 := iXor_r (xDbN A (I 9) n g (I 12).toNat) (-1)
      refine bi_iand F dX9_mildDebts_44 ?_
      have f_10 := iAnd_r (xDbN A (I 9) n 0 (I 12).toNat) (iXor (xDbN A (I 9) n g (I 12).toNat) (-1))
      exact hret _ _ _ _ _ (by unfold xMilDR; rw [if_pos (by omega)]) hw dX9_mildDebts_45
set_option maxRecDepth 100000 in
set_option maxHeartbeats 4000000 in
theorem x9_older (l : Launch) (E : Ev) (I : Nat → Int) (A : Nat → Int → Int) (L : Nat → Int64) (q : Int) (v : Int) (b_q : -2147483648 ≤ q ∧ q ≤ 2147483647) (b_v : -2147483648 ≤ v ∧ v ≤ 2147483647) (hx : xOk I A) : MetN l yX9_older wsX9_older ({ frames := 2, cells := 0, slots := 0, locals := 44 } : Room) E [.ref (eO E 0), .int (iI q), .int (iI v)] (xW E I A L) (xOlderR I A q v) := by
  have hin9 : ∀ w ∈ wsX90, w ∈ wsX9_older := by decide +kernel
  refine met_N (cc := cX9_older) (nL := 3) (by decide) rfl (Nat.le_of_ble_eq_true rfl) ?_
  intro p e s m args below meth c Q H0 A0 H locs ls F hw hl hret
  have F : CallFix p m c cX9_older 3 s args wsX9_older RX9 := F
  have hl : lv_has ls 3 [(0, .ref (eO E 0)), (1, .int (iI q)), (2, .int (iI v))] := hl
  obtain ⟨ht, hl0, hnn, hnv, hnp, hnd, h00, hin9k, hdr, hff, hyr, hbn, hpl, hf5, hni, hhm, hcn3, hnx, hcn, hsp, hsa, hcn0, hb, hb2, hlk, hkp⟩ := id hx
  have hf : ∀ k, 0 ≤ A 17 k ∧ A 17 k ≤ 900000 := fun k => by have := hf5 k; omega
  have hh : ∀ t, 13 ≤ t ∧ t < 19 → 0 ≤ A 17 t ∧ A 17 t ≤ 1000 := fun t h => by have h1 := hhm t h; have h2 := hf t; omega
  have hho : ∀ q, 0 ≤ q ∧ q < I 11 → A 17 (13 + q) < 4 := fun q h => hhm (13 + q) (by omega)
  have hin0 := hin9k
  refine lv_aload_n F.1 F.2.1 dX9_older_0 rfl (lv_at hl 0 rfl) ?_
  refine x_get F hin9 hw 0 9 rfl rfl 3 (by decide) (by decide +kernel) rfl rfl dX9_older_1 ?_
  refine lv_iload_n F.1 F.2.1 dX9_older_4 rfl (lv_at hl 1 rfl) ?_
  refine call_P (As := [.int (iI q)]) (rest := []) F (x7_hasPerson l E I A L q (by omega) (by omega)) (cwV 1 F.2.2.2.2 gX9_older_X7_hasPerson rfl rfl rfl (by decide +kernel) ⟨(Nat.le_of_ble_eq_true rfl), (Nat.le_of_ble_eq_true rfl)⟩) hw (x_recv hw 3 7 rfl rfl) rfl hl.1 rfl (Nat.le_of_ble_eq_true rfl) dX9_older_5 ⟨Nat.zero_le _, Nat.zero_le _⟩ (fun q_1 H locs hw => ?_) (fun q_1 H locs hw => ?_)
  · refine bi_if_eq (tgt := 22) F dX9_older_8 (by decide) (by decide) (fun q => absurd q (by decide)) (fun _ => ?_)
    refine lv_aload_n F.1 F.2.1 dX9_older_11 rfl (lv_at hl 0 rfl) ?_
    refine x_get F hin9 hw 0 9 rfl rfl 3 (by decide) (by decide +kernel) rfl rfl dX9_older_12 ?_
    refine lv_iload_n F.1 F.2.1 dX9_older_15 rfl (lv_at hl 2 rfl) ?_
    refine call_P (As := [.int (iI v)]) (rest := []) F (x7_hasVillage l E I A L v (by omega) (by omega)) (cwV 1 F.2.2.2.2 gX9_older_X7_hasVillage rfl rfl rfl (by decide +kernel) ⟨(Nat.le_of_ble_eq_true rfl), (Nat.le_of_ble_eq_true rfl)⟩) hw (x_recv hw 3 7 rfl rfl) rfl hl.1 rfl (Nat.le_of_ble_eq_true rfl) dX9_older_16 ⟨Nat.zero_le _, Nat.zero_le _⟩ (fun q_3 H locs hw => ?_) (fun q_3 H locs hw => ?_)
    · refine bi_if_ne (tgt := 25) F dX9_older_19 (by decide) (by decide) (fun _ => ?_) (fun q => absurd q (by decide))
      have hh1 := hho q (by omega)
      have hf9 := hf (19 + q)
      refine lv_aload_n F.1 F.2.1 dX9_older_25 rfl (lv_at hl 0 rfl) ?_
      refine x_get F hin9 hw 0 9 rfl rfl 3 (by decide) (by decide +kernel) rfl rfl dX9_older_26 ?_
      refine lv_aload_n F.1 F.2.1 dX9_older_29 rfl (lv_at hl 0 rfl) ?_
      refine x_get F hin9 hw 0 9 rfl rfl 4 (by decide) (by decide +kernel) rfl rfl dX9_older_30 ?_
      refine lv_iload_n F.1 F.2.1 dX9_older_33 rfl (lv_at hl 1 rfl) ?_
      refine call_N (As := [.int (iI q)]) (rest := [.ref (eO E 3)]) F (x6_lived l E I A L q (by omega)) (cwV 1 F.2.2.2.2 gX9_older_X6_lived rfl rfl rfl (by decide +kernel) ⟨(Nat.le_of_ble_eq_true rfl), (Nat.le_of_ble_eq_true rfl)⟩) hw (x_recv hw 4 6 rfl rfl) rfl hl.1 rfl (Nat.le_of_ble_eq_true rfl) dX9_older_34 ⟨Nat.zero_le _, Nat.zero_le _⟩ (fun H locs hw => ?_)
      refine lv_iload_n F.1 F.2.1 dX9_older_37 rfl (lv_at hl 2 rfl) ?_
      refine call_N (As := [.int (iI (A 17 (19 + q))), .int (iI v)]) (rest := []) F (x7_years l E I A L (A 17 (19 + q)) v (by omega) (by omega) hyr) (cwV 2 F.2.2.2.2 gX9_older_X7_years rfl rfl rfl (by decide +kernel) ⟨(Nat.le_of_ble_eq_true rfl), (Nat.le_of_ble_eq_true rfl)⟩) hw (x_recv hw 3 7 rfl rfl) rfl hl.1 rfl (Nat.le_of_ble_eq_true rfl) dX9_older_38 ⟨Nat.zero_le _, Nat.zero_le _⟩ (fun H locs hw => ?_)
      refine lv_aload_n F.1 F.2.1 dX9_older_41 rfl (lv_at hl 0 rfl) ?_
      refine x_get F hin9 hw 0 9 rfl rfl 4 (by decide) (by decide +kernel) rfl rfl dX9_older_42 ?_
      refine lv_aload_n F.1 F.2.1 dX9_older_45 rfl (lv_at hl 0 rfl) ?_
      refine x_get F hin9 hw 0 9 rfl rfl 3 (by decide) (by decide +kernel) rfl rfl dX9_older_46 ?_
      refine lv_iload_n F.1 F.2.1 dX9_older_49 rfl (lv_at hl 1 rfl) ?_
      refine call_N (As := [.ref (eO E 3), .int (iI q)]) (rest := [.int (iI (if 0 < A 12 v then (A 17 (19 + q)) / A 12 v else 0))]) F (x6_age l E I A L q (by omega) hf hyr (by omega)) (cwV 2 F.2.2.2.2 gX9_older_X6_age rfl rfl rfl (by decide +kernel) ⟨(Nat.le_of_ble_eq_true rfl), (Nat.le_of_ble_eq_true rfl)⟩) hw (x_recv hw 4 6 rfl rfl) rfl hl.1 rfl (Nat.le_of_ble_eq_true rfl) dX9_older_50 ⟨Nat.zero_le _, Nat.zero_le _⟩ (fun H locs hw => ?_)
      refine bi_isub F dX9_older_53 ?_
      refine bi_sipush F dX9_older_54 (by decide) ?_
      refine bi_iadd F dX9_older_57 ?_
      exact hret _ _ _ _ _ (by unfold xOlderR; exact (if_pos (show (0 ≤ q ∧ q < I 11) ∧ (0 ≤ v ∧ v < I 10) by omega)).symm) hw dX9_older_58
    · refine bi_if_ne (tgt := 25) F dX9_older_19 (by decide) (by decide) (fun q => absurd q (by decide)) (fun _ => ?_)
      refine bi_ldc F (-1000000001) (by decide +kernel) rfl dX9_older_22 ?_
      exact hret _ _ _ _ _ (by unfold xOlderR; rw [if_neg (by omega)]) hw dX9_older_24
  · refine bi_if_eq (tgt := 22) F dX9_older_8 (by decide) (by decide) (fun _ => ?_) (fun q => absurd q (by decide))
    refine bi_ldc F (-1000000001) (by decide +kernel) rfl dX9_older_22 ?_
    exact hret _ _ _ _ _ (by unfold xOlderR; rw [if_neg (by omega)]) hw dX9_older_24
set_option maxRecDepth 100000 in
set_option maxHeartbeats 4000000 in
theorem x9_chance (l : Launch) (E : Ev) (I : Nat → Int) (A : Nat → Int → Int) (L : Nat → Int64) (d : Int) (n : Int) (b_d : -2147483648 ≤ d ∧ d ≤ 2147483647) (b_n : -2147483648 ≤ n ∧ n ≤ 2147483647) (hx : xOk I A) : MetX l yX9_chance wsX9_chance ({ frames := 4, cells := 0, slots := 0, locals := 93 } : Room) E [.ref (eO E 0), .int (iI d), .int (iI n)] I A L (xChaR I A d n) := by
  have hin9 : ∀ w ∈ wsX90, w ∈ wsX9_chance := by decide +kernel
  refine met_X (cc := cX9_chance) (nL := 3) (by decide) rfl (Nat.le_of_ble_eq_true rfl) ?_
  intro p e s m args below meth c Q H0 A0 H locs ls F hw hl hret
  have F : CallFix p m c cX9_chance 3 s args wsX9_chance RX9 := F
  have hl : lv_has ls 3 [(0, .ref (eO E 0)), (1, .int (iI d)), (2, .int (iI n))] := hl
  obtain ⟨ht, hl0, hnn, hnv, hnp, hnd, h00, hin9k, hdr, hff, hyr, hbn, hpl, hf5, hni, hhm, hcn3, hnx, hcn, hsp, hsa, hcn0, hb, hb2, hlk, hkp⟩ := id hx
  have hf : ∀ k, 0 ≤ A 17 k ∧ A 17 k ≤ 900000 := fun k => by have := hf5 k; omega
  have hh : ∀ t, 13 ≤ t ∧ t < 19 → 0 ≤ A 17 t ∧ A 17 t ≤ 1000 := fun t h => by have h1 := hhm t h; have h2 := hf t; omega
  have hho : ∀ q, 0 ≤ q ∧ q < I 11 → A 17 (13 + q) < 4 := fun q h => hhm (13 + q) (by omega)
  have hin0 := hin9k
  refine lv_aload_n F.1 F.2.1 dX9_chance_0 rfl (lv_at hl 0 rfl) ?_
  refine x_get F hin9 hw 0 9 rfl rfl 3 (by decide) (by decide +kernel) rfl rfl dX9_chance_1 ?_
  refine lv_iload_n F.1 F.2.1 dX9_chance_4 rfl (lv_at hl 1 rfl) ?_
  refine call_P (As := [.int (iI d)]) (rest := []) F (x7_hasDebt l E I A L d (by omega) (by omega)) (cwV 1 F.2.2.2.2 gX9_chance_X7_hasDebt rfl rfl rfl (by decide +kernel) ⟨(Nat.le_of_ble_eq_true rfl), (Nat.le_of_ble_eq_true rfl)⟩) hw (x_recv hw 3 7 rfl rfl) rfl hl.1 rfl (Nat.le_of_ble_eq_true rfl) dX9_chance_5 ⟨Nat.zero_le _, Nat.zero_le _⟩ (fun q_1 H locs hw => ?_) (fun q_1 H locs hw => ?_)
  · refine bi_if_ne (tgt := 14) F dX9_chance_8 (by decide) (by decide) (fun _ => ?_) (fun q => absurd q (by decide))
    refine lv_iload_n F.1 F.2.1 dX9_chance_14 rfl (lv_at hl 2 rfl) ?_
    refine bi_iconst F dX9_chance_15 ?_
    refine bi_bipush F dX9_chance_16 (by decide) ?_
    refine calls_P0 (As := [.int (iI n), .int (iI 0), .int (iI 30)]) (rest := []) F (x9_isOut l E n 0 30 (by omega) (by omega) (by omega)) (va_cwS 3 F.2.2.2.2 gX9_chance_X9_isOut rfl rfl rfl (by decide +kernel) ⟨(Nat.le_of_ble_eq_true rfl), (Nat.le_of_ble_eq_true rfl)⟩) hw rfl hl.1 rfl (Nat.le_of_ble_eq_true rfl) dX9_chance_18 ⟨Nat.zero_le _, Nat.zero_le _⟩ (fun q_3 H locs hw => ?_) (fun q_3 H locs hw => ?_)
    · refine bi_if_eq (tgt := 27) F dX9_chance_21 (by decide) (by decide) (fun q => absurd q (by decide)) (fun _ => ?_)
      refine bi_ldc F (-1000000002) (by decide +kernel) rfl dX9_chance_24 ?_
      exact hret _ _ _ _ _ _ _ (by unfold xChaR; rw [if_pos (by omega), if_neg (by omega)]) (xSame_rf) hw dX9_chance_26
    · refine bi_if_eq (tgt := 27) F dX9_chance_21 (by decide) (by decide) (fun _ => ?_) (fun q => absurd q (by decide))
      have hp1 := hpl d (by omega)
      have hf9 := hf (25 + d)
      have hl9 := hlk d (by omega)
      have h09 := h00 (by omega)
      refine lv_aload_n F.1 F.2.1 dX9_chance_27 rfl (lv_at hl 0 rfl) ?_
      refine x_get F hin9 hw 0 9 rfl rfl 4 (by decide) (by decide +kernel) rfl rfl dX9_chance_28 ?_
      refine lv_iload_n F.1 F.2.1 dX9_chance_31 rfl (lv_at hl 1 rfl) ?_
      refine call_N (As := [.int (iI d)]) (rest := []) F (x6_owed l E I A L d (by omega)) (cwV 1 F.2.2.2.2 gX9_chance_X6_owed rfl rfl rfl (by decide +kernel) ⟨(Nat.le_of_ble_eq_true rfl), (Nat.le_of_ble_eq_true rfl)⟩) hw (x_recv hw 4 6 rfl rfl) rfl hl.1 rfl (Nat.le_of_ble_eq_true rfl) dX9_chance_32 ⟨Nat.zero_le _, Nat.zero_le _⟩ (fun H locs hw => ?_)
      refine bi_if_ne (tgt := 43) F dX9_chance_35 (by decide) (by omega) (fun c_6 => ?_) (fun c_6 => ?_)
      · refine lv_aload_n F.1 F.2.1 dX9_chance_43 rfl (lv_at hl 0 rfl) ?_
        refine x_get F hin9 hw 0 9 rfl rfl 8 (by decide) (by decide +kernel) rfl rfl dX9_chance_44 ?_
        refine lv_iload_n F.1 F.2.1 dX9_chance_47 rfl (lv_at hl 1 rfl) ?_
        refine lv_iload_n F.1 F.2.1 dX9_chance_48 rfl (lv_at hl 2 rfl) ?_
        refine call_F (As := [.int (iI d), .int (iI n)]) (rest := []) F (x8_chanceOfDue l E I A L d n (by omega) (by omega) (by omega) hf (by omega) (by omega) hin0 hdr (by omega)) (cwV 2 F.2.2.2.2 gX9_chance_X8_chanceOfDue rfl rfl rfl (by decide +kernel) ⟨(Nat.le_of_ble_eq_true rfl), (Nat.le_of_ble_eq_true rfl)⟩) hw (x_recv hw 8 8 rfl rfl) rfl hl.1 rfl (Nat.le_of_ble_eq_true rfl) dX9_chance_49 ⟨Nat.zero_le _, Nat.zero_le _⟩ (fun H locs hw => ?_)
        generalize eA7 : stA A 21 (xCha (A 9) (A 10 (A 15 d)) (I 9) (xLack A d) n.toNat) = A7 at hw
        exact hret _ _ _ _ _ _ _ (by unfold xChaR; first | (rw [if_pos (by omega), if_pos (by omega), if_pos (by omega)]; done) | (rw [if_pos (by omega), if_pos (by omega), if_neg (by omega)]; done)) (by first | exact xSame_rf | (rw [← eA7]; exact xSame_st (by decide))) hw dX9_chance_52
      · refine bi_ldc F (-1000000003) (by decide +kernel) rfl dX9_chance_38 ?_
        refine lv_goto (tgt := 52) F.1 F.2.1 dX9_chance_40 (by decide) ?_
        exact hret _ _ _ _ _ _ _ (by unfold xChaR; first | (rw [if_pos (by omega), if_pos (by omega), if_pos (by omega)]; done) | (rw [if_pos (by omega), if_pos (by omega), if_neg (by omega)]; done)) (by first | exact xSame_rf | (rw [← eA]; exact xSame_st (by decide))) hw dX9_chance_52
  · refine bi_if_ne (tgt := 14) F dX9_chance_8 (by decide) (by decide) (fun q => absurd q (by decide)) (fun _ => ?_)
    refine bi_ldc F (-1000000001) (by decide +kernel) rfl dX9_chance_11 ?_
    exact hret _ _ _ _ _ _ _ (by unfold xChaR; rw [if_neg (by omega)]) (xSame_rf) hw dX9_chance_13
set_option maxRecDepth 100000 in
set_option maxHeartbeats 4000000 in
theorem x9_poles (l : Launch) (E : Ev) (I : Nat → Int) (A : Nat → Int → Int) (L : Nat → Int64) (hx : xOk I A) : MetX l yX9_poles wsX9_poles ({ frames := 5, cells := 0, slots := 0, locals := 112 } : Room) E [.ref (eO E 0)] I A L (xPol A (I 9) (I 10).toNat) := by
  have hin9 : ∀ w ∈ wsX90, w ∈ wsX9_poles := by decide +kernel
  refine met_X (cc := cX9_poles) (nL := 1) (by decide) rfl (Nat.le_of_ble_eq_true rfl) ?_
  intro p e s m args below meth c Q H0 A0 H locs ls F hw hl hret
  have F : CallFix p m c cX9_poles 1 s args wsX9_poles RX9 := F
  have hl : lv_has ls 1 [(0, .ref (eO E 0))] := hl
  obtain ⟨ht, hl0, hnn, hnv, hnp, hnd, h00, hin9k, hdr, hff, hyr, hbn, hpl, hf5, hni, hhm, hcn3, hnx, hcn, hsp, hsa, hcn0, hb, hb2, hlk, hkp⟩ := id hx
  have hf : ∀ k, 0 ≤ A 17 k ∧ A 17 k ≤ 900000 := fun k => by have := hf5 k; omega
  have hh : ∀ t, 13 ≤ t ∧ t < 19 → 0 ≤ A 17 t ∧ A 17 t ≤ 1000 := fun t h => by have h1 := hhm t h; have h2 := hf t; omega
  have hho : ∀ q, 0 ≤ q ∧ q < I 11 → A 17 (13 + q) < 4 := fun q h => hhm (13 + q) (by omega)
  have hin0 := hin9k
  refine lv_aload_n F.1 F.2.1 dX9_poles_0 rfl (lv_at hl 0 rfl) ?_
  refine x_get F hin9 hw 0 9 rfl rfl 8 (by decide) (by decide +kernel) rfl rfl dX9_poles_1 ?_
  refine call_X (As := []) (rest := []) F (x8_fewestPoles l E I A L  (by omega) (by omega) (by omega) hin0 hff) (cwV 0 F.2.2.2.2 gX9_poles_X8_fewestPoles rfl rfl rfl (by decide +kernel) ⟨(Nat.le_of_ble_eq_true rfl), (Nat.le_of_ble_eq_true rfl)⟩) hw (x_recv hw 8 8 rfl rfl) rfl hl.1 rfl (Nat.le_of_ble_eq_true rfl) dX9_poles_4 ⟨Nat.zero_le _, Nat.zero_le _⟩ (fun A1 L H locs hsA1 hw => ?_)
  exact hret _ _ _ _ _ _ _ (rfl) (hsA1) hw dX9_poles_7
set_option maxRecDepth 100000 in
set_option maxHeartbeats 4000000 in
theorem x9_longest (l : Launch) (E : Ev) (I : Nat → Int) (A : Nat → Int → Int) (L : Nat → Int64) (v : Int) (b_v : -2147483648 ≤ v ∧ v ≤ 2147483647) (hx : xOk I A) : MetN l yX9_longest wsX9_longest ({ frames := 4, cells := 0, slots := 0, locals := 90 } : Room) E [.ref (eO E 0), .int (iI v)] (xW E I A L) (xLongR I A v) := by
  have hin9 : ∀ w ∈ wsX90, w ∈ wsX9_longest := by decide +kernel
  refine met_N (cc := cX9_longest) (nL := 2) (by decide) rfl (Nat.le_of_ble_eq_true rfl) ?_
  intro p e s m args below meth c Q H0 A0 H locs ls F hw hl hret
  have F : CallFix p m c cX9_longest 2 s args wsX9_longest RX9 := F
  have hl : lv_has ls 2 [(0, .ref (eO E 0)), (1, .int (iI v))] := hl
  obtain ⟨ht, hl0, hnn, hnv, hnp, hnd, h00, hin9k, hdr, hff, hyr, hbn, hpl, hf5, hni, hhm, hcn3, hnx, hcn, hsp, hsa, hcn0, hb, hb2, hlk, hkp⟩ := id hx
  have hf : ∀ k, 0 ≤ A 17 k ∧ A 17 k ≤ 900000 := fun k => by have := hf5 k; omega
  have hh : ∀ t, 13 ≤ t ∧ t < 19 → 0 ≤ A 17 t ∧ A 17 t ≤ 1000 := fun t h => by have h1 := hhm t h; have h2 := hf t; omega
  have hho : ∀ q, 0 ≤ q ∧ q < I 11 → A 17 (13 + q) < 4 := fun q h => hhm (13 + q) (by omega)
  have hin0 := hin9k
  refine lv_aload_n F.1 F.2.1 dX9_longest_0 rfl (lv_at hl 0 rfl) ?_
  refine x_get F hin9 hw 0 9 rfl rfl 3 (by decide) (by decide +kernel) rfl rfl dX9_longest_1 ?_
  refine lv_iload_n F.1 F.2.1 dX9_longest_4 rfl (lv_at hl 1 rfl) ?_
  refine call_P (As := [.int (iI v)]) (rest := []) F (x7_hasVillage l E I A L v (by omega) (by omega)) (cwV 1 F.2.2.2.2 gX9_longest_X7_hasVillage rfl rfl rfl (by decide +kernel) ⟨(Nat.le_of_ble_eq_true rfl), (Nat.le_of_ble_eq_true rfl)⟩) hw (x_recv hw 3 7 rfl rfl) rfl hl.1 rfl (Nat.le_of_ble_eq_true rfl) dX9_longest_5 ⟨Nat.zero_le _, Nat.zero_le _⟩ (fun q_1 H locs hw => ?_) (fun q_1 H locs hw => ?_)
  · refine bi_if_eq (tgt := 22) F dX9_longest_8 (by decide) (by decide) (fun q => absurd q (by decide)) (fun _ => ?_)
    refine lv_aload_n F.1 F.2.1 dX9_longest_11 rfl (lv_at hl 0 rfl) ?_
    refine x_get F hin9 hw 0 9 rfl rfl 8 (by decide) (by decide +kernel) rfl rfl dX9_longest_12 ?_
    refine lv_iload_n F.1 F.2.1 dX9_longest_15 rfl (lv_at hl 1 rfl) ?_
    refine call_N (As := [.int (iI v)]) (rest := []) F (x8_longestWithoutFall l E I A L v (by omega) (by omega) (by omega) hin0 hff) (cwV 1 F.2.2.2.2 gX9_longest_X8_longestWithoutFall rfl rfl rfl (by decide +kernel) ⟨(Nat.le_of_ble_eq_true rfl), (Nat.le_of_ble_eq_true rfl)⟩) hw (x_recv hw 8 8 rfl rfl) rfl hl.1 rfl (Nat.le_of_ble_eq_true rfl) dX9_longest_16 ⟨Nat.zero_le _, Nat.zero_le _⟩ (fun H locs hw => ?_)
    refine lv_goto (tgt := 24) F.1 F.2.1 dX9_longest_19 (by decide) ?_
    exact hret _ _ _ _ _ (by unfold xLongR; first | (rw [if_neg (by omega)]; done) | (rw [if_pos (by omega)]; done)) hw dX9_longest_24
  · refine bi_if_eq (tgt := 22) F dX9_longest_8 (by decide) (by decide) (fun _ => ?_) (fun q => absurd q (by decide))
    refine bi_ldc F (-1000000001) (by decide +kernel) rfl dX9_longest_22 ?_
    exact hret _ _ _ _ _ (by unfold xLongR; first | (rw [if_neg (by omega)]; done) | (rw [if_pos (by omega)]; done)) hw dX9_longest_24
set_option maxRecDepth 100000 in
set_option maxHeartbeats 4000000 in
theorem x9_say (l : Launch) (E : Ev) (I : Nat → Int) (A : Nat → Int → Int) (L : Nat → Int64) (q : Int) (x : Int) (b_q : -2147483648 ≤ q ∧ q ≤ 2147483647) (b_x : -2147483648 ≤ x ∧ x ≤ 2147483647) (hx : xOk I A) : MetF l yX9_say wsX9_say ({ frames := 1, cells := 0, slots := 0, locals := 22 } : Room) E [.ref (eO E 0), .int (iI q), .int (iI x)] (xW E I A L) (xW E (xSayI I q x) (xSayA I A q x) L) (xSayR I q x) := by
  have hin5 : ∀ w ∈ wsX50, w ∈ wsX9_say := by decide +kernel
  have hin9 : ∀ w ∈ wsX90, w ∈ wsX9_say := by decide +kernel
  refine met_F (cc := cX9_say) (nL := 3) (by decide) rfl (Nat.le_of_ble_eq_true rfl) ?_
  intro p e s m args below meth c Q H0 A0 H locs ls F hw hl hret
  have F : CallFix p m c cX9_say 3 s args wsX9_say RX9 := F
  have hl : lv_has ls 3 [(0, .ref (eO E 0)), (1, .int (iI q)), (2, .int (iI x))] := hl
  obtain ⟨ht, hl0, hnn, hnv, hnp, hnd, h00, hin9k, hdr, hff, hyr, hbn, hpl, hf5, hni, hhm, hcn3, hnx, hcn, hsp, hsa, hcn0, hb, hb2, hlk, hkp⟩ := id hx
  have hf : ∀ k, 0 ≤ A 17 k ∧ A 17 k ≤ 900000 := fun k => by have := hf5 k; omega
  have hh : ∀ t, 13 ≤ t ∧ t < 19 → 0 ≤ A 17 t ∧ A 17 t ≤ 1000 := fun t h => by have h1 := hhm t h; have h2 := hf t; omega
  have hho : ∀ q, 0 ≤ q ∧ q < I 11 → A 17 (13 + q) < 4 := fun q h => hhm (13 + q) (by omega)
  have hin0 := hin9k
  refine lv_aload_n F.1 F.2.1 dX9_say_0 rfl (lv_at hl 0 rfl) ?_
  refine x_get F hin9 hw 0 9 rfl rfl 3 (by decide) (by decide +kernel) rfl rfl dX9_say_1 ?_
  refine lv_iload_n F.1 F.2.1 dX9_say_4 rfl (lv_at hl 1 rfl) ?_
  refine call_P (As := [.int (iI q)]) (rest := []) F (x7_hasPerson l E I A L q (by omega) (by omega)) (cwV 1 F.2.2.2.2 gX9_say_X7_hasPerson rfl rfl rfl (by decide +kernel) ⟨(Nat.le_of_ble_eq_true rfl), (Nat.le_of_ble_eq_true rfl)⟩) hw (x_recv hw 3 7 rfl rfl) rfl hl.1 rfl (Nat.le_of_ble_eq_true rfl) dX9_say_5 ⟨Nat.zero_le _, Nat.zero_le _⟩ (fun q_1 H locs hw => ?_) (fun q_1 H locs hw => ?_)
  · refine bi_if_ne (tgt := 14) F dX9_say_8 (by decide) (by decide) (fun _ => ?_) (fun q => absurd q (by decide))
    refine lv_iload_n F.1 F.2.1 dX9_say_14 rfl (lv_at hl 2 rfl) ?_
    refine bi_iconst F dX9_say_15 ?_
    refine bi_sipush F dX9_say_16 (by decide) ?_
    refine calls_P0 (As := [.int (iI x), .int (iI 0), .int (iI 9999)]) (rest := []) F (x9_isOut l E x 0 9999 (by omega) (by omega) (by omega)) (va_cwS 3 F.2.2.2.2 gX9_say_X9_isOut rfl rfl rfl (by decide +kernel) ⟨(Nat.le_of_ble_eq_true rfl), (Nat.le_of_ble_eq_true rfl)⟩) hw rfl hl.1 rfl (Nat.le_of_ble_eq_true rfl) dX9_say_19 ⟨Nat.zero_le _, Nat.zero_le _⟩ (fun q_3 H locs hw => ?_) (fun q_3 H locs hw => ?_)
    · refine bi_if_eq (tgt := 28) F dX9_say_22 (by decide) (by decide) (fun q => absurd q (by decide)) (fun _ => ?_)
      refine bi_ldc F (-1000000002) (by decide +kernel) rfl dX9_say_25 ?_
      exact hret _ _ _ _ _ _ (by unfold xSayR; rw [if_pos (by omega), if_neg (by omega)]) (xW_c (by unfold xSayI; rw [if_pos (by omega), if_neg (by omega)]) (by unfold xSayA; rw [if_pos (by omega), if_neg (by omega)]) rfl) hw dX9_say_27
    · refine bi_if_eq (tgt := 28) F dX9_say_22 (by decide) (by decide) (fun _ => ?_) (fun q => absurd q (by decide))
      refine lv_aload_n F.1 F.2.1 dX9_say_28 rfl (lv_at hl 0 rfl) ?_
      refine x_get F hin9 hw 0 9 rfl rfl 9 (by decide) (by decide +kernel) rfl rfl dX9_say_29 ?_
      refine lv_iload_n F.1 F.2.1 dX9_say_32 rfl (lv_at hl 1 rfl) ?_
      refine lv_iload_n F.1 F.2.1 dX9_say_33 rfl (lv_at hl 2 rfl) ?_
      refine call_B (As := [.int (iI q), .int (iI x)]) (rest := []) F (x5_add l E I A L q x (by omega)) (cwV 2 F.2.2.2.2 gX9_say_X5_add rfl rfl rfl (by decide +kernel) ⟨(Nat.le_of_ble_eq_true rfl), (Nat.le_of_ble_eq_true rfl)⟩) hw (x_recv hw 9 5 rfl rfl) rfl hl.1 rfl (Nat.le_of_ble_eq_true rfl) dX9_say_34 ⟨Nat.zero_le _, Nat.zero_le _⟩ (fun q_6 H locs hw => ?_) (fun q_6 H locs hw => ?_)
      · generalize eI7 : st1 I 16 (I 16 + 1) = I7 at hw
        generalize eA8 : st2 (st2 A 22 (I 16) q) 23 (I 16) x = A8 at hw
        refine bi_if_eq (tgt := 50) F dX9_say_37 (by decide) (by decide) (fun q => absurd q (by decide)) (fun _ => ?_)
        refine lv_aload_n F.1 F.2.1 dX9_say_40 rfl (lv_at hl 0 rfl) ?_
        refine x_get F hin9 hw 0 9 rfl rfl 9 (by decide) (by decide +kernel) rfl rfl dX9_say_41 ?_
        refine x_get F hin5 hw 9 5 rfl rfl 0 (by decide) (by decide +kernel) rfl rfl dX9_say_44 ?_
        refine lv_goto (tgt := 52) F.1 F.2.1 dX9_say_47 (by decide) ?_
        exact hret _ _ _ _ _ _ (by unfold xSayR; first | (rw [if_pos (by omega), if_pos (by omega), if_neg (by omega)]; done) | (rw [if_pos (by omega), if_pos (by omega), if_pos (by omega)]; subst_vars; rfl)) (xW_c (by unfold xSayI; first | (rw [if_pos (by omega), if_pos (by omega), if_neg (by omega)]; done) | (rw [if_pos (by omega), if_pos (by omega), if_pos (by omega)]; subst_vars; rfl)) (by unfold xSayA; first | (rw [if_pos (by omega), if_pos (by omega), if_neg (by omega)]; done) | (rw [if_pos (by omega), if_pos (by omega), if_pos (by omega)]; subst_vars; rfl)) rfl) hw dX9_say_52
      · refine bi_if_eq (tgt := 50) F dX9_say_37 (by decide) (by decide) (fun _ => ?_) (fun q => absurd q (by decide))
        refine bi_ldc F (-1000000004) (by decide +kernel) rfl dX9_say_50 ?_
        exact hret _ _ _ _ _ _ (by unfold xSayR; first | (rw [if_pos (by omega), if_pos (by omega), if_neg (by omega)]; done) | (rw [if_pos (by omega), if_pos (by omega), if_pos (by omega)]; subst_vars; rfl)) (xW_c (by unfold xSayI; first | (rw [if_pos (by omega), if_pos (by omega), if_neg (by omega)]; done) | (rw [if_pos (by omega), if_pos (by omega), if_pos (by omega)]; subst_vars; rfl)) (by unfold xSayA; first | (rw [if_pos (by omega), if_pos (by omega), if_neg (by omega)]; done) | (rw [if_pos (by omega), if_pos (by omega), if_pos (by omega)]; subst_vars; rfl)) rfl) hw dX9_say_52
  · refine bi_if_ne (tgt := 14) F dX9_say_8 (by decide) (by decide) (fun q => absurd q (by decide)) (fun _ => ?_)
    refine bi_ldc F (-1000000001) (by decide +kernel) rfl dX9_say_11 ?_
    exact hret _ _ _ _ _ _ (by unfold xSayR; rw [if_neg (by omega)]) (xW_c (by unfold xSayI; rw [if_neg (by omega)]) (by unfold xSayA; rw [if_neg (by omega)]) rfl) hw dX9_say_13
set_option maxRecDepth 100000 in
set_option maxHeartbeats 4000000 in
theorem x9_write (l : Launch) (E : Ev) (I : Nat → Int) (A : Nat → Int → Int) (L : Nat → Int64) (q : Int) (x : Int) (b_q : -2147483648 ≤ q ∧ q ≤ 2147483647) (b_x : -2147483648 ≤ x ∧ x ≤ 2147483647) (hx : xOk I A) : MetF l yX9_write wsX9_write ({ frames := 1, cells := 0, slots := 0, locals := 22 } : Room) E [.ref (eO E 0), .int (iI q), .int (iI x)] (xW E I A L) (xW E (xWrI I q x) (xWrA I A q x) L) (xWrR I q x) := by
  have hin0 : ∀ w ∈ wsX00, w ∈ wsX9_write := by decide +kernel
  have hin9 : ∀ w ∈ wsX90, w ∈ wsX9_write := by decide +kernel
  refine met_F (cc := cX9_write) (nL := 3) (by decide) rfl (Nat.le_of_ble_eq_true rfl) ?_
  intro p e s m args below meth c Q H0 A0 H locs ls F hw hl hret
  have F : CallFix p m c cX9_write 3 s args wsX9_write RX9 := F
  have hl : lv_has ls 3 [(0, .ref (eO E 0)), (1, .int (iI q)), (2, .int (iI x))] := hl
  obtain ⟨ht, hl0, hnn, hnv, hnp, hnd, h00, hin9k, hdr, hff, hyr, hbn, hpl, hf5, hni, hhm, hcn3, hnx, hcn, hsp, hsa, hcn0, hb, hb2, hlk, hkp⟩ := id hx
  have hf : ∀ k, 0 ≤ A 17 k ∧ A 17 k ≤ 900000 := fun k => by have := hf5 k; omega
  have hh : ∀ t, 13 ≤ t ∧ t < 19 → 0 ≤ A 17 t ∧ A 17 t ≤ 1000 := fun t h => by have h1 := hhm t h; have h2 := hf t; omega
  have hho : ∀ q, 0 ≤ q ∧ q < I 11 → A 17 (13 + q) < 4 := fun q h => hhm (13 + q) (by omega)
  refine lv_aload_n F.1 F.2.1 dX9_write_0 rfl (lv_at hl 0 rfl) ?_
  refine x_get F hin9 hw 0 9 rfl rfl 3 (by decide) (by decide +kernel) rfl rfl dX9_write_1 ?_
  refine lv_iload_n F.1 F.2.1 dX9_write_4 rfl (lv_at hl 1 rfl) ?_
  refine call_P (As := [.int (iI q)]) (rest := []) F (x7_hasVillage l E I A L q (by omega) (by omega)) (cwV 1 F.2.2.2.2 gX9_write_X7_hasVillage rfl rfl rfl (by decide +kernel) ⟨(Nat.le_of_ble_eq_true rfl), (Nat.le_of_ble_eq_true rfl)⟩) hw (x_recv hw 3 7 rfl rfl) rfl hl.1 rfl (Nat.le_of_ble_eq_true rfl) dX9_write_5 ⟨Nat.zero_le _, Nat.zero_le _⟩ (fun q_1 H locs hw => ?_) (fun q_1 H locs hw => ?_)
  · refine bi_if_ne (tgt := 14) F dX9_write_8 (by decide) (by decide) (fun _ => ?_) (fun q => absurd q (by decide))
    refine lv_iload_n F.1 F.2.1 dX9_write_14 rfl (lv_at hl 2 rfl) ?_
    refine bi_iconst F dX9_write_15 ?_
    refine bi_sipush F dX9_write_16 (by decide) ?_
    refine calls_P0 (As := [.int (iI x), .int (iI 0), .int (iI 9999)]) (rest := []) F (x9_isOut l E x 0 9999 (by omega) (by omega) (by omega)) (va_cwS 3 F.2.2.2.2 gX9_write_X9_isOut rfl rfl rfl (by decide +kernel) ⟨(Nat.le_of_ble_eq_true rfl), (Nat.le_of_ble_eq_true rfl)⟩) hw rfl hl.1 rfl (Nat.le_of_ble_eq_true rfl) dX9_write_19 ⟨Nat.zero_le _, Nat.zero_le _⟩ (fun q_3 H locs hw => ?_) (fun q_3 H locs hw => ?_)
    · refine bi_if_eq (tgt := 28) F dX9_write_22 (by decide) (by decide) (fun q => absurd q (by decide)) (fun _ => ?_)
      refine bi_ldc F (-1000000002) (by decide +kernel) rfl dX9_write_25 ?_
      exact hret _ _ _ _ _ _ (by unfold xWrR; rw [if_pos (by omega), if_neg (by omega)]) (xW_c (by unfold xWrI; rw [if_pos (by omega), if_neg (by omega)]) (by unfold xWrA; rw [if_pos (by omega), if_neg (by omega)]) rfl) hw dX9_write_27
    · refine bi_if_eq (tgt := 28) F dX9_write_22 (by decide) (by decide) (fun _ => ?_) (fun q => absurd q (by decide))
      refine lv_aload_n F.1 F.2.1 dX9_write_28 rfl (lv_at hl 0 rfl) ?_
      refine x_get F hin9 hw 0 9 rfl rfl 10 (by decide) (by decide +kernel) rfl rfl dX9_write_29 ?_
      refine lv_iload_n F.1 F.2.1 dX9_write_32 rfl (lv_at hl 1 rfl) ?_
      refine lv_iload_n F.1 F.2.1 dX9_write_33 rfl (lv_at hl 2 rfl) ?_
      refine call_B (As := [.int (iI q), .int (iI x)]) (rest := []) F (x0_add l E I A L q x (by omega)) (cwV 2 F.2.2.2.2 gX9_write_X0_add rfl rfl rfl (by decide +kernel) ⟨(Nat.le_of_ble_eq_true rfl), (Nat.le_of_ble_eq_true rfl)⟩) hw (x_recv hw 10 0 rfl rfl) rfl hl.1 rfl (Nat.le_of_ble_eq_true rfl) dX9_write_34 ⟨Nat.zero_le _, Nat.zero_le _⟩ (fun q_6 H locs hw => ?_) (fun q_6 H locs hw => ?_)
      · generalize eI7 : st1 I 17 (I 17 + 1) = I7 at hw
        generalize eA8 : st2 (st2 A 26 (I 17) q) 27 (I 17) x = A8 at hw
        refine bi_if_eq (tgt := 50) F dX9_write_37 (by decide) (by decide) (fun q => absurd q (by decide)) (fun _ => ?_)
        refine lv_aload_n F.1 F.2.1 dX9_write_40 rfl (lv_at hl 0 rfl) ?_
        refine x_get F hin9 hw 0 9 rfl rfl 10 (by decide) (by decide +kernel) rfl rfl dX9_write_41 ?_
        refine x_get F hin0 hw 10 0 rfl rfl 0 (by decide) (by decide +kernel) rfl rfl dX9_write_44 ?_
        refine lv_goto (tgt := 52) F.1 F.2.1 dX9_write_47 (by decide) ?_
        exact hret _ _ _ _ _ _ (by unfold xWrR; first | (rw [if_pos (by omega), if_pos (by omega), if_neg (by omega)]; done) | (rw [if_pos (by omega), if_pos (by omega), if_pos (by omega)]; subst_vars; rfl)) (xW_c (by unfold xWrI; first | (rw [if_pos (by omega), if_pos (by omega), if_neg (by omega)]; done) | (rw [if_pos (by omega), if_pos (by omega), if_pos (by omega)]; subst_vars; rfl)) (by unfold xWrA; first | (rw [if_pos (by omega), if_pos (by omega), if_neg (by omega)]; done) | (rw [if_pos (by omega), if_pos (by omega), if_pos (by omega)]; subst_vars; rfl)) rfl) hw dX9_write_52
      · refine bi_if_eq (tgt := 50) F dX9_write_37 (by decide) (by decide) (fun _ => ?_) (fun q => absurd q (by decide))
        refine bi_ldc F (-1000000004) (by decide +kernel) rfl dX9_write_50 ?_
        exact hret _ _ _ _ _ _ (by unfold xWrR; first | (rw [if_pos (by omega), if_pos (by omega), if_neg (by omega)]; done) | (rw [if_pos (by omega), if_pos (by omega), if_pos (by omega)]; subst_vars; rfl)) (xW_c (by unfold xWrI; first | (rw [if_pos (by omega), if_pos (by omega), if_neg (by omega)]; done) | (rw [if_pos (by omega), if_pos (by omega), if_pos (by omega)]; subst_vars; rfl)) (by unfold xWrA; first | (rw [if_pos (by omega), if_pos (by omega), if_neg (by omega)]; done) | (rw [if_pos (by omega), if_pos (by omega), if_pos (by omega)]; subst_vars; rfl)) rfl) hw dX9_write_52
  · refine bi_if_ne (tgt := 14) F dX9_write_8 (by decide) (by decide) (fun q => absurd q (by decide)) (fun _ => ?_)
    refine bi_ldc F (-1000000001) (by decide +kernel) rfl dX9_write_11 ?_
    exact hret _ _ _ _ _ _ (by unfold xWrR; rw [if_neg (by omega)]) (xW_c (by unfold xWrI; rw [if_neg (by omega)]) (by unfold xWrA; rw [if_neg (by omega)]) rfl) hw dX9_write_13
set_option maxRecDepth 100000 in
set_option maxHeartbeats 4000000 in
theorem x9_sawn (l : Launch) (E : Ev) (I : Nat → Int) (A : Nat → Int → Int) (L : Nat → Int64) (i : Int) (b_i : -2147483648 ≤ i ∧ i ≤ 2147483647) (hx : xOk I A) : MetX l yX9_sawn wsX9_sawn ({ frames := 6, cells := 0, slots := 0, locals := 134 } : Room) E [.ref (eO E 0), .int (iI i)] I A L (xSawnR I A i) := by
  have hin9 : ∀ w ∈ wsX90, w ∈ wsX9_sawn := by decide +kernel
  refine met_X (cc := cX9_sawn) (nL := 2) (by decide) rfl (Nat.le_of_ble_eq_true rfl) ?_
  intro p e s m args below meth c Q H0 A0 H locs ls F hw hl hret
  have F : CallFix p m c cX9_sawn 2 s args wsX9_sawn RX9 := F
  have hl : lv_has ls 2 [(0, .ref (eO E 0)), (1, .int (iI i))] := hl
  obtain ⟨ht, hl0, hnn, hnv, hnp, hnd, h00, hin9k, hdr, hff, hyr, hbn, hpl, hf5, hni, hhm, hcn3, hnx, hcn, hsp, hsa, hcn0, hb, hb2, hlk, hkp⟩ := id hx
  have hf : ∀ k, 0 ≤ A 17 k ∧ A 17 k ≤ 900000 := fun k => by have := hf5 k; omega
  have hh : ∀ t, 13 ≤ t ∧ t < 19 → 0 ≤ A 17 t ∧ A 17 t ≤ 1000 := fun t h => by have h1 := hhm t h; have h2 := hf t; omega
  have hho : ∀ q, 0 ≤ q ∧ q < I 11 → A 17 (13 + q) < 4 := fun q h => hhm (13 + q) (by omega)
  have hin0 := hin9k
  refine lv_iload_n F.1 F.2.1 dX9_sawn_0 rfl (lv_at hl 1 rfl) ?_
  refine bi_iconst F dX9_sawn_1 ?_
  refine bi_icmp_ne (tgt := 15) F dX9_sawn_2 (by decide) (by omega) (fun c_1 => ?_) (fun c_1 => ?_)
  · refine lv_aload_n F.1 F.2.1 dX9_sawn_15 rfl (lv_at hl 0 rfl) ?_
    refine x_get F hin9 hw 0 9 rfl rfl 9 (by decide) (by decide +kernel) rfl rfl dX9_sawn_16 ?_
    refine lv_iload_n F.1 F.2.1 dX9_sawn_19 rfl (lv_at hl 1 rfl) ?_
    refine call_F (As := [.int (iI i)]) (rest := []) F (x5_fitting l E I A L i (by omega) (by omega) hsp hsa (by omega) (by omega) hho hf hyr hbn) (cwV 1 F.2.2.2.2 gX9_sawn_X5_fitting rfl rfl rfl (by decide +kernel) ⟨(Nat.le_of_ble_eq_true rfl), (Nat.le_of_ble_eq_true rfl)⟩) hw (x_recv hw 9 5 rfl rfl) rfl hl.1 rfl (Nat.le_of_ble_eq_true rfl) dX9_sawn_20 ⟨Nat.zero_le _, Nat.zero_le _⟩ (fun H locs hw => ?_)
    generalize eA2 : stA A 24 (xLays A (I 16) (I 10 * 10).toNat).2 = A2 at hw
    exact hret _ _ _ _ _ _ _ (by unfold xSawnR; first | (rw [if_pos (show i = -1 by omega)]; done) | (rw [if_neg (show ¬ i = -1 by omega)]; done)) (by rw [← eA2]; exact xSame_st (by decide)) hw dX9_sawn_23
  · refine lv_aload_n F.1 F.2.1 dX9_sawn_5 rfl (lv_at hl 0 rfl) ?_
    refine x_get F hin9 hw 0 9 rfl rfl 9 (by decide) (by decide +kernel) rfl rfl dX9_sawn_6 ?_
    refine call_F (As := []) (rest := []) F (x5_countFitting l E I A L  (by omega) hsp hsa (by omega) (by omega) hho hf hyr hbn) (cwV 0 F.2.2.2.2 gX9_sawn_X5_countFitting rfl rfl rfl (by decide +kernel) ⟨(Nat.le_of_ble_eq_true rfl), (Nat.le_of_ble_eq_true rfl)⟩) hw (x_recv hw 9 5 rfl rfl) rfl hl.1 rfl (Nat.le_of_ble_eq_true rfl) dX9_sawn_9 ⟨Nat.zero_le _, Nat.zero_le _⟩ (fun H locs hw => ?_)
    generalize eA3 : stA A 24 (xLays A (I 16) (I 10 * 10).toNat).2 = A3 at hw
    refine lv_goto (tgt := 23) F.1 F.2.1 dX9_sawn_12 (by decide) ?_
    exact hret _ _ _ _ _ _ _ (by unfold xSawnR; first | (rw [if_pos (show i = -1 by omega)]; done) | (rw [if_neg (show ¬ i = -1 by omega)]; done)) (by rw [← eA3]; exact xSame_st (by decide)) hw dX9_sawn_23
set_option maxRecDepth 100000 in
set_option maxHeartbeats 4000000 in
theorem x9_ask (l : Launch) (E : Ev) (I : Nat → Int) (A : Nat → Int → Int) (L : Nat → Int64) (hx : xOk I A) (han : ∀ k, -2147483648 ≤ A 25 k ∧ A 25 k ≤ 2147483647) : MetX l yX9_ask wsX9_ask ({ frames := 6, cells := 0, slots := 0, locals := 137 } : Room) E [.ref (eO E 0)] I A L ((xAsk A (xLays A (I 16) (I 10 * 10).toNat).2 (xLays A (I 16) (I 10 * 10).toNat).1 (I 11).toNat).1) := by
  have hin9 : ∀ w ∈ wsX90, w ∈ wsX9_ask := by decide +kernel
  refine met_X (cc := cX9_ask) (nL := 1) (by decide) rfl (Nat.le_of_ble_eq_true rfl) ?_
  intro p e s m args below meth c Q H0 A0 H locs ls F hw hl hret
  have F : CallFix p m c cX9_ask 1 s args wsX9_ask RX9 := F
  have hl : lv_has ls 1 [(0, .ref (eO E 0))] := hl
  obtain ⟨ht, hl0, hnn, hnv, hnp, hnd, h00, hin9k, hdr, hff, hyr, hbn, hpl, hf5, hni, hhm, hcn3, hnx, hcn, hsp, hsa, hcn0, hb, hb2, hlk, hkp⟩ := id hx
  have hf : ∀ k, 0 ≤ A 17 k ∧ A 17 k ≤ 900000 := fun k => by have := hf5 k; omega
  have hh : ∀ t, 13 ≤ t ∧ t < 19 → 0 ≤ A 17 t ∧ A 17 t ≤ 1000 := fun t h => by have h1 := hhm t h; have h2 := hf t; omega
  have hho : ∀ q, 0 ≤ q ∧ q < I 11 → A 17 (13 + q) < 4 := fun q h => hhm (13 + q) (by omega)
  have hin0 := hin9k
  refine lv_aload_n F.1 F.2.1 dX9_ask_0 rfl (lv_at hl 0 rfl) ?_
  refine x_get F hin9 hw 0 9 rfl rfl 9 (by decide) (by decide +kernel) rfl rfl dX9_ask_1 ?_
  refine call_X (As := []) (rest := []) F (x5_bestToAsk l E I A L  (by omega) hsp hsa (by omega) (by omega) hho hf hyr hbn han) (cwV 0 F.2.2.2.2 gX9_ask_X5_bestToAsk rfl rfl rfl (by decide +kernel) ⟨(Nat.le_of_ble_eq_true rfl), (Nat.le_of_ble_eq_true rfl)⟩) hw (x_recv hw 9 5 rfl rfl) rfl hl.1 rfl (Nat.le_of_ble_eq_true rfl) dX9_ask_4 ⟨Nat.zero_le _, Nat.zero_le _⟩ (fun A1 L H locs hsA1 hw => ?_)
  exact hret _ _ _ _ _ _ _ (rfl) (hsA1) hw dX9_ask_7
set_option maxRecDepth 100000 in
set_option maxHeartbeats 4000000 in
theorem x9_tear (l : Launch) (E : Ev) (I : Nat → Int) (A : Nat → Int → Int) (L : Nat → Int64) (hx : xOk I A) : MetF l yX9_tear wsX9_tear ({ frames := 1, cells := 0, slots := 0, locals := 20 } : Room) E [.ref (eO E 0)] (xW E I A L) (xW E (st1 (st1 I 16 0) 17 0) (A) L) (I 16 + I 17) := by
  have hin0 : ∀ w ∈ wsX00, w ∈ wsX9_tear := by decide +kernel
  have hin5 : ∀ w ∈ wsX50, w ∈ wsX9_tear := by decide +kernel
  have hin9 : ∀ w ∈ wsX90, w ∈ wsX9_tear := by decide +kernel
  refine met_F (cc := cX9_tear) (nL := 2) (by decide) rfl (Nat.le_of_ble_eq_true rfl) ?_
  intro p e s m args below meth c Q H0 A0 H locs ls F hw hl hret
  have F : CallFix p m c cX9_tear 2 s args wsX9_tear RX9 := F
  have hl : lv_has ls 2 [(0, .ref (eO E 0))] := hl
  obtain ⟨ht, hl0, hnn, hnv, hnp, hnd, h00, hin9k, hdr, hff, hyr, hbn, hpl, hf5, hni, hhm, hcn3, hnx, hcn, hsp, hsa, hcn0, hb, hb2, hlk, hkp⟩ := id hx
  have hf : ∀ k, 0 ≤ A 17 k ∧ A 17 k ≤ 900000 := fun k => by have := hf5 k; omega
  have hh : ∀ t, 13 ≤ t ∧ t < 19 → 0 ≤ A 17 t ∧ A 17 t ≤ 1000 := fun t h => by have h1 := hhm t h; have h2 := hf t; omega
  have hho : ∀ q, 0 ≤ q ∧ q < I 11 → A 17 (13 + q) < 4 := fun q h => hhm (13 + q) (by omega)
  refine lv_aload_n F.1 F.2.1 dX9_tear_0 rfl (lv_at hl 0 rfl) ?_
  refine x_get F hin9 hw 0 9 rfl rfl 9 (by decide) (by decide +kernel) rfl rfl dX9_tear_1 ?_
  refine x_get F hin5 hw 9 5 rfl rfl 0 (by decide) (by decide +kernel) rfl rfl dX9_tear_4 ?_
  refine lv_aload_n F.1 F.2.1 dX9_tear_7 rfl (lv_at hl 0 rfl) ?_
  refine x_get F hin9 hw 0 9 rfl rfl 10 (by decide) (by decide +kernel) rfl rfl dX9_tear_8 ?_
  refine x_get F hin0 hw 10 0 rfl rfl 0 (by decide) (by decide +kernel) rfl rfl dX9_tear_11 ?_
  refine bi_iadd F dX9_tear_14 ?_
  refine lv_istore_n (lv' := [(1, .int (iI (I 16 + (I 17)))), (0, .ref (eO E 0))]) F.1 F.2.1 dX9_tear_15 rfl hl (by decide) rfl (fun ls hl => ?_)
  refine lv_aload_n F.1 F.2.1 dX9_tear_16 rfl (lv_at hl 1 rfl) ?_
  refine x_get F hin9 hw 0 9 rfl rfl 9 (by decide) (by decide +kernel) rfl rfl dX9_tear_17 ?_
  refine call_G (As := []) (rest := []) F (x5_forget l E I A L  ) (cwV 0 F.2.2.2.2 gX9_tear_X5_forget rfl rfl rfl (by decide +kernel) ⟨(Nat.le_of_ble_eq_true rfl), (Nat.le_of_ble_eq_true rfl)⟩) hw (x_recv hw 9 5 rfl rfl) rfl hl.1 rfl (Nat.le_of_ble_eq_true rfl) dX9_tear_20 ⟨Nat.zero_le _, Nat.zero_le _⟩ (fun H locs hw => ?_)
  generalize eI1 : st1 I 16 0 = I1 at hw
  refine lv_aload_n F.1 F.2.1 dX9_tear_23 rfl (lv_at hl 1 rfl) ?_
  refine x_get F hin9 hw 0 9 rfl rfl 10 (by decide) (by decide +kernel) rfl rfl dX9_tear_24 ?_
  refine call_G (As := []) (rest := []) F (x0_forget l E I1 A L  ) (cwV 0 F.2.2.2.2 gX9_tear_X0_forget rfl rfl rfl (by decide +kernel) ⟨(Nat.le_of_ble_eq_true rfl), (Nat.le_of_ble_eq_true rfl)⟩) hw (x_recv hw 10 0 rfl rfl) rfl hl.1 rfl (Nat.le_of_ble_eq_true rfl) dX9_tear_27 ⟨Nat.zero_le _, Nat.zero_le _⟩ (fun H locs hw => ?_)
  generalize eI2 : st1 I1 17 0 = I2 at hw
  refine lv_iload_n F.1 F.2.1 dX9_tear_30 rfl (lv_at hl 0 rfl) ?_
  exact hret _ _ _ _ _ _ (rfl) (xW_c (by subst_vars; rfl) (by subst_vars; rfl) rfl) hw dX9_tear_31
set_option maxRecDepth 100000 in
set_option maxHeartbeats 4000000 in
theorem x9_judge (l : Launch) (E : Ev) (I : Nat → Int) (A : Nat → Int → Int) (L : Nat → Int64) (hx : xOk I A) : MetN l yX9_judge wsX9_judge ({ frames := 3, cells := 0, slots := 0, locals := 64 } : Room) E [.ref (eO E 0)] (xW E I A L) (xJud (A 17) (A 26) (A 27) 0 (I 17).toNat) := by
  have hin9 : ∀ w ∈ wsX90, w ∈ wsX9_judge := by decide +kernel
  refine met_N (cc := cX9_judge) (nL := 1) (by decide) rfl (Nat.le_of_ble_eq_true rfl) ?_
  intro p e s m args below meth c Q H0 A0 H locs ls F hw hl hret
  have F : CallFix p m c cX9_judge 1 s args wsX9_judge RX9 := F
  have hl : lv_has ls 1 [(0, .ref (eO E 0))] := hl
  obtain ⟨ht, hl0, hnn, hnv, hnp, hnd, h00, hin9k, hdr, hff, hyr, hbn, hpl, hf5, hni, hhm, hcn3, hnx, hcn, hsp, hsa, hcn0, hb, hb2, hlk, hkp⟩ := id hx
  have hf : ∀ k, 0 ≤ A 17 k ∧ A 17 k ≤ 900000 := fun k => by have := hf5 k; omega
  have hh : ∀ t, 13 ≤ t ∧ t < 19 → 0 ≤ A 17 t ∧ A 17 t ≤ 1000 := fun t h => by have h1 := hhm t h; have h2 := hf t; omega
  have hho : ∀ q, 0 ≤ q ∧ q < I 11 → A 17 (13 + q) < 4 := fun q h => hhm (13 + q) (by omega)
  refine lv_aload_n F.1 F.2.1 dX9_judge_0 rfl (lv_at hl 0 rfl) ?_
  refine x_get F hin9 hw 0 9 rfl rfl 10 (by decide) (by decide +kernel) rfl rfl dX9_judge_1 ?_
  refine call_N (As := []) (rest := []) F (x0_firstWrong l E I A L  (by omega) hb hb2 hf) (cwV 0 F.2.2.2.2 gX9_judge_X0_firstWrong rfl rfl rfl (by decide +kernel) ⟨(Nat.le_of_ble_eq_true rfl), (Nat.le_of_ble_eq_true rfl)⟩) hw (x_recv hw 10 0 rfl rfl) rfl hl.1 rfl (Nat.le_of_ble_eq_true rfl) dX9_judge_4 ⟨Nat.zero_le _, Nat.zero_le _⟩ (fun H locs hw => ?_)
  exact hret _ _ _ _ _ (rfl) hw dX9_judge_7
set_option maxRecDepth 100000 in
set_option maxHeartbeats 4000000 in
theorem x9_seed (l : Launch) (E : Ev) (I : Nat → Int) (A : Nat → Int → Int) (L : Nat → Int64) (v : Int) (b_v : -2147483648 ≤ v ∧ v ≤ 2147483647) (hx : xOk I A) : MetF l yX9_seed wsX9_seed ({ frames := 0, cells := 0, slots := 0, locals := 0 } : Room) E [.ref (eO E 0), .int (iI v)] (xW E I A L) (xW E (if v < 0 then I else st1 I 15 v) (A) L) (if v < 0 then -1000000002 else I 15) := by
  have hin1 : ∀ w ∈ wsX10, w ∈ wsX9_seed := by decide +kernel
  have hin9 : ∀ w ∈ wsX90, w ∈ wsX9_seed := by decide +kernel
  refine met_F (cc := cX9_seed) (nL := 3) (by decide) rfl (Nat.le_of_ble_eq_true rfl) ?_
  intro p e s m args below meth c Q H0 A0 H locs ls F hw hl hret
  have F : CallFix p m c cX9_seed 3 s args wsX9_seed RX9 := F
  have hl : lv_has ls 3 [(0, .ref (eO E 0)), (1, .int (iI v))] := hl
  obtain ⟨ht, hl0, hnn, hnv, hnp, hnd, h00, hin9k, hdr, hff, hyr, hbn, hpl, hf5, hni, hhm, hcn3, hnx, hcn, hsp, hsa, hcn0, hb, hb2, hlk, hkp⟩ := id hx
  have hf : ∀ k, 0 ≤ A 17 k ∧ A 17 k ≤ 900000 := fun k => by have := hf5 k; omega
  have hh : ∀ t, 13 ≤ t ∧ t < 19 → 0 ≤ A 17 t ∧ A 17 t ≤ 1000 := fun t h => by have h1 := hhm t h; have h2 := hf t; omega
  have hho : ∀ q, 0 ≤ q ∧ q < I 11 → A 17 (13 + q) < 4 := fun q h => hhm (13 + q) (by omega)
  have hin0 := hin9k
  refine lv_iload_n F.1 F.2.1 dX9_seed_0 rfl (lv_at hl 1 rfl) ?_
  refine bi_if_ge (tgt := 7) F dX9_seed_1 (by decide) (by omega) (fun c_1 => ?_) (fun c_1 => ?_)
  · refine lv_aload_n F.1 F.2.1 dX9_seed_7 rfl (lv_at hl 0 rfl) ?_
    refine x_get F hin9 hw 0 9 rfl rfl 7 (by decide) (by decide +kernel) rfl rfl dX9_seed_8 ?_
    refine x_get F hin1 hw 7 1 rfl rfl 0 (by decide) (by decide +kernel) rfl rfl dX9_seed_11 ?_
    refine lv_istore_n (lv' := [(2, .int (iI (I 15))), (0, .ref (eO E 0)), (1, .int (iI v))]) F.1 F.2.1 dX9_seed_14 rfl hl (by decide) rfl (fun ls hl => ?_)
    refine lv_aload_n F.1 F.2.1 dX9_seed_15 rfl (lv_at hl 1 rfl) ?_
    refine x_get F hin9 hw 0 9 rfl rfl 7 (by decide) (by decide +kernel) rfl rfl dX9_seed_16 ?_
    refine lv_iload_n F.1 F.2.1 dX9_seed_19 rfl (lv_at hl 2 rfl) ?_
    refine x_put (I2 := st1 I 15 v) F hin1 tyX1 tyX1_ok nmX1 hw 7 1 rfl rfl 0 (by decide) (by decide +kernel) rfl rfl (by decide +kernel) (Nat.le_of_ble_eq_true rfl) rfl (by decide) dX9_seed_20 (fun H locs hw => ?_)
    generalize eI2 : st1 I 15 v = I2 at hw
    refine lv_iload_n F.1 F.2.1 dX9_seed_23 rfl (lv_at hl 0 rfl) ?_
    exact hret _ _ _ _ _ _ (by first | rw [if_pos (by omega)] | rw [if_neg (by omega)]) (xW_c (by first | (rw [if_pos (by omega)]; done) | (rw [if_neg (by omega)]; subst_vars; rfl)) rfl rfl) hw dX9_seed_24
  · refine bi_ldc F (-1000000002) (by decide +kernel) rfl dX9_seed_4 ?_
    exact hret _ _ _ _ _ _ (by first | rw [if_pos (by omega)] | rw [if_neg (by omega)]) (xW_c (by first | (rw [if_pos (by omega)]; done) | (rw [if_neg (by omega)]; subst_vars; rfl)) rfl rfl) hw dX9_seed_6
set_option maxRecDepth 100000 in
set_option maxHeartbeats 4000000 in
theorem x9_keep (l : Launch) (E : Ev) (I : Nat → Int) (A : Nat → Int → Int) (L : Nat → Int64) (i : Int) (b_i : -2147483648 ≤ i ∧ i ≤ 2147483647) (hx : xOk I A) : MetF l yX9_keep wsX9_keep ({ frames := 2, cells := 0, slots := 0, locals := 63 } : Room) E [.ref (eO E 0), .int (iI i)] (xW E I A L) (xW E (if 0 ≤ i ∧ i < 2 then st1 (st1 I 13 0) 14 0 else I) (xKeepA I A i) L) (if 0 ≤ i ∧ i < 2 then 1 else -1000000001) := by
  have hin1 : ∀ w ∈ wsX10, w ∈ wsX9_keep := by decide +kernel
  have hin9 : ∀ w ∈ wsX90, w ∈ wsX9_keep := by decide +kernel
  refine met_F (cc := cX9_keep) (nL := 2) (by decide) rfl (Nat.le_of_ble_eq_true rfl) ?_
  intro p e s m args below meth c Q H0 A0 H locs ls F hw hl hret
  have F : CallFix p m c cX9_keep 2 s args wsX9_keep RX9 := F
  have hl : lv_has ls 2 [(0, .ref (eO E 0)), (1, .int (iI i))] := hl
  obtain ⟨ht, hl0, hnn, hnv, hnp, hnd, h00, hin9k, hdr, hff, hyr, hbn, hpl, hf5, hni, hhm, hcn3, hnx, hcn, hsp, hsa, hcn0, hb, hb2, hlk, hkp⟩ := id hx
  have hf : ∀ k, 0 ≤ A 17 k ∧ A 17 k ≤ 900000 := fun k => by have := hf5 k; omega
  have hh : ∀ t, 13 ≤ t ∧ t < 19 → 0 ≤ A 17 t ∧ A 17 t ≤ 1000 := fun t h => by have h1 := hhm t h; have h2 := hf t; omega
  have hho : ∀ q, 0 ≤ q ∧ q < I 11 → A 17 (13 + q) < 4 := fun q h => hhm (13 + q) (by omega)
  have hin0 := hin9k
  refine lv_aload_n F.1 F.2.1 dX9_keep_0 rfl (lv_at hl 0 rfl) ?_
  refine x_get F hin9 hw 0 9 rfl rfl 6 (by decide) (by decide +kernel) rfl rfl dX9_keep_1 ?_
  refine lv_iload_n F.1 F.2.1 dX9_keep_4 rfl (lv_at hl 1 rfl) ?_
  refine call_P (As := [.int (iI i)]) (rest := []) F (x2_has l E I A L i (by omega)) (cwV 1 F.2.2.2.2 gX9_keep_X2_has rfl rfl rfl (by decide +kernel) ⟨(Nat.le_of_ble_eq_true rfl), (Nat.le_of_ble_eq_true rfl)⟩) hw (x_recv hw 6 2 rfl rfl) rfl hl.1 rfl (Nat.le_of_ble_eq_true rfl) dX9_keep_5 ⟨Nat.zero_le _, Nat.zero_le _⟩ (fun q_1 H locs hw => ?_) (fun q_1 H locs hw => ?_)
  · refine bi_if_ne (tgt := 14) F dX9_keep_8 (by decide) (by decide) (fun _ => ?_) (fun q => absurd q (by decide))
    refine lv_aload_n F.1 F.2.1 dX9_keep_14 rfl (lv_at hl 0 rfl) ?_
    refine x_get F hin9 hw 0 9 rfl rfl 6 (by decide) (by decide +kernel) rfl rfl dX9_keep_15 ?_
    refine lv_iload_n F.1 F.2.1 dX9_keep_18 rfl (lv_at hl 1 rfl) ?_
    refine lv_aload_n F.1 F.2.1 dX9_keep_19 rfl (lv_at hl 0 rfl) ?_
    refine x_get F hin9 hw 0 9 rfl rfl 4 (by decide) (by decide +kernel) rfl rfl dX9_keep_20 ?_
    refine lv_aload_n F.1 F.2.1 dX9_keep_23 rfl (lv_at hl 0 rfl) ?_
    refine x_get F hin9 hw 0 9 rfl rfl 7 (by decide) (by decide +kernel) rfl rfl dX9_keep_24 ?_
    refine x_get F hin1 hw 7 1 rfl rfl 0 (by decide) (by decide +kernel) rfl rfl dX9_keep_27 ?_
    refine call_G (As := [.int (iI i), .ref (eO E 4), .int (iI (I 15))]) (rest := []) F (x2_store l E I A L i (I 15) (by omega)) (cwV 3 F.2.2.2.2 gX9_keep_X2_store rfl rfl rfl (by decide +kernel) ⟨(Nat.le_of_ble_eq_true rfl), (Nat.le_of_ble_eq_true rfl)⟩) hw (x_recv hw 6 2 rfl rfl) rfl hl.1 rfl (Nat.le_of_ble_eq_true rfl) dX9_keep_30 ⟨Nat.zero_le _, Nat.zero_le _⟩ (fun H locs hw => ?_)
    generalize eA3 : st2 (st2 (stA A 20 (cpI (A 17) (A 20) 0 (i * 35) 35)) 19 i (I 15)) 28 i 1 = A3 at hw
    refine lv_aload_n F.1 F.2.1 dX9_keep_33 rfl (lv_at hl 0 rfl) ?_
    refine x_get F hin9 hw 0 9 rfl rfl 5 (by decide) (by decide +kernel) rfl rfl dX9_keep_34 ?_
    refine call_G (As := []) (rest := []) F (x3_forget l E I A3 L  ) (cwV 0 F.2.2.2.2 gX9_keep_X3_forget rfl rfl rfl (by decide +kernel) ⟨(Nat.le_of_ble_eq_true rfl), (Nat.le_of_ble_eq_true rfl)⟩) hw (x_recv hw 5 3 rfl rfl) rfl hl.1 rfl (Nat.le_of_ble_eq_true rfl) dX9_keep_37 ⟨Nat.zero_le _, Nat.zero_le _⟩ (fun H locs hw => ?_)
    generalize eI4 : st1 (st1 I 13 0) 14 0 = I4 at hw
    refine bi_iconst F dX9_keep_40 ?_
    exact hret _ _ _ _ _ _ (by first | (rw [if_pos (by omega)]; done) | (rw [if_neg (by omega)]; done)) (xW_c (by first | (rw [if_neg (by omega)]; done) | (rw [if_pos (by omega)]; subst_vars; rfl)) (by unfold xKeepA; first | (rw [if_neg (by omega)]; done) | (rw [if_pos (by omega)]; subst_vars; rfl)) rfl) hw dX9_keep_41
  · refine bi_if_ne (tgt := 14) F dX9_keep_8 (by decide) (by decide) (fun q => absurd q (by decide)) (fun _ => ?_)
    refine bi_ldc F (-1000000001) (by decide +kernel) rfl dX9_keep_11 ?_
    exact hret _ _ _ _ _ _ (by first | (rw [if_pos (by omega)]; done) | (rw [if_neg (by omega)]; done)) (xW_c (by first | (rw [if_neg (by omega)]; done) | (rw [if_pos (by omega)]; subst_vars; rfl)) (by unfold xKeepA; first | (rw [if_neg (by omega)]; done) | (rw [if_pos (by omega)]; subst_vars; rfl)) rfl) hw dX9_keep_13
set_option maxRecDepth 100000 in
set_option maxHeartbeats 4000000 in
theorem x9_goBack (l : Launch) (E : Ev) (I : Nat → Int) (A : Nat → Int → Int) (L : Nat → Int64) (i : Int) (b_i : -2147483648 ≤ i ∧ i ≤ 2147483647) (hx : xOk I A) : MetF l yX9_goBack wsX9_goBack ({ frames := 2, cells := 0, slots := 0, locals := 62 } : Room) E [.ref (eO E 0), .int (iI i)] (xW E I A L) (xW E (xBackI I A i) (xBackA A i) L) (if 0 ≤ i ∧ i < 2 then (if A 28 i = 0 then -1000000003 else 1) else -1000000001) := by
  have hin1 : ∀ w ∈ wsX10, w ∈ wsX9_goBack := by decide +kernel
  have hin2 : ∀ w ∈ wsX20, w ∈ wsX9_goBack := by decide +kernel
  have hin9 : ∀ w ∈ wsX90, w ∈ wsX9_goBack := by decide +kernel
  refine met_F (cc := cX9_goBack) (nL := 2) (by decide) rfl (Nat.le_of_ble_eq_true rfl) ?_
  intro p e s m args below meth c Q H0 A0 H locs ls F hw hl hret
  have F : CallFix p m c cX9_goBack 2 s args wsX9_goBack RX9 := F
  have hl : lv_has ls 2 [(0, .ref (eO E 0)), (1, .int (iI i))] := hl
  obtain ⟨ht, hl0, hnn, hnv, hnp, hnd, h00, hin9k, hdr, hff, hyr, hbn, hpl, hf5, hni, hhm, hcn3, hnx, hcn, hsp, hsa, hcn0, hb, hb2, hlk, hkp⟩ := id hx
  have hf : ∀ k, 0 ≤ A 17 k ∧ A 17 k ≤ 900000 := fun k => by have := hf5 k; omega
  have hh : ∀ t, 13 ≤ t ∧ t < 19 → 0 ≤ A 17 t ∧ A 17 t ≤ 1000 := fun t h => by have h1 := hhm t h; have h2 := hf t; omega
  have hho : ∀ q, 0 ≤ q ∧ q < I 11 → A 17 (13 + q) < 4 := fun q h => hhm (13 + q) (by omega)
  have hin0 := hin9k
  refine lv_aload_n F.1 F.2.1 dX9_goBack_0 rfl (lv_at hl 0 rfl) ?_
  refine x_get F hin9 hw 0 9 rfl rfl 6 (by decide) (by decide +kernel) rfl rfl dX9_goBack_1 ?_
  refine lv_iload_n F.1 F.2.1 dX9_goBack_4 rfl (lv_at hl 1 rfl) ?_
  refine call_P (As := [.int (iI i)]) (rest := []) F (x2_has l E I A L i (by omega)) (cwV 1 F.2.2.2.2 gX9_goBack_X2_has rfl rfl rfl (by decide +kernel) ⟨(Nat.le_of_ble_eq_true rfl), (Nat.le_of_ble_eq_true rfl)⟩) hw (x_recv hw 6 2 rfl rfl) rfl hl.1 rfl (Nat.le_of_ble_eq_true rfl) dX9_goBack_5 ⟨Nat.zero_le _, Nat.zero_le _⟩ (fun q_1 H locs hw => ?_) (fun q_1 H locs hw => ?_)
  · refine bi_if_ne (tgt := 14) F dX9_goBack_8 (by decide) (by decide) (fun _ => ?_) (fun q => absurd q (by decide))
    refine lv_aload_n F.1 F.2.1 dX9_goBack_14 rfl (lv_at hl 0 rfl) ?_
    refine x_get F hin9 hw 0 9 rfl rfl 6 (by decide) (by decide +kernel) rfl rfl dX9_goBack_15 ?_
    refine x_get F hin2 hw 6 2 rfl rfl 0 (by decide) (by decide +kernel) rfl rfl dX9_goBack_18 ?_
    refine lv_iload_n F.1 F.2.1 dX9_goBack_21 rfl (lv_at hl 1 rfl) ?_
    have hk9 := hkp i (by omega)
    refine x_zld F hw (by omega) dX9_goBack_22 ?_
    refine bi_if_ne (tgt := 29) F dX9_goBack_23 (by decide) (by omega) (fun c_3 => ?_) (fun c_3 => ?_)
    · refine lv_aload_n F.1 F.2.1 dX9_goBack_29 rfl (lv_at hl 0 rfl) ?_
      refine x_get F hin9 hw 0 9 rfl rfl 6 (by decide) (by decide +kernel) rfl rfl dX9_goBack_30 ?_
      refine lv_iload_n F.1 F.2.1 dX9_goBack_33 rfl (lv_at hl 1 rfl) ?_
      refine lv_aload_n F.1 F.2.1 dX9_goBack_34 rfl (lv_at hl 0 rfl) ?_
      refine x_get F hin9 hw 0 9 rfl rfl 4 (by decide) (by decide +kernel) rfl rfl dX9_goBack_35 ?_
      refine call_G (As := [.int (iI i), .ref (eO E 4)]) (rest := []) F (x2_bringBack l E I A L i (by omega)) (cwV 2 F.2.2.2.2 gX9_goBack_X2_bringBack rfl rfl rfl (by decide +kernel) ⟨(Nat.le_of_ble_eq_true rfl), (Nat.le_of_ble_eq_true rfl)⟩) hw (x_recv hw 6 2 rfl rfl) rfl hl.1 rfl (Nat.le_of_ble_eq_true rfl) dX9_goBack_38 ⟨Nat.zero_le _, Nat.zero_le _⟩ (fun H locs hw => ?_)
      generalize eA4 : stA A 17 (fun k => A 20 (i * 35 + k)) = A4 at hw
      refine lv_aload_n F.1 F.2.1 dX9_goBack_41 rfl (lv_at hl 0 rfl) ?_
      refine x_get F hin9 hw 0 9 rfl rfl 7 (by decide) (by decide +kernel) rfl rfl dX9_goBack_42 ?_
      refine lv_aload_n F.1 F.2.1 dX9_goBack_45 rfl (lv_at hl 0 rfl) ?_
      refine x_get F hin9 hw 0 9 rfl rfl 6 (by decide) (by decide +kernel) rfl rfl dX9_goBack_46 ?_
      refine x_get F hin2 hw 6 2 rfl rfl 1 (by decide) (by decide +kernel) rfl rfl dX9_goBack_49 ?_
      refine lv_iload_n F.1 F.2.1 dX9_goBack_52 rfl (lv_at hl 1 rfl) ?_
      refine x_ld F hw 19 2 rfl (by decide) (by omega) dX9_goBack_53 ?_
      refine x_put (I2 := st1 I 15 (A4 19 i)) F hin1 tyX1 tyX1_ok nmX1 hw 7 1 rfl rfl 0 (by decide) (by decide +kernel) rfl rfl (by decide +kernel) (Nat.le_of_ble_eq_true rfl) rfl (by decide) dX9_goBack_54 (fun H locs hw => ?_)
      generalize eI5 : st1 I 15 (A4 19 i) = I5 at hw
      refine lv_aload_n F.1 F.2.1 dX9_goBack_57 rfl (lv_at hl 0 rfl) ?_
      refine x_get F hin9 hw 0 9 rfl rfl 5 (by decide) (by decide +kernel) rfl rfl dX9_goBack_58 ?_
      refine call_G (As := []) (rest := []) F (x3_forget l E I5 A4 L  ) (cwV 0 F.2.2.2.2 gX9_goBack_X3_forget rfl rfl rfl (by decide +kernel) ⟨(Nat.le_of_ble_eq_true rfl), (Nat.le_of_ble_eq_true rfl)⟩) hw (x_recv hw 5 3 rfl rfl) rfl hl.1 rfl (Nat.le_of_ble_eq_true rfl) dX9_goBack_61 ⟨Nat.zero_le _, Nat.zero_le _⟩ (fun H locs hw => ?_)
      generalize eI6 : st1 (st1 I5 13 0) 14 0 = I6 at hw
      refine bi_iconst F dX9_goBack_64 ?_
      exact hret _ _ _ _ _ _ (by first | (rw [if_neg (by omega)]; done) | (rw [if_pos (by omega), if_pos (by omega)]; done) | (rw [if_pos (by omega), if_neg (by omega)]; done)) (xW_c (by unfold xBackI; first | (rw [if_neg (by omega)]; done) | (rw [if_pos (by omega), if_pos (by omega)]; done) | (rw [if_pos (by omega), if_neg (by omega)]; subst_vars; rfl)) (by unfold xBackA; first | (rw [if_neg (by omega)]; done) | (rw [if_pos (by omega), if_pos (by omega)]; done) | (rw [if_pos (by omega), if_neg (by omega)]; subst_vars; rfl)) rfl) hw dX9_goBack_65
    · refine bi_ldc F (-1000000003) (by decide +kernel) rfl dX9_goBack_26 ?_
      exact hret _ _ _ _ _ _ (by first | (rw [if_neg (by omega)]; done) | (rw [if_pos (by omega), if_pos (by omega)]; done) | (rw [if_pos (by omega), if_neg (by omega)]; done)) (xW_c (by unfold xBackI; first | (rw [if_neg (by omega)]; done) | (rw [if_pos (by omega), if_pos (by omega)]; done) | (rw [if_pos (by omega), if_neg (by omega)]; subst_vars; rfl)) (by unfold xBackA; first | (rw [if_neg (by omega)]; done) | (rw [if_pos (by omega), if_pos (by omega)]; done) | (rw [if_pos (by omega), if_neg (by omega)]; subst_vars; rfl)) rfl) hw dX9_goBack_28
  · refine bi_if_ne (tgt := 14) F dX9_goBack_8 (by decide) (by decide) (fun q => absurd q (by decide)) (fun _ => ?_)
    refine bi_ldc F (-1000000001) (by decide +kernel) rfl dX9_goBack_11 ?_
    exact hret _ _ _ _ _ _ (by first | (rw [if_neg (by omega)]; done) | (rw [if_pos (by omega), if_pos (by omega)]; done) | (rw [if_pos (by omega), if_neg (by omega)]; done)) (xW_c (by unfold xBackI; first | (rw [if_neg (by omega)]; done) | (rw [if_pos (by omega), if_pos (by omega)]; done) | (rw [if_pos (by omega), if_neg (by omega)]; subst_vars; rfl)) (by unfold xBackA; first | (rw [if_neg (by omega)]; done) | (rw [if_pos (by omega), if_pos (by omega)]; done) | (rw [if_pos (by omega), if_neg (by omega)]; subst_vars; rfl)) rfl) hw dX9_goBack_13
set_option maxRecDepth 100000 in
set_option maxHeartbeats 4000000 in
theorem x9_valley (l : Launch) (E : Ev) (I : Nat → Int) (A : Nat → Int → Int) (L : Nat → Int64) (hx : xOk I A) : MetF l yX9_valley wsX9_valley ({ frames := 6, cells := 0, slots := 0, locals := 136 } : Room) E [.ref (eO E 0)] (xW E I A L) (xW E (xValI I A) (xValA I A) L) (xValR I A) := by
  have hin4 : ∀ w ∈ wsX40, w ∈ wsX9_valley := by decide +kernel
  have hin7 : ∀ w ∈ wsX70, w ∈ wsX9_valley := by decide +kernel
  have hin9 : ∀ w ∈ wsX90, w ∈ wsX9_valley := by decide +kernel
  refine met_F (cc := cX9_valley) (nL := 3) (by decide) rfl (Nat.le_of_ble_eq_true rfl) ?_
  intro p e s m args below meth c Q H0 A0 H locs ls F hw hl hret
  have F : CallFix p m c cX9_valley 3 s args wsX9_valley RX9 := F
  have hl : lv_has ls 3 [(0, .ref (eO E 0))] := hl
  obtain ⟨ht, hl0, hnn, hnv, hnp, hnd, h00, hin9k, hdr, hff, hyr, hbn, hpl, hf5, hni, hhm, hcn3, hnx, hcn, hsp, hsa, hcn0, hb, hb2, hlk, hkp⟩ := id hx
  have hf : ∀ k, 0 ≤ A 17 k ∧ A 17 k ≤ 900000 := fun k => by have := hf5 k; omega
  have hh : ∀ t, 13 ≤ t ∧ t < 19 → 0 ≤ A 17 t ∧ A 17 t ≤ 1000 := fun t h => by have h1 := hhm t h; have h2 := hf t; omega
  have hho : ∀ q, 0 ≤ q ∧ q < I 11 → A 17 (13 + q) < 4 := fun q h => hhm (13 + q) (by omega)
  refine lv_aload_n F.1 F.2.1 dX9_valley_0 rfl (lv_at hl 0 rfl) ?_
  refine x_get F hin9 hw 0 9 rfl rfl 1 (by decide) (by decide +kernel) rfl rfl dX9_valley_1 ?_
  refine lv_istore_n (lv' := [(1, .int (iI (I 0))), (0, .ref (eO E 0))]) F.1 F.2.1 dX9_valley_4 rfl hl (by decide) rfl (fun ls hl => ?_)
  refine lv_aload_n F.1 F.2.1 dX9_valley_5 rfl (lv_at hl 1 rfl) ?_
  refine bi_iconst F dX9_valley_6 ?_
  refine x_put (I2 := st1 I 0 0) F hin9 tyX9 tyX9_ok nmX9 hw 0 9 rfl rfl 1 (by decide) (by decide +kernel) rfl rfl (by decide +kernel) (Nat.le_of_ble_eq_true rfl) rfl (by decide) dX9_valley_7 (fun H locs hw => ?_)
  generalize eI1 : st1 I 0 0 = I1 at hw
  have hi0 : I1 = st1 I 0 0 := by subst_vars; rfl
  refine lv_aload_n F.1 F.2.1 dX9_valley_10 rfl (lv_at hl 1 rfl) ?_
  refine x_get F hin9 hw 0 9 rfl rfl 2 (by decide) (by decide +kernel) rfl rfl dX9_valley_11 ?_
  refine lv_iload_n F.1 F.2.1 dX9_valley_14 rfl (lv_at hl 0 rfl) ?_
  refine call_F (As := [.int (iI (I 0))]) (rest := []) F (x4_read l E I1 A L (I 0) (by omega) hl0) (cwV 1 F.2.2.2.2 gX9_valley_X4_read rfl rfl rfl (by decide +kernel) ⟨(Nat.le_of_ble_eq_true rfl), (Nat.le_of_ble_eq_true rfl)⟩) hw (x_recv hw 1 4 rfl rfl) rfl hl.1 rfl (Nat.le_of_ble_eq_true rfl) dX9_valley_15 ⟨Nat.zero_le _, Nat.zero_le _⟩ (fun H locs hw => ?_)
  generalize eI2 : jX (st1 I1 3 (I 0)) (cRead (A 0) (I 0) A).1.1 (cRead (A 0) (I 0) A).1.2.1 (cRead (A 0) (I 0) A).1.2.2 (cRead (A 0) (I 0) A).2.1 (cRead (A 0) (I 0) A).2.2.1 (cRead (A 0) (I 0) A).2.2.2.1 (cRead (A 0) (I 0) A).2.2.2.2.1 = I2 at hw
  generalize eA3 : (cRead (A 0) (I 0) A).2.2.2.2.2 = A3 at hw
  have hU : cRead (A 0) (I 0) A = xU I A := rfl
  rw [hU] at eI2 eA3
  rw [hU]
  have hrI : I2 = xRdI I (xU I A) := by rw [← eI2, hi0]; rfl
  have hrA : A3 = (xU I A).2.2.2.2.2 := eA3.symm
  have hgd := uGd_read (T := A 0) (n := I 0) (A := A) ht
  rw [hU] at hgd
  obtain ⟨⟨-, hkd, -⟩, -, hc6, hc7, hc8, -⟩ := hgd
  have hi7 : I2 7 = (xU I A).2.2.2.1 := by rw [hrI]; rfl
  refine lv_istore_n (lv' := [(2, .int (iI ((xU I A).1.2.1))), (1, .int (iI (I 0))), (0, .ref (eO E 0))]) F.1 F.2.1 dX9_valley_18 rfl hl (by decide) rfl (fun ls hl => ?_)
  refine lv_iload_n F.1 F.2.1 dX9_valley_19 rfl (lv_at hl 0 rfl) ?_
  refine bi_if_eq (tgt := 28) F dX9_valley_20 (by decide) (by omega) (fun c_4 => ?_) (fun c_4 => ?_)
  · refine lv_aload_n F.1 F.2.1 dX9_valley_28 rfl (lv_at hl 2 rfl) ?_
    refine x_get F hin9 hw 0 9 rfl rfl 3 (by decide) (by decide +kernel) rfl rfl dX9_valley_29 ?_
    refine lv_aload_n F.1 F.2.1 dX9_valley_32 rfl (lv_at hl 2 rfl) ?_
    refine x_get F hin9 hw 0 9 rfl rfl 2 (by decide) (by decide +kernel) rfl rfl dX9_valley_33 ?_
    refine x_get F hin4 hw 1 4 rfl rfl 0 (by decide) (by decide +kernel) rfl rfl dX9_valley_36 ?_
    refine call_G (As := [.ref (eO E 2)]) (rest := []) F (x7_become l E I2 A3 L  ) (cwV 1 F.2.2.2.2 gX9_valley_X7_become rfl rfl rfl (by decide +kernel) ⟨(Nat.le_of_ble_eq_true rfl), (Nat.le_of_ble_eq_true rfl)⟩) hw (x_recv hw 3 7 rfl rfl) rfl hl.1 rfl (Nat.le_of_ble_eq_true rfl) dX9_valley_39 ⟨Nat.zero_le _, Nat.zero_le _⟩ (fun H locs hw => ?_)
    generalize eI5 : xBecI I2 = I5 at hw
    generalize eA6 : xBecA A3 = A6 at hw
    have hj11 : I5 11 = (xU I A).2.2.2.1 := by subst_vars; rfl
    have hj12 : I5 12 = (xU I A).2.2.2.2.1 := by subst_vars; rfl
    refine lv_aload_n F.1 F.2.1 dX9_valley_42 rfl (lv_at hl 2 rfl) ?_
    refine x_get F hin9 hw 0 9 rfl rfl 4 (by decide) (by decide +kernel) rfl rfl dX9_valley_43 ?_
    refine lv_aload_n F.1 F.2.1 dX9_valley_46 rfl (lv_at hl 2 rfl) ?_
    refine x_get F hin9 hw 0 9 rfl rfl 3 (by decide) (by decide +kernel) rfl rfl dX9_valley_47 ?_
    refine call_G (As := [.ref (eO E 3)]) (rest := []) F (x6_begin l E I5 A6 L  (by omega) (by omega)) (cwV 1 F.2.2.2.2 gX9_valley_X6_begin rfl rfl rfl (by decide +kernel) ⟨(Nat.le_of_ble_eq_true rfl), (Nat.le_of_ble_eq_true rfl)⟩) hw (x_recv hw 4 6 rfl rfl) rfl hl.1 rfl (Nat.le_of_ble_eq_true rfl) dX9_valley_50 ⟨Nat.zero_le _, Nat.zero_le _⟩ (fun H locs hw => ?_)
    generalize eA7 : stA A6 17 (xBeg (A6 13) (A6 14) (A6 16) (I5 11).toNat (I5 12).toNat) = A7 at hw
    refine lv_aload_n F.1 F.2.1 dX9_valley_53 rfl (lv_at hl 2 rfl) ?_
    refine x_get F hin9 hw 0 9 rfl rfl 5 (by decide) (by decide +kernel) rfl rfl dX9_valley_54 ?_
    refine call_G (As := []) (rest := []) F (x3_forget l E I5 A7 L  ) (cwV 0 F.2.2.2.2 gX9_valley_X3_forget rfl rfl rfl (by decide +kernel) ⟨(Nat.le_of_ble_eq_true rfl), (Nat.le_of_ble_eq_true rfl)⟩) hw (x_recv hw 5 3 rfl rfl) rfl hl.1 rfl (Nat.le_of_ble_eq_true rfl) dX9_valley_57 ⟨Nat.zero_le _, Nat.zero_le _⟩ (fun H locs hw => ?_)
    generalize eI8 : st1 (st1 I5 13 0) 14 0 = I8 at hw
    refine lv_aload_n F.1 F.2.1 dX9_valley_60 rfl (lv_at hl 2 rfl) ?_
    refine x_get F hin9 hw 0 9 rfl rfl 6 (by decide) (by decide +kernel) rfl rfl dX9_valley_61 ?_
    refine call_G (As := []) (rest := []) F (x2_forget l E I8 A7 L  ) (cwV 0 F.2.2.2.2 gX9_valley_X2_forget rfl rfl rfl (by decide +kernel) ⟨(Nat.le_of_ble_eq_true rfl), (Nat.le_of_ble_eq_true rfl)⟩) hw (x_recv hw 6 2 rfl rfl) rfl hl.1 rfl (Nat.le_of_ble_eq_true rfl) dX9_valley_64 ⟨Nat.zero_le _, Nat.zero_le _⟩ (fun H locs hw => ?_)
    generalize eA9 : st2 (st2 A7 28 0 0) 28 1 0 = A9 at hw
    refine lv_aload_n F.1 F.2.1 dX9_valley_67 rfl (lv_at hl 2 rfl) ?_
    refine x_get F hin9 hw 0 9 rfl rfl 9 (by decide) (by decide +kernel) rfl rfl dX9_valley_68 ?_
    refine call_G (As := []) (rest := []) F (x5_forget l E I8 A9 L  ) (cwV 0 F.2.2.2.2 gX9_valley_X5_forget rfl rfl rfl (by decide +kernel) ⟨(Nat.le_of_ble_eq_true rfl), (Nat.le_of_ble_eq_true rfl)⟩) hw (x_recv hw 9 5 rfl rfl) rfl hl.1 rfl (Nat.le_of_ble_eq_true rfl) dX9_valley_71 ⟨Nat.zero_le _, Nat.zero_le _⟩ (fun H locs hw => ?_)
    generalize eI10 : st1 I8 16 0 = I10 at hw
    refine lv_aload_n F.1 F.2.1 dX9_valley_74 rfl (lv_at hl 2 rfl) ?_
    refine x_get F hin9 hw 0 9 rfl rfl 10 (by decide) (by decide +kernel) rfl rfl dX9_valley_75 ?_
    refine call_G (As := []) (rest := []) F (x0_forget l E I10 A9 L  ) (cwV 0 F.2.2.2.2 gX9_valley_X0_forget rfl rfl rfl (by decide +kernel) ⟨(Nat.le_of_ble_eq_true rfl), (Nat.le_of_ble_eq_true rfl)⟩) hw (x_recv hw 10 0 rfl rfl) rfl hl.1 rfl (Nat.le_of_ble_eq_true rfl) dX9_valley_78 ⟨Nat.zero_le _, Nat.zero_le _⟩ (fun H locs hw => ?_)
    generalize eI11 : st1 I10 17 0 = I11 at hw
    refine lv_aload_n F.1 F.2.1 dX9_valley_81 rfl (lv_at hl 2 rfl) ?_
    refine x_get F hin9 hw 0 9 rfl rfl 3 (by decide) (by decide +kernel) rfl rfl dX9_valley_82 ?_
    refine x_get F hin7 hw 3 7 rfl rfl 9 (by decide) (by decide +kernel) rfl rfl dX9_valley_85 ?_
    exact hret _ _ _ _ _ _ (by unfold xValR; rw [if_pos (by omega)]; subst_vars; rfl) (xW_c (by unfold xValI; rw [if_pos (by omega)]; subst_vars; rfl) (by unfold xValA; rw [if_pos (by omega)]; subst_vars; rfl) rfl) hw dX9_valley_88
  · refine bi_bipush F dX9_valley_23 (by decide) ?_
    refine lv_iload_n F.1 F.2.1 dX9_valley_25 rfl (lv_at hl 0 rfl) ?_
    refine bi_isub F dX9_valley_26 ?_
    exact hret _ _ _ _ _ _ (by unfold xValR; rw [if_neg (by omega)]) (xW_c (by unfold xValI; rw [if_neg (by omega)]; exact hrI) (by unfold xValA; rw [if_neg (by omega)]; exact hrA) rfl) hw dX9_valley_27
