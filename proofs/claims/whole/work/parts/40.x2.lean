set_option maxRecDepth 100000 in
set_option maxHeartbeats 4000000 in
theorem x6_age (l : Launch) (E : Ev) (I : Nat → Int) (A : Nat → Int → Int) (L : Nat → Int64) (q : Int) (hp : 0 ≤ q ∧ q < 6) (hf : ∀ k, 0 ≤ A 17 k ∧ A 17 k ≤ 900000) (hyr : ∀ k, 0 ≤ A 12 k ∧ A 12 k ≤ 40) (hh : A 17 (13 + q) < 4) : MetN l yX6_age wsX6_age ({ frames := 1, cells := 0, slots := 0, locals := 22 } : Room) E [.ref (eO E 4), .ref (eO E 3), .int (iI q)] (xW E I A L) (xAge A q) := by
  refine met_N (cc := cX6_age) (nL := 3) (by decide) rfl (Nat.le_of_ble_eq_true rfl) ?_
  intro p e s m args below meth c Q H0 A0 H locs ls F hw hl hret
  have F : CallFix p m c cX6_age 3 s args wsX6_age RX6 := F
  have hl : lv_has ls 3 [(0, .ref (eO E 4)), (1, .ref (eO E 3)), (2, .int (iI q))] := hl
  have hf1 := hf (13 + q)
  have hf2 := hf (19 + q)
  refine lv_aload_n F.1 F.2.1 dX6_age_0 rfl (lv_at hl 1 rfl) ?_
  refine lv_aload_n F.1 F.2.1 dX6_age_1 rfl (lv_at hl 0 rfl) ?_
  refine lv_iload_n F.1 F.2.1 dX6_age_2 rfl (lv_at hl 2 rfl) ?_
  refine call_N (As := [.int (iI q)]) (rest := [.ref (eO E 3)]) F (x6_lived l E I A L q (by omega)) (cwV 1 F.2.2.2.2 gX6_age_X6_lived rfl rfl rfl (by decide +kernel) ⟨(Nat.le_of_ble_eq_true rfl), (Nat.le_of_ble_eq_true rfl)⟩) hw (x_recv hw 4 6 rfl rfl) rfl hl.1 rfl (Nat.le_of_ble_eq_true rfl) dX6_age_3 ⟨Nat.zero_le _, Nat.zero_le _⟩ (fun H locs hw => ?_)
  refine lv_aload_n F.1 F.2.1 dX6_age_6 rfl (lv_at hl 0 rfl) ?_
  refine lv_iload_n F.1 F.2.1 dX6_age_7 rfl (lv_at hl 2 rfl) ?_
  refine call_N (As := [.int (iI q)]) (rest := [.int (iI (A 17 (19 + q))), .ref (eO E 3)]) F (x6_home l E I A L q (by omega)) (cwV 1 F.2.2.2.2 gX6_age_X6_home rfl rfl rfl (by decide +kernel) ⟨(Nat.le_of_ble_eq_true rfl), (Nat.le_of_ble_eq_true rfl)⟩) hw (x_recv hw 4 6 rfl rfl) rfl hl.1 rfl (Nat.le_of_ble_eq_true rfl) dX6_age_8 ⟨Nat.zero_le _, Nat.zero_le _⟩ (fun H locs hw => ?_)
  refine call_N (As := [.int (iI (A 17 (19 + q))), .int (iI (A 17 (13 + q)))]) (rest := []) F (x7_years l E I A L (A 17 (19 + q)) (A 17 (13 + q)) (by omega) (by omega) hyr) (cwV 2 F.2.2.2.2 gX6_age_X7_years rfl rfl rfl (by decide +kernel) ⟨(Nat.le_of_ble_eq_true rfl), (Nat.le_of_ble_eq_true rfl)⟩) hw (x_recv hw 3 7 rfl rfl) rfl hl.1 rfl (Nat.le_of_ble_eq_true rfl) dX6_age_11 ⟨Nat.zero_le _, Nat.zero_le _⟩ (fun H locs hw => ?_)
  exact hret _ _ _ _ _ (rfl) hw dX6_age_14
set_option maxRecDepth 100000 in
set_option maxHeartbeats 4000000 in
theorem x6_fellSinceMade (l : Launch) (E : Ev) (I : Nat → Int) (A : Nat → Int → Int) (L : Nat → Int64) (d : Int) (hd : 0 ≤ d ∧ d < 5) (hf : ∀ k, 0 ≤ A 17 k ∧ A 17 k ≤ 900000) (hpl1 : 0 ≤ A 15 d ∧ A 15 d < 4) : MetN l yX6_fellSinceMade wsX6_fellSinceMade ({ frames := 1, cells := 0, slots := 0, locals := 21 } : Room) E [.ref (eO E 4), .ref (eO E 3), .int (iI d)] (xW E I A L) (xSince A d) := by
  have hin6 : ∀ w ∈ wsX60, w ∈ wsX6_fellSinceMade := by decide +kernel
  have hin7 : ∀ w ∈ wsX70, w ∈ wsX6_fellSinceMade := by decide +kernel
  refine met_N (cc := cX6_fellSinceMade) (nL := 3) (by decide) rfl (Nat.le_of_ble_eq_true rfl) ?_
  intro p e s m args below meth c Q H0 A0 H locs ls F hw hl hret
  have F : CallFix p m c cX6_fellSinceMade 3 s args wsX6_fellSinceMade RX6 := F
  have hl : lv_has ls 3 [(0, .ref (eO E 4)), (1, .ref (eO E 3)), (2, .int (iI d))] := hl
  have hf0 := hf (25 + d)
  refine lv_aload_n F.1 F.2.1 dX6_fellSinceMade_0 rfl (lv_at hl 0 rfl) ?_
  refine lv_iload_n F.1 F.2.1 dX6_fellSinceMade_1 rfl (lv_at hl 2 rfl) ?_
  refine call_N (As := [.int (iI d)]) (rest := []) F (x6_owed l E I A L d (by omega)) (cwV 1 F.2.2.2.2 gX6_fellSinceMade_X6_owed rfl rfl rfl (by decide +kernel) ⟨(Nat.le_of_ble_eq_true rfl), (Nat.le_of_ble_eq_true rfl)⟩) hw (x_recv hw 4 6 rfl rfl) rfl hl.1 rfl (Nat.le_of_ble_eq_true rfl) dX6_fellSinceMade_2 ⟨Nat.zero_le _, Nat.zero_le _⟩ (fun H locs hw => ?_)
  refine bi_if_ne (tgt := 12) F dX6_fellSinceMade_5 (by decide) (by omega) (fun c_1 => ?_) (fun c_1 => ?_)
  · refine lv_aload_n F.1 F.2.1 dX6_fellSinceMade_12 rfl (lv_at hl 0 rfl) ?_
    refine lv_aload_n F.1 F.2.1 dX6_fellSinceMade_13 rfl (lv_at hl 1 rfl) ?_
    refine x_get F hin7 hw 3 7 rfl rfl 6 (by decide) (by decide +kernel) rfl rfl dX6_fellSinceMade_14 ?_
    refine lv_iload_n F.1 F.2.1 dX6_fellSinceMade_17 rfl (lv_at hl 2 rfl) ?_
    refine x_ld F hw 15 5 rfl (by decide) (by omega) dX6_fellSinceMade_18 ?_
    refine call_N (As := [.int (iI (A 15 d))]) (rest := []) F (x6_fell l E I A L (A 15 d) (by omega)) (cwV 1 F.2.2.2.2 gX6_fellSinceMade_X6_fell rfl rfl rfl (by decide +kernel) ⟨(Nat.le_of_ble_eq_true rfl), (Nat.le_of_ble_eq_true rfl)⟩) hw (x_recv hw 4 6 rfl rfl) rfl hl.1 rfl (Nat.le_of_ble_eq_true rfl) dX6_fellSinceMade_19 ⟨Nat.zero_le _, Nat.zero_le _⟩ (fun H locs hw => ?_)
    refine lv_aload_n F.1 F.2.1 dX6_fellSinceMade_22 rfl (lv_at hl 0 rfl) ?_
    refine x_get F hin6 hw 4 6 rfl rfl 0 (by decide) (by decide +kernel) rfl rfl dX6_fellSinceMade_23 ?_
    refine bi_bipush F dX6_fellSinceMade_26 (by decide) ?_
    refine lv_iload_n F.1 F.2.1 dX6_fellSinceMade_28 rfl (lv_at hl 2 rfl) ?_
    refine bi_iadd F dX6_fellSinceMade_29 ?_
    refine x_ld F hw 17 35 rfl (by decide) (by omega) dX6_fellSinceMade_30 ?_
    refine bi_isub F dX6_fellSinceMade_31 ?_
    exact hret _ _ _ _ _ (by unfold xSince; first | rw [if_pos (by omega)] | rw [if_neg (by omega)]) hw dX6_fellSinceMade_32
  · refine bi_iconst F dX6_fellSinceMade_8 ?_
    refine lv_goto (tgt := 32) F.1 F.2.1 dX6_fellSinceMade_9 (by decide) ?_
    exact hret _ _ _ _ _ (by unfold xSince; first | rw [if_pos (by omega)] | rw [if_neg (by omega)]) hw dX6_fellSinceMade_32
set_option maxRecDepth 100000 in
set_option maxHeartbeats 4000000 in
theorem x6_lack (l : Launch) (E : Ev) (I : Nat → Int) (A : Nat → Int → Int) (L : Nat → Int64) (d : Int) (hd : 0 ≤ d ∧ d < 5) (hf : ∀ k, 0 ≤ A 17 k ∧ A 17 k ≤ 900000) (hpl1 : 0 ≤ A 15 d ∧ A 15 d < 4) : MetN l yX6_lack wsX6_lack ({ frames := 2, cells := 0, slots := 0, locals := 43 } : Room) E [.ref (eO E 4), .ref (eO E 3), .int (iI d)] (xW E I A L) (xLack A d) := by
  refine met_N (cc := cX6_lack) (nL := 3) (by decide) rfl (Nat.le_of_ble_eq_true rfl) ?_
  intro p e s m args below meth c Q H0 A0 H locs ls F hw hl hret
  have F : CallFix p m c cX6_lack 3 s args wsX6_lack RX6 := F
  have hl : lv_has ls 3 [(0, .ref (eO E 4)), (1, .ref (eO E 3)), (2, .int (iI d))] := hl
  have hf0 := hf (25 + d)
  refine bi_iconst F dX6_lack_0 ?_
  refine lv_aload_n F.1 F.2.1 dX6_lack_1 rfl (lv_at hl 0 rfl) ?_
  refine lv_iload_n F.1 F.2.1 dX6_lack_2 rfl (lv_at hl 2 rfl) ?_
  refine call_N (As := [.int (iI d)]) (rest := [.int (iI 0)]) F (x6_owed l E I A L d (by omega)) (cwV 1 F.2.2.2.2 gX6_lack_X6_owed rfl rfl rfl (by decide +kernel) ⟨(Nat.le_of_ble_eq_true rfl), (Nat.le_of_ble_eq_true rfl)⟩) hw (x_recv hw 4 6 rfl rfl) rfl hl.1 rfl (Nat.le_of_ble_eq_true rfl) dX6_lack_3 ⟨Nat.zero_le _, Nat.zero_le _⟩ (fun H locs hw => ?_)
  refine lv_aload_n F.1 F.2.1 dX6_lack_6 rfl (lv_at hl 0 rfl) ?_
  refine lv_aload_n F.1 F.2.1 dX6_lack_7 rfl (lv_at hl 1 rfl) ?_
  refine lv_iload_n F.1 F.2.1 dX6_lack_8 rfl (lv_at hl 2 rfl) ?_
  refine call_N (As := [.ref (eO E 3), .int (iI d)]) (rest := [.int (iI (A 17 (25 + d))), .int (iI 0)]) F (x6_fellSinceMade l E I A L d (by omega) hf (by omega)) (cwV 2 F.2.2.2.2 gX6_lack_X6_fellSinceMade rfl rfl rfl (by decide +kernel) ⟨(Nat.le_of_ble_eq_true rfl), (Nat.le_of_ble_eq_true rfl)⟩) hw (x_recv hw 4 6 rfl rfl) rfl hl.1 rfl (Nat.le_of_ble_eq_true rfl) dX6_lack_9 ⟨Nat.zero_le _, Nat.zero_le _⟩ (fun H locs hw => ?_)
  have f_1 := xSince_r (A := A) (d := d) hf
  refine bi_isub F dX6_lack_12 ?_
  refine bi_max F hl.1 (by decide +kernel) (by decide +kernel) (by decide +kernel) (by decide +kernel) (Nat.le_of_ble_eq_true rfl) (Nat.le_of_ble_eq_true rfl) (Nat.zero_le _) (Nat.zero_le _) (by omega) dX6_lack_13 ?_
  have f_2 := iMx_r 0 (A 17 (25 + d) - (xSince A d))
  exact hret _ _ _ _ _ (rfl) hw dX6_lack_16
set_option maxRecDepth 100000 in
set_option maxHeartbeats 4000000 in
theorem x6_isDue (l : Launch) (E : Ev) (I : Nat → Int) (A : Nat → Int → Int) (L : Nat → Int64) (d : Int) (hd : 0 ≤ d ∧ d < 5) (hf : ∀ k, 0 ≤ A 17 k ∧ A 17 k ≤ 900000) (hpl1 : 0 ≤ A 15 d ∧ A 15 d < 4) : MetP l yX6_isDue wsX6_isDue ({ frames := 3, cells := 0, slots := 0, locals := 65 } : Room) E [.ref (eO E 4), .ref (eO E 3), .int (iI d)] (xW E I A L) (xDueP A d) := by
  refine met_P (cc := cX6_isDue) (nL := 3) (by decide) rfl (Nat.le_of_ble_eq_true rfl) ?_
  intro p e s m args below meth c Q H0 A0 H locs ls F hw hl hret
  have F : CallFix p m c cX6_isDue 3 s args wsX6_isDue RX6 := F
  have hl : lv_has ls 3 [(0, .ref (eO E 4)), (1, .ref (eO E 3)), (2, .int (iI d))] := hl
  have hf0 := hf (25 + d)
  refine lv_aload_n F.1 F.2.1 dX6_isDue_0 rfl (lv_at hl 0 rfl) ?_
  refine lv_iload_n F.1 F.2.1 dX6_isDue_1 rfl (lv_at hl 2 rfl) ?_
  refine call_N (As := [.int (iI d)]) (rest := []) F (x6_owed l E I A L d (by omega)) (cwV 1 F.2.2.2.2 gX6_isDue_X6_owed rfl rfl rfl (by decide +kernel) ⟨(Nat.le_of_ble_eq_true rfl), (Nat.le_of_ble_eq_true rfl)⟩) hw (x_recv hw 4 6 rfl rfl) rfl hl.1 rfl (Nat.le_of_ble_eq_true rfl) dX6_isDue_2 ⟨Nat.zero_le _, Nat.zero_le _⟩ (fun H locs hw => ?_)
  refine bi_if_eq (tgt := 21) F dX6_isDue_5 (by decide) (by omega) (fun c_1 => ?_) (fun c_1 => ?_)
  · refine bi_iconst F dX6_isDue_21 ?_
    exact hret _ _ _ _ _ (Or.inr ⟨rfl, by unfold xDueP; omega⟩) hw dX6_isDue_22
  · refine lv_aload_n F.1 F.2.1 dX6_isDue_8 rfl (lv_at hl 0 rfl) ?_
    refine lv_aload_n F.1 F.2.1 dX6_isDue_9 rfl (lv_at hl 1 rfl) ?_
    refine lv_iload_n F.1 F.2.1 dX6_isDue_10 rfl (lv_at hl 2 rfl) ?_
    refine call_N (As := [.ref (eO E 3), .int (iI d)]) (rest := []) F (x6_lack l E I A L d (by omega) hf (by omega)) (cwV 2 F.2.2.2.2 gX6_isDue_X6_lack rfl rfl rfl (by decide +kernel) ⟨(Nat.le_of_ble_eq_true rfl), (Nat.le_of_ble_eq_true rfl)⟩) hw (x_recv hw 4 6 rfl rfl) rfl hl.1 rfl (Nat.le_of_ble_eq_true rfl) dX6_isDue_11 ⟨Nat.zero_le _, Nat.zero_le _⟩ (fun H locs hw => ?_)
    have f_2 := xLack_r (A := A) (d := d) hf
    refine bi_if_ne (tgt := 21) F dX6_isDue_14 (by decide) (by omega) (fun c_3 => ?_) (fun c_3 => ?_)
    · refine bi_iconst F dX6_isDue_21 ?_
      exact hret _ _ _ _ _ (Or.inr ⟨rfl, by unfold xDueP; omega⟩) hw dX6_isDue_22
    · refine bi_iconst F dX6_isDue_17 ?_
      refine lv_goto (tgt := 22) F.1 F.2.1 dX6_isDue_18 (by decide) ?_
      exact hret _ _ _ _ _ (Or.inl ⟨rfl, by unfold xDueP; omega⟩) hw dX6_isDue_22
set_option maxRecDepth 100000 in
set_option maxHeartbeats 4000000 in
theorem x6_dueDebts (l : Launch) (E : Ev) (I : Nat → Int) (A : Nat → Int → Int) (L : Nat → Int64) (hnd : 0 ≤ I 12 ∧ I 12 ≤ 5) (hf : ∀ k, 0 ≤ A 17 k ∧ A 17 k ≤ 900000) (hpl : ∀ d, 0 ≤ d ∧ d < I 12 → 0 ≤ A 15 d ∧ A 15 d < 4) : MetN l yX6_dueDebts wsX6_dueDebts ({ frames := 4, cells := 0, slots := 0, locals := 87 } : Room) E [.ref (eO E 4), .ref (eO E 3)] (xW E I A L) (xDueN A (I 12).toNat) := by
  have hin7 : ∀ w ∈ wsX70, w ∈ wsX6_dueDebts := by decide +kernel
  refine met_N (cc := cX6_dueDebts) (nL := 4) (by decide) rfl (Nat.le_of_ble_eq_true rfl) ?_
  intro p e s m args below meth c Q H0 A0 H locs ls F hw hl hret
  have F : CallFix p m c cX6_dueDebts 4 s args wsX6_dueDebts RX6 := F
  have hl : lv_has ls 4 [(0, .ref (eO E 4)), (1, .ref (eO E 3))] := hl
  refine bi_iconst F dX6_dueDebts_0 ?_
  refine lv_istore_n (lv' := [(2, .int (iI 0)), (0, .ref (eO E 4)), (1, .ref (eO E 3))]) F.1 F.2.1 dX6_dueDebts_1 rfl hl (by decide) rfl (fun ls hl => ?_)
  refine bi_iconst F dX6_dueDebts_2 ?_
  refine lv_istore_n (lv' := [(3, .int (iI 0)), (2, .int (iI 0)), (0, .ref (eO E 4)), (1, .ref (eO E 3))]) F.1 F.2.1 dX6_dueDebts_3 rfl hl (by decide) rfl (fun ls hl => ?_)
  have loop_4 : ∀ (nf : Nat) (a : Int) (k : Int) (H : Heap) (locs : List Loc) (ls : Array Slot) (hk : 0 ≤ k ∧ k ≤ I 12) (ha : a = xDueN A k.toNat) (hw : gH E A0 H0 s (xW E I A L) H locs) (hl : lv_has ls 4 [(3, .int (iI k)), (2, .int (iI a)), (0, .ref (eO E 4)), (1, .ref (eO E 3))]) (hnf : (I 12 - k).toNat < nf), W p l e ({ frames := 4, cells := 0, slots := 0, locals := 87 } : Room) s m args below meth c H locs 0 0 Q (F0 m 4 ls []) := by
    intro nf
    induction nf with
    | zero =>
      intro a k H locs ls hk ha hw hl hnf
      exact absurd hnf (Nat.not_lt_zero _)
    | succ nf ih_4 =>
      intro a k H locs ls hk ha hw hl hnf
      refine lv_iload_n F.1 F.2.1 dX6_dueDebts_4 rfl (lv_at hl 0 rfl) ?_
      refine lv_aload_n F.1 F.2.1 dX6_dueDebts_5 rfl (lv_at hl 3 rfl) ?_
      refine x_get F hin7 hw 3 7 rfl rfl 11 (by decide) (by decide +kernel) rfl rfl dX6_dueDebts_6 ?_
      refine bi_icmp_ge (tgt := 33) F dX6_dueDebts_9 (by decide) (by omega) (fun c_1 => ?_) (fun c_1 => ?_)
      · refine lv_iload_n F.1 F.2.1 dX6_dueDebts_33 rfl (lv_at hl 1 rfl) ?_
        exact hret _ _ _ _ _ (by rw [ha, show k = I 12 by omega]) hw dX6_dueDebts_34
      · have hp1 := hpl k (by omega)
        refine lv_aload_n F.1 F.2.1 dX6_dueDebts_12 rfl (lv_at hl 2 rfl) ?_
        refine lv_aload_n F.1 F.2.1 dX6_dueDebts_13 rfl (lv_at hl 3 rfl) ?_
        refine lv_iload_n F.1 F.2.1 dX6_dueDebts_14 rfl (lv_at hl 0 rfl) ?_
        refine call_P (As := [.ref (eO E 3), .int (iI k)]) (rest := []) F (x6_isDue l E I A L k (by omega) hf (by omega)) (cwV 2 F.2.2.2.2 gX6_dueDebts_X6_isDue rfl rfl rfl (by decide +kernel) ⟨(Nat.le_of_ble_eq_true rfl), (Nat.le_of_ble_eq_true rfl)⟩) hw (x_recv hw 4 6 rfl rfl) rfl hl.1 rfl (Nat.le_of_ble_eq_true rfl) dX6_dueDebts_15 ⟨Nat.zero_le _, Nat.zero_le _⟩ (fun q_2 H locs hw => ?_) (fun q_2 H locs hw => ?_)
        · refine bi_if_eq (tgt := 27) F dX6_dueDebts_18 (by decide) (by decide) (fun q => absurd q (by decide)) (fun _ => ?_)
          refine lv_iload_n F.1 F.2.1 dX6_dueDebts_21 rfl (lv_at hl 1 rfl) ?_
          refine bi_iconst F dX6_dueDebts_22 ?_
          refine lv_iload_n F.1 F.2.1 dX6_dueDebts_23 rfl (lv_at hl 0 rfl) ?_
          refine bi_ishl F dX6_dueDebts_24 ?_
          have f_4 := iShl_r 1 k
          refine bi_ior F dX6_dueDebts_25 ?_
          have f_5 := iOr_r a (iShl 1 k)
          refine lv_istore_n (lv' := [(2, .int (iI (iOr a (iShl 1 k)))), (3, .int (iI k)), (0, .ref (eO E 4)), (1, .ref (eO E 3))]) F.1 F.2.1 dX6_dueDebts_26 rfl hl (by decide) rfl (fun ls hl => ?_)
          refine lv_iinc (v := iI (k + 1)) (lv' := [(3, .int (iI (k + 1))), (2, .int (iI (iOr a (iShl 1 k)))), (0, .ref (eO E 4)), (1, .ref (eO E 3))]) F.1 F.2.1 dX6_dueDebts_27 hl (k := 1) rfl (iI_add _ _).symm (by decide) rfl (fun ls hl => ?_)
          refine lv_goto (tgt := 4) F.1 F.2.1 dX6_dueDebts_30 (by decide) ?_
          exact ih_4 (iOr a (iShl 1 k)) (k + 1) H locs ls (by omega) (by refine Eq.trans ?_ (fld_s (g := fun a d => if A 17 (25 + d) ≠ 0 ∧ xLack A d = 0 then iOr a (iShl 1 d) else a) (z := 0) hk.1).symm; rw [show fld _ _ k.toNat = a from ha.symm]; first | (rw [if_pos (by assumption)]; done) | (rw [if_neg (by assumption)]; done) | (rw [if_neg (by omega)]; done)) hw (lv_sub hl [0, 1, 2, 3] rfl) (by omega)
        · refine bi_if_eq (tgt := 27) F dX6_dueDebts_18 (by decide) (by decide) (fun _ => ?_) (fun q => absurd q (by decide))
          refine lv_iinc (v := iI (k + 1)) (lv' := [(3, .int (iI (k + 1))), (2, .int (iI a)), (0, .ref (eO E 4)), (1, .ref (eO E 3))]) F.1 F.2.1 dX6_dueDebts_27 hl (k := 0) rfl (iI_add _ _).symm (by decide) rfl (fun ls hl => ?_)
          refine lv_goto (tgt := 4) F.1 F.2.1 dX6_dueDebts_30 (by decide) ?_
          exact ih_4 a (k + 1) H locs ls (by omega) (by refine Eq.trans ?_ (fld_s (g := fun a d => if A 17 (25 + d) ≠ 0 ∧ xLack A d = 0 then iOr a (iShl 1 d) else a) (z := 0) hk.1).symm; rw [show fld _ _ k.toNat = a from ha.symm]; first | (rw [if_pos (by assumption)]; done) | (rw [if_neg (by assumption)]; done) | (rw [if_neg (by omega)]; done)) hw (lv_sub hl [0, 1, 2, 3] rfl) (by omega)
  exact loop_4 ((I 12 - 0 : Int).toNat + 1) 0 0 H locs ls (by omega) (rfl) hw (lv_sub hl [0, 1, 2, 3] rfl) (by omega)
set_option maxRecDepth 100000 in
set_option maxHeartbeats 4000000 in
theorem x6_openDebts (l : Launch) (E : Ev) (I : Nat → Int) (A : Nat → Int → Int) (L : Nat → Int64) (hnd : 0 ≤ I 12 ∧ I 12 ≤ 5) (hf : ∀ k, 0 ≤ A 17 k ∧ A 17 k ≤ 900000) : MetN l yX6_openDebts wsX6_openDebts ({ frames := 1, cells := 0, slots := 0, locals := 21 } : Room) E [.ref (eO E 4), .ref (eO E 3)] (xW E I A L) (xOpen A (I 12).toNat) := by
  have hin7 : ∀ w ∈ wsX70, w ∈ wsX6_openDebts := by decide +kernel
  refine met_N (cc := cX6_openDebts) (nL := 4) (by decide) rfl (Nat.le_of_ble_eq_true rfl) ?_
  intro p e s m args below meth c Q H0 A0 H locs ls F hw hl hret
  have F : CallFix p m c cX6_openDebts 4 s args wsX6_openDebts RX6 := F
  have hl : lv_has ls 4 [(0, .ref (eO E 4)), (1, .ref (eO E 3))] := hl
  refine bi_iconst F dX6_openDebts_0 ?_
  refine lv_istore_n (lv' := [(2, .int (iI 0)), (0, .ref (eO E 4)), (1, .ref (eO E 3))]) F.1 F.2.1 dX6_openDebts_1 rfl hl (by decide) rfl (fun ls hl => ?_)
  refine bi_iconst F dX6_openDebts_2 ?_
  refine lv_istore_n (lv' := [(3, .int (iI 0)), (2, .int (iI 0)), (0, .ref (eO E 4)), (1, .ref (eO E 3))]) F.1 F.2.1 dX6_openDebts_3 rfl hl (by decide) rfl (fun ls hl => ?_)
  have loop_4 : ∀ (nf : Nat) (a : Int) (k : Int) (H : Heap) (locs : List Loc) (ls : Array Slot) (hk : 0 ≤ k ∧ k ≤ I 12) (ha : a = xOpen A k.toNat) (hw : gH E A0 H0 s (xW E I A L) H locs) (hl : lv_has ls 4 [(3, .int (iI k)), (2, .int (iI a)), (0, .ref (eO E 4)), (1, .ref (eO E 3))]) (hnf : (I 12 - k).toNat < nf), W p l e ({ frames := 1, cells := 0, slots := 0, locals := 21 } : Room) s m args below meth c H locs 0 0 Q (F0 m 4 ls []) := by
    intro nf
    induction nf with
    | zero =>
      intro a k H locs ls hk ha hw hl hnf
      exact absurd hnf (Nat.not_lt_zero _)
    | succ nf ih_4 =>
      intro a k H locs ls hk ha hw hl hnf
      refine lv_iload_n F.1 F.2.1 dX6_openDebts_4 rfl (lv_at hl 0 rfl) ?_
      refine lv_aload_n F.1 F.2.1 dX6_openDebts_5 rfl (lv_at hl 3 rfl) ?_
      refine x_get F hin7 hw 3 7 rfl rfl 11 (by decide) (by decide +kernel) rfl rfl dX6_openDebts_6 ?_
      refine bi_icmp_ge (tgt := 32) F dX6_openDebts_9 (by decide) (by omega) (fun c_1 => ?_) (fun c_1 => ?_)
      · refine lv_iload_n F.1 F.2.1 dX6_openDebts_32 rfl (lv_at hl 1 rfl) ?_
        exact hret _ _ _ _ _ (by rw [ha, show k = I 12 by omega]) hw dX6_openDebts_33
      · refine lv_aload_n F.1 F.2.1 dX6_openDebts_12 rfl (lv_at hl 2 rfl) ?_
        refine lv_iload_n F.1 F.2.1 dX6_openDebts_13 rfl (lv_at hl 0 rfl) ?_
        have hf0 := hf (25 + k)
        refine call_N (As := [.int (iI k)]) (rest := []) F (x6_owed l E I A L k (by omega)) (cwV 1 F.2.2.2.2 gX6_openDebts_X6_owed rfl rfl rfl (by decide +kernel) ⟨(Nat.le_of_ble_eq_true rfl), (Nat.le_of_ble_eq_true rfl)⟩) hw (x_recv hw 4 6 rfl rfl) rfl hl.1 rfl (Nat.le_of_ble_eq_true rfl) dX6_openDebts_14 ⟨Nat.zero_le _, Nat.zero_le _⟩ (fun H locs hw => ?_)
        refine bi_if_eq (tgt := 26) F dX6_openDebts_17 (by decide) (by omega) (fun c_2 => ?_) (fun c_2 => ?_)
        · refine lv_iinc (v := iI (k + 1)) (lv' := [(3, .int (iI (k + 1))), (2, .int (iI a)), (0, .ref (eO E 4)), (1, .ref (eO E 3))]) F.1 F.2.1 dX6_openDebts_26 hl (k := 0) rfl (iI_add _ _).symm (by decide) rfl (fun ls hl => ?_)
          refine lv_goto (tgt := 4) F.1 F.2.1 dX6_openDebts_29 (by decide) ?_
          exact ih_4 a (k + 1) H locs ls (by omega) (by refine Eq.trans ?_ (fld_s (g := fun a d => if A 17 (25 + d) ≠ 0 then iOr a (iShl 1 d) else a) (z := 0) hk.1).symm; rw [show fld _ _ k.toNat = a from ha.symm]; first | (rw [if_pos (by assumption)]; done) | (rw [if_neg (by assumption)]; done) | (rw [if_neg (by omega)]; done)) hw (lv_sub hl [0, 1, 2, 3] rfl) (by omega)
        · refine lv_iload_n F.1 F.2.1 dX6_openDebts_20 rfl (lv_at hl 1 rfl) ?_
          refine bi_iconst F dX6_openDebts_21 ?_
          refine lv_iload_n F.1 F.2.1 dX6_openDebts_22 rfl (lv_at hl 0 rfl) ?_
          refine bi_ishl F dX6_openDebts_23 ?_
          have f_3 := iShl_r 1 k
          refine bi_ior F dX6_openDebts_24 ?_
          have f_4 := iOr_r a (iShl 1 k)
          refine lv_istore_n (lv' := [(2, .int (iI (iOr a (iShl 1 k)))), (3, .int (iI k)), (0, .ref (eO E 4)), (1, .ref (eO E 3))]) F.1 F.2.1 dX6_openDebts_25 rfl hl (by decide) rfl (fun ls hl => ?_)
          refine lv_iinc (v := iI (k + 1)) (lv' := [(3, .int (iI (k + 1))), (2, .int (iI (iOr a (iShl 1 k)))), (0, .ref (eO E 4)), (1, .ref (eO E 3))]) F.1 F.2.1 dX6_openDebts_26 hl (k := 1) rfl (iI_add _ _).symm (by decide) rfl (fun ls hl => ?_)
          refine lv_goto (tgt := 4) F.1 F.2.1 dX6_openDebts_29 (by decide) ?_
          exact ih_4 (iOr a (iShl 1 k)) (k + 1) H locs ls (by omega) (by refine Eq.trans ?_ (fld_s (g := fun a d => if A 17 (25 + d) ≠ 0 then iOr a (iShl 1 d) else a) (z := 0) hk.1).symm; rw [show fld _ _ k.toNat = a from ha.symm]; first | (rw [if_pos (by assumption)]; done) | (rw [if_neg (by assumption)]; done) | (rw [if_neg (by omega)]; done)) hw (lv_sub hl [0, 1, 2, 3] rfl) (by omega)
  exact loop_4 ((I 12 - 0 : Int).toNat + 1) 0 0 H locs ls (by omega) (rfl) hw (lv_sub hl [0, 1, 2, 3] rfl) (by omega)
set_option maxRecDepth 100000 in
set_option maxHeartbeats 4000000 in
theorem x7_isFallAnywhere (l : Launch) (E : Ev) (I : Nat → Int) (A : Nat → Int → Int) (L : Nat → Int64) (x : Int) (hx : 0 ≤ x ∧ x ≤ 1000) (hnv : 0 ≤ I 10 ∧ I 10 ≤ 4) (hff : ∀ k, 0 ≤ A 11 k ∧ A 11 k ≤ 80) : MetP l yX7_isFallAnywhere wsX7_isFallAnywhere ({ frames := 1, cells := 0, slots := 0, locals := 22 } : Room) E [.ref (eO E 3), .int (iI x)] (xW E I A L) (xAny (A 11) x (I 10).toNat = 1) := by
  have hin7 : ∀ w ∈ wsX70, w ∈ wsX7_isFallAnywhere := by decide +kernel
  refine met_P (cc := cX7_isFallAnywhere) (nL := 3) (by decide) rfl (Nat.le_of_ble_eq_true rfl) ?_
  intro p e s m args below meth c Q H0 A0 H locs ls F hw hl hret
  have F : CallFix p m c cX7_isFallAnywhere 3 s args wsX7_isFallAnywhere RX7 := F
  have hl : lv_has ls 3 [(0, .ref (eO E 3)), (1, .int (iI x))] := hl
  refine bi_iconst F dX7_isFallAnywhere_0 ?_
  refine lv_istore_n (lv' := [(2, .int (iI 0)), (0, .ref (eO E 3)), (1, .int (iI x))]) F.1 F.2.1 dX7_isFallAnywhere_1 rfl hl (by decide) rfl (fun ls hl => ?_)
  have loop_2 : ∀ (nf : Nat) (v : Int) (H : Heap) (locs : List Loc) (ls : Array Slot) (hv : 0 ≤ v ∧ v ≤ I 10) (hno : ∀ u, 0 ≤ u ∧ u < v → ¬ A 11 u ≤ x) (hw : gH E A0 H0 s (xW E I A L) H locs) (hl : lv_has ls 3 [(2, .int (iI v)), (0, .ref (eO E 3)), (1, .int (iI x))]) (hnf : (I 10 - v).toNat < nf), W p l e ({ frames := 1, cells := 0, slots := 0, locals := 22 } : Room) s m args below meth c H locs 0 0 Q (F0 m 2 ls []) := by
    intro nf
    induction nf with
    | zero =>
      intro v H locs ls hv hno hw hl hnf
      exact absurd hnf (Nat.not_lt_zero _)
    | succ nf ih_2 =>
      intro v H locs ls hv hno hw hl hnf
      refine lv_iload_n F.1 F.2.1 dX7_isFallAnywhere_2 rfl (lv_at hl 0 rfl) ?_
      refine lv_aload_n F.1 F.2.1 dX7_isFallAnywhere_3 rfl (lv_at hl 1 rfl) ?_
      refine x_get F hin7 hw 3 7 rfl rfl 9 (by decide) (by decide +kernel) rfl rfl dX7_isFallAnywhere_4 ?_
      refine bi_icmp_ge (tgt := 27) F dX7_isFallAnywhere_7 (by decide) (by omega) (fun c_1 => ?_) (fun c_1 => ?_)
      · refine bi_iconst F dX7_isFallAnywhere_27 ?_
        exact hret _ _ _ _ _ (Or.inr ⟨rfl, by rcases xAny_b (F := A 11) (x := x) (I 10).toNat with ⟨h1, h2⟩ | ⟨h1, u, h2, h3⟩; omega; exact absurd h3 (hno u (by omega))⟩) hw dX7_isFallAnywhere_28
      · refine lv_aload_n F.1 F.2.1 dX7_isFallAnywhere_10 rfl (lv_at hl 1 rfl) ?_
        refine lv_iload_n F.1 F.2.1 dX7_isFallAnywhere_11 rfl (lv_at hl 0 rfl) ?_
        refine lv_iload_n F.1 F.2.1 dX7_isFallAnywhere_12 rfl (lv_at hl 2 rfl) ?_
        refine call_P (As := [.int (iI v), .int (iI x)]) (rest := []) F (x7_isFall l E I A L v x (by omega) (by omega) hff) (cwV 2 F.2.2.2.2 gX7_isFallAnywhere_X7_isFall rfl rfl rfl (by decide +kernel) ⟨(Nat.le_of_ble_eq_true rfl), (Nat.le_of_ble_eq_true rfl)⟩) hw (x_recv hw 3 7 rfl rfl) rfl hl.1 rfl (Nat.le_of_ble_eq_true rfl) dX7_isFallAnywhere_13 ⟨Nat.zero_le _, Nat.zero_le _⟩ (fun q_2 H locs hw => ?_) (fun q_2 H locs hw => ?_)
        · refine bi_if_eq (tgt := 21) F dX7_isFallAnywhere_16 (by decide) (by decide) (fun q => absurd q (by decide)) (fun _ => ?_)
          refine bi_iconst F dX7_isFallAnywhere_19 ?_
          exact hret _ _ _ _ _ (Or.inl ⟨rfl, by rcases xAny_b (F := A 11) (x := x) (I 10).toNat with ⟨h1, h2⟩ | ⟨h1, h2⟩; exact absurd ‹A 11 v ≤ x› (h2 v (by omega)); exact h1⟩) hw dX7_isFallAnywhere_20
        · refine bi_if_eq (tgt := 21) F dX7_isFallAnywhere_16 (by decide) (by decide) (fun _ => ?_) (fun q => absurd q (by decide))
          refine lv_iinc (v := iI (v + 1)) (lv' := [(2, .int (iI (v + 1))), (0, .ref (eO E 3)), (1, .int (iI x))]) F.1 F.2.1 dX7_isFallAnywhere_21 hl (k := 0) rfl (iI_add _ _).symm (by decide) rfl (fun ls hl => ?_)
          refine lv_goto (tgt := 2) F.1 F.2.1 dX7_isFallAnywhere_24 (by decide) ?_
          exact ih_2 (v + 1) H locs ls (by omega) (fun u hu => if h : u = v then by subst h; assumption else hno u (by omega)) hw (lv_sub hl [0, 1, 2] rfl) (by omega)
  exact loop_2 ((I 10 - 0 : Int).toNat + 1) 0 H locs ls (by omega) (fun u hu => by omega) hw (lv_sub hl [0, 1, 2] rfl) (by omega)
set_option maxRecDepth 100000 in
set_option maxHeartbeats 4000000 in
theorem x7_greenNights (l : Launch) (E : Ev) (I : Nat → Int) (A : Nat → Int → Int) (L : Nat → Int64) (hnn : 0 ≤ I 9 ∧ I 9 ≤ 20) (hnv : 0 ≤ I 10 ∧ I 10 ≤ 4) (hff : ∀ k, 0 ≤ A 11 k ∧ A 11 k ≤ 80) (hin0 : ∀ k, 0 ≤ A 9 k ∧ A 9 k ≤ 40) : MetN l yX7_greenNights wsX7_greenNights ({ frames := 2, cells := 0, slots := 0, locals := 44 } : Room) E [.ref (eO E 3)] (xW E I A L) (xGreen (A 11) (A 9) (I 10).toNat (I 9).toNat) := by
  have hin7 : ∀ w ∈ wsX70, w ∈ wsX7_greenNights := by decide +kernel
  refine met_N (cc := cX7_greenNights) (nL := 3) (by decide) rfl (Nat.le_of_ble_eq_true rfl) ?_
  intro p e s m args below meth c Q H0 A0 H locs ls F hw hl hret
  have F : CallFix p m c cX7_greenNights 3 s args wsX7_greenNights RX7 := F
  have hl : lv_has ls 3 [(0, .ref (eO E 3))] := hl
  refine bi_iconst F dX7_greenNights_0 ?_
  refine lv_istore_n (lv' := [(1, .int (iI 0)), (0, .ref (eO E 3))]) F.1 F.2.1 dX7_greenNights_1 rfl hl (by decide) rfl (fun ls hl => ?_)
  refine bi_iconst F dX7_greenNights_2 ?_
  refine lv_istore_n (lv' := [(2, .int (iI 0)), (1, .int (iI 0)), (0, .ref (eO E 3))]) F.1 F.2.1 dX7_greenNights_3 rfl hl (by decide) rfl (fun ls hl => ?_)
  have loop_4 : ∀ (nf : Nat) (a : Int) (k : Int) (H : Heap) (locs : List Loc) (ls : Array Slot) (hk : 0 ≤ k ∧ k ≤ I 9) (ha : a = xGreen (A 11) (A 9) (I 10).toNat k.toNat) (hw : gH E A0 H0 s (xW E I A L) H locs) (hl : lv_has ls 3 [(2, .int (iI k)), (1, .int (iI a)), (0, .ref (eO E 3))]) (hnf : (I 9 - k).toNat < nf), W p l e ({ frames := 2, cells := 0, slots := 0, locals := 44 } : Room) s m args below meth c H locs 0 0 Q (F0 m 4 ls []) := by
    intro nf
    induction nf with
    | zero =>
      intro a k H locs ls hk ha hw hl hnf
      exact absurd hnf (Nat.not_lt_zero _)
    | succ nf ih_4 =>
      intro a k H locs ls hk ha hw hl hnf
      have hab : xAny (A 11) (A 9 k) (I 10).toNat = 0 ∨ xAny (A 11) (A 9 k) (I 10).toNat = 1 := (xAny_b (F := A 11) (x := A 9 k) (I 10).toNat).imp And.left And.left
      refine lv_iload_n F.1 F.2.1 dX7_greenNights_4 rfl (lv_at hl 0 rfl) ?_
      refine lv_aload_n F.1 F.2.1 dX7_greenNights_5 rfl (lv_at hl 2 rfl) ?_
      refine x_get F hin7 hw 3 7 rfl rfl 8 (by decide) (by decide +kernel) rfl rfl dX7_greenNights_6 ?_
      refine bi_icmp_ge (tgt := 37) F dX7_greenNights_9 (by decide) (by omega) (fun c_1 => ?_) (fun c_1 => ?_)
      · refine lv_iload_n F.1 F.2.1 dX7_greenNights_37 rfl (lv_at hl 1 rfl) ?_
        exact hret _ _ _ _ _ (by rw [ha, show k = I 9 by omega]) hw dX7_greenNights_38
      · refine lv_aload_n F.1 F.2.1 dX7_greenNights_12 rfl (lv_at hl 2 rfl) ?_
        refine lv_aload_n F.1 F.2.1 dX7_greenNights_13 rfl (lv_at hl 2 rfl) ?_
        refine x_get F hin7 hw 3 7 rfl rfl 0 (by decide) (by decide +kernel) rfl rfl dX7_greenNights_14 ?_
        refine lv_iload_n F.1 F.2.1 dX7_greenNights_17 rfl (lv_at hl 0 rfl) ?_
        refine x_ld F hw 9 20 rfl (by decide) (by omega) dX7_greenNights_18 ?_
        have f_2 := hin0 (k)
        refine call_P (As := [.int (iI (A 9 k))]) (rest := []) F (x7_isFallAnywhere l E I A L (A 9 k) (by omega) (by omega) hff) (cwV 1 F.2.2.2.2 gX7_greenNights_X7_isFallAnywhere rfl rfl rfl (by decide +kernel) ⟨(Nat.le_of_ble_eq_true rfl), (Nat.le_of_ble_eq_true rfl)⟩) hw (x_recv hw 3 7 rfl rfl) rfl hl.1 rfl (Nat.le_of_ble_eq_true rfl) dX7_greenNights_19 ⟨Nat.zero_le _, Nat.zero_le _⟩ (fun q_3 H locs hw => ?_) (fun q_3 H locs hw => ?_)
        · refine bi_if_ne (tgt := 31) F dX7_greenNights_22 (by decide) (by decide) (fun _ => ?_) (fun q => absurd q (by decide))
          refine lv_iinc (v := iI (k + 1)) (lv' := [(2, .int (iI (k + 1))), (1, .int (iI a)), (0, .ref (eO E 3))]) F.1 F.2.1 dX7_greenNights_31 hl (k := 0) rfl (iI_add _ _).symm (by decide) rfl (fun ls hl => ?_)
          refine lv_goto (tgt := 4) F.1 F.2.1 dX7_greenNights_34 (by decide) ?_
          exact ih_4 a (k + 1) H locs ls (by omega) (by refine Eq.trans ?_ (fld_s (g := fun a k => if xAny (A 11) (A 9 k) (I 10).toNat = 0 then iOr a (iShl 1 k) else a) (z := 0) hk.1).symm; rw [show fld _ _ k.toNat = a from ha.symm]; first | (rw [if_neg (by omega)]; done) | (rw [if_pos (by omega)]; done)) hw (lv_sub hl [0, 1, 2] rfl) (by omega)
        · refine bi_if_ne (tgt := 31) F dX7_greenNights_22 (by decide) (by decide) (fun q => absurd q (by decide)) (fun _ => ?_)
          refine lv_iload_n F.1 F.2.1 dX7_greenNights_25 rfl (lv_at hl 1 rfl) ?_
          refine bi_iconst F dX7_greenNights_26 ?_
          refine lv_iload_n F.1 F.2.1 dX7_greenNights_27 rfl (lv_at hl 0 rfl) ?_
          refine bi_ishl F dX7_greenNights_28 ?_
          have f_6 := iShl_r 1 k
          refine bi_ior F dX7_greenNights_29 ?_
          have f_7 := iOr_r a (iShl 1 k)
          refine lv_istore_n (lv' := [(1, .int (iI (iOr a (iShl 1 k)))), (2, .int (iI k)), (0, .ref (eO E 3))]) F.1 F.2.1 dX7_greenNights_30 rfl hl (by decide) rfl (fun ls hl => ?_)
          refine lv_iinc (v := iI (k + 1)) (lv' := [(2, .int (iI (k + 1))), (1, .int (iI (iOr a (iShl 1 k)))), (0, .ref (eO E 3))]) F.1 F.2.1 dX7_greenNights_31 hl (k := 1) rfl (iI_add _ _).symm (by decide) rfl (fun ls hl => ?_)
          refine lv_goto (tgt := 4) F.1 F.2.1 dX7_greenNights_34 (by decide) ?_
          exact ih_4 (iOr a (iShl 1 k)) (k + 1) H locs ls (by omega) (by refine Eq.trans ?_ (fld_s (g := fun a k => if xAny (A 11) (A 9 k) (I 10).toNat = 0 then iOr a (iShl 1 k) else a) (z := 0) hk.1).symm; rw [show fld _ _ k.toNat = a from ha.symm]; first | (rw [if_neg (by omega)]; done) | (rw [if_pos (by omega)]; done)) hw (lv_sub hl [0, 1, 2] rfl) (by omega)
  exact loop_4 ((I 9 - 0 : Int).toNat + 1) 0 0 H locs ls (by omega) (rfl) hw (lv_sub hl [0, 1, 2] rfl) (by omega)
set_option maxRecDepth 100000 in
set_option maxHeartbeats 4000000 in
theorem x6_ageAllIn (l : Launch) (E : Ev) (I : Nat → Int) (A : Nat → Int → Int) (L : Nat → Int64) (v : Int) (hv : 0 ≤ v ∧ v < 4) (hnp : 0 ≤ I 11 ∧ I 11 ≤ 6) (hh : ∀ t, 13 ≤ t ∧ t < 19 → 0 ≤ A 17 t ∧ A 17 t ≤ 1000) : MetG l yX6_ageAllIn wsX6_ageAllIn ({ frames := 1, cells := 0, slots := 0, locals := 21 } : Room) E [.ref (eO E 4), .ref (eO E 3), .int (iI v)] (xW E I A L) (xW E (I) (stA A 17 (sA v (A 17) (I 11).toNat)) L) := by
  have hin6 : ∀ w ∈ wsX60, w ∈ wsX6_ageAllIn := by decide +kernel
  have hin7 : ∀ w ∈ wsX70, w ∈ wsX6_ageAllIn := by decide +kernel
  refine met_G (cc := cX6_ageAllIn) (nL := 4) (by decide) rfl (Nat.le_of_ble_eq_true rfl) ?_
  intro p e s m args below meth c Q H0 A0 H locs ls F hw hl hret
  have F : CallFix p m c cX6_ageAllIn 4 s args wsX6_ageAllIn RX6 := F
  have hl : lv_has ls 4 [(0, .ref (eO E 4)), (1, .ref (eO E 3)), (2, .int (iI v))] := hl
  refine bi_iconst F dX6_ageAllIn_0 ?_
  refine lv_istore_n (lv' := [(3, .int (iI 0)), (0, .ref (eO E 4)), (1, .ref (eO E 3)), (2, .int (iI v))]) F.1 F.2.1 dX6_ageAllIn_1 rfl hl (by decide) rfl (fun ls hl => ?_)
  have loop_2 : ∀ (nf : Nat) (k : Int) (A1 : Nat → Int → Int) (H : Heap) (locs : List Loc) (ls : Array Slot) (hk : 0 ≤ k ∧ k ≤ I 11) (hA1 : A1 = stA A 17 (sA v (A 17) k.toNat)) (hlo : ∀ t, t < 19 → A1 17 t = A 17 t) (hw : gH E A0 H0 s (xW E I A1 L) H locs) (hl : lv_has ls 4 [(3, .int (iI k)), (0, .ref (eO E 4)), (1, .ref (eO E 3)), (2, .int (iI v))]) (hnf : (I 11 - k).toNat < nf), W p l e ({ frames := 1, cells := 0, slots := 0, locals := 21 } : Room) s m args below meth c H locs 0 0 Q (F0 m 2 ls []) := by
    intro nf
    induction nf with
    | zero =>
      intro k A1 H locs ls hk hA1 hlo hw hl hnf
      exact absurd hnf (Nat.not_lt_zero _)
    | succ nf ih_2 =>
      intro k A1 H locs ls hk hA1 hlo hw hl hnf
      have h17 : A1 17 = sA v (A 17) k.toNat := by rw [hA1]; rfl
      have hss : sA v (A 17) (k + 1).toNat = if sA v (A 17) k.toNat (13 + k) = v then up1 (sA v (A 17) k.toNat) (19 + k) (sA v (A 17) k.toNat (19 + k) + 1) else sA v (A 17) k.toNat := fld_s (g := fun (g : Int → Int) q => if g (13 + q) = v then up1 g (19 + q) (g (19 + q) + 1) else g) hk.1
      refine lv_iload_n F.1 F.2.1 dX6_ageAllIn_2 rfl (lv_at hl 0 rfl) ?_
      refine lv_aload_n F.1 F.2.1 dX6_ageAllIn_3 rfl (lv_at hl 2 rfl) ?_
      refine x_get F hin7 hw 3 7 rfl rfl 10 (by decide) (by decide +kernel) rfl rfl dX6_ageAllIn_4 ?_
      refine bi_icmp_ge (tgt := 38) F dX6_ageAllIn_7 (by decide) (by omega) (fun c_1 => ?_) (fun c_1 => ?_)
      · exact hret _ _ _ _ _ (xW_c rfl (by rw [hA1, show k = I 11 by omega]) rfl) hw dX6_ageAllIn_38
      · have hh1 := hh (13 + k) (by omega)
        have hh2 := hlo (13 + k) (by omega)
        refine lv_aload_n F.1 F.2.1 dX6_ageAllIn_10 rfl (lv_at hl 1 rfl) ?_
        refine lv_iload_n F.1 F.2.1 dX6_ageAllIn_11 rfl (lv_at hl 0 rfl) ?_
        refine call_N (As := [.int (iI k)]) (rest := []) F (x6_home l E I A1 L k (by omega)) (cwV 1 F.2.2.2.2 gX6_ageAllIn_X6_home rfl rfl rfl (by decide +kernel) ⟨(Nat.le_of_ble_eq_true rfl), (Nat.le_of_ble_eq_true rfl)⟩) hw (x_recv hw 4 6 rfl rfl) rfl hl.1 rfl (Nat.le_of_ble_eq_true rfl) dX6_ageAllIn_12 ⟨Nat.zero_le _, Nat.zero_le _⟩ (fun H locs hw => ?_)
        refine lv_iload_n F.1 F.2.1 dX6_ageAllIn_15 rfl (lv_at hl 3 rfl) ?_
        refine bi_icmp_ne (tgt := 32) F dX6_ageAllIn_16 (by decide) (by omega) (fun c_2 => ?_) (fun c_2 => ?_)
        · refine lv_iinc (v := iI (k + 1)) (lv' := [(3, .int (iI (k + 1))), (0, .ref (eO E 4)), (1, .ref (eO E 3)), (2, .int (iI v))]) F.1 F.2.1 dX6_ageAllIn_32 hl (k := 0) rfl (iI_add _ _).symm (by decide) rfl (fun ls hl => ?_)
          refine lv_goto (tgt := 2) F.1 F.2.1 dX6_ageAllIn_35 (by decide) ?_
          exact ih_2 (k + 1) A1 H locs ls (by omega) (by rw [hss, ← h17]; first | (rw [if_pos (by omega), ← eA1, hA1, st2_A]; rfl) | (rw [if_neg (by omega), h17]; exact hA1)) (by first | exact hlo | (intro t ht; rw [← eA1, st2_k (by omega)]; exact hlo t ht)) hw (lv_sub hl [0, 1, 2, 3] rfl) (by omega)
        · refine lv_aload_n F.1 F.2.1 dX6_ageAllIn_19 rfl (lv_at hl 1 rfl) ?_
          refine x_get F hin6 hw 4 6 rfl rfl 0 (by decide) (by decide +kernel) rfl rfl dX6_ageAllIn_20 ?_
          refine bi_bipush F dX6_ageAllIn_23 (by decide) ?_
          refine lv_iload_n F.1 F.2.1 dX6_ageAllIn_25 rfl (lv_at hl 0 rfl) ?_
          refine bi_iadd F dX6_ageAllIn_26 ?_
          refine lv_dup2_11 F.1 F.2.1 dX6_ageAllIn_27 rfl rfl ?_
          refine x_ld F hw 17 35 rfl (by decide) (by omega) dX6_ageAllIn_28 ?_
          refine bi_iconst F dX6_ageAllIn_29 ?_
          refine bi_iadd F dX6_ageAllIn_30 ?_
          refine x_st F hw 17 35 rfl (by decide) (by omega) dX6_ageAllIn_31 (fun H locs hw => ?_)
          generalize eA3 : st2 A1 17 (19 + k) (A1 17 (19 + k) + 1) = A3 at hw
          refine lv_iinc (v := iI (k + 1)) (lv' := [(3, .int (iI (k + 1))), (0, .ref (eO E 4)), (1, .ref (eO E 3)), (2, .int (iI v))]) F.1 F.2.1 dX6_ageAllIn_32 hl (k := 0) rfl (iI_add _ _).symm (by decide) rfl (fun ls hl => ?_)
          refine lv_goto (tgt := 2) F.1 F.2.1 dX6_ageAllIn_35 (by decide) ?_
          exact ih_2 (k + 1) A3 H locs ls (by omega) (by rw [hss, ← h17]; first | (rw [if_pos (by omega), ← eA3, hA1, st2_A]; rfl) | (rw [if_neg (by omega), h17]; exact hA1)) (by first | exact hlo | (intro t ht; rw [← eA3, st2_k (by omega)]; exact hlo t ht)) hw (lv_sub hl [0, 1, 2, 3] rfl) (by omega)
  exact loop_2 ((I 11 - 0 : Int).toNat + 1) 0 A H locs ls (by omega) (by exact stA_id.symm) (fun t _ => rfl) hw (lv_sub hl [0, 1, 2, 3] rfl) (by omega)
