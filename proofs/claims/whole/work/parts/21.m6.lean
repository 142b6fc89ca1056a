set_option maxRecDepth 100000 in
set_option maxHeartbeats 4000000 in
theorem c_mildDebts (l : Launch) (E : Ev) (I : Nat → Int) (A : Nat → Int → Int) (mm : Int) (n : Int) (hm : -2147483648 ≤ mm ∧ mm ≤ 2147483647) (hn : -2147483648 ≤ n ∧ n ≤ 2147483647) (hok : mOk A) (hr : rOk (A 1 1) (A 1 2) (A 11) 500000) : MetS l yX10_mildDebts wsX10_mildDebts ({ frames := 5, cells := 0, slots := 0, locals := 119 } : Room) E [.ref (eO E 0), .int (iI mm), .int (iI n)] I A (mMilDR A mm n) := by
  have hin : ∀ w ∈ wsX100, w ∈ wsX10_mildDebts := fun w h => in_tail h
  refine met_S (cc := cX10_mildDebts) (nL := 4) (by decide) rfl (Nat.le_of_ble_eq_true rfl) ?_
  intro p e s m args below meth c Q H0 A0 H locs ls F hw hl hret
  have F : CallFix p m c cX10_mildDebts 4 s args wsX10_mildDebts RX10 := F
  have hl : lv_has ls 4 [(0, .ref (eO E 0)), (1, .int (iI mm)), (2, .int (iI n))] := hl
  obtain ⟨hV, hWn, hl0, hl1, hl2, hl3, hY, hPl, hPe⟩ := id hok
  have hA := hV
  have hf : ∀ k, 0 ≤ A 11 k ∧ A 11 k ≤ 900000 := (rOk_w hr (by decide)).1
  refine lv_iload_n F.1 F.2.1 dX10_mildDebts_0 rfl (lv_at hl 1 rfl) ?_
  refine bi_iconst F dX10_mildDebts_1 ?_
  refine bi_bipush F dX10_mildDebts_2 (by decide) ?_
  refine calls_P0 (As := [.int (iI mm), .int (iI 0), .int (iI 40)]) (rest := []) F (c_in l E mm 0 40 (by omega) (by omega) (by omega)) (va_cwS 3 F.2.2.2.2 gX10_mildDebts_X10_in rfl rfl rfl (by decide +kernel) ⟨Nat.le_of_ble_eq_true rfl, Nat.le_of_ble_eq_true rfl⟩) hw rfl hl.1 rfl (Nat.le_of_ble_eq_true rfl) dX10_mildDebts_4 ⟨Nat.zero_le _, Nat.zero_le _⟩ (fun q_1 H locs hw => ?_) (fun q_1 H locs hw => ?_)
  · refine bi_if_eq (tgt := 21) F dX10_mildDebts_7 (by decide) (by decide) (fun q => absurd q (by decide)) (fun _ => ?_)
    refine lv_iload_n F.1 F.2.1 dX10_mildDebts_10 rfl (lv_at hl 2 rfl) ?_
    refine bi_iconst F dX10_mildDebts_11 ?_
    refine bi_sipush F dX10_mildDebts_12 (by decide) ?_
    refine calls_P0 (As := [.int (iI n), .int (iI 0), .int (iI 200)]) (rest := []) F (c_in l E n 0 200 (by omega) (by omega) (by omega)) (va_cwS 3 F.2.2.2.2 gX10_mildDebts_X10_in rfl rfl rfl (by decide +kernel) ⟨Nat.le_of_ble_eq_true rfl, Nat.le_of_ble_eq_true rfl⟩) hw rfl hl.1 rfl (Nat.le_of_ble_eq_true rfl) dX10_mildDebts_15 ⟨Nat.zero_le _, Nat.zero_le _⟩ (fun q_3 H locs hw => ?_) (fun q_3 H locs hw => ?_)
    · refine bi_if_ne (tgt := 24) F dX10_mildDebts_18 (by decide) (by decide) (fun _ => ?_) (fun q => absurd q (by decide))
      refine lv_aload_n F.1 F.2.1 dX10_mildDebts_24 rfl (lv_at hl 0 rfl) ?_
      refine call_P (As := []) (rest := []) F (c_isValley l E I A  (by omega)) (cwV 0 F.2.2.2.2 gX10_mildDebts_X10_isValley rfl rfl rfl (by decide +kernel) ⟨Nat.le_of_ble_eq_true rfl, Nat.le_of_ble_eq_true rfl⟩) hw (m_recv hw) rfl hl.1 rfl (Nat.le_of_ble_eq_true rfl) dX10_mildDebts_25 ⟨Nat.zero_le _, Nat.zero_le _⟩ (fun q_5 H locs hw => ?_) (fun q_5 H locs hw => ?_)
      · refine bi_if_ne (tgt := 33) F dX10_mildDebts_28 (by decide) (by decide) (fun _ => ?_) (fun q => absurd q (by decide))
        refine lv_aload_n F.1 F.2.1 dX10_mildDebts_33 rfl (lv_at hl 0 rfl) ?_
        refine lv_iload_n F.1 F.2.1 dX10_mildDebts_34 rfl (lv_at hl 2 rfl) ?_
        refine bi_iconst F dX10_mildDebts_35 ?_
        refine call_G (As := [.int (iI n), .int (iI 0)]) (rest := []) F (c_tries l E I A n 0 (by omega) (by omega) (fun _ => by omega) hok hr) (cwV 2 F.2.2.2.2 gX10_mildDebts_X10_tries rfl rfl rfl (by decide +kernel) ⟨Nat.le_of_ble_eq_true rfl, Nat.le_of_ble_eq_true rfl⟩) hw (m_recv hw) rfl hl.1 rfl (Nat.le_of_ble_eq_true rfl) dX10_mildDebts_36 ⟨Nat.zero_le _, Nat.zero_le _⟩ (fun H locs hw => ?_)
        generalize eA7 : stA A 12 (mTry A 0 n) = A7 at hw
        have h12 : A7 12 = mTry A 0 n := by subst_vars; rfl
        have h5 : A7 5 = A 5 := by subst_vars; rfl
        have h1 : A7 1 = A 1 := by subst_vars; rfl
        have htr := rOk_try (m := 0) (n := n) hok hr (by omega) (by omega)
        have hok2 : mOk A7 := by subst_vars; exact mOk_st (by decide) hok
        have hr2 : rOk (A7 1 1) (A7 1 2) (A7 11) 500000 := by subst_vars; exact hr
        refine lv_aload_n F.1 F.2.1 dX10_mildDebts_39 rfl (lv_at hl 0 rfl) ?_
        refine lv_aload_n F.1 F.2.1 dX10_mildDebts_40 rfl (lv_at hl 0 rfl) ?_
        refine m_get F hin hw 14 (by decide) (by decide +kernel) rfl dX10_mildDebts_41 ?_
        refine call_N (As := [.ref (eA E 12)]) (rest := []) F (c_dueIn l E I A7 12 rfl (by decide) (by rw [h12]; exact htr.1) (by rw [h1]; exact hl3) (by rw [h1, h5]; exact fun d h => by have := hPl d h; omega)) (cwV 1 F.2.2.2.2 gX10_mildDebts_X10_dueIn rfl rfl rfl (by decide +kernel) ⟨Nat.le_of_ble_eq_true rfl, Nat.le_of_ble_eq_true rfl⟩) hw (m_recv hw) rfl hl.1 rfl (Nat.le_of_ble_eq_true rfl) dX10_mildDebts_44 ⟨Nat.zero_le _, Nat.zero_le _⟩ (fun H locs hw => ?_)
        have f_8 := mDues_r (A7 5) (A7 12) (A7 1 3).toNat
        refine lv_istore_n (lv' := [(3, .int (iI (mDues (A7 5) (A7 12) (A7 1 3).toNat))), (0, .ref (eO E 0)), (1, .int (iI mm)), (2, .int (iI n))]) F.1 F.2.1 dX10_mildDebts_47 rfl hl (by decide) rfl (fun ls hl => ?_)
        refine lv_aload_n F.1 F.2.1 dX10_mildDebts_48 rfl (lv_at hl 1 rfl) ?_
        refine lv_iload_n F.1 F.2.1 dX10_mildDebts_49 rfl (lv_at hl 3 rfl) ?_
        refine lv_iload_n F.1 F.2.1 dX10_mildDebts_50 rfl (lv_at hl 2 rfl) ?_
        refine call_G (As := [.int (iI n), .int (iI mm)]) (rest := []) F (c_tries l E I A7 n mm (by omega) (by omega) (fun _ => by rw [h1]; omega) (hok2) (hr2)) (cwV 2 F.2.2.2.2 gX10_mildDebts_X10_tries rfl rfl rfl (by decide +kernel) ⟨Nat.le_of_ble_eq_true rfl, Nat.le_of_ble_eq_true rfl⟩) hw (m_recv hw) rfl hl.1 rfl (Nat.le_of_ble_eq_true rfl) dX10_mildDebts_51 ⟨Nat.zero_le _, Nat.zero_le _⟩ (fun H locs hw => ?_)
        generalize eA9 : stA A7 12 (mTry A7 mm n) = A9 at hw
        have h12b : A9 12 = mTry A mm n := by subst_vars; rfl
        have h5b : A9 5 = A 5 := by subst_vars; rfl
        have h1b : A9 1 = A 1 := by subst_vars; rfl
        have htr2 := rOk_try (m := mm) (n := n) hok hr (by omega) (by omega)
        refine lv_iload_n F.1 F.2.1 dX10_mildDebts_54 rfl (lv_at hl 0 rfl) ?_
        refine lv_aload_n F.1 F.2.1 dX10_mildDebts_55 rfl (lv_at hl 1 rfl) ?_
        refine lv_aload_n F.1 F.2.1 dX10_mildDebts_56 rfl (lv_at hl 1 rfl) ?_
        refine m_get F hin hw 14 (by decide) (by decide +kernel) rfl dX10_mildDebts_57 ?_
        refine call_N (As := [.ref (eA E 12)]) (rest := [.int (iI (mDues (A7 5) (A7 12) (A7 1 3).toNat))]) F (c_dueIn l E I A9 12 rfl (by decide) (by rw [h12b]; exact htr2.1) (by rw [h1b]; exact hl3) (by rw [h1b, h5b]; exact fun d h => by have := hPl d h; omega)) (cwV 1 F.2.2.2.2 gX10_mildDebts_X10_dueIn rfl rfl rfl (by decide +kernel) ⟨Nat.le_of_ble_eq_true rfl, Nat.le_of_ble_eq_true rfl⟩) hw (m_recv hw) rfl hl.1 rfl (Nat.le_of_ble_eq_true rfl) dX10_mildDebts_60 ⟨Nat.zero_le _, Nat.zero_le _⟩ (fun H locs hw => ?_)
        have f_10 := mDues_r (A9 5) (A9 12) (A9 1 3).toNat
        refine bi_iconst F dX10_mildDebts_63 ?_
        refine bi_ixor F dX10_mildDebts_64 ?_
        have f_11 := iXor_r (mDues (A9 5) (A9 12) (A9 1 3).toNat) (-1)
        refine bi_iand F dX10_mildDebts_65 ?_
        have f_12 := iAnd_r (mDues (A7 5) (A7 12) (A7 1 3).toNat) (iXor (mDues (A9 5) (A9 12) (A9 1 3).toNat) (-1))
        exact hret _ _ _ _ _ _ (by unfold mMilDR; rw [if_pos (by omega), if_pos (by omega), h12, h12b, h5, h5b, h1, h1b]) (by subst_vars; rw [stA_2]; exact mSame_st (by decide)) hw dX10_mildDebts_66
      · refine bi_if_ne (tgt := 33) F dX10_mildDebts_28 (by decide) (by decide) (fun q => absurd q (by decide)) (fun _ => ?_)
        refine bi_iconst F dX10_mildDebts_31 ?_
        exact hret _ _ _ _ _ _ (by unfold mMilDR; rw [if_pos (by omega), if_neg (by omega)]) (mSame_rf) hw dX10_mildDebts_32
    · refine bi_if_ne (tgt := 24) F dX10_mildDebts_18 (by decide) (by decide) (fun q => absurd q (by decide)) (fun _ => ?_)
      refine bi_ldc F (-1000000002) (by decide +kernel) rfl dX10_mildDebts_21 ?_
      exact hret _ _ _ _ _ _ (by unfold mMilDR; rw [if_neg (by omega)]) (mSame_rf) hw dX10_mildDebts_23
  · refine bi_if_eq (tgt := 21) F dX10_mildDebts_7 (by decide) (by decide) (fun _ => ?_) (fun q => absurd q (by decide))
    refine bi_ldc F (-1000000002) (by decide +kernel) rfl dX10_mildDebts_21 ?_
    exact hret _ _ _ _ _ _ (by unfold mMilDR; rw [if_neg (by omega)]) (mSame_rf) hw dX10_mildDebts_23
set_option maxRecDepth 100000 in
set_option maxHeartbeats 4000000 in
theorem c_due (l : Launch) (E : Ev) (I : Nat → Int) (A : Nat → Int → Int) (d : Int) (hd : -2147483648 ≤ d ∧ d ≤ 2147483647) (h00 : 0 < A 1 3 → 0 < A 1 0) (hok : mOk A) (hr : rOk (A 1 1) (A 1 2) (A 11) 500000) : MetS l yX10_due wsX10_due ({ frames := 5, cells := 0, slots := 0, locals := 119 } : Room) E [.ref (eO E 0), .int (iI d)] I A (mDueR A d) := by
  have hin : ∀ w ∈ wsX100, w ∈ wsX10_due := fun w h => in_tail h
  refine met_S (cc := cX10_due) (nL := 3) (by decide) rfl (Nat.le_of_ble_eq_true rfl) ?_
  intro p e s m args below meth c Q H0 A0 H locs ls F hw hl hret
  have F : CallFix p m c cX10_due 3 s args wsX10_due RX10 := F
  have hl : lv_has ls 3 [(0, .ref (eO E 0)), (1, .int (iI d))] := hl
  obtain ⟨hV, hWn, hl0, hl1, hl2, hl3, hY, hPl, hPe⟩ := id hok
  have hA := hV
  have hf : ∀ k, 0 ≤ A 11 k ∧ A 11 k ≤ 900000 := (rOk_w hr (by decide)).1
  refine lv_aload_n F.1 F.2.1 dX10_due_0 rfl (lv_at hl 0 rfl) ?_
  refine lv_iload_n F.1 F.2.1 dX10_due_1 rfl (lv_at hl 1 rfl) ?_
  refine call_P (As := [.int (iI d)]) (rest := []) F (c_isDebt l E I A d (by omega) (by omega)) (cwV 1 F.2.2.2.2 gX10_due_X10_isDebt rfl rfl rfl (by decide +kernel) ⟨Nat.le_of_ble_eq_true rfl, Nat.le_of_ble_eq_true rfl⟩) hw (m_recv hw) rfl hl.1 rfl (Nat.le_of_ble_eq_true rfl) dX10_due_2 ⟨Nat.zero_le _, Nat.zero_le _⟩ (fun q_1 H locs hw => ?_) (fun q_1 H locs hw => ?_)
  · refine bi_if_ne (tgt := 11) F dX10_due_5 (by decide) (by decide) (fun _ => ?_) (fun q => absurd q (by decide))
    have hp1 := hPl d (by omega)
    have h01 := h00 (by omega)
    refine lv_aload_n F.1 F.2.1 dX10_due_11 rfl (lv_at hl 0 rfl) ?_
    refine m_get F hin hw 13 (by decide) (by decide +kernel) rfl dX10_due_12 ?_
    refine bi_bipush F dX10_due_15 (by decide) ?_
    refine bi_iconst F dX10_due_17 ?_
    refine lv_iload_n F.1 F.2.1 dX10_due_18 rfl (lv_at hl 1 rfl) ?_
    refine bi_imul F dX10_due_19 ?_
    refine bi_iadd F dX10_due_20 ?_
    refine m_ld F hw 11 35 rfl (by decide) (by omega) dX10_due_21 ?_
    have f_3 := hf (25 + (2 * d))
    refine bi_if_ne (tgt := 28) F dX10_due_22 (by decide) (by omega) (fun c_4 => ?_) (fun c_4 => ?_)
    · refine lv_aload_n F.1 F.2.1 dX10_due_28 rfl (lv_at hl 0 rfl) ?_
      refine bi_iconst F dX10_due_29 ?_
      refine bi_iconst F dX10_due_30 ?_
      refine call_G (As := [.int (iI 0), .int (iI 0)]) (rest := []) F (c_tries l E I A 0 0 (by omega) (by omega) (fun h => by omega) hok hr) (cwV 2 F.2.2.2.2 gX10_due_X10_tries rfl rfl rfl (by decide +kernel) ⟨Nat.le_of_ble_eq_true rfl, Nat.le_of_ble_eq_true rfl⟩) hw (m_recv hw) rfl hl.1 rfl (Nat.le_of_ble_eq_true rfl) dX10_due_31 ⟨Nat.zero_le _, Nat.zero_le _⟩ (fun H locs hw => ?_)
      generalize eA5 : stA A 12 (mTry A 0 0) = A5 at hw
      refine bi_iconst F dX10_due_34 ?_
      refine lv_istore_n (lv' := [(2, .int (iI 0)), (0, .ref (eO E 0)), (1, .int (iI d))]) F.1 F.2.1 dX10_due_35 rfl hl (by decide) rfl (fun ls hl => ?_)
      have loop_36 : ∀ (nf : Nat) (k : Int) (A1 : Nat → Int → Int) (H : Heap) (locs : List Loc) (ls : Array Slot) (hk : 0 ≤ k ∧ k ≤ 201) (hA1 : A1 = stA A 12 (mTry A 0 k)) (hT : mDueT A d 0 201 = mDueT A d k (201 - k).toNat) (hw : gH E A0 H0 s (mW E I A1) H locs) (hl : lv_has ls 3 [(2, .int (iI k)), (0, .ref (eO E 0)), (1, .int (iI d))]) (hnf : (201 - k).toNat < nf), W p l e ({ frames := 5, cells := 0, slots := 0, locals := 119 } : Room) s m args below meth c H locs 0 0 Q (F0 m 36 ls []) := by
        intro nf
        induction nf with
        | zero =>
          intro k A1 H locs ls hk hA1 hT hw hl hnf
          exact absurd hnf (Nat.not_lt_zero _)
        | succ nf ih_36 =>
          intro k A1 H locs ls hk hA1 hT hw hl hnf
          have h1 : A1 1 = A 1 := by rw [hA1]; rfl
          have h12 : A1 12 = mTry A 0 k := by rw [hA1]; rfl
          have h3 : A1 3 = A 3 := by rw [hA1]; rfl
          have h5 : A1 5 = A 5 := by rw [hA1]; rfl
          have htr := rOk_try (m := 0) (n := k) hok hr (by omega) (by omega)
          have hTs : k < 201 → mDueT A d k (201 - k).toNat = if 0 < mTry A 0 k (25 + 2 * d) ∧ mTry A 0 k (25 + 2 * d) ≤ mSince (A 5) (mTry A 0 k) d then k else mDueT A d (k + 1) (201 - (k + 1)).toNat := fun h => by rw [show (201 - k).toNat = (201 - (k + 1)).toNat + 1 by omega]; rfl
          refine lv_iload_n F.1 F.2.1 dX10_due_36 rfl (lv_at hl 0 rfl) ?_
          refine bi_sipush F dX10_due_37 (by decide) ?_
          refine bi_icmp_ge (tgt := 72) F dX10_due_40 (by decide) (by omega) (fun c_6 => ?_) (fun c_6 => ?_)
          · refine bi_iconst F dX10_due_72 ?_
            exact hret _ _ _ _ _ _ (by unfold mDueR; rw [if_pos (by omega), if_neg (by omega), hT, show (201 - k).toNat = 0 by omega]; rfl) (by rw [hA1]; exact mSame_st (by decide)) hw dX10_due_73
          · refine lv_aload_n F.1 F.2.1 dX10_due_43 rfl (lv_at hl 1 rfl) ?_
            refine lv_aload_n F.1 F.2.1 dX10_due_44 rfl (lv_at hl 1 rfl) ?_
            refine m_get F hin hw 14 (by decide) (by decide +kernel) rfl dX10_due_45 ?_
            refine lv_iload_n F.1 F.2.1 dX10_due_48 rfl (lv_at hl 2 rfl) ?_
            refine call_P (As := [.ref (eA E 12), .int (iI d)]) (rest := []) F (c_isDue l E I A1 12 d rfl (by decide) (by omega) (by rw [h12]; exact htr.1) (by rw [h5]; omega)) (cwV 2 F.2.2.2.2 gX10_due_X10_isDue rfl rfl rfl (by decide +kernel) ⟨Nat.le_of_ble_eq_true rfl, Nat.le_of_ble_eq_true rfl⟩) hw (m_recv hw) rfl hl.1 rfl (Nat.le_of_ble_eq_true rfl) dX10_due_49 ⟨Nat.zero_le _, Nat.zero_le _⟩ (fun q_7 H locs hw => ?_) (fun q_7 H locs hw => ?_)
            · refine bi_if_eq (tgt := 57) F dX10_due_52 (by decide) (by decide) (fun q => absurd q (by decide)) (fun _ => ?_)
              refine lv_iload_n F.1 F.2.1 dX10_due_55 rfl (lv_at hl 0 rfl) ?_
              exact hret _ _ _ _ _ _ (by unfold mDueR; rw [if_pos (by omega), if_neg (by omega), hT, hTs (by omega), if_pos (by have := ‹mDue _ _ _›; rw [h12, h5] at this; exact this)]) (by rw [hA1]; exact mSame_st (by decide)) hw dX10_due_56
            · refine bi_if_eq (tgt := 57) F dX10_due_52 (by decide) (by decide) (fun _ => ?_) (fun q => absurd q (by decide))
              refine lv_aload_n F.1 F.2.1 dX10_due_57 rfl (lv_at hl 1 rfl) ?_
              refine lv_aload_n F.1 F.2.1 dX10_due_58 rfl (lv_at hl 1 rfl) ?_
              refine m_get F hin hw 14 (by decide) (by decide +kernel) rfl dX10_due_59 ?_
              refine bi_iconst F dX10_due_62 ?_
              refine call_G (As := [.ref (eA E 12), .int (iI 0)]) (rest := []) F (c_comes l E I A1 12 0 rfl (by decide) (Or.inr rfl) (by omega) (by rw [h1]; omega) (by rw [hA1]; exact mOk_st (by decide) hok) (by rw [h1, h12]; exact htr)) (cwV 2 F.2.2.2.2 gX10_due_X10_comes rfl rfl rfl (by decide +kernel) ⟨Nat.le_of_ble_eq_true rfl, Nat.le_of_ble_eq_true rfl⟩) hw (m_recv hw) rfl hl.1 rfl (Nat.le_of_ble_eq_true rfl) dX10_due_63 ⟨Nat.zero_le _, Nat.zero_le _⟩ (fun H locs hw => ?_)
              generalize eA10 : stA A1 12 (mPass (A1 3) (A1 12) (mIn (A1 2) (A1 12 0) (A1 1 0) 0) (A1 1 1) (A1 1 2)) = A10 at hw
              refine lv_iinc (v := iI (k + 1)) (lv' := [(2, .int (iI (k + 1))), (0, .ref (eO E 0)), (1, .int (iI d))]) F.1 F.2.1 dX10_due_66 hl (k := 0) rfl (iI_add _ _).symm (by decide) rfl (fun ls hl => ?_)
              refine lv_goto (tgt := 36) F.1 F.2.1 dX10_due_69 (by decide) ?_
              exact ih_36 (k + 1) A10 H locs ls (by omega) (by rw [← eA10, hA1, stA_2, mTry_s hk.1]; rfl) (by rw [hT, hTs (by omega), if_neg (by have := ‹¬ mDue _ _ _›; rw [h12, h5] at this; exact this)]) hw (lv_sub hl [0, 1, 2] rfl) (by omega)
      exact loop_36 ((201 - 0 : Int).toNat + 1) 0 A5 H locs ls (by omega) (by rw [← eA5]) (rfl) hw (lv_sub hl [0, 1, 2] rfl) (by omega)
    · refine bi_ldc F (-1000000003) (by decide +kernel) rfl dX10_due_25 ?_
      exact hret _ _ _ _ _ _ (by unfold mDueR; rw [if_pos (by omega), if_pos (by omega)]) (mSame_rf) hw dX10_due_27
  · refine bi_if_ne (tgt := 11) F dX10_due_5 (by decide) (by decide) (fun q => absurd q (by decide)) (fun _ => ?_)
    refine bi_ldc F (-1000000001) (by decide +kernel) rfl dX10_due_8 ?_
    exact hret _ _ _ _ _ _ (by unfold mDueR; rw [if_neg (by omega)]) (mSame_rf) hw dX10_due_10
set_option maxRecDepth 100000 in
set_option maxHeartbeats 4000000 in
theorem c_feast (l : Launch) (E : Ev) (I : Nat → Int) (A : Nat → Int → Int) (v : Int) (u : Int) (hv : -2147483648 ≤ v ∧ v ≤ 2147483647) (hu : -2147483648 ≤ u ∧ u ≤ 2147483647) (h00 : 0 < A 1 1 → 0 < A 1 0) (hok : mOk A) (hr : rOk (A 1 1) (A 1 2) (A 11) 500000) : MetS l yX10_feast wsX10_feast ({ frames := 5, cells := 0, slots := 0, locals := 119 } : Room) E [.ref (eO E 0), .int (iI v), .int (iI u)] I A (mFeaR A v u) := by
  have hin : ∀ w ∈ wsX100, w ∈ wsX10_feast := fun w h => in_tail h
  refine met_S (cc := cX10_feast) (nL := 4) (by decide) rfl (Nat.le_of_ble_eq_true rfl) ?_
  intro p e s m args below meth c Q H0 A0 H locs ls F hw hl hret
  have F : CallFix p m c cX10_feast 4 s args wsX10_feast RX10 := F
  have hl : lv_has ls 4 [(0, .ref (eO E 0)), (1, .int (iI v)), (2, .int (iI u))] := hl
  obtain ⟨hV, hWn, hl0, hl1, hl2, hl3, hY, hPl, hPe⟩ := id hok
  have hA := hV
  have hf : ∀ k, 0 ≤ A 11 k ∧ A 11 k ≤ 900000 := (rOk_w hr (by decide)).1
  refine lv_aload_n F.1 F.2.1 dX10_feast_0 rfl (lv_at hl 0 rfl) ?_
  refine lv_iload_n F.1 F.2.1 dX10_feast_1 rfl (lv_at hl 1 rfl) ?_
  refine call_P (As := [.int (iI v)]) (rest := []) F (c_isVillage l E I A v (by omega) (by omega)) (cwV 1 F.2.2.2.2 gX10_feast_X10_isVillage rfl rfl rfl (by decide +kernel) ⟨Nat.le_of_ble_eq_true rfl, Nat.le_of_ble_eq_true rfl⟩) hw (m_recv hw) rfl hl.1 rfl (Nat.le_of_ble_eq_true rfl) dX10_feast_2 ⟨Nat.zero_le _, Nat.zero_le _⟩ (fun q_1 H locs hw => ?_) (fun q_1 H locs hw => ?_)
  · refine bi_if_eq (tgt := 21) F dX10_feast_5 (by decide) (by decide) (fun q => absurd q (by decide)) (fun _ => ?_)
    refine lv_aload_n F.1 F.2.1 dX10_feast_8 rfl (lv_at hl 0 rfl) ?_
    refine lv_iload_n F.1 F.2.1 dX10_feast_9 rfl (lv_at hl 2 rfl) ?_
    refine call_P (As := [.int (iI u)]) (rest := []) F (c_isVillage l E I A u (by omega) (by omega)) (cwV 1 F.2.2.2.2 gX10_feast_X10_isVillage rfl rfl rfl (by decide +kernel) ⟨Nat.le_of_ble_eq_true rfl, Nat.le_of_ble_eq_true rfl⟩) hw (m_recv hw) rfl hl.1 rfl (Nat.le_of_ble_eq_true rfl) dX10_feast_10 ⟨Nat.zero_le _, Nat.zero_le _⟩ (fun q_3 H locs hw => ?_) (fun q_3 H locs hw => ?_)
    · refine bi_if_eq (tgt := 21) F dX10_feast_13 (by decide) (by decide) (fun q => absurd q (by decide)) (fun _ => ?_)
      refine lv_iload_n F.1 F.2.1 dX10_feast_16 rfl (lv_at hl 1 rfl) ?_
      refine lv_iload_n F.1 F.2.1 dX10_feast_17 rfl (lv_at hl 2 rfl) ?_
      refine bi_icmp_ne (tgt := 24) F dX10_feast_18 (by decide) (by omega) (fun c_5 => ?_) (fun c_5 => ?_)
      · have h01 := h00 (by omega)
        have hyv := hY v (by omega)
        have hyu := hY u (by omega)
        refine lv_aload_n F.1 F.2.1 dX10_feast_24 rfl (lv_at hl 0 rfl) ?_
        refine bi_iconst F dX10_feast_25 ?_
        refine bi_iconst F dX10_feast_26 ?_
        refine call_G (As := [.int (iI 0), .int (iI 0)]) (rest := []) F (c_tries l E I A 0 0 (by omega) (by omega) (fun h => by omega) hok hr) (cwV 2 F.2.2.2.2 gX10_feast_X10_tries rfl rfl rfl (by decide +kernel) ⟨Nat.le_of_ble_eq_true rfl, Nat.le_of_ble_eq_true rfl⟩) hw (m_recv hw) rfl hl.1 rfl (Nat.le_of_ble_eq_true rfl) dX10_feast_27 ⟨Nat.zero_le _, Nat.zero_le _⟩ (fun H locs hw => ?_)
        generalize eA6 : stA A 12 (mTry A 0 0) = A6 at hw
        refine bi_iconst F dX10_feast_30 ?_
        refine lv_istore_n (lv' := [(3, .int (iI 0)), (0, .ref (eO E 0)), (1, .int (iI v)), (2, .int (iI u))]) F.1 F.2.1 dX10_feast_31 rfl hl (by decide) rfl (fun ls hl => ?_)
        have loop_32 : ∀ (nf : Nat) (k : Int) (A1 : Nat → Int → Int) (H : Heap) (locs : List Loc) (ls : Array Slot) (hk : 0 ≤ k ∧ k ≤ 201) (hA1 : A1 = stA A 12 (mTry A 0 k)) (hT : mFeaT A v u 0 201 = mFeaT A v u k (201 - k).toNat) (hw : gH E A0 H0 s (mW E I A1) H locs) (hl : lv_has ls 4 [(3, .int (iI k)), (0, .ref (eO E 0)), (1, .int (iI v)), (2, .int (iI u))]) (hnf : (201 - k).toNat < nf), W p l e ({ frames := 5, cells := 0, slots := 0, locals := 119 } : Room) s m args below meth c H locs 0 0 Q (F0 m 32 ls []) := by
          intro nf
          induction nf with
          | zero =>
            intro k A1 H locs ls hk hA1 hT hw hl hnf
            exact absurd hnf (Nat.not_lt_zero _)
          | succ nf ih_32 =>
            intro k A1 H locs ls hk hA1 hT hw hl hnf
            have h1 : A1 1 = A 1 := by rw [hA1]; rfl
            have h12 : A1 12 = mTry A 0 k := by rw [hA1]; rfl
            have h3 : A1 3 = A 3 := by rw [hA1]; rfl
            have h5 : A1 5 = A 5 := by rw [hA1]; rfl
            have htr := rOk_try (m := 0) (n := k) hok hr (by omega) (by omega)
            have hTs : k < 201 → mFeaT A v u k (201 - k).toNat = if mPole (mTry A 0 k) v % A 3 (5 * v + 4) = mPole (mTry A 0 k) u % A 3 (5 * u + 4) then k else mFeaT A v u (k + 1) (201 - (k + 1)).toNat := fun h => by rw [show (201 - k).toNat = (201 - (k + 1)).toNat + 1 by omega]; rfl
            refine lv_iload_n F.1 F.2.1 dX10_feast_32 rfl (lv_at hl 0 rfl) ?_
            refine bi_sipush F dX10_feast_33 (by decide) ?_
            refine bi_icmp_ge (tgt := 99) F dX10_feast_36 (by decide) (by omega) (fun c_7 => ?_) (fun c_7 => ?_)
            · refine bi_iconst F dX10_feast_99 ?_
              exact hret _ _ _ _ _ _ (by unfold mFeaR; rw [if_pos (by omega), hT, show (201 - k).toNat = 0 by omega]; rfl) (by rw [hA1]; exact mSame_st (by decide)) hw dX10_feast_100
            · refine lv_aload_n F.1 F.2.1 dX10_feast_39 rfl (lv_at hl 1 rfl) ?_
              refine lv_aload_n F.1 F.2.1 dX10_feast_40 rfl (lv_at hl 1 rfl) ?_
              refine m_get F hin hw 14 (by decide) (by decide +kernel) rfl dX10_feast_41 ?_
              refine lv_iload_n F.1 F.2.1 dX10_feast_44 rfl (lv_at hl 2 rfl) ?_
              refine call_N (As := [.ref (eA E 12), .int (iI v)]) (rest := []) F (c_poleOf l E I A1 12 v rfl (by decide) (by omega) (by rw [h12]; exact htr.1)) (cwV 2 F.2.2.2.2 gX10_feast_X10_poleOf rfl rfl rfl (by decide +kernel) ⟨Nat.le_of_ble_eq_true rfl, Nat.le_of_ble_eq_true rfl⟩) hw (m_recv hw) rfl hl.1 rfl (Nat.le_of_ble_eq_true rfl) dX10_feast_45 ⟨Nat.zero_le _, Nat.zero_le _⟩ (fun H locs hw => ?_)
              have f_8 := mPole_r (f := A1 12) (v := v) (by rw [h12]; exact htr.1)
              refine lv_aload_n F.1 F.2.1 dX10_feast_48 rfl (lv_at hl 1 rfl) ?_
              refine m_get F hin hw 5 (by decide) (by decide +kernel) rfl dX10_feast_49 ?_
              refine bi_iconst F dX10_feast_52 ?_
              refine lv_iload_n F.1 F.2.1 dX10_feast_53 rfl (lv_at hl 2 rfl) ?_
              refine bi_imul F dX10_feast_54 ?_
              refine bi_iconst F dX10_feast_55 ?_
              refine bi_iadd F dX10_feast_56 ?_
              refine m_ld F hw 3 20 rfl (by decide) (by omega) dX10_feast_57 ?_
              have hx3 : A1 3 (5 * v + 4) = A 3 (5 * v + 4) := by rw [h3]
              have hx4 := hV (5 * v + 4)
              refine bi_irem F dX10_feast_58 (by omega) ?_
              refine lv_aload_n F.1 F.2.1 dX10_feast_59 rfl (lv_at hl 1 rfl) ?_
              refine lv_aload_n F.1 F.2.1 dX10_feast_60 rfl (lv_at hl 1 rfl) ?_
              refine m_get F hin hw 14 (by decide) (by decide +kernel) rfl dX10_feast_61 ?_
              refine lv_iload_n F.1 F.2.1 dX10_feast_64 rfl (lv_at hl 3 rfl) ?_
              refine call_N (As := [.ref (eA E 12), .int (iI u)]) (rest := [.int (iI ((mPole (A1 12) v) % (A1 3 (5 * v + 4))))]) F (c_poleOf l E I A1 12 u rfl (by decide) (by omega) (by rw [h12]; exact htr.1)) (cwV 2 F.2.2.2.2 gX10_feast_X10_poleOf rfl rfl rfl (by decide +kernel) ⟨Nat.le_of_ble_eq_true rfl, Nat.le_of_ble_eq_true rfl⟩) hw (m_recv hw) rfl hl.1 rfl (Nat.le_of_ble_eq_true rfl) dX10_feast_65 ⟨Nat.zero_le _, Nat.zero_le _⟩ (fun H locs hw => ?_)
              have f_9 := mPole_r (f := A1 12) (v := u) (by rw [h12]; exact htr.1)
              refine lv_aload_n F.1 F.2.1 dX10_feast_68 rfl (lv_at hl 1 rfl) ?_
              refine m_get F hin hw 5 (by decide) (by decide +kernel) rfl dX10_feast_69 ?_
              refine bi_iconst F dX10_feast_72 ?_
              refine lv_iload_n F.1 F.2.1 dX10_feast_73 rfl (lv_at hl 3 rfl) ?_
              refine bi_imul F dX10_feast_74 ?_
              refine bi_iconst F dX10_feast_75 ?_
              refine bi_iadd F dX10_feast_76 ?_
              refine m_ld F hw 3 20 rfl (by decide) (by omega) dX10_feast_77 ?_
              have hx5 : A1 3 (5 * u + 4) = A 3 (5 * u + 4) := by rw [h3]
              have hx6 := hV (5 * u + 4)
              refine bi_irem F dX10_feast_78 (by omega) ?_
              have hm1 := Int.emod_nonneg (mPole (A1 12) v) (show A1 3 (5 * v + 4) ≠ 0 by omega)
              have hm2 := Int.emod_lt_of_pos (mPole (A1 12) v) (show 0 < A1 3 (5 * v + 4) by omega)
              have hm3 := Int.emod_nonneg (mPole (A1 12) u) (show A1 3 (5 * u + 4) ≠ 0 by omega)
              have hm4 := Int.emod_lt_of_pos (mPole (A1 12) u) (show 0 < A1 3 (5 * u + 4) by omega)
              refine bi_icmp_ne (tgt := 84) F dX10_feast_79 (by decide) (by omega) (fun c_10 => ?_) (fun c_10 => ?_)
              · refine lv_aload_n F.1 F.2.1 dX10_feast_84 rfl (lv_at hl 1 rfl) ?_
                refine lv_aload_n F.1 F.2.1 dX10_feast_85 rfl (lv_at hl 1 rfl) ?_
                refine m_get F hin hw 14 (by decide) (by decide +kernel) rfl dX10_feast_86 ?_
                refine bi_iconst F dX10_feast_89 ?_
                refine call_G (As := [.ref (eA E 12), .int (iI 0)]) (rest := []) F (c_comes l E I A1 12 0 rfl (by decide) (Or.inr rfl) (by omega) (by rw [h1]; omega) (by rw [hA1]; exact mOk_st (by decide) hok) (by rw [h1, h12]; exact htr)) (cwV 2 F.2.2.2.2 gX10_feast_X10_comes rfl rfl rfl (by decide +kernel) ⟨Nat.le_of_ble_eq_true rfl, Nat.le_of_ble_eq_true rfl⟩) hw (m_recv hw) rfl hl.1 rfl (Nat.le_of_ble_eq_true rfl) dX10_feast_90 ⟨Nat.zero_le _, Nat.zero_le _⟩ (fun H locs hw => ?_)
                generalize eA11 : stA A1 12 (mPass (A1 3) (A1 12) (mIn (A1 2) (A1 12 0) (A1 1 0) 0) (A1 1 1) (A1 1 2)) = A11 at hw
                refine lv_iinc (v := iI (k + 1)) (lv' := [(3, .int (iI (k + 1))), (0, .ref (eO E 0)), (1, .int (iI v)), (2, .int (iI u))]) F.1 F.2.1 dX10_feast_93 hl (k := 0) rfl (iI_add _ _).symm (by decide) rfl (fun ls hl => ?_)
                refine lv_goto (tgt := 32) F.1 F.2.1 dX10_feast_96 (by decide) ?_
                exact ih_32 (k + 1) A11 H locs ls (by omega) (by rw [← eA11, hA1, stA_2, mTry_s hk.1]; rfl) (by rw [hT, hTs (by omega), if_neg (by rw [← h12, ← h3]; omega)]) hw (lv_sub hl [0, 1, 2, 3] rfl) (by omega)
              · refine lv_iload_n F.1 F.2.1 dX10_feast_82 rfl (lv_at hl 0 rfl) ?_
                exact hret _ _ _ _ _ _ (by unfold mFeaR; rw [if_pos (by omega), hT, hTs (by omega), if_pos (by rw [← h12, ← h3]; omega)]) (by rw [hA1]; exact mSame_st (by decide)) hw dX10_feast_83
        exact loop_32 ((201 - 0 : Int).toNat + 1) 0 A6 H locs ls (by omega) (by rw [← eA6]) (rfl) hw (lv_sub hl [0, 1, 2, 3] rfl) (by omega)
      · refine bi_ldc F (-1000000001) (by decide +kernel) rfl dX10_feast_21 ?_
        exact hret _ _ _ _ _ _ (by unfold mFeaR; rw [if_neg (by omega)]) (mSame_rf) hw dX10_feast_23
    · refine bi_if_eq (tgt := 21) F dX10_feast_13 (by decide) (by decide) (fun _ => ?_) (fun q => absurd q (by decide))
      refine bi_ldc F (-1000000001) (by decide +kernel) rfl dX10_feast_21 ?_
      exact hret _ _ _ _ _ _ (by unfold mFeaR; rw [if_neg (by omega)]) (mSame_rf) hw dX10_feast_23
  · refine bi_if_eq (tgt := 21) F dX10_feast_5 (by decide) (by decide) (fun _ => ?_) (fun q => absurd q (by decide))
    refine bi_ldc F (-1000000001) (by decide +kernel) rfl dX10_feast_21 ?_
    exact hret _ _ _ _ _ _ (by unfold mFeaR; rw [if_neg (by omega)]) (mSame_rf) hw dX10_feast_23
set_option maxRecDepth 100000 in
set_option maxHeartbeats 4000000 in
theorem c_draw (l : Launch) (E : Ev) (I : Nat → Int) (A : Nat → Int → Int) (n : Int) (hn : 1 ≤ n ∧ n ≤ 1000) : MetF l yX10_draw wsX10_draw ({ frames := 0, cells := 0, slots := 0, locals := 0 } : Room) E [.ref (eO E 0), .int (iI n)] (mW E I A) (mW E (st1 I 3 (mNx (I 3))) (A)) (mNx (I 3) / 65536 % n) := by
  have hin : ∀ w ∈ wsX100, w ∈ wsX10_draw := fun w h => in_tail h
  refine met_F (cc := cX10_draw) (nL := 2) (by decide) rfl (Nat.le_of_ble_eq_true rfl) ?_
  intro p e s m args below meth c Q H0 A0 H locs ls F hw hl hret
  have F : CallFix p m c cX10_draw 2 s args wsX10_draw RX10 := F
  have hl : lv_has ls 2 [(0, .ref (eO E 0)), (1, .int (iI n))] := hl
  refine lv_aload_n F.1 F.2.1 dX10_draw_0 rfl (lv_at hl 0 rfl) ?_
  refine lv_aload_n F.1 F.2.1 dX10_draw_1 rfl (lv_at hl 0 rfl) ?_
  refine m_get F hin hw 20 (by decide) (by decide +kernel) rfl dX10_draw_2 ?_
  refine lv_i2l F.1 F.2.1 dX10_draw_5 rfl ?_
  refine lv_ldc2 (v := 1103515245) F.1 F.2.1 F.2.2.2.1 (F.2.2.2.2 _ (by decide +kernel)) dX10_draw_6 ?_
  refine lv_lmul F.1 F.2.1 dX10_draw_9 ?_
  refine lv_ldc2 (v := 12345) F.1 F.2.1 F.2.2.2.1 (F.2.2.2.2 _ (by decide +kernel)) dX10_draw_10 ?_
  refine lv_ladd F.1 F.2.1 dX10_draw_13 ?_
  refine lv_ldc2 (v := 2147483647) F.1 F.2.1 F.2.2.2.1 (F.2.2.2.2 _ (by decide +kernel)) dX10_draw_14 ?_
  refine lv_land F.1 F.2.1 dX10_draw_17 ?_
  refine lv_l2i (v := iI (mNx (I 3))) F.1 F.2.1 dX10_draw_18 (draw_L _) ?_
  refine m_put F hin hw 20 3 (by decide) (by decide +kernel) rfl (by decide +kernel) rfl dX10_draw_19 (fun H locs hw => ?_)
  generalize eI1 : st1 I 3 (mNx (I 3)) = I1 at hw
  refine lv_aload_n F.1 F.2.1 dX10_draw_22 rfl (lv_at hl 0 rfl) ?_
  refine m_get F hin hw 20 (by decide) (by decide +kernel) rfl dX10_draw_23 ?_
  have f_2 : I1 3 = mNx (I 3) := by rw [← eI1]; exact st1_s
  refine bi_ldc F (65536) (by decide +kernel) rfl dX10_draw_26 ?_
  have hnx := mNx_r (I 3)
  refine bi_idiv F dX10_draw_28 (by omega) ?_
  refine lv_iload_n F.1 F.2.1 dX10_draw_29 rfl (lv_at hl 1 rfl) ?_
  have hdv : 0 ≤ I1 3 / 65536 ∧ I1 3 / 65536 ≤ 32767 := by omega
  refine bi_irem F dX10_draw_30 (by omega) ?_
  exact hret _ _ _ _ _ _ (by subst_vars; rw [st1_s]) (by subst_vars; rfl) hw dX10_draw_31
set_option maxRecDepth 100000 in
set_option maxHeartbeats 4000000 in
theorem c_areAlike (l : Launch) (E : Ev) (I : Nat → Int) (A : Nat → Int → Int) (v : Int) (u : Int) (hv : 0 ≤ v ∧ v < 4) (hu : 0 ≤ u ∧ u < 4) (h00 : 0 < A 1 0) (hok : mOk A) (hr : rOk (A 1 1) (A 1 2) (A 11) 500000) : MetP l yX10_areAlike wsX10_areAlike ({ frames := 2, cells := 0, slots := 0, locals := 49 } : Room) E [.ref (eO E 0), .int (iI v), .int (iI u)] (mW E I A) (mAlk A v u 40 = 1) := by
  have hin : ∀ w ∈ wsX100, w ∈ wsX10_areAlike := fun w h => in_tail h
  refine met_P (cc := cX10_areAlike) (nL := 6) (by decide) rfl (Nat.le_of_ble_eq_true rfl) ?_
  intro p e s m args below meth c Q H0 A0 H locs ls F hw hl hret
  have F : CallFix p m c cX10_areAlike 6 s args wsX10_areAlike RX10 := F
  have hl : lv_has ls 6 [(0, .ref (eO E 0)), (1, .int (iI v)), (2, .int (iI u))] := hl
  obtain ⟨hV, hWn, hl0, hl1, hl2, hl3, hY, hPl, hPe⟩ := id hok
  have hA := hV
  have hf : ∀ k, 0 ≤ A 11 k ∧ A 11 k ≤ 900000 := (rOk_w hr (by decide)).1
  refine bi_iconst F dX10_areAlike_0 ?_
  refine lv_istore_n (lv' := [(3, .int (iI 1)), (0, .ref (eO E 0)), (1, .int (iI v)), (2, .int (iI u))]) F.1 F.2.1 dX10_areAlike_1 rfl hl (by decide) rfl (fun ls hl => ?_)
  refine bi_iconst F dX10_areAlike_2 ?_
  refine lv_istore (lv' := [(4, .int (iI 0)), (3, .int (iI 1)), (0, .ref (eO E 0)), (1, .int (iI v)), (2, .int (iI u))]) F.1 F.2.1 dX10_areAlike_3 hl (by decide) rfl (fun ls hl => ?_)
  have loop_5 : ∀ (nf : Nat) (b : Int) (k : Int) (H : Heap) (locs : List Loc) (ls : Array Slot) (hk : 0 ≤ k ∧ k ≤ 40) (hb : b = mAlk A v u k.toNat) (hb2 : 0 ≤ b ∧ b ≤ 1) (hw : gH E A0 H0 s (mW E I A) H locs) (hl : lv_has ls 6 [(4, .int (iI k)), (3, .int (iI b)), (0, .ref (eO E 0)), (1, .int (iI v)), (2, .int (iI u))]) (hnf : (40 - k).toNat < nf), W p l e ({ frames := 2, cells := 0, slots := 0, locals := 49 } : Room) s m args below meth c H locs 0 0 Q (F0 m 5 ls []) := by
    intro nf
    induction nf with
    | zero =>
      intro b k H locs ls hk hb hb2 hw hl hnf
      exact absurd hnf (Nat.not_lt_zero _)
    | succ nf ih_5 =>
      intro b k H locs ls hk hb hb2 hw hl hnf
      refine lv_iload F.1 F.2.1 dX10_areAlike_5 (lv_at hl 0 rfl) ?_
      refine bi_bipush F dX10_areAlike_7 (by decide) ?_
      refine bi_icmp_ge (tgt := 68) F dX10_areAlike_9 (by decide) (by omega) (fun c_1 => ?_) (fun c_1 => ?_)
      · have h40 : mAlk A v u 40 = b := by rw [hb, show k = 40 by omega]; rfl
        refine lv_iload_n F.1 F.2.1 dX10_areAlike_68 rfl (lv_at hl 1 rfl) ?_
        exact hret b _ _ _ _ (by rw [h40]; omega) hw dX10_areAlike_69
      · refine lv_aload_n F.1 F.2.1 dX10_areAlike_12 rfl (lv_at hl 2 rfl) ?_
        refine m_get F hin hw 4 (by decide) (by decide +kernel) rfl dX10_areAlike_13 ?_
        refine lv_aload_n F.1 F.2.1 dX10_areAlike_16 rfl (lv_at hl 2 rfl) ?_
        refine m_get F hin hw 13 (by decide) (by decide +kernel) rfl dX10_areAlike_17 ?_
        refine bi_iconst F dX10_areAlike_20 ?_
        refine m_ld F hw 11 35 rfl (by decide) (by omega) dX10_areAlike_21 ?_
        have f_2 := hf (0)
        refine lv_iload F.1 F.2.1 dX10_areAlike_22 (lv_at hl 0 rfl) ?_
        refine bi_iadd F dX10_areAlike_24 ?_
        refine lv_aload_n F.1 F.2.1 dX10_areAlike_25 rfl (lv_at hl 2 rfl) ?_
        refine m_get F hin hw 3 (by decide) (by decide +kernel) rfl dX10_areAlike_26 ?_
        refine bi_iconst F dX10_areAlike_29 ?_
        refine m_ld F hw 1 4 rfl (by decide) (by omega) dX10_areAlike_30 ?_
        refine bi_irem F dX10_areAlike_31 (by omega) ?_
        have e1 := Int.emod_nonneg (A 11 0 + k) (show A 1 0 ≠ 0 by omega)
        have e2 := Int.emod_lt_of_pos (A 11 0 + k) (show 0 < A 1 0 by omega)
        refine m_ld F hw 2 20 rfl (by decide) (by omega) dX10_areAlike_32 ?_
        have f_3 := hWn ((A 11 0 + k) % (A 1 0))
        refine lv_istore (lv' := [(5, .int (iI (A 2 ((A 11 0 + k) % (A 1 0))))), (4, .int (iI k)), (3, .int (iI b)), (0, .ref (eO E 0)), (1, .int (iI v)), (2, .int (iI u))]) F.1 F.2.1 dX10_areAlike_33 hl (by decide) rfl (fun ls hl => ?_)
        refine lv_iload_n F.1 F.2.1 dX10_areAlike_35 rfl (lv_at hl 2 rfl) ?_
        refine bi_if_eq (tgt := 60) F dX10_areAlike_36 (by decide) (by omega) (fun c_4 => ?_) (fun c_4 => ?_)
        · refine bi_iconst F dX10_areAlike_60 ?_
          refine lv_istore_n (lv' := [(3, .int (iI 0)), (5, .int (iI (A 2 ((A 11 0 + k) % (A 1 0))))), (4, .int (iI k)), (0, .ref (eO E 0)), (1, .int (iI v)), (2, .int (iI u))]) F.1 F.2.1 dX10_areAlike_61 rfl hl (by decide) rfl (fun ls hl => ?_)
          refine lv_iinc (v := iI (k + 1)) (lv' := [(4, .int (iI (k + 1))), (3, .int (iI 0)), (5, .int (iI (A 2 ((A 11 0 + k) % (A 1 0))))), (0, .ref (eO E 0)), (1, .int (iI v)), (2, .int (iI u))]) F.1 F.2.1 dX10_areAlike_62 hl (k := 2) rfl (iI_add _ _).symm (by decide) rfl (fun ls hl => ?_)
          refine lv_goto (tgt := 5) F.1 F.2.1 dX10_areAlike_65 (by decide) ?_
          exact ih_5 0 (k + 1) H locs ls (by omega) (by refine Eq.trans ?_ (fld_s (g := fun b k => if b = 0 then 0 else if mFallI (A 3) (mAt A k) v = mFallI (A 3) (mAt A k) u then 1 else 0) (z := 1) hk.1).symm; show _ = (if mAlk A v u k.toNat = 0 then 0 else if mFallI (A 3) (A 2 ((A 11 0 + k) % A 1 0)) v = mFallI (A 3) (A 2 ((A 11 0 + k) % A 1 0)) u then 1 else 0); rw [← hb]; first | (rw [if_pos (by omega)]; done) | (rw [if_neg (by omega), mFallI_t (v := v) (by assumption), mFallI_t (v := u) (by assumption)]; rfl) | (rw [if_neg (by omega), mFallI_t (v := v) (by assumption), mFallI_f (v := u) (by assumption)]; rfl) | (rw [if_neg (by omega), mFallI_f (v := v) (by assumption), mFallI_t (v := u) (by assumption)]; rfl) | (rw [if_neg (by omega), mFallI_f (v := v) (by assumption), mFallI_f (v := u) (by assumption)]; rfl)) (by omega) hw (lv_sub hl [0, 1, 3, 4, 5] rfl) (by omega)
        · refine lv_aload_n F.1 F.2.1 dX10_areAlike_39 rfl (lv_at hl 3 rfl) ?_
          refine lv_iload F.1 F.2.1 dX10_areAlike_40 (lv_at hl 0 rfl) ?_
          refine lv_iload_n F.1 F.2.1 dX10_areAlike_42 rfl (lv_at hl 4 rfl) ?_
          refine call_P (As := [.int (iI (A 2 ((A 11 0 + k) % (A 1 0)))), .int (iI v)]) (rest := []) F (c_isFall l E I A (A 2 ((A 11 0 + k) % (A 1 0))) v (by omega) (by omega) hA) (cwV 2 F.2.2.2.2 gX10_areAlike_X10_isFall rfl rfl rfl (by decide +kernel) ⟨Nat.le_of_ble_eq_true rfl, Nat.le_of_ble_eq_true rfl⟩) hw (m_recv hw) rfl hl.1 rfl (Nat.le_of_ble_eq_true rfl) dX10_areAlike_43 ⟨Nat.zero_le _, Nat.zero_le _⟩ (fun q_5 H locs hw => ?_) (fun q_5 H locs hw => ?_)
          · refine lv_aload_n F.1 F.2.1 dX10_areAlike_46 rfl (lv_at hl 3 rfl) ?_
            refine lv_iload F.1 F.2.1 dX10_areAlike_47 (lv_at hl 0 rfl) ?_
            refine lv_iload_n F.1 F.2.1 dX10_areAlike_49 rfl (lv_at hl 5 rfl) ?_
            refine call_P (As := [.int (iI (A 2 ((A 11 0 + k) % (A 1 0)))), .int (iI u)]) (rest := [.int (iI 1)]) F (c_isFall l E I A (A 2 ((A 11 0 + k) % (A 1 0))) u (by omega) (by omega) hA) (cwV 2 F.2.2.2.2 gX10_areAlike_X10_isFall rfl rfl rfl (by decide +kernel) ⟨Nat.le_of_ble_eq_true rfl, Nat.le_of_ble_eq_true rfl⟩) hw (m_recv hw) rfl hl.1 rfl (Nat.le_of_ble_eq_true rfl) dX10_areAlike_50 ⟨Nat.zero_le _, Nat.zero_le _⟩ (fun q_6 H locs hw => ?_) (fun q_6 H locs hw => ?_)
            · refine bi_icmp_ne (tgt := 60) F dX10_areAlike_53 (by decide) (by decide) (fun q => absurd q (by decide)) (fun _ => ?_)
              refine bi_iconst F dX10_areAlike_56 ?_
              refine lv_goto (tgt := 61) F.1 F.2.1 dX10_areAlike_57 (by decide) ?_
              refine lv_istore_n (lv' := [(3, .int (iI 1)), (5, .int (iI (A 2 ((A 11 0 + k) % (A 1 0))))), (4, .int (iI k)), (0, .ref (eO E 0)), (1, .int (iI v)), (2, .int (iI u))]) F.1 F.2.1 dX10_areAlike_61 rfl hl (by decide) rfl (fun ls hl => ?_)
              refine lv_iinc (v := iI (k + 1)) (lv' := [(4, .int (iI (k + 1))), (3, .int (iI 1)), (5, .int (iI (A 2 ((A 11 0 + k) % (A 1 0))))), (0, .ref (eO E 0)), (1, .int (iI v)), (2, .int (iI u))]) F.1 F.2.1 dX10_areAlike_62 hl (k := 2) rfl (iI_add _ _).symm (by decide) rfl (fun ls hl => ?_)
              refine lv_goto (tgt := 5) F.1 F.2.1 dX10_areAlike_65 (by decide) ?_
              exact ih_5 1 (k + 1) H locs ls (by omega) (by refine Eq.trans ?_ (fld_s (g := fun b k => if b = 0 then 0 else if mFallI (A 3) (mAt A k) v = mFallI (A 3) (mAt A k) u then 1 else 0) (z := 1) hk.1).symm; show _ = (if mAlk A v u k.toNat = 0 then 0 else if mFallI (A 3) (A 2 ((A 11 0 + k) % A 1 0)) v = mFallI (A 3) (A 2 ((A 11 0 + k) % A 1 0)) u then 1 else 0); rw [← hb]; first | (rw [if_pos (by omega)]; done) | (rw [if_neg (by omega), mFallI_t (v := v) (by assumption), mFallI_t (v := u) (by assumption)]; rfl) | (rw [if_neg (by omega), mFallI_t (v := v) (by assumption), mFallI_f (v := u) (by assumption)]; rfl) | (rw [if_neg (by omega), mFallI_f (v := v) (by assumption), mFallI_t (v := u) (by assumption)]; rfl) | (rw [if_neg (by omega), mFallI_f (v := v) (by assumption), mFallI_f (v := u) (by assumption)]; rfl)) (by omega) hw (lv_sub hl [0, 1, 3, 4, 5] rfl) (by omega)
            · refine bi_icmp_ne (tgt := 60) F dX10_areAlike_53 (by decide) (by decide) (fun _ => ?_) (fun q => absurd q (by decide))
              refine bi_iconst F dX10_areAlike_60 ?_
              refine lv_istore_n (lv' := [(3, .int (iI 0)), (5, .int (iI (A 2 ((A 11 0 + k) % (A 1 0))))), (4, .int (iI k)), (0, .ref (eO E 0)), (1, .int (iI v)), (2, .int (iI u))]) F.1 F.2.1 dX10_areAlike_61 rfl hl (by decide) rfl (fun ls hl => ?_)
              refine lv_iinc (v := iI (k + 1)) (lv' := [(4, .int (iI (k + 1))), (3, .int (iI 0)), (5, .int (iI (A 2 ((A 11 0 + k) % (A 1 0))))), (0, .ref (eO E 0)), (1, .int (iI v)), (2, .int (iI u))]) F.1 F.2.1 dX10_areAlike_62 hl (k := 2) rfl (iI_add _ _).symm (by decide) rfl (fun ls hl => ?_)
              refine lv_goto (tgt := 5) F.1 F.2.1 dX10_areAlike_65 (by decide) ?_
              exact ih_5 0 (k + 1) H locs ls (by omega) (by refine Eq.trans ?_ (fld_s (g := fun b k => if b = 0 then 0 else if mFallI (A 3) (mAt A k) v = mFallI (A 3) (mAt A k) u then 1 else 0) (z := 1) hk.1).symm; show _ = (if mAlk A v u k.toNat = 0 then 0 else if mFallI (A 3) (A 2 ((A 11 0 + k) % A 1 0)) v = mFallI (A 3) (A 2 ((A 11 0 + k) % A 1 0)) u then 1 else 0); rw [← hb]; first | (rw [if_pos (by omega)]; done) | (rw [if_neg (by omega), mFallI_t (v := v) (by assumption), mFallI_t (v := u) (by assumption)]; rfl) | (rw [if_neg (by omega), mFallI_t (v := v) (by assumption), mFallI_f (v := u) (by assumption)]; rfl) | (rw [if_neg (by omega), mFallI_f (v := v) (by assumption), mFallI_t (v := u) (by assumption)]; rfl) | (rw [if_neg (by omega), mFallI_f (v := v) (by assumption), mFallI_f (v := u) (by assumption)]; rfl)) (by omega) hw (lv_sub hl [0, 1, 3, 4, 5] rfl) (by omega)
          · refine lv_aload_n F.1 F.2.1 dX10_areAlike_46 rfl (lv_at hl 3 rfl) ?_
            refine lv_iload F.1 F.2.1 dX10_areAlike_47 (lv_at hl 0 rfl) ?_
            refine lv_iload_n F.1 F.2.1 dX10_areAlike_49 rfl (lv_at hl 5 rfl) ?_
            refine call_P (As := [.int (iI (A 2 ((A 11 0 + k) % (A 1 0)))), .int (iI u)]) (rest := [.int (iI 0)]) F (c_isFall l E I A (A 2 ((A 11 0 + k) % (A 1 0))) u (by omega) (by omega) hA) (cwV 2 F.2.2.2.2 gX10_areAlike_X10_isFall rfl rfl rfl (by decide +kernel) ⟨Nat.le_of_ble_eq_true rfl, Nat.le_of_ble_eq_true rfl⟩) hw (m_recv hw) rfl hl.1 rfl (Nat.le_of_ble_eq_true rfl) dX10_areAlike_50 ⟨Nat.zero_le _, Nat.zero_le _⟩ (fun q_9 H locs hw => ?_) (fun q_9 H locs hw => ?_)
            · refine bi_icmp_ne (tgt := 60) F dX10_areAlike_53 (by decide) (by decide) (fun _ => ?_) (fun q => absurd q (by decide))
              refine bi_iconst F dX10_areAlike_60 ?_
              refine lv_istore_n (lv' := [(3, .int (iI 0)), (5, .int (iI (A 2 ((A 11 0 + k) % (A 1 0))))), (4, .int (iI k)), (0, .ref (eO E 0)), (1, .int (iI v)), (2, .int (iI u))]) F.1 F.2.1 dX10_areAlike_61 rfl hl (by decide) rfl (fun ls hl => ?_)
              refine lv_iinc (v := iI (k + 1)) (lv' := [(4, .int (iI (k + 1))), (3, .int (iI 0)), (5, .int (iI (A 2 ((A 11 0 + k) % (A 1 0))))), (0, .ref (eO E 0)), (1, .int (iI v)), (2, .int (iI u))]) F.1 F.2.1 dX10_areAlike_62 hl (k := 2) rfl (iI_add _ _).symm (by decide) rfl (fun ls hl => ?_)
              refine lv_goto (tgt := 5) F.1 F.2.1 dX10_areAlike_65 (by decide) ?_
              exact ih_5 0 (k + 1) H locs ls (by omega) (by refine Eq.trans ?_ (fld_s (g := fun b k => if b = 0 then 0 else if mFallI (A 3) (mAt A k) v = mFallI (A 3) (mAt A k) u then 1 else 0) (z := 1) hk.1).symm; show _ = (if mAlk A v u k.toNat = 0 then 0 else if mFallI (A 3) (A 2 ((A 11 0 + k) % A 1 0)) v = mFallI (A 3) (A 2 ((A 11 0 + k) % A 1 0)) u then 1 else 0); rw [← hb]; first | (rw [if_pos (by omega)]; done) | (rw [if_neg (by omega), mFallI_t (v := v) (by assumption), mFallI_t (v := u) (by assumption)]; rfl) | (rw [if_neg (by omega), mFallI_t (v := v) (by assumption), mFallI_f (v := u) (by assumption)]; rfl) | (rw [if_neg (by omega), mFallI_f (v := v) (by assumption), mFallI_t (v := u) (by assumption)]; rfl) | (rw [if_neg (by omega), mFallI_f (v := v) (by assumption), mFallI_f (v := u) (by assumption)]; rfl)) (by omega) hw (lv_sub hl [0, 1, 3, 4, 5] rfl) (by omega)
            · refine bi_icmp_ne (tgt := 60) F dX10_areAlike_53 (by decide) (by decide) (fun q => absurd q (by decide)) (fun _ => ?_)
              refine bi_iconst F dX10_areAlike_56 ?_
              refine lv_goto (tgt := 61) F.1 F.2.1 dX10_areAlike_57 (by decide) ?_
              refine lv_istore_n (lv' := [(3, .int (iI 1)), (5, .int (iI (A 2 ((A 11 0 + k) % (A 1 0))))), (4, .int (iI k)), (0, .ref (eO E 0)), (1, .int (iI v)), (2, .int (iI u))]) F.1 F.2.1 dX10_areAlike_61 rfl hl (by decide) rfl (fun ls hl => ?_)
              refine lv_iinc (v := iI (k + 1)) (lv' := [(4, .int (iI (k + 1))), (3, .int (iI 1)), (5, .int (iI (A 2 ((A 11 0 + k) % (A 1 0))))), (0, .ref (eO E 0)), (1, .int (iI v)), (2, .int (iI u))]) F.1 F.2.1 dX10_areAlike_62 hl (k := 2) rfl (iI_add _ _).symm (by decide) rfl (fun ls hl => ?_)
              refine lv_goto (tgt := 5) F.1 F.2.1 dX10_areAlike_65 (by decide) ?_
              exact ih_5 1 (k + 1) H locs ls (by omega) (by refine Eq.trans ?_ (fld_s (g := fun b k => if b = 0 then 0 else if mFallI (A 3) (mAt A k) v = mFallI (A 3) (mAt A k) u then 1 else 0) (z := 1) hk.1).symm; show _ = (if mAlk A v u k.toNat = 0 then 0 else if mFallI (A 3) (A 2 ((A 11 0 + k) % A 1 0)) v = mFallI (A 3) (A 2 ((A 11 0 + k) % A 1 0)) u then 1 else 0); rw [← hb]; first | (rw [if_pos (by omega)]; done) | (rw [if_neg (by omega), mFallI_t (v := v) (by assumption), mFallI_t (v := u) (by assumption)]; rfl) | (rw [if_neg (by omega), mFallI_t (v := v) (by assumption), mFallI_f (v := u) (by assumption)]; rfl) | (rw [if_neg (by omega), mFallI_f (v := v) (by assumption), mFallI_t (v := u) (by assumption)]; rfl) | (rw [if_neg (by omega), mFallI_f (v := v) (by assumption), mFallI_f (v := u) (by assumption)]; rfl)) (by omega) hw (lv_sub hl [0, 1, 3, 4, 5] rfl) (by omega)
  exact loop_5 ((40 - 0 : Int).toNat + 1) 1 0 H locs ls (by omega) (rfl) (by omega) hw (lv_sub hl [0, 1, 2, 3, 4] rfl) (by omega)
set_option maxRecDepth 100000 in
set_option maxHeartbeats 4000000 in
theorem c_poles (l : Launch) (E : Ev) (I : Nat → Int) (A : Nat → Int → Int) (h00 : 0 < A 1 1 → 0 < A 1 0) (hok : mOk A) (hr : rOk (A 1 1) (A 1 2) (A 11) 500000) : MetN l yX10_poles wsX10_poles ({ frames := 3, cells := 0, slots := 0, locals := 74 } : Room) E [.ref (eO E 0)] (mW E I A) (mPoles A (A 1 1).toNat) := by
  have hin : ∀ w ∈ wsX100, w ∈ wsX10_poles := fun w h => in_tail h
  refine met_N (cc := cX10_poles) (nL := 5) (by decide) rfl (Nat.le_of_ble_eq_true rfl) ?_
  intro p e s m args below meth c Q H0 A0 H locs ls F hw hl hret
  have F : CallFix p m c cX10_poles 5 s args wsX10_poles RX10 := F
  have hl : lv_has ls 5 [(0, .ref (eO E 0))] := hl
  obtain ⟨hV, hWn, hl0, hl1, hl2, hl3, hY, hPl, hPe⟩ := id hok
  have hA := hV
  have hf : ∀ k, 0 ≤ A 11 k ∧ A 11 k ≤ 900000 := (rOk_w hr (by decide)).1
  refine bi_iconst F dX10_poles_0 ?_
  refine lv_istore_n (lv' := [(1, .int (iI 0)), (0, .ref (eO E 0))]) F.1 F.2.1 dX10_poles_1 rfl hl (by decide) rfl (fun ls hl => ?_)
  refine bi_iconst F dX10_poles_2 ?_
  refine lv_istore_n (lv' := [(2, .int (iI 0)), (1, .int (iI 0)), (0, .ref (eO E 0))]) F.1 F.2.1 dX10_poles_3 rfl hl (by decide) rfl (fun ls hl => ?_)
  have loop_4 : ∀ (nf : Nat) (a : Int) (v : Int) (H : Heap) (locs : List Loc) (ls : Array Slot) (hv : 0 ≤ v ∧ v ≤ A 1 1) (ha : a = mPoles A v.toNat) (hw : gH E A0 H0 s (mW E I A) H locs) (hl : lv_has ls 5 [(2, .int (iI v)), (1, .int (iI a)), (0, .ref (eO E 0))]) (hnf : (A 1 1 - v).toNat < nf), W p l e ({ frames := 3, cells := 0, slots := 0, locals := 74 } : Room) s m args below meth c H locs 0 0 Q (F0 m 4 ls []) := by
    intro nf
    induction nf with
    | zero =>
      intro a v H locs ls hv ha hw hl hnf
      exact absurd hnf (Nat.not_lt_zero _)
    | succ nf ih_4 =>
      intro a v H locs ls hv ha hw hl hnf
      refine lv_iload_n F.1 F.2.1 dX10_poles_4 rfl (lv_at hl 0 rfl) ?_
      refine lv_aload_n F.1 F.2.1 dX10_poles_5 rfl (lv_at hl 2 rfl) ?_
      refine m_get F hin hw 3 (by decide) (by decide +kernel) rfl dX10_poles_6 ?_
      refine bi_iconst F dX10_poles_9 ?_
      refine m_ld F hw 1 4 rfl (by decide) (by omega) dX10_poles_10 ?_
      refine bi_icmp_ge (tgt := 69) F dX10_poles_11 (by decide) (by omega) (fun c_1 => ?_) (fun c_1 => ?_)
      · refine lv_iload_n F.1 F.2.1 dX10_poles_69 rfl (lv_at hl 1 rfl) ?_
        exact hret _ _ _ _ _ (by rw [ha, show v = A 1 1 by omega]) hw dX10_poles_70
      · refine bi_iconst F dX10_poles_14 ?_
        refine lv_istore_n (lv' := [(3, .int (iI 1)), (2, .int (iI v)), (1, .int (iI a)), (0, .ref (eO E 0))]) F.1 F.2.1 dX10_poles_15 rfl hl (by decide) rfl (fun ls hl => ?_)
        refine bi_iconst F dX10_poles_16 ?_
        refine lv_istore (lv' := [(4, .int (iI 0)), (3, .int (iI 1)), (2, .int (iI v)), (1, .int (iI a)), (0, .ref (eO E 0))]) F.1 F.2.1 dX10_poles_17 hl (by decide) rfl (fun ls hl => ?_)
        have loop_19 : ∀ (nf : Nat) (b : Int) (u : Int) (H : Heap) (locs : List Loc) (ls : Array Slot) (hu : 0 ≤ u ∧ u ≤ v) (hb : b = mNew A v u.toNat) (hb2 : 0 ≤ b ∧ b ≤ 1) (hw : gH E A0 H0 s (mW E I A) H locs) (hl : lv_has ls 5 [(4, .int (iI u)), (3, .int (iI b)), (2, .int (iI v)), (1, .int (iI a)), (0, .ref (eO E 0))]) (hnf : (v - u).toNat < nf), W p l e ({ frames := 3, cells := 0, slots := 0, locals := 74 } : Room) s m args below meth c H locs 0 0 Q (F0 m 19 ls []) := by
          intro nf
          induction nf with
          | zero =>
            intro b u H locs ls hu hb hb2 hw hl hnf
            exact absurd hnf (Nat.not_lt_zero _)
          | succ nf ih_19 =>
            intro b u H locs ls hu hb hb2 hw hl hnf
            have hk4 := mAlk_b (A := A) (v := v) (u := u) 40
            refine lv_iload F.1 F.2.1 dX10_poles_19 (lv_at hl 0 rfl) ?_
            refine lv_iload_n F.1 F.2.1 dX10_poles_21 rfl (lv_at hl 2 rfl) ?_
            refine bi_icmp_ge (tgt := 51) F dX10_poles_22 (by decide) (by omega) (fun c_2 => ?_) (fun c_2 => ?_)
            · refine lv_iload_n F.1 F.2.1 dX10_poles_51 rfl (lv_at hl 3 rfl) ?_
              have join_61 : ∀ (y : Int) (hj_61 : y = mNew A v v.toNat) (H : Heap) (locs : List Loc) (hw : gH E A0 H0 s (mW E I A) H locs), W p l e ({ frames := 3, cells := 0, slots := 0, locals := 74 } : Room) s m args below meth c H locs 0 0 Q (F0 m 61 ls [.int (iI y), .int (iI a)]) := by
                intro y hj_61 H locs hw
                refine bi_iadd F dX10_poles_61 ?_
                refine lv_istore_n (lv' := [(1, .int (iI (a + y))), (4, .int (iI u)), (3, .int (iI b)), (2, .int (iI v)), (0, .ref (eO E 0))]) F.1 F.2.1 dX10_poles_62 rfl hl (by decide) rfl (fun ls hl => ?_)
                refine lv_iinc (v := iI (v + 1)) (lv' := [(2, .int (iI (v + 1))), (1, .int (iI (a + y))), (4, .int (iI u)), (3, .int (iI b)), (0, .ref (eO E 0))]) F.1 F.2.1 dX10_poles_63 hl (k := 3) rfl (iI_add _ _).symm (by decide) rfl (fun ls hl => ?_)
                refine lv_goto (tgt := 4) F.1 F.2.1 dX10_poles_66 (by decide) ?_
                exact ih_4 (a + y) (v + 1) H locs ls (by omega) (by rw [ha, hj_61]; exact (fld_s (g := fun a v => a + mNew A v v.toNat) (z := 0) hv.1).symm) hw (lv_sub hl [0, 1, 4] rfl) (by omega)
              refine lv_iload_n F.1 F.2.1 dX10_poles_52 rfl (lv_at hl 1 rfl) ?_
              refine bi_if_eq (tgt := 60) F dX10_poles_53 (by decide) (by omega) (fun c_3 => ?_) (fun c_3 => ?_)
              · refine bi_iconst F dX10_poles_60 ?_
                exact join_61 0 (by rw [show mNew A v v.toNat = b by rw [hb, show u = v by omega]]; omega) H locs hw
              · refine bi_iconst F dX10_poles_56 ?_
                refine lv_goto (tgt := 61) F.1 F.2.1 dX10_poles_57 (by decide) ?_
                exact join_61 1 (by rw [show mNew A v v.toNat = b by rw [hb, show u = v by omega]]; omega) H locs hw
            · refine lv_iload_n F.1 F.2.1 dX10_poles_25 rfl (lv_at hl 1 rfl) ?_
              refine bi_if_eq (tgt := 43) F dX10_poles_26 (by decide) (by omega) (fun c_4 => ?_) (fun c_4 => ?_)
              · refine bi_iconst F dX10_poles_43 ?_
                refine lv_istore_n (lv' := [(3, .int (iI 0)), (4, .int (iI u)), (2, .int (iI v)), (1, .int (iI a)), (0, .ref (eO E 0))]) F.1 F.2.1 dX10_poles_44 rfl hl (by decide) rfl (fun ls hl => ?_)
                refine lv_iinc (v := iI (u + 1)) (lv' := [(4, .int (iI (u + 1))), (3, .int (iI 0)), (2, .int (iI v)), (1, .int (iI a)), (0, .ref (eO E 0))]) F.1 F.2.1 dX10_poles_45 hl (k := 1) rfl (iI_add _ _).symm (by decide) rfl (fun ls hl => ?_)
                refine lv_goto (tgt := 19) F.1 F.2.1 dX10_poles_48 (by decide) ?_
                exact ih_19 0 (u + 1) H locs ls (by omega) (by refine Eq.trans ?_ (fld_s (g := fun b u => if b = 0 then 0 else 1 - mAlk A v u 40) (z := 1) hu.1).symm; show _ = (if mNew A v u.toNat = 0 then 0 else 1 - mAlk A v u 40); rw [← hb]; first | (rw [if_pos (by omega)]; done) | (rw [if_neg (by omega)]; omega)) (by omega) hw (lv_sub hl [0, 1, 2, 3, 4] rfl) (by omega)
              · refine lv_aload_n F.1 F.2.1 dX10_poles_29 rfl (lv_at hl 4 rfl) ?_
                refine lv_iload_n F.1 F.2.1 dX10_poles_30 rfl (lv_at hl 2 rfl) ?_
                refine lv_iload F.1 F.2.1 dX10_poles_31 (lv_at hl 0 rfl) ?_
                refine call_P (As := [.int (iI v), .int (iI u)]) (rest := []) F (c_areAlike l E I A v u (by omega) (by omega) (h00 (by omega)) hok hr) (cwV 2 F.2.2.2.2 gX10_poles_X10_areAlike rfl rfl rfl (by decide +kernel) ⟨Nat.le_of_ble_eq_true rfl, Nat.le_of_ble_eq_true rfl⟩) hw (m_recv hw) rfl hl.1 rfl (Nat.le_of_ble_eq_true rfl) dX10_poles_33 ⟨Nat.zero_le _, Nat.zero_le _⟩ (fun q_5 H locs hw => ?_) (fun q_5 H locs hw => ?_)
                · refine bi_if_ne (tgt := 43) F dX10_poles_36 (by decide) (by decide) (fun _ => ?_) (fun q => absurd q (by decide))
                  refine bi_iconst F dX10_poles_43 ?_
                  refine lv_istore_n (lv' := [(3, .int (iI 0)), (4, .int (iI u)), (2, .int (iI v)), (1, .int (iI a)), (0, .ref (eO E 0))]) F.1 F.2.1 dX10_poles_44 rfl hl (by decide) rfl (fun ls hl => ?_)
                  refine lv_iinc (v := iI (u + 1)) (lv' := [(4, .int (iI (u + 1))), (3, .int (iI 0)), (2, .int (iI v)), (1, .int (iI a)), (0, .ref (eO E 0))]) F.1 F.2.1 dX10_poles_45 hl (k := 1) rfl (iI_add _ _).symm (by decide) rfl (fun ls hl => ?_)
                  refine lv_goto (tgt := 19) F.1 F.2.1 dX10_poles_48 (by decide) ?_
                  exact ih_19 0 (u + 1) H locs ls (by omega) (by refine Eq.trans ?_ (fld_s (g := fun b u => if b = 0 then 0 else 1 - mAlk A v u 40) (z := 1) hu.1).symm; show _ = (if mNew A v u.toNat = 0 then 0 else 1 - mAlk A v u 40); rw [← hb]; first | (rw [if_pos (by omega)]; done) | (rw [if_neg (by omega)]; omega)) (by omega) hw (lv_sub hl [0, 1, 2, 3, 4] rfl) (by omega)
                · refine bi_if_ne (tgt := 43) F dX10_poles_36 (by decide) (by decide) (fun q => absurd q (by decide)) (fun _ => ?_)
                  refine bi_iconst F dX10_poles_39 ?_
                  refine lv_goto (tgt := 44) F.1 F.2.1 dX10_poles_40 (by decide) ?_
                  refine lv_istore_n (lv' := [(3, .int (iI 1)), (4, .int (iI u)), (2, .int (iI v)), (1, .int (iI a)), (0, .ref (eO E 0))]) F.1 F.2.1 dX10_poles_44 rfl hl (by decide) rfl (fun ls hl => ?_)
                  refine lv_iinc (v := iI (u + 1)) (lv' := [(4, .int (iI (u + 1))), (3, .int (iI 1)), (2, .int (iI v)), (1, .int (iI a)), (0, .ref (eO E 0))]) F.1 F.2.1 dX10_poles_45 hl (k := 1) rfl (iI_add _ _).symm (by decide) rfl (fun ls hl => ?_)
                  refine lv_goto (tgt := 19) F.1 F.2.1 dX10_poles_48 (by decide) ?_
                  exact ih_19 1 (u + 1) H locs ls (by omega) (by refine Eq.trans ?_ (fld_s (g := fun b u => if b = 0 then 0 else 1 - mAlk A v u 40) (z := 1) hu.1).symm; show _ = (if mNew A v u.toNat = 0 then 0 else 1 - mAlk A v u 40); rw [← hb]; first | (rw [if_pos (by omega)]; done) | (rw [if_neg (by omega)]; omega)) (by omega) hw (lv_sub hl [0, 1, 2, 3, 4] rfl) (by omega)
        exact loop_19 ((v - 0 : Int).toNat + 1) 1 0 H locs ls (by omega) (rfl) (by omega) hw (lv_sub hl [0, 1, 2, 3, 4] rfl) (by omega)
  exact loop_4 ((A 1 1 - 0 : Int).toNat + 1) 0 0 H locs ls (by omega) (rfl) hw (lv_sub hl [0, 1, 2] rfl) (by omega)
set_option maxRecDepth 100000 in
set_option maxHeartbeats 4000000 in
theorem c_longest (l : Launch) (E : Ev) (I : Nat → Int) (A : Nat → Int → Int) (v : Int) (hv : -2147483648 ≤ v ∧ v ≤ 2147483647) (h00 : 0 < A 1 1 → 0 < A 1 0) (hok : mOk A) (hr : rOk (A 1 1) (A 1 2) (A 11) 500000) : MetN l yX10_longest wsX10_longest ({ frames := 2, cells := 0, slots := 0, locals := 49 } : Room) E [.ref (eO E 0), .int (iI v)] (mW E I A) (mLongR A v) := by
  have hin : ∀ w ∈ wsX100, w ∈ wsX10_longest := fun w h => in_tail h
  refine met_N (cc := cX10_longest) (nL := 5) (by decide) rfl (Nat.le_of_ble_eq_true rfl) ?_
  intro p e s m args below meth c Q H0 A0 H locs ls F hw hl hret
  have F : CallFix p m c cX10_longest 5 s args wsX10_longest RX10 := F
  have hl : lv_has ls 5 [(0, .ref (eO E 0)), (1, .int (iI v))] := hl
  obtain ⟨hV, hWn, hl0, hl1, hl2, hl3, hY, hPl, hPe⟩ := id hok
  have hA := hV
  have hf : ∀ k, 0 ≤ A 11 k ∧ A 11 k ≤ 900000 := (rOk_w hr (by decide)).1
  refine lv_aload_n F.1 F.2.1 dX10_longest_0 rfl (lv_at hl 0 rfl) ?_
  refine lv_iload_n F.1 F.2.1 dX10_longest_1 rfl (lv_at hl 1 rfl) ?_
  refine call_P (As := [.int (iI v)]) (rest := []) F (c_isVillage l E I A v (by omega) (by omega)) (cwV 1 F.2.2.2.2 gX10_longest_X10_isVillage rfl rfl rfl (by decide +kernel) ⟨Nat.le_of_ble_eq_true rfl, Nat.le_of_ble_eq_true rfl⟩) hw (m_recv hw) rfl hl.1 rfl (Nat.le_of_ble_eq_true rfl) dX10_longest_2 ⟨Nat.zero_le _, Nat.zero_le _⟩ (fun q_1 H locs hw => ?_) (fun q_1 H locs hw => ?_)
  · refine bi_if_ne (tgt := 11) F dX10_longest_5 (by decide) (by decide) (fun _ => ?_) (fun q => absurd q (by decide))
    refine bi_iconst F dX10_longest_11 ?_
    refine lv_istore_n (lv' := [(2, .int (iI 0)), (0, .ref (eO E 0)), (1, .int (iI v))]) F.1 F.2.1 dX10_longest_12 rfl hl (by decide) rfl (fun ls hl => ?_)
    refine bi_iconst F dX10_longest_13 ?_
    refine lv_istore_n (lv' := [(3, .int (iI 0)), (2, .int (iI 0)), (0, .ref (eO E 0)), (1, .int (iI v))]) F.1 F.2.1 dX10_longest_14 rfl hl (by decide) rfl (fun ls hl => ?_)
    refine bi_iconst F dX10_longest_15 ?_
    refine lv_istore (lv' := [(4, .int (iI 0)), (3, .int (iI 0)), (2, .int (iI 0)), (0, .ref (eO E 0)), (1, .int (iI v))]) F.1 F.2.1 dX10_longest_16 hl (by decide) rfl (fun ls hl => ?_)
    have loop_18 : ∀ (nf : Nat) (b : Int) (r : Int) (k : Int) (H : Heap) (locs : List Loc) (ls : Array Slot) (hk : 0 ≤ k ∧ k ≤ 100) (hb : (b, r) = mLong A v k.toNat) (hb2 : (0 ≤ b ∧ b ≤ 100) ∧ (0 ≤ r ∧ r ≤ k)) (hw : gH E A0 H0 s (mW E I A) H locs) (hl : lv_has ls 5 [(4, .int (iI k)), (3, .int (iI r)), (2, .int (iI b)), (0, .ref (eO E 0)), (1, .int (iI v))]) (hnf : (100 - k).toNat < nf), W p l e ({ frames := 2, cells := 0, slots := 0, locals := 49 } : Room) s m args below meth c H locs 0 0 Q (F0 m 18 ls []) := by
      intro nf
      induction nf with
      | zero =>
        intro b r k H locs ls hk hb hb2 hw hl hnf
        exact absurd hnf (Nat.not_lt_zero _)
      | succ nf ih_18 =>
        intro b r k H locs ls hk hb hb2 hw hl hnf
        refine lv_iload F.1 F.2.1 dX10_longest_18 (lv_at hl 0 rfl) ?_
        refine bi_bipush F dX10_longest_20 (by decide) ?_
        refine bi_icmp_ge (tgt := 79) F dX10_longest_22 (by decide) (by omega) (fun c_3 => ?_) (fun c_3 => ?_)
        · refine lv_iload_n F.1 F.2.1 dX10_longest_79 rfl (lv_at hl 2 rfl) ?_
          exact hret _ _ _ _ _ (by unfold mLongR; rw [if_pos (by omega), show mLong A v 100 = (b, r) by rw [hb, show k = 100 by omega]; rfl]) hw dX10_longest_80
        · refine lv_aload_n F.1 F.2.1 dX10_longest_25 rfl (lv_at hl 3 rfl) ?_
          refine lv_aload_n F.1 F.2.1 dX10_longest_26 rfl (lv_at hl 3 rfl) ?_
          refine m_get F hin hw 4 (by decide) (by decide +kernel) rfl dX10_longest_27 ?_
          refine lv_aload_n F.1 F.2.1 dX10_longest_30 rfl (lv_at hl 3 rfl) ?_
          refine m_get F hin hw 13 (by decide) (by decide +kernel) rfl dX10_longest_31 ?_
          refine bi_iconst F dX10_longest_34 ?_
          refine m_ld F hw 11 35 rfl (by decide) (by omega) dX10_longest_35 ?_
          have f_4 := hf (0)
          refine lv_iload F.1 F.2.1 dX10_longest_36 (lv_at hl 0 rfl) ?_
          refine bi_iadd F dX10_longest_38 ?_
          refine lv_aload_n F.1 F.2.1 dX10_longest_39 rfl (lv_at hl 3 rfl) ?_
          refine m_get F hin hw 3 (by decide) (by decide +kernel) rfl dX10_longest_40 ?_
          refine bi_iconst F dX10_longest_43 ?_
          refine m_ld F hw 1 4 rfl (by decide) (by omega) dX10_longest_44 ?_
          have h01 := h00 (by omega)
          refine bi_irem F dX10_longest_45 (by omega) ?_
          have h01 := h00 (by omega)
          have e1 := Int.emod_nonneg (A 11 0 + k) (show A 1 0 ≠ 0 by omega)
          have e2 := Int.emod_lt_of_pos (A 11 0 + k) (show 0 < A 1 0 by omega)
          refine m_ld F hw 2 20 rfl (by decide) (by omega) dX10_longest_46 ?_
          have f_5 := hWn ((A 11 0 + k) % (A 1 0))
          refine lv_iload_n F.1 F.2.1 dX10_longest_47 rfl (lv_at hl 4 rfl) ?_
          refine call_P (As := [.int (iI (A 2 ((A 11 0 + k) % (A 1 0)))), .int (iI v)]) (rest := []) F (c_isFall l E I A (A 2 ((A 11 0 + k) % (A 1 0))) v (by omega) (by omega) hA) (cwV 2 F.2.2.2.2 gX10_longest_X10_isFall rfl rfl rfl (by decide +kernel) ⟨Nat.le_of_ble_eq_true rfl, Nat.le_of_ble_eq_true rfl⟩) hw (m_recv hw) rfl hl.1 rfl (Nat.le_of_ble_eq_true rfl) dX10_longest_48 ⟨Nat.zero_le _, Nat.zero_le _⟩ (fun q_6 H locs hw => ?_) (fun q_6 H locs hw => ?_)
          · refine bi_if_eq (tgt := 58) F dX10_longest_51 (by decide) (by decide) (fun q => absurd q (by decide)) (fun _ => ?_)
            refine bi_iconst F dX10_longest_54 ?_
            refine lv_goto (tgt := 61) F.1 F.2.1 dX10_longest_55 (by decide) ?_
            refine lv_istore_n (lv' := [(3, .int (iI 0)), (4, .int (iI k)), (2, .int (iI b)), (0, .ref (eO E 0)), (1, .int (iI v))]) F.1 F.2.1 dX10_longest_61 rfl hl (by decide) rfl (fun ls hl => ?_)
            refine lv_iload_n F.1 F.2.1 dX10_longest_62 rfl (lv_at hl 0 rfl) ?_
            refine lv_iload_n F.1 F.2.1 dX10_longest_63 rfl (lv_at hl 2 rfl) ?_
            refine bi_icmp_le (tgt := 71) F dX10_longest_64 (by decide) (by omega) (fun c_8 => ?_) (fun c_8 => ?_)
            · refine lv_iload_n F.1 F.2.1 dX10_longest_71 rfl (lv_at hl 2 rfl) ?_
              refine lv_istore_n (lv' := [(2, .int (iI b)), (3, .int (iI 0)), (4, .int (iI k)), (0, .ref (eO E 0)), (1, .int (iI v))]) F.1 F.2.1 dX10_longest_72 rfl hl (by decide) rfl (fun ls hl => ?_)
              refine lv_iinc (v := iI (k + 1)) (lv' := [(4, .int (iI (k + 1))), (2, .int (iI b)), (3, .int (iI 0)), (0, .ref (eO E 0)), (1, .int (iI v))]) F.1 F.2.1 dX10_longest_73 hl (k := 2) rfl (iI_add _ _).symm (by decide) rfl (fun ls hl => ?_)
              refine lv_goto (tgt := 18) F.1 F.2.1 dX10_longest_76 (by decide) ?_
              exact ih_18 b 0 (k + 1) H locs ls (by omega) (by refine Eq.trans ?_ (fld_s (g := fun (b : Int × Int) k => (if b.1 < (if mFallI (A 3) (mAt A k) v = 0 then b.2 + 1 else 0) then (if mFallI (A 3) (mAt A k) v = 0 then b.2 + 1 else 0) else b.1, if mFallI (A 3) (mAt A k) v = 0 then b.2 + 1 else 0)) (z := (0, 0)) hk.1).symm; rw [show fld _ _ k.toNat = (b, r) from hb.symm]; show _ = (if b < (if mFallI (A 3) (A 2 ((A 11 0 + k) % A 1 0)) v = 0 then r + 1 else 0) then (if mFallI (A 3) (A 2 ((A 11 0 + k) % A 1 0)) v = 0 then r + 1 else 0) else b, if mFallI (A 3) (A 2 ((A 11 0 + k) % A 1 0)) v = 0 then r + 1 else 0); first | (rw [mFallI_t (v := v) (by assumption), if_neg (show ¬ (1 : Int) = 0 by decide)]; first | (rw [if_pos (by omega)]; done) | (rw [if_neg (by omega)]; done)) | (rw [mFallI_f (v := v) (by assumption), if_pos (show (0 : Int) = 0 from rfl)]; first | (rw [if_pos (by omega)]; done) | (rw [if_neg (by omega)]; done))) (by omega) hw (lv_sub hl [0, 2, 1, 3, 4] rfl) (by omega)
            · refine lv_iload_n F.1 F.2.1 dX10_longest_67 rfl (lv_at hl 0 rfl) ?_
              refine lv_goto (tgt := 72) F.1 F.2.1 dX10_longest_68 (by decide) ?_
              refine lv_istore_n (lv' := [(2, .int (iI 0)), (3, .int (iI 0)), (4, .int (iI k)), (0, .ref (eO E 0)), (1, .int (iI v))]) F.1 F.2.1 dX10_longest_72 rfl hl (by decide) rfl (fun ls hl => ?_)
              refine lv_iinc (v := iI (k + 1)) (lv' := [(4, .int (iI (k + 1))), (2, .int (iI 0)), (3, .int (iI 0)), (0, .ref (eO E 0)), (1, .int (iI v))]) F.1 F.2.1 dX10_longest_73 hl (k := 2) rfl (iI_add _ _).symm (by decide) rfl (fun ls hl => ?_)
              refine lv_goto (tgt := 18) F.1 F.2.1 dX10_longest_76 (by decide) ?_
              exact ih_18 0 0 (k + 1) H locs ls (by omega) (by refine Eq.trans ?_ (fld_s (g := fun (b : Int × Int) k => (if b.1 < (if mFallI (A 3) (mAt A k) v = 0 then b.2 + 1 else 0) then (if mFallI (A 3) (mAt A k) v = 0 then b.2 + 1 else 0) else b.1, if mFallI (A 3) (mAt A k) v = 0 then b.2 + 1 else 0)) (z := (0, 0)) hk.1).symm; rw [show fld _ _ k.toNat = (b, r) from hb.symm]; show _ = (if b < (if mFallI (A 3) (A 2 ((A 11 0 + k) % A 1 0)) v = 0 then r + 1 else 0) then (if mFallI (A 3) (A 2 ((A 11 0 + k) % A 1 0)) v = 0 then r + 1 else 0) else b, if mFallI (A 3) (A 2 ((A 11 0 + k) % A 1 0)) v = 0 then r + 1 else 0); first | (rw [mFallI_t (v := v) (by assumption), if_neg (show ¬ (1 : Int) = 0 by decide)]; first | (rw [if_pos (by omega)]; done) | (rw [if_neg (by omega)]; done)) | (rw [mFallI_f (v := v) (by assumption), if_pos (show (0 : Int) = 0 from rfl)]; first | (rw [if_pos (by omega)]; done) | (rw [if_neg (by omega)]; done))) (by omega) hw (lv_sub hl [0, 2, 1, 3, 4] rfl) (by omega)
          · refine bi_if_eq (tgt := 58) F dX10_longest_51 (by decide) (by decide) (fun _ => ?_) (fun q => absurd q (by decide))
            refine lv_iload_n F.1 F.2.1 dX10_longest_58 rfl (lv_at hl 1 rfl) ?_
            refine bi_iconst F dX10_longest_59 ?_
            refine bi_iadd F dX10_longest_60 ?_
            refine lv_istore_n (lv' := [(3, .int (iI (r + 1))), (4, .int (iI k)), (2, .int (iI b)), (0, .ref (eO E 0)), (1, .int (iI v))]) F.1 F.2.1 dX10_longest_61 rfl hl (by decide) rfl (fun ls hl => ?_)
            refine lv_iload_n F.1 F.2.1 dX10_longest_62 rfl (lv_at hl 0 rfl) ?_
            refine lv_iload_n F.1 F.2.1 dX10_longest_63 rfl (lv_at hl 2 rfl) ?_
            refine bi_icmp_le (tgt := 71) F dX10_longest_64 (by decide) (by omega) (fun c_10 => ?_) (fun c_10 => ?_)
            · refine lv_iload_n F.1 F.2.1 dX10_longest_71 rfl (lv_at hl 2 rfl) ?_
              refine lv_istore_n (lv' := [(2, .int (iI b)), (3, .int (iI (r + 1))), (4, .int (iI k)), (0, .ref (eO E 0)), (1, .int (iI v))]) F.1 F.2.1 dX10_longest_72 rfl hl (by decide) rfl (fun ls hl => ?_)
              refine lv_iinc (v := iI (k + 1)) (lv' := [(4, .int (iI (k + 1))), (2, .int (iI b)), (3, .int (iI (r + 1))), (0, .ref (eO E 0)), (1, .int (iI v))]) F.1 F.2.1 dX10_longest_73 hl (k := 2) rfl (iI_add _ _).symm (by decide) rfl (fun ls hl => ?_)
              refine lv_goto (tgt := 18) F.1 F.2.1 dX10_longest_76 (by decide) ?_
              exact ih_18 b (r + 1) (k + 1) H locs ls (by omega) (by refine Eq.trans ?_ (fld_s (g := fun (b : Int × Int) k => (if b.1 < (if mFallI (A 3) (mAt A k) v = 0 then b.2 + 1 else 0) then (if mFallI (A 3) (mAt A k) v = 0 then b.2 + 1 else 0) else b.1, if mFallI (A 3) (mAt A k) v = 0 then b.2 + 1 else 0)) (z := (0, 0)) hk.1).symm; rw [show fld _ _ k.toNat = (b, r) from hb.symm]; show _ = (if b < (if mFallI (A 3) (A 2 ((A 11 0 + k) % A 1 0)) v = 0 then r + 1 else 0) then (if mFallI (A 3) (A 2 ((A 11 0 + k) % A 1 0)) v = 0 then r + 1 else 0) else b, if mFallI (A 3) (A 2 ((A 11 0 + k) % A 1 0)) v = 0 then r + 1 else 0); first | (rw [mFallI_t (v := v) (by assumption), if_neg (show ¬ (1 : Int) = 0 by decide)]; first | (rw [if_pos (by omega)]; done) | (rw [if_neg (by omega)]; done)) | (rw [mFallI_f (v := v) (by assumption), if_pos (show (0 : Int) = 0 from rfl)]; first | (rw [if_pos (by omega)]; done) | (rw [if_neg (by omega)]; done))) (by omega) hw (lv_sub hl [0, 2, 1, 3, 4] rfl) (by omega)
            · refine lv_iload_n F.1 F.2.1 dX10_longest_67 rfl (lv_at hl 0 rfl) ?_
              refine lv_goto (tgt := 72) F.1 F.2.1 dX10_longest_68 (by decide) ?_
              refine lv_istore_n (lv' := [(2, .int (iI (r + 1))), (3, .int (iI (r + 1))), (4, .int (iI k)), (0, .ref (eO E 0)), (1, .int (iI v))]) F.1 F.2.1 dX10_longest_72 rfl hl (by decide) rfl (fun ls hl => ?_)
              refine lv_iinc (v := iI (k + 1)) (lv' := [(4, .int (iI (k + 1))), (2, .int (iI (r + 1))), (3, .int (iI (r + 1))), (0, .ref (eO E 0)), (1, .int (iI v))]) F.1 F.2.1 dX10_longest_73 hl (k := 2) rfl (iI_add _ _).symm (by decide) rfl (fun ls hl => ?_)
              refine lv_goto (tgt := 18) F.1 F.2.1 dX10_longest_76 (by decide) ?_
              exact ih_18 (r + 1) (r + 1) (k + 1) H locs ls (by omega) (by refine Eq.trans ?_ (fld_s (g := fun (b : Int × Int) k => (if b.1 < (if mFallI (A 3) (mAt A k) v = 0 then b.2 + 1 else 0) then (if mFallI (A 3) (mAt A k) v = 0 then b.2 + 1 else 0) else b.1, if mFallI (A 3) (mAt A k) v = 0 then b.2 + 1 else 0)) (z := (0, 0)) hk.1).symm; rw [show fld _ _ k.toNat = (b, r) from hb.symm]; show _ = (if b < (if mFallI (A 3) (A 2 ((A 11 0 + k) % A 1 0)) v = 0 then r + 1 else 0) then (if mFallI (A 3) (A 2 ((A 11 0 + k) % A 1 0)) v = 0 then r + 1 else 0) else b, if mFallI (A 3) (A 2 ((A 11 0 + k) % A 1 0)) v = 0 then r + 1 else 0); first | (rw [mFallI_t (v := v) (by assumption), if_neg (show ¬ (1 : Int) = 0 by decide)]; first | (rw [if_pos (by omega)]; done) | (rw [if_neg (by omega)]; done)) | (rw [mFallI_f (v := v) (by assumption), if_pos (show (0 : Int) = 0 from rfl)]; first | (rw [if_pos (by omega)]; done) | (rw [if_neg (by omega)]; done))) (by omega) hw (lv_sub hl [0, 2, 1, 3, 4] rfl) (by omega)
    exact loop_18 ((100 - 0 : Int).toNat + 1) 0 0 0 H locs ls (by omega) (rfl) (by omega) hw (lv_sub hl [0, 1, 2, 3, 4] rfl) (by omega)
  · refine bi_if_ne (tgt := 11) F dX10_longest_5 (by decide) (by decide) (fun q => absurd q (by decide)) (fun _ => ?_)
    refine bi_ldc F (-1000000001) (by decide +kernel) rfl dX10_longest_8 ?_
    exact hret _ _ _ _ _ (by unfold mLongR; rw [if_neg (by omega)]) hw dX10_longest_10
