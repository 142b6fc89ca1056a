set_option maxRecDepth 100000 in
set_option maxHeartbeats 4000000 in
theorem c_night (l : Launch) (E : Ev) (I : Nat → Int) (A : Nat → Int → Int) (n : Int) (hn : -2147483648 ≤ n ∧ n ≤ 2147483647) (h2 : 0 ≤ I 2 ∧ I 2 ≤ 20) (hok : mOk A) (hr : rOk (A 1 1) (A 1 2) (A 11) 500000) : MetF l yX10_night wsX10_night ({ frames := 4, cells := 0, slots := 0, locals := 96 } : Room) E [.ref (eO E 0), .int (iI n)] (mW E I A) (mW E (mNightI I A n) (mNightA I A n)) (mNightR A n) := by
  have hin : ∀ w ∈ wsX100, w ∈ wsX10_night := fun w h => in_tail h
  refine met_F (cc := cX10_night) (nL := 4) (by decide) rfl (Nat.le_of_ble_eq_true rfl) ?_
  intro p e s m args below meth c Q H0 A0 H locs ls F hw hl hret
  have F : CallFix p m c cX10_night 4 s args wsX10_night RX10 := F
  have hl : lv_has ls 4 [(0, .ref (eO E 0)), (1, .int (iI n))] := hl
  obtain ⟨hV, hWn, hl0, hl1, hl2, hl3, hY, hPl, hPe⟩ := id hok
  have hA := hV
  have hf : ∀ k, 0 ≤ A 11 k ∧ A 11 k ≤ 900000 := (rOk_w hr (by decide)).1
  have hb0 := mBar_r A n
  refine lv_aload_n F.1 F.2.1 dX10_night_0 rfl (lv_at hl 0 rfl) ?_
  refine lv_iload_n F.1 F.2.1 dX10_night_1 rfl (lv_at hl 1 rfl) ?_
  refine call_N (As := [.int (iI n)]) (rest := []) F (c_barred l E I A n (by omega) hok hr) (cwV 1 F.2.2.2.2 gX10_night_X10_barred rfl rfl rfl (by decide +kernel) ⟨Nat.le_of_ble_eq_true rfl, Nat.le_of_ble_eq_true rfl⟩) hw (m_recv hw) rfl hl.1 rfl (Nat.le_of_ble_eq_true rfl) dX10_night_2 ⟨Nat.zero_le _, Nat.zero_le _⟩ (fun H locs hw => ?_)
  refine lv_istore_n (lv' := [(2, .int (iI (mBar A n))), (0, .ref (eO E 0)), (1, .int (iI n))]) F.1 F.2.1 dX10_night_5 rfl hl (by decide) rfl (fun ls hl => ?_)
  refine lv_iload_n F.1 F.2.1 dX10_night_6 rfl (lv_at hl 0 rfl) ?_
  refine bi_if_eq (tgt := 12) F dX10_night_7 (by decide) (by omega) (fun c_1 => ?_) (fun c_1 => ?_)
  · have hb1 := mBar_0 (A := A) (n := n) (by omega)
    have hIn := I
    have hAn := A
    refine lv_aload_n F.1 F.2.1 dX10_night_12 rfl (lv_at hl 1 rfl) ?_
    refine call_G (As := []) (rest := []) F (c_notes l E I A  (by omega)) (cwV 0 F.2.2.2.2 gX10_night_X10_notes rfl rfl rfl (by decide +kernel) ⟨Nat.le_of_ble_eq_true rfl, Nat.le_of_ble_eq_true rfl⟩) hw (m_recv hw) rfl hl.1 rfl (Nat.le_of_ble_eq_true rfl) dX10_night_13 ⟨Nat.zero_le _, Nat.zero_le _⟩ (fun H locs hw => ?_)
    generalize eI2 : ndI I = I2 at hw
    generalize eA3 : ndA I A = A3 at hw
    refine bi_iconst F dX10_night_16 ?_
    refine lv_istore_n (lv' := [(3, .int (iI 0)), (2, .int (iI (mBar A n))), (0, .ref (eO E 0)), (1, .int (iI n))]) F.1 F.2.1 dX10_night_17 rfl hl (by decide) rfl (fun ls hl => ?_)
    have loop_18 : ∀ (nf : Nat) (k : Int) (A1 : Nat → Int → Int) (H : Heap) (locs : List Loc) (ls : Array Slot) (hk : 0 ≤ k ∧ k ≤ n) (hA1 : A1 = stA (ndA I A) 11 (mNgt A k)) (hw : gH E A0 H0 s (mW E I2 A1) H locs) (hl : lv_has ls 4 [(3, .int (iI k)), (2, .int (iI (mBar A n))), (0, .ref (eO E 0)), (1, .int (iI n))]) (hnf : (n - k).toNat < nf), W p l e ({ frames := 4, cells := 0, slots := 0, locals := 96 } : Room) s m args below meth c H locs 0 0 Q (F0 m 18 ls []) := by
      intro nf
      induction nf with
      | zero =>
        intro k A1 H locs ls hk hA1 hw hl hnf
        exact absurd hnf (Nat.not_lt_zero _)
      | succ nf ih_18 =>
        intro k A1 H locs ls hk hA1 hw hl hnf
        have h1 : A1 1 = A 1 := by rw [hA1]; rfl
        have h11 : A1 11 = mNgt A k := by rw [hA1]; rfl
        refine lv_iload_n F.1 F.2.1 dX10_night_18 rfl (lv_at hl 0 rfl) ?_
        refine lv_iload_n F.1 F.2.1 dX10_night_19 rfl (lv_at hl 3 rfl) ?_
        refine bi_icmp_ge (tgt := 38) F dX10_night_20 (by decide) (by omega) (fun c_4 => ?_) (fun c_4 => ?_)
        · refine lv_aload_n F.1 F.2.1 dX10_night_38 rfl (lv_at hl 2 rfl) ?_
          refine m_get F hin hw 13 (by decide) (by decide +kernel) rfl dX10_night_39 ?_
          refine bi_iconst F dX10_night_42 ?_
          refine m_ld F hw 11 35 rfl (by decide) (by omega) dX10_night_43 ?_
          exact hret _ _ _ _ _ _ (by unfold mNightR; rw [if_pos (by omega), h11, show k = n by omega]) (mW_c (by unfold mNightI; rw [if_pos (by omega)]; subst_vars; rfl) (by unfold mNightA; rw [if_pos (by omega), hA1, show k = n by omega])) hw dX10_night_44
        · refine lv_aload_n F.1 F.2.1 dX10_night_23 rfl (lv_at hl 2 rfl) ?_
          refine lv_aload_n F.1 F.2.1 dX10_night_24 rfl (lv_at hl 2 rfl) ?_
          refine m_get F hin hw 13 (by decide) (by decide +kernel) rfl dX10_night_25 ?_
          refine bi_iconst F dX10_night_28 ?_
          refine call_G (As := [.ref (eA E 11), .int (iI 0)]) (rest := []) F (c_comes l E I2 A1 11 0 rfl (by decide) (Or.inl rfl) (by omega) (by rw [h1]; omega) (by rw [hA1]; exact mOk_st (by decide) (mOk_st (by decide) hok)) (by rw [h1, h11]; exact rOk_ngt hok hr (by omega))) (cwV 2 F.2.2.2.2 gX10_night_X10_comes rfl rfl rfl (by decide +kernel) ⟨Nat.le_of_ble_eq_true rfl, Nat.le_of_ble_eq_true rfl⟩) hw (m_recv hw) rfl hl.1 rfl (Nat.le_of_ble_eq_true rfl) dX10_night_29 ⟨Nat.zero_le _, Nat.zero_le _⟩ (fun H locs hw => ?_)
          generalize eA5 : stA A1 11 (mPass (A1 3) (A1 11) (mIn (A1 2) (A1 11 0) (A1 1 0) 0) (A1 1 1) (A1 1 2)) = A5 at hw
          refine lv_iinc (v := iI (k + 1)) (lv' := [(3, .int (iI (k + 1))), (2, .int (iI (mBar A n))), (0, .ref (eO E 0)), (1, .int (iI n))]) F.1 F.2.1 dX10_night_32 hl (k := 0) rfl (iI_add _ _).symm (by decide) rfl (fun ls hl => ?_)
          refine lv_goto (tgt := 18) F.1 F.2.1 dX10_night_35 (by decide) ?_
          exact ih_18 (k + 1) A5 H locs ls (by omega) (by rw [← eA5, hA1, stA_2]; unfold mNgt; rw [mGo_s hk.1]; rfl) hw (lv_sub hl [0, 1, 2, 3] rfl) (by omega)
    exact loop_18 ((n - 0 : Int).toNat + 1) 0 A3 H locs ls (by omega) (by rw [← eA3]; exact stA_id.symm) hw (lv_sub hl [0, 1, 2, 3] rfl) (by omega)
  · refine lv_iload_n F.1 F.2.1 dX10_night_10 rfl (lv_at hl 0 rfl) ?_
    exact hret _ _ _ _ _ _ (by unfold mNightR; rw [if_neg (by omega)]) (mW_c (by unfold mNightI; rw [if_neg (by omega)]) (by unfold mNightA; rw [if_neg (by omega)])) hw dX10_night_11
set_option maxRecDepth 100000 in
set_option maxHeartbeats 4000000 in
theorem c_tries (l : Launch) (E : Ev) (I : Nat → Int) (A : Nat → Int → Int) (n : Int) (mm : Int) (hn : 0 ≤ n ∧ n ≤ 300) (hm : 0 ≤ mm ∧ mm ≤ 40) (h0 : 0 < n → 0 < A 1 0) (hok : mOk A) (hr : rOk (A 1 1) (A 1 2) (A 11) 500000) : MetG l yX10_tries wsX10_tries ({ frames := 4, cells := 0, slots := 0, locals := 96 } : Room) E [.ref (eO E 0), .int (iI n), .int (iI mm)] (mW E I A) (mW E (I) (stA A 12 (mTry A mm n))) := by
  have hin : ∀ w ∈ wsX100, w ∈ wsX10_tries := fun w h => in_tail h
  refine met_G (cc := cX10_tries) (nL := 4) (by decide) rfl (Nat.le_of_ble_eq_true rfl) ?_
  intro p e s m args below meth c Q H0 A0 H locs ls F hw hl hret
  have F : CallFix p m c cX10_tries 4 s args wsX10_tries RX10 := F
  have hl : lv_has ls 4 [(0, .ref (eO E 0)), (1, .int (iI n)), (2, .int (iI mm))] := hl
  obtain ⟨hV, hWn, hl0, hl1, hl2, hl3, hY, hPl, hPe⟩ := id hok
  have hA := hV
  have hf : ∀ k, 0 ≤ A 11 k ∧ A 11 k ≤ 900000 := (rOk_w hr (by decide)).1
  refine lv_aload_n F.1 F.2.1 dX10_tries_0 rfl (lv_at hl 0 rfl) ?_
  refine m_get F hin hw 13 (by decide) (by decide +kernel) rfl dX10_tries_1 ?_
  refine bi_iconst F dX10_tries_4 ?_
  refine lv_aload_n F.1 F.2.1 dX10_tries_5 rfl (lv_at hl 0 rfl) ?_
  refine m_get F hin hw 14 (by decide) (by decide +kernel) rfl dX10_tries_6 ?_
  refine bi_iconst F dX10_tries_9 ?_
  refine bi_bipush F dX10_tries_10 (by decide) ?_
  refine calls_G (As := [.ref (eA E 11), .int (iI 0), .ref (eA E 12), .int (iI 0), .int (iI 35)]) (rest := []) F (c_copies l E I A 11 0 12 0 35 35 35 rfl rfl (by decide) (by decide) (by decide) (by omega) (by omega) (by omega) (by omega)) (va_cwS 5 F.2.2.2.2 gX10_tries_X10_copies rfl rfl rfl (by decide +kernel) ⟨Nat.le_of_ble_eq_true rfl, Nat.le_of_ble_eq_true rfl⟩) hw rfl hl.1 rfl (Nat.le_of_ble_eq_true rfl) dX10_tries_12 ⟨Nat.zero_le _, Nat.zero_le _⟩ (fun H locs hw => ?_)
  generalize eA1 : stA A 12 (cpI (A 11) (A 12) 0 0 35) = A1 at hw
  have hw := m_norm hw 12 35 (by decide) rfl (A 11) (fun k hk => by rw [← eA1, stA_s]; unfold cpI; rw [if_pos (by omega)]; congr 1; omega)
  generalize eA2 : stA A1 12 (A 11) = A2 at hw
  refine bi_iconst F dX10_tries_15 ?_
  refine lv_istore_n (lv' := [(3, .int (iI 0)), (0, .ref (eO E 0)), (1, .int (iI n)), (2, .int (iI mm))]) F.1 F.2.1 dX10_tries_16 rfl hl (by decide) rfl (fun ls hl => ?_)
  have loop_17 : ∀ (nf : Nat) (k : Int) (A1 : Nat → Int → Int) (H : Heap) (locs : List Loc) (ls : Array Slot) (hk : 0 ≤ k ∧ k ≤ n) (hA1 : A1 = stA A 12 (mTry A mm k)) (hw : gH E A0 H0 s (mW E I A1) H locs) (hl : lv_has ls 4 [(3, .int (iI k)), (0, .ref (eO E 0)), (1, .int (iI n)), (2, .int (iI mm))]) (hnf : (n - k).toNat < nf), W p l e ({ frames := 4, cells := 0, slots := 0, locals := 96 } : Room) s m args below meth c H locs 0 0 Q (F0 m 17 ls []) := by
    intro nf
    induction nf with
    | zero =>
      intro k A1 H locs ls hk hA1 hw hl hnf
      exact absurd hnf (Nat.not_lt_zero _)
    | succ nf ih_17 =>
      intro k A1 H locs ls hk hA1 hw hl hnf
      have h1 : A1 1 = A 1 := by rw [hA1]; rfl
      have h12 : A1 12 = mTry A mm k := by rw [hA1]; rfl
      refine lv_iload_n F.1 F.2.1 dX10_tries_17 rfl (lv_at hl 0 rfl) ?_
      refine lv_iload_n F.1 F.2.1 dX10_tries_18 rfl (lv_at hl 2 rfl) ?_
      refine bi_icmp_ge (tgt := 37) F dX10_tries_19 (by decide) (by omega) (fun c_3 => ?_) (fun c_3 => ?_)
      · exact hret _ _ _ _ _ (mW_c rfl (by rw [hA1, show k = n by omega])) hw dX10_tries_37
      · refine lv_aload_n F.1 F.2.1 dX10_tries_22 rfl (lv_at hl 1 rfl) ?_
        refine lv_aload_n F.1 F.2.1 dX10_tries_23 rfl (lv_at hl 1 rfl) ?_
        refine m_get F hin hw 14 (by decide) (by decide +kernel) rfl dX10_tries_24 ?_
        refine lv_iload_n F.1 F.2.1 dX10_tries_27 rfl (lv_at hl 3 rfl) ?_
        refine call_G (As := [.ref (eA E 12), .int (iI mm)]) (rest := []) F (c_comes l E I A1 12 mm rfl (by decide) (Or.inr rfl) (by omega) (by rw [h1]; exact h0 (by omega)) (by rw [hA1]; exact mOk_st (by decide) hok) (by rw [h1, h12]; exact rOk_try hok hr (by omega) (by omega))) (cwV 2 F.2.2.2.2 gX10_tries_X10_comes rfl rfl rfl (by decide +kernel) ⟨Nat.le_of_ble_eq_true rfl, Nat.le_of_ble_eq_true rfl⟩) hw (m_recv hw) rfl hl.1 rfl (Nat.le_of_ble_eq_true rfl) dX10_tries_28 ⟨Nat.zero_le _, Nat.zero_le _⟩ (fun H locs hw => ?_)
        generalize eA4 : stA A1 12 (mPass (A1 3) (A1 12) (mIn (A1 2) (A1 12 0) (A1 1 0) mm) (A1 1 1) (A1 1 2)) = A4 at hw
        refine lv_iinc (v := iI (k + 1)) (lv' := [(3, .int (iI (k + 1))), (0, .ref (eO E 0)), (1, .int (iI n)), (2, .int (iI mm))]) F.1 F.2.1 dX10_tries_31 hl (k := 0) rfl (iI_add _ _).symm (by decide) rfl (fun ls hl => ?_)
        refine lv_goto (tgt := 17) F.1 F.2.1 dX10_tries_34 (by decide) ?_
        exact ih_17 (k + 1) A4 H locs ls (by omega) (by rw [← eA4, hA1, stA_2, mTry_s hk.1]; rfl) hw (lv_sub hl [0, 1, 2, 3] rfl) (by omega)
  exact loop_17 ((n - 0 : Int).toNat + 1) 0 A2 H locs ls (by omega) (by subst_vars; exact stA_2) hw (lv_sub hl [0, 1, 2, 3] rfl) (by omega)
set_option maxRecDepth 100000 in
set_option maxHeartbeats 4000000 in
theorem c_move (l : Launch) (E : Ev) (I : Nat → Int) (A : Nat → Int → Int) (q : Int) (v : Int) (hq : -2147483648 ≤ q ∧ q ≤ 2147483647) (hv : -2147483648 ≤ v ∧ v ≤ 2147483647) (h2 : 0 ≤ I 2 ∧ I 2 ≤ 20) (hok : mOk A) (hr : rOk (A 1 1) (A 1 2) (A 11) 500000) : MetF l yX10_move wsX10_move ({ frames := 2, cells := 0, slots := 0, locals := 46 } : Room) E [.ref (eO E 0), .int (iI q), .int (iI v)] (mW E I A) (mW E (mMoveI I A q v) (mMoveA I A q v)) (mMoveR A q v) := by
  have hin : ∀ w ∈ wsX100, w ∈ wsX10_move := fun w h => in_tail h
  refine met_F (cc := cX10_move) (nL := 3) (by decide) rfl (Nat.le_of_ble_eq_true rfl) ?_
  intro p e s m args below meth c Q H0 A0 H locs ls F hw hl hret
  have F : CallFix p m c cX10_move 3 s args wsX10_move RX10 := F
  have hl : lv_has ls 3 [(0, .ref (eO E 0)), (1, .int (iI q)), (2, .int (iI v))] := hl
  obtain ⟨hV, hWn, hl0, hl1, hl2, hl3, hY, hPl, hPe⟩ := id hok
  have hA := hV
  have hf : ∀ k, 0 ≤ A 11 k ∧ A 11 k ≤ 900000 := (rOk_w hr (by decide)).1
  refine lv_aload_n F.1 F.2.1 dX10_move_0 rfl (lv_at hl 0 rfl) ?_
  refine lv_iload_n F.1 F.2.1 dX10_move_1 rfl (lv_at hl 1 rfl) ?_
  refine call_P (As := [.int (iI q)]) (rest := []) F (c_isPerson l E I A q (by omega) (by omega)) (cwV 1 F.2.2.2.2 gX10_move_X10_isPerson rfl rfl rfl (by decide +kernel) ⟨Nat.le_of_ble_eq_true rfl, Nat.le_of_ble_eq_true rfl⟩) hw (m_recv hw) rfl hl.1 rfl (Nat.le_of_ble_eq_true rfl) dX10_move_2 ⟨Nat.zero_le _, Nat.zero_le _⟩ (fun q_1 H locs hw => ?_) (fun q_1 H locs hw => ?_)
  · refine bi_if_eq (tgt := 16) F dX10_move_5 (by decide) (by decide) (fun q => absurd q (by decide)) (fun _ => ?_)
    refine lv_aload_n F.1 F.2.1 dX10_move_8 rfl (lv_at hl 0 rfl) ?_
    refine lv_iload_n F.1 F.2.1 dX10_move_9 rfl (lv_at hl 2 rfl) ?_
    refine call_P (As := [.int (iI v)]) (rest := []) F (c_isVillage l E I A v (by omega) (by omega)) (cwV 1 F.2.2.2.2 gX10_move_X10_isVillage rfl rfl rfl (by decide +kernel) ⟨Nat.le_of_ble_eq_true rfl, Nat.le_of_ble_eq_true rfl⟩) hw (m_recv hw) rfl hl.1 rfl (Nat.le_of_ble_eq_true rfl) dX10_move_10 ⟨Nat.zero_le _, Nat.zero_le _⟩ (fun q_3 H locs hw => ?_) (fun q_3 H locs hw => ?_)
    · refine bi_if_ne (tgt := 19) F dX10_move_13 (by decide) (by decide) (fun _ => ?_) (fun q => absurd q (by decide))
      refine lv_aload_n F.1 F.2.1 dX10_move_19 rfl (lv_at hl 0 rfl) ?_
      refine call_G (As := []) (rest := []) F (c_notes l E I A  (by omega)) (cwV 0 F.2.2.2.2 gX10_move_X10_notes rfl rfl rfl (by decide +kernel) ⟨Nat.le_of_ble_eq_true rfl, Nat.le_of_ble_eq_true rfl⟩) hw (m_recv hw) rfl hl.1 rfl (Nat.le_of_ble_eq_true rfl) dX10_move_20 ⟨Nat.zero_le _, Nat.zero_le _⟩ (fun H locs hw => ?_)
      generalize eI5 : ndI I = I5 at hw
      generalize eA6 : ndA I A = A6 at hw
      refine lv_aload_n F.1 F.2.1 dX10_move_23 rfl (lv_at hl 0 rfl) ?_
      refine m_get F hin hw 13 (by decide) (by decide +kernel) rfl dX10_move_24 ?_
      refine bi_bipush F dX10_move_27 (by decide) ?_
      refine bi_iconst F dX10_move_29 ?_
      refine lv_iload_n F.1 F.2.1 dX10_move_30 rfl (lv_at hl 1 rfl) ?_
      refine bi_imul F dX10_move_31 ?_
      refine bi_iadd F dX10_move_32 ?_
      refine lv_iload_n F.1 F.2.1 dX10_move_33 rfl (lv_at hl 2 rfl) ?_
      refine m_st F hw 11 35 rfl (by decide) (by omega) dX10_move_34 (fun H locs hw => ?_)
      generalize eA7 : st2 A6 11 (13 + (2 * q)) v = A7 at hw
      refine lv_aload_n F.1 F.2.1 dX10_move_35 rfl (lv_at hl 0 rfl) ?_
      refine lv_aload_n F.1 F.2.1 dX10_move_36 rfl (lv_at hl 0 rfl) ?_
      refine m_get F hin hw 13 (by decide) (by decide +kernel) rfl dX10_move_37 ?_
      refine lv_iload_n F.1 F.2.1 dX10_move_40 rfl (lv_at hl 1 rfl) ?_
      have hrow : A7 11 = up1 (A 11) (13 + 2 * q) v := by subst_vars; rfl
      have h3 : A7 3 = A 3 := by subst_vars; rfl
      have hu : up1 (A 11) (13 + 2 * q) v (13 + 2 * q) = v := up1_s
      have hy1 := hY v (by omega)
      refine call_N (As := [.ref (eA E 11), .int (iI q)]) (rest := []) F (c_ageOf l E I5 A7 11 q rfl (by decide) (by omega) (by rw [hrow]; intro k; unfold up1; split; omega; exact hf k) (by rw [h3]; exact hV) (by rw [hrow, hu]; omega) (by rw [hrow, hu, h3]; omega)) (cwV 2 F.2.2.2.2 gX10_move_X10_ageOf rfl rfl rfl (by decide +kernel) ⟨Nat.le_of_ble_eq_true rfl, Nat.le_of_ble_eq_true rfl⟩) hw (m_recv hw) rfl hl.1 rfl (Nat.le_of_ble_eq_true rfl) dX10_move_41 ⟨Nat.zero_le _, Nat.zero_le _⟩ (fun H locs hw => ?_)
      exact hret _ _ _ _ _ _ (by unfold mMoveR; rw [if_pos (by omega), hrow, h3]) (mW_c (by unfold mMoveI; rw [if_pos (by omega)]; subst_vars; rfl) (by unfold mMoveA; rw [if_pos (by omega)]; subst_vars; rfl)) hw dX10_move_44
    · refine bi_if_ne (tgt := 19) F dX10_move_13 (by decide) (by decide) (fun q => absurd q (by decide)) (fun _ => ?_)
      refine bi_ldc F (-1000000001) (by decide +kernel) rfl dX10_move_16 ?_
      exact hret _ _ _ _ _ _ (by unfold mMoveR; rw [if_neg (by omega)]) (mW_c (by unfold mMoveI; rw [if_neg (by omega)]) (by unfold mMoveA; rw [if_neg (by omega)])) hw dX10_move_18
  · refine bi_if_eq (tgt := 16) F dX10_move_5 (by decide) (by decide) (fun _ => ?_) (fun q => absurd q (by decide))
    refine bi_ldc F (-1000000001) (by decide +kernel) rfl dX10_move_16 ?_
    exact hret _ _ _ _ _ _ (by unfold mMoveR; rw [if_neg (by omega)]) (mW_c (by unfold mMoveI; rw [if_neg (by omega)]) (by unfold mMoveA; rw [if_neg (by omega)])) hw dX10_move_18
set_option maxRecDepth 100000 in
set_option maxHeartbeats 4000000 in
theorem c_saw (l : Launch) (E : Ev) (I : Nat → Int) (A : Nat → Int → Int) (v : Int) (k : Int) (hv : -2147483648 ≤ v ∧ v ≤ 2147483647) (hk : -2147483648 ≤ k ∧ k ≤ 2147483647) (h2 : 0 ≤ I 2 ∧ I 2 ≤ 20) (hok : mOk A) (hr : rOk (A 1 1) (A 1 2) (A 11) 500000) : MetF l yX10_saw wsX10_saw ({ frames := 2, cells := 0, slots := 0, locals := 46 } : Room) E [.ref (eO E 0), .int (iI v), .int (iI k)] (mW E I A) (mW E (mSawI I A v k) (mSawA I A v k)) (mSawR A v k) := by
  have hin : ∀ w ∈ wsX100, w ∈ wsX10_saw := fun w h => in_tail h
  refine met_F (cc := cX10_saw) (nL := 3) (by decide) rfl (Nat.le_of_ble_eq_true rfl) ?_
  intro p e s m args below meth c Q H0 A0 H locs ls F hw hl hret
  have F : CallFix p m c cX10_saw 3 s args wsX10_saw RX10 := F
  have hl : lv_has ls 3 [(0, .ref (eO E 0)), (1, .int (iI v)), (2, .int (iI k))] := hl
  obtain ⟨hV, hWn, hl0, hl1, hl2, hl3, hY, hPl, hPe⟩ := id hok
  have hA := hV
  have hf : ∀ k, 0 ≤ A 11 k ∧ A 11 k ≤ 900000 := (rOk_w hr (by decide)).1
  refine lv_aload_n F.1 F.2.1 dX10_saw_0 rfl (lv_at hl 0 rfl) ?_
  refine lv_iload_n F.1 F.2.1 dX10_saw_1 rfl (lv_at hl 1 rfl) ?_
  refine call_P (As := [.int (iI v)]) (rest := []) F (c_isVillage l E I A v (by omega) (by omega)) (cwV 1 F.2.2.2.2 gX10_saw_X10_isVillage rfl rfl rfl (by decide +kernel) ⟨Nat.le_of_ble_eq_true rfl, Nat.le_of_ble_eq_true rfl⟩) hw (m_recv hw) rfl hl.1 rfl (Nat.le_of_ble_eq_true rfl) dX10_saw_2 ⟨Nat.zero_le _, Nat.zero_le _⟩ (fun q_1 H locs hw => ?_) (fun q_1 H locs hw => ?_)
  · refine bi_if_ne (tgt := 11) F dX10_saw_5 (by decide) (by decide) (fun _ => ?_) (fun q => absurd q (by decide))
    refine lv_iload_n F.1 F.2.1 dX10_saw_11 rfl (lv_at hl 2 rfl) ?_
    refine bi_iconst F dX10_saw_12 ?_
    refine bi_bipush F dX10_saw_13 (by decide) ?_
    refine calls_P0 (As := [.int (iI k), .int (iI 1), .int (iI 99)]) (rest := []) F (c_in l E k 1 99 (by omega) (by omega) (by omega)) (va_cwS 3 F.2.2.2.2 gX10_saw_X10_in rfl rfl rfl (by decide +kernel) ⟨Nat.le_of_ble_eq_true rfl, Nat.le_of_ble_eq_true rfl⟩) hw rfl hl.1 rfl (Nat.le_of_ble_eq_true rfl) dX10_saw_15 ⟨Nat.zero_le _, Nat.zero_le _⟩ (fun q_3 H locs hw => ?_) (fun q_3 H locs hw => ?_)
    · refine bi_if_ne (tgt := 24) F dX10_saw_18 (by decide) (by decide) (fun _ => ?_) (fun q => absurd q (by decide))
      refine lv_aload_n F.1 F.2.1 dX10_saw_24 rfl (lv_at hl 0 rfl) ?_
      refine call_G (As := []) (rest := []) F (c_notes l E I A  (by omega)) (cwV 0 F.2.2.2.2 gX10_saw_X10_notes rfl rfl rfl (by decide +kernel) ⟨Nat.le_of_ble_eq_true rfl, Nat.le_of_ble_eq_true rfl⟩) hw (m_recv hw) rfl hl.1 rfl (Nat.le_of_ble_eq_true rfl) dX10_saw_25 ⟨Nat.zero_le _, Nat.zero_le _⟩ (fun H locs hw => ?_)
      generalize eI5 : ndI I = I5 at hw
      generalize eA6 : ndA I A = A6 at hw
      refine lv_aload_n F.1 F.2.1 dX10_saw_28 rfl (lv_at hl 0 rfl) ?_
      refine m_get F hin hw 13 (by decide) (by decide +kernel) rfl dX10_saw_29 ?_
      refine bi_iconst F dX10_saw_32 ?_
      refine bi_iconst F dX10_saw_33 ?_
      refine lv_iload_n F.1 F.2.1 dX10_saw_34 rfl (lv_at hl 1 rfl) ?_
      refine bi_imul F dX10_saw_35 ?_
      refine bi_iadd F dX10_saw_36 ?_
      refine bi_iconst F dX10_saw_37 ?_
      refine bi_iadd F dX10_saw_38 ?_
      have hrow0 : A6 11 = A 11 := by subst_vars; rfl
      have hs0 := hf (1 + 3 * v + 1)
      have hs1 : A 11 (1 + 3 * v + 1) ≤ 500000 := (hr.1 _).2
      refine lv_dup2_11 F.1 F.2.1 dX10_saw_39 rfl rfl ?_
      refine m_ld F hw 11 35 rfl (by decide) (by omega) dX10_saw_40 ?_
      refine lv_iload_n F.1 F.2.1 dX10_saw_41 rfl (lv_at hl 2 rfl) ?_
      refine bi_iadd F dX10_saw_42 ?_
      refine m_st F hw 11 35 rfl (by decide) (by omega) dX10_saw_43 (fun H locs hw => ?_)
      generalize eA7 : st2 A6 11 (1 + (3 * v) + 1) (A6 11 (1 + (3 * v) + 1) + k) = A7 at hw
      refine lv_aload_n F.1 F.2.1 dX10_saw_44 rfl (lv_at hl 0 rfl) ?_
      refine lv_aload_n F.1 F.2.1 dX10_saw_45 rfl (lv_at hl 0 rfl) ?_
      refine m_get F hin hw 13 (by decide) (by decide +kernel) rfl dX10_saw_46 ?_
      refine lv_iload_n F.1 F.2.1 dX10_saw_49 rfl (lv_at hl 1 rfl) ?_
      have hrow : A7 11 = mSawF A v k := by subst_vars; rfl
      refine call_N (As := [.ref (eA E 11), .int (iI v)]) (rest := []) F (c_poleOf l E I5 A7 11 v rfl (by decide) (by omega) (by rw [hrow]; intro z; unfold mSawF up1; split; omega; exact hf z)) (cwV 2 F.2.2.2.2 gX10_saw_X10_poleOf rfl rfl rfl (by decide +kernel) ⟨Nat.le_of_ble_eq_true rfl, Nat.le_of_ble_eq_true rfl⟩) hw (m_recv hw) rfl hl.1 rfl (Nat.le_of_ble_eq_true rfl) dX10_saw_50 ⟨Nat.zero_le _, Nat.zero_le _⟩ (fun H locs hw => ?_)
      have f_8 := mPole_r (f := A7 11) (v := v) (by rw [hrow]; intro z; unfold mSawF up1; split; omega; exact hf z)
      exact hret _ _ _ _ _ _ (by unfold mSawR; rw [if_pos (by omega), if_pos (by omega), hrow]) (mW_c (by unfold mSawI; rw [if_pos (by omega), if_pos (by omega)]; subst_vars; rfl) (by unfold mSawA; rw [if_pos (by omega), if_pos (by omega)]; subst_vars; rfl)) hw dX10_saw_53
    · refine bi_if_ne (tgt := 24) F dX10_saw_18 (by decide) (by decide) (fun q => absurd q (by decide)) (fun _ => ?_)
      refine bi_ldc F (-1000000002) (by decide +kernel) rfl dX10_saw_21 ?_
      exact hret _ _ _ _ _ _ (by unfold mSawR; rw [if_pos (by omega), if_neg (by omega)]) (mW_c (by unfold mSawI; rw [if_pos (by omega), if_neg (by omega)]) (by unfold mSawA; rw [if_pos (by omega), if_neg (by omega)])) hw dX10_saw_23
  · refine bi_if_ne (tgt := 11) F dX10_saw_5 (by decide) (by decide) (fun q => absurd q (by decide)) (fun _ => ?_)
    refine bi_ldc F (-1000000001) (by decide +kernel) rfl dX10_saw_8 ?_
    exact hret _ _ _ _ _ _ (by unfold mSawR; rw [if_neg (by omega)]) (mW_c (by unfold mSawI; rw [if_neg (by omega)]) (by unfold mSawA; rw [if_neg (by omega)])) hw dX10_saw_10
set_option maxRecDepth 100000 in
set_option maxHeartbeats 4000000 in
theorem c_pay (l : Launch) (E : Ev) (I : Nat → Int) (A : Nat → Int → Int) (d : Int) (hd : -2147483648 ≤ d ∧ d ≤ 2147483647) (h2 : 0 ≤ I 2 ∧ I 2 ≤ 20) (hok : mOk A) (hr : rOk (A 1 1) (A 1 2) (A 11) 500000) : MetF l yX10_pay wsX10_pay ({ frames := 2, cells := 0, slots := 0, locals := 46 } : Room) E [.ref (eO E 0), .int (iI d)] (mW E I A) (mW E (mPayI I A d) (mPayA I A d)) (mPayR A d) := by
  have hin : ∀ w ∈ wsX100, w ∈ wsX10_pay := fun w h => in_tail h
  refine met_F (cc := cX10_pay) (nL := 3) (by decide) rfl (Nat.le_of_ble_eq_true rfl) ?_
  intro p e s m args below meth c Q H0 A0 H locs ls F hw hl hret
  have F : CallFix p m c cX10_pay 3 s args wsX10_pay RX10 := F
  have hl : lv_has ls 3 [(0, .ref (eO E 0)), (1, .int (iI d))] := hl
  obtain ⟨hV, hWn, hl0, hl1, hl2, hl3, hY, hPl, hPe⟩ := id hok
  have hA := hV
  have hf : ∀ k, 0 ≤ A 11 k ∧ A 11 k ≤ 900000 := (rOk_w hr (by decide)).1
  refine lv_aload_n F.1 F.2.1 dX10_pay_0 rfl (lv_at hl 0 rfl) ?_
  refine lv_iload_n F.1 F.2.1 dX10_pay_1 rfl (lv_at hl 1 rfl) ?_
  refine call_P (As := [.int (iI d)]) (rest := []) F (c_isDebt l E I A d (by omega) (by omega)) (cwV 1 F.2.2.2.2 gX10_pay_X10_isDebt rfl rfl rfl (by decide +kernel) ⟨Nat.le_of_ble_eq_true rfl, Nat.le_of_ble_eq_true rfl⟩) hw (m_recv hw) rfl hl.1 rfl (Nat.le_of_ble_eq_true rfl) dX10_pay_2 ⟨Nat.zero_le _, Nat.zero_le _⟩ (fun q_1 H locs hw => ?_) (fun q_1 H locs hw => ?_)
  · refine bi_if_ne (tgt := 11) F dX10_pay_5 (by decide) (by decide) (fun _ => ?_) (fun q => absurd q (by decide))
    have hp1 := hPl d (by omega)
    refine lv_aload_n F.1 F.2.1 dX10_pay_11 rfl (lv_at hl 0 rfl) ?_
    refine lv_aload_n F.1 F.2.1 dX10_pay_12 rfl (lv_at hl 0 rfl) ?_
    refine m_get F hin hw 13 (by decide) (by decide +kernel) rfl dX10_pay_13 ?_
    refine lv_iload_n F.1 F.2.1 dX10_pay_16 rfl (lv_at hl 1 rfl) ?_
    refine call_P (As := [.ref (eA E 11), .int (iI d)]) (rest := []) F (c_isDue l E I A 11 d rfl (by decide) (by omega) hf (by omega)) (cwV 2 F.2.2.2.2 gX10_pay_X10_isDue rfl rfl rfl (by decide +kernel) ⟨Nat.le_of_ble_eq_true rfl, Nat.le_of_ble_eq_true rfl⟩) hw (m_recv hw) rfl hl.1 rfl (Nat.le_of_ble_eq_true rfl) dX10_pay_17 ⟨Nat.zero_le _, Nat.zero_le _⟩ (fun q_3 H locs hw => ?_) (fun q_3 H locs hw => ?_)
    · refine bi_if_ne (tgt := 26) F dX10_pay_20 (by decide) (by decide) (fun _ => ?_) (fun q => absurd q (by decide))
      refine lv_aload_n F.1 F.2.1 dX10_pay_26 rfl (lv_at hl 0 rfl) ?_
      refine call_G (As := []) (rest := []) F (c_notes l E I A  (by omega)) (cwV 0 F.2.2.2.2 gX10_pay_X10_notes rfl rfl rfl (by decide +kernel) ⟨Nat.le_of_ble_eq_true rfl, Nat.le_of_ble_eq_true rfl⟩) hw (m_recv hw) rfl hl.1 rfl (Nat.le_of_ble_eq_true rfl) dX10_pay_27 ⟨Nat.zero_le _, Nat.zero_le _⟩ (fun H locs hw => ?_)
      generalize eI5 : ndI I = I5 at hw
      generalize eA6 : ndA I A = A6 at hw
      have hrow0 : A6 11 = A 11 := by subst_vars; rfl
      have h5 : A6 5 = A 5 := by subst_vars; rfl
      refine lv_aload_n F.1 F.2.1 dX10_pay_30 rfl (lv_at hl 0 rfl) ?_
      refine lv_aload_n F.1 F.2.1 dX10_pay_31 rfl (lv_at hl 0 rfl) ?_
      refine m_get F hin hw 13 (by decide) (by decide +kernel) rfl dX10_pay_32 ?_
      refine lv_iload_n F.1 F.2.1 dX10_pay_35 rfl (lv_at hl 1 rfl) ?_
      refine call_N (As := [.ref (eA E 11), .int (iI d)]) (rest := []) F (c_sinceOf l E I5 A6 11 d rfl (by decide) (by omega) (by rw [hrow0]; exact hf) (by rw [h5]; omega)) (cwV 2 F.2.2.2.2 gX10_pay_X10_sinceOf rfl rfl rfl (by decide +kernel) ⟨Nat.le_of_ble_eq_true rfl, Nat.le_of_ble_eq_true rfl⟩) hw (m_recv hw) rfl hl.1 rfl (Nat.le_of_ble_eq_true rfl) dX10_pay_36 ⟨Nat.zero_le _, Nat.zero_le _⟩ (fun H locs hw => ?_)
      have f_7 := mSince_r (P := A6 5) (f := A6 11) (d := d) (by rw [hrow0]; exact hf)
      refine lv_istore_n (lv' := [(2, .int (iI (mSince (A6 5) (A6 11) d))), (0, .ref (eO E 0)), (1, .int (iI d))]) F.1 F.2.1 dX10_pay_39 rfl hl (by decide) rfl (fun ls hl => ?_)
      refine lv_aload_n F.1 F.2.1 dX10_pay_40 rfl (lv_at hl 1 rfl) ?_
      refine m_get F hin hw 13 (by decide) (by decide +kernel) rfl dX10_pay_41 ?_
      refine bi_bipush F dX10_pay_44 (by decide) ?_
      refine bi_iconst F dX10_pay_46 ?_
      refine lv_iload_n F.1 F.2.1 dX10_pay_47 rfl (lv_at hl 2 rfl) ?_
      refine bi_imul F dX10_pay_48 ?_
      refine bi_iadd F dX10_pay_49 ?_
      refine bi_iconst F dX10_pay_50 ?_
      refine m_st F hw 11 35 rfl (by decide) (by omega) dX10_pay_51 (fun H locs hw => ?_)
      generalize eA8 : st2 A6 11 (25 + (2 * d)) 0 = A8 at hw
      refine lv_aload_n F.1 F.2.1 dX10_pay_52 rfl (lv_at hl 1 rfl) ?_
      refine m_get F hin hw 13 (by decide) (by decide +kernel) rfl dX10_pay_53 ?_
      refine bi_bipush F dX10_pay_56 (by decide) ?_
      refine bi_iconst F dX10_pay_58 ?_
      refine lv_iload_n F.1 F.2.1 dX10_pay_59 rfl (lv_at hl 2 rfl) ?_
      refine bi_imul F dX10_pay_60 ?_
      refine bi_iadd F dX10_pay_61 ?_
      refine bi_iconst F dX10_pay_62 ?_
      refine bi_iadd F dX10_pay_63 ?_
      refine bi_iconst F dX10_pay_64 ?_
      refine m_st F hw 11 35 rfl (by decide) (by omega) dX10_pay_65 (fun H locs hw => ?_)
      generalize eA9 : st2 A8 11 (25 + (2 * d) + 1) 0 = A9 at hw
      refine lv_iload_n F.1 F.2.1 dX10_pay_66 rfl (lv_at hl 0 rfl) ?_
      exact hret _ _ _ _ _ _ (by unfold mPayR; rw [if_pos (by omega), if_pos (by assumption), hrow0, h5]) (mW_c (by unfold mPayI; rw [if_pos (by omega), if_pos (by assumption)]; subst_vars; rfl) (by unfold mPayA; rw [if_pos (by omega), if_pos (by assumption)]; subst_vars; unfold st2; rw [stA_2]; rfl)) hw dX10_pay_67
    · refine bi_if_ne (tgt := 26) F dX10_pay_20 (by decide) (by decide) (fun q => absurd q (by decide)) (fun _ => ?_)
      refine bi_ldc F (-1000000003) (by decide +kernel) rfl dX10_pay_23 ?_
      exact hret _ _ _ _ _ _ (by unfold mPayR; rw [if_pos (by omega), if_neg (by assumption)]) (mW_c (by unfold mPayI; rw [if_pos (by omega), if_neg (by assumption)]) (by unfold mPayA; rw [if_pos (by omega), if_neg (by assumption)])) hw dX10_pay_25
  · refine bi_if_ne (tgt := 11) F dX10_pay_5 (by decide) (by decide) (fun q => absurd q (by decide)) (fun _ => ?_)
    refine bi_ldc F (-1000000001) (by decide +kernel) rfl dX10_pay_8 ?_
    exact hret _ _ _ _ _ _ (by unfold mPayR; rw [if_neg (by omega)]) (mW_c (by unfold mPayI; rw [if_neg (by omega)]) (by unfold mPayA; rw [if_neg (by omega)])) hw dX10_pay_10
