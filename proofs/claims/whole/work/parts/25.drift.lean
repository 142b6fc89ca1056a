set_option maxRecDepth 100000 in
set_option maxHeartbeats 4000000 in
theorem c_drift (l : Launch) (E : Ev) (I : Nat → Int) (A : Nat → Int → Int) (n : Int) (hn : -2147483648 ≤ n ∧ n ≤ 2147483647) (h2 : 0 ≤ I 2 ∧ I 2 ≤ 20) (hok : mOk A) (hr : rOk (A 1 1) (A 1 2) (A 11) 500000) : MetF l yX10_drift wsX10_drift ({ frames := 3, cells := 0, slots := 0, locals := 73 } : Room) E [.ref (eO E 0), .int (iI n)] (mW E I A) (mW E (mDriftI I A n) (mDriftA I A n)) (mDriftR I A n) := by
  have hin : ∀ w ∈ wsX100, w ∈ wsX10_drift := fun w h => in_tail h
  refine met_F (cc := cX10_drift) (nL := 5) (by decide) rfl (Nat.le_of_ble_eq_true rfl) ?_
  intro p e s m args below meth c Q H0 A0 H locs ls F hw hl hret
  have F : CallFix p m c cX10_drift 5 s args wsX10_drift RX10 := F
  have hl : lv_has ls 5 [(0, .ref (eO E 0)), (1, .int (iI n))] := hl
  obtain ⟨hV, hWn, hl0, hl1, hl2, hl3, hY, hPl, hPe⟩ := id hok
  have hA := hV
  have hf : ∀ k, 0 ≤ A 11 k ∧ A 11 k ≤ 900000 := (rOk_w hr (by decide)).1
  have hb0 := mBar_r A n
  refine lv_aload_n F.1 F.2.1 dX10_drift_0 rfl (lv_at hl 0 rfl) ?_
  refine lv_iload_n F.1 F.2.1 dX10_drift_1 rfl (lv_at hl 1 rfl) ?_
  refine call_N (As := [.int (iI n)]) (rest := []) F (c_barred l E I A n (by omega) hok hr) (cwV 1 F.2.2.2.2 gX10_drift_X10_barred rfl rfl rfl (by decide +kernel) ⟨Nat.le_of_ble_eq_true rfl, Nat.le_of_ble_eq_true rfl⟩) hw (m_recv hw) rfl hl.1 rfl (Nat.le_of_ble_eq_true rfl) dX10_drift_2 ⟨Nat.zero_le _, Nat.zero_le _⟩ (fun H locs hw => ?_)
  refine lv_istore_n (lv' := [(2, .int (iI (mBar A n))), (0, .ref (eO E 0)), (1, .int (iI n))]) F.1 F.2.1 dX10_drift_5 rfl hl (by decide) rfl (fun ls hl => ?_)
  refine lv_iload_n F.1 F.2.1 dX10_drift_6 rfl (lv_at hl 0 rfl) ?_
  refine bi_if_eq (tgt := 12) F dX10_drift_7 (by decide) (by omega) (fun c_1 => ?_) (fun c_1 => ?_)
  · have hb1 := mBar_0 (A := A) (n := n) (by omega)
    refine lv_aload_n F.1 F.2.1 dX10_drift_12 rfl (lv_at hl 1 rfl) ?_
    refine call_G (As := []) (rest := []) F (c_notes l E I A  (by omega)) (cwV 0 F.2.2.2.2 gX10_drift_X10_notes rfl rfl rfl (by decide +kernel) ⟨Nat.le_of_ble_eq_true rfl, Nat.le_of_ble_eq_true rfl⟩) hw (m_recv hw) rfl hl.1 rfl (Nat.le_of_ble_eq_true rfl) dX10_drift_13 ⟨Nat.zero_le _, Nat.zero_le _⟩ (fun H locs hw => ?_)
    generalize eI2 : ndI I = I2 at hw
    generalize eA3 : ndA I A = A3 at hw
    refine bi_iconst F dX10_drift_16 ?_
    refine lv_istore_n (lv' := [(3, .int (iI 0)), (2, .int (iI (mBar A n))), (0, .ref (eO E 0)), (1, .int (iI n))]) F.1 F.2.1 dX10_drift_17 rfl hl (by decide) rfl (fun ls hl => ?_)
    have loop_18 : ∀ (nf : Nat) (k : Int) (I1 : Nat → Int) (A1 : Nat → Int → Int) (H : Heap) (locs : List Loc) (ls : Array Slot) (hk : 0 ≤ k ∧ k ≤ n) (hI1 : I1 = st1 (ndI I) 3 (mDr (A 3) (A 1 1) (A 1 2) (I 3) (A 11) k.toNat).1) (hA1 : A1 = stA (ndA I A) 11 (mDr (A 3) (A 1 1) (A 1 2) (I 3) (A 11) k.toNat).2) (hw : gH E A0 H0 s (mW E I1 A1) H locs) (hl : lv_has ls 5 [(3, .int (iI k)), (2, .int (iI (mBar A n))), (0, .ref (eO E 0)), (1, .int (iI n))]) (hnf : (n - k).toNat < nf), W p l e ({ frames := 3, cells := 0, slots := 0, locals := 73 } : Room) s m args below meth c H locs 0 0 Q (F0 m 18 ls []) := by
      intro nf
      induction nf with
      | zero =>
        intro k I1 A1 H locs ls hk hI1 hA1 hw hl hnf
        exact absurd hnf (Nat.not_lt_zero _)
      | succ nf ih_18 =>
        intro k I1 A1 H locs ls hk hI1 hA1 hw hl hnf
        have h1 : A1 1 = A 1 := by rw [hA1]; rfl
        have h3 : A1 3 = A 3 := by rw [hA1]; rfl
        have h11 : A1 11 = (mDr (A 3) (A 1 1) (A 1 2) (I 3) (A 11) k.toNat).2 := by rw [hA1]; rfl
        have hi3 : I1 3 = (mDr (A 3) (A 1 1) (A 1 2) (I 3) (A 11) k.toNat).1 := by rw [hI1]; exact st1_s
        have hD : mDr (A 3) (A 1 1) (A 1 2) (I 3) (A 11) k.toNat = (I1 3, A1 11) := by rw [hi3, h11]
        have hrk : rOk (A 1 1) (A 1 2) (mDr (A 3) (A 1 1) (A 1 2) (I 3) (A 11) k.toNat).2 (500000 + 41 * k) := rOk_w (rOk_dr k.toNat hl1.2 hV (by omega) hr) (by omega)
        refine lv_iload_n F.1 F.2.1 dX10_drift_18 rfl (lv_at hl 0 rfl) ?_
        refine lv_iload_n F.1 F.2.1 dX10_drift_19 rfl (lv_at hl 3 rfl) ?_
        refine bi_icmp_ge (tgt := 89) F dX10_drift_20 (by decide) (by omega) (fun c_4 => ?_) (fun c_4 => ?_)
        · refine lv_aload_n F.1 F.2.1 dX10_drift_89 rfl (lv_at hl 2 rfl) ?_
          refine m_get F hin hw 13 (by decide) (by decide +kernel) rfl dX10_drift_90 ?_
          refine bi_iconst F dX10_drift_93 ?_
          refine m_ld F hw 11 35 rfl (by decide) (by omega) dX10_drift_94 ?_
          exact hret _ _ _ _ _ _ (by unfold mDriftR mDrf; rw [if_pos (by omega), h11, show k = n by omega]) (mW_c (by unfold mDriftI mDrf; rw [if_pos (by omega), hI1, show k = n by omega]) (by unfold mDriftA mDrf; rw [if_pos (by omega), hA1, show k = n by omega])) hw dX10_drift_95
        · refine lv_aload_n F.1 F.2.1 dX10_drift_23 rfl (lv_at hl 2 rfl) ?_
          refine bi_bipush F dX10_drift_24 (by decide) ?_
          refine call_F (As := [.int (iI 41)]) (rest := []) F (c_draw l E I1 A1 41 (by omega)) (cwV 1 F.2.2.2.2 gX10_drift_X10_draw rfl rfl rfl (by decide +kernel) ⟨Nat.le_of_ble_eq_true rfl, Nat.le_of_ble_eq_true rfl⟩) hw (m_recv hw) rfl hl.1 rfl (Nat.le_of_ble_eq_true rfl) dX10_drift_26 ⟨Nat.zero_le _, Nat.zero_le _⟩ (fun H locs hw => ?_)
          generalize eI5 : st1 I1 3 (mNx (I1 3)) = I5 at hw
          have hx0 := mNx_r (I1 3)
          have hx41 : 0 ≤ mNx (I1 3) / 65536 % 41 ∧ mNx (I1 3) / 65536 % 41 ≤ 40 := by omega
          refine lv_istore (lv' := [(4, .int (iI (mNx (I1 3) / 65536 % 41))), (3, .int (iI k)), (2, .int (iI (mBar A n))), (0, .ref (eO E 0)), (1, .int (iI n))]) F.1 F.2.1 dX10_drift_29 hl (by decide) rfl (fun ls hl => ?_)
          refine lv_aload_n F.1 F.2.1 dX10_drift_31 rfl (lv_at hl 3 rfl) ?_
          refine m_get F hin hw 3 (by decide) (by decide +kernel) rfl dX10_drift_32 ?_
          refine bi_iconst F dX10_drift_35 ?_
          refine m_ld F hw 1 4 rfl (by decide) (by omega) dX10_drift_36 ?_
          have f_6 := congrFun h1 (1)
          refine bi_if_le (tgt := 73) F dX10_drift_37 (by decide) (by omega) (fun c_7 => ?_) (fun c_7 => ?_)
          · try have eA7x := eA1
            refine lv_aload_n F.1 F.2.1 dX10_drift_73 rfl (lv_at hl 3 rfl) ?_
            refine lv_aload_n F.1 F.2.1 dX10_drift_74 rfl (lv_at hl 3 rfl) ?_
            refine m_get F hin hw 13 (by decide) (by decide +kernel) rfl dX10_drift_75 ?_
            refine lv_iload F.1 F.2.1 dX10_drift_78 (lv_at hl 0 rfl) ?_
            have hokp : mOk A1 := by first | (rw [hA1]; exact mOk_st (by decide) (mOk_st (by decide) hok)) | (rw [← eA1, hA1]; exact mOk_st (by decide) (mOk_st (by decide) (mOk_st (by decide) hok)))
            have hrp : rOk (A1 1 1) (A1 1 2) (A1 11) 900000 := by first | (rw [h1, h11]; exact rOk_w hrk (by omega)) | (rw [← eA1, st2_a, st2_n (show (1 : Nat) ≠ 11 by decide), h1, h11]; exact rOk_w (rOk_up1 hrk (by omega)) (by omega))
            refine call_G (As := [.ref (eA E 11), .int (iI (mNx (I1 3) / 65536 % 41))]) (rest := []) F (c_passes l E I5 A1 11 (mNx (I1 3) / 65536 % 41) rfl (by decide) (Or.inl rfl) (by omega) (hokp) (hrp)) (cwV 2 F.2.2.2.2 gX10_drift_X10_passes rfl rfl rfl (by decide +kernel) ⟨Nat.le_of_ble_eq_true rfl, Nat.le_of_ble_eq_true rfl⟩) hw (m_recv hw) rfl hl.1 rfl (Nat.le_of_ble_eq_true rfl) dX10_drift_80 ⟨Nat.zero_le _, Nat.zero_le _⟩ (fun H locs hw => ?_)
            generalize eA8 : stA A1 11 (mPass (A1 3) (A1 11) (mNx (I1 3) / 65536 % 41) (A1 1 1) (A1 1 2)) = A8 at hw
            refine lv_iinc (v := iI (k + 1)) (lv' := [(3, .int (iI (k + 1))), (4, .int (iI (mNx (I1 3) / 65536 % 41))), (2, .int (iI (mBar A n))), (0, .ref (eO E 0)), (1, .int (iI n))]) F.1 F.2.1 dX10_drift_83 hl (k := 1) rfl (iI_add _ _).symm (by decide) rfl (fun ls hl => ?_)
            refine lv_goto (tgt := 18) F.1 F.2.1 dX10_drift_86 (by decide) ?_
            have hds : mDrS (A 3) (A 1 1) (A 1 2) (I1 3, A1 11) = (I5 3, A8 11) := by first | (rw [mDrS_a (by omega)]; exact Prod.ext (show _ = _ by rw [← eI5, st1_s]) (show _ = _ by rw [← eA8, stA_s, h1, h3])) | (rw [mDrS_b (by omega) (by omega)]; exact Prod.ext (show _ = _ by rw [← eI5, st1_s, hi2]) (show _ = _ by rw [← eA8, stA_s, h1, h3])) | (rw [mDrS_c (by omega) (by omega)]; exact Prod.ext (show _ = _ by rw [← eI5, st1_s, hi3b]) (show _ = _ by rw [← eA8, stA_s, ← eA7x, st2_a, st2_n (show (1 : Nat) ≠ 11 by decide), st2_n (show (3 : Nat) ≠ 11 by decide), h1, h3, hm3]))
            exact ih_18 (k + 1) I5 A8 H locs ls (by omega) (by rw [mDr_s hk.1, hD, hds]; show I5 = st1 (ndI I) 3 (I5 3); subst_vars; simp only [st1_2, st1_s]) (by rw [mDr_s hk.1, hD, hds]; show A8 = stA (ndA I A) 11 (A8 11); rw [← eA8, stA_s]; first | exact stA_eq (fun i hi => by rw [hA1]; exact stA_n hi) | exact stA_eq (fun i hi => by rw [← eA7x, st2_n hi, hA1]; exact stA_n hi)) hw (lv_sub hl [0, 2, 3, 4] rfl) (by omega)
          · refine lv_aload_n F.1 F.2.1 dX10_drift_40 rfl (lv_at hl 3 rfl) ?_
            refine bi_iconst F dX10_drift_41 ?_
            have hi2 : I5 3 = mNx (I1 3) := by rw [← eI5]; exact st1_s
            have hm2 : mNx (I5 3) = mNx (mNx (I1 3)) := by rw [hi2]
            have hx2 := mNx_r (I5 3)
            refine call_F (As := [.int (iI 4)]) (rest := []) F (c_draw l E I5 A1 4 (by omega)) (cwV 1 F.2.2.2.2 gX10_drift_X10_draw rfl rfl rfl (by decide +kernel) ⟨Nat.le_of_ble_eq_true rfl, Nat.le_of_ble_eq_true rfl⟩) hw (m_recv hw) rfl hl.1 rfl (Nat.le_of_ble_eq_true rfl) dX10_drift_42 ⟨Nat.zero_le _, Nat.zero_le _⟩ (fun H locs hw => ?_)
            generalize eI9 : st1 I5 3 (mNx (I5 3)) = I9 at hw
            refine bi_if_ne (tgt := 73) F dX10_drift_45 (by decide) (by omega) (fun c_10 => ?_) (fun c_10 => ?_)
            · try have eA7x := eA1
              refine lv_aload_n F.1 F.2.1 dX10_drift_73 rfl (lv_at hl 3 rfl) ?_
              refine lv_aload_n F.1 F.2.1 dX10_drift_74 rfl (lv_at hl 3 rfl) ?_
              refine m_get F hin hw 13 (by decide) (by decide +kernel) rfl dX10_drift_75 ?_
              refine lv_iload F.1 F.2.1 dX10_drift_78 (lv_at hl 0 rfl) ?_
              have hokp : mOk A1 := by first | (rw [hA1]; exact mOk_st (by decide) (mOk_st (by decide) hok)) | (rw [← eA1, hA1]; exact mOk_st (by decide) (mOk_st (by decide) (mOk_st (by decide) hok)))
              have hrp : rOk (A1 1 1) (A1 1 2) (A1 11) 900000 := by first | (rw [h1, h11]; exact rOk_w hrk (by omega)) | (rw [← eA1, st2_a, st2_n (show (1 : Nat) ≠ 11 by decide), h1, h11]; exact rOk_w (rOk_up1 hrk (by omega)) (by omega))
              refine call_G (As := [.ref (eA E 11), .int (iI (mNx (I1 3) / 65536 % 41))]) (rest := []) F (c_passes l E I9 A1 11 (mNx (I1 3) / 65536 % 41) rfl (by decide) (Or.inl rfl) (by omega) (hokp) (hrp)) (cwV 2 F.2.2.2.2 gX10_drift_X10_passes rfl rfl rfl (by decide +kernel) ⟨Nat.le_of_ble_eq_true rfl, Nat.le_of_ble_eq_true rfl⟩) hw (m_recv hw) rfl hl.1 rfl (Nat.le_of_ble_eq_true rfl) dX10_drift_80 ⟨Nat.zero_le _, Nat.zero_le _⟩ (fun H locs hw => ?_)
              generalize eA11 : stA A1 11 (mPass (A1 3) (A1 11) (mNx (I1 3) / 65536 % 41) (A1 1 1) (A1 1 2)) = A11 at hw
              refine lv_iinc (v := iI (k + 1)) (lv' := [(3, .int (iI (k + 1))), (4, .int (iI (mNx (I1 3) / 65536 % 41))), (2, .int (iI (mBar A n))), (0, .ref (eO E 0)), (1, .int (iI n))]) F.1 F.2.1 dX10_drift_83 hl (k := 1) rfl (iI_add _ _).symm (by decide) rfl (fun ls hl => ?_)
              refine lv_goto (tgt := 18) F.1 F.2.1 dX10_drift_86 (by decide) ?_
              have hds : mDrS (A 3) (A 1 1) (A 1 2) (I1 3, A1 11) = (I9 3, A11 11) := by first | (rw [mDrS_a (by omega)]; exact Prod.ext (show _ = _ by rw [← eI9, st1_s]) (show _ = _ by rw [← eA11, stA_s, h1, h3])) | (rw [mDrS_b (by omega) (by omega)]; exact Prod.ext (show _ = _ by rw [← eI9, st1_s, hi2]) (show _ = _ by rw [← eA11, stA_s, h1, h3])) | (rw [mDrS_c (by omega) (by omega)]; exact Prod.ext (show _ = _ by rw [← eI9, st1_s, hi3b]) (show _ = _ by rw [← eA11, stA_s, ← eA7x, st2_a, st2_n (show (1 : Nat) ≠ 11 by decide), st2_n (show (3 : Nat) ≠ 11 by decide), h1, h3, hm3]))
              exact ih_18 (k + 1) I9 A11 H locs ls (by omega) (by rw [mDr_s hk.1, hD, hds]; show I9 = st1 (ndI I) 3 (I9 3); subst_vars; simp only [st1_2, st1_s]) (by rw [mDr_s hk.1, hD, hds]; show A11 = stA (ndA I A) 11 (A11 11); rw [← eA11, stA_s]; first | exact stA_eq (fun i hi => by rw [hA1]; exact stA_n hi) | exact stA_eq (fun i hi => by rw [← eA7x, st2_n hi, hA1]; exact stA_n hi)) hw (lv_sub hl [0, 2, 3, 4] rfl) (by omega)
            · refine lv_aload_n F.1 F.2.1 dX10_drift_48 rfl (lv_at hl 3 rfl) ?_
              refine m_get F hin hw 13 (by decide) (by decide +kernel) rfl dX10_drift_49 ?_
              refine bi_iconst F dX10_drift_52 ?_
              refine bi_iconst F dX10_drift_53 ?_
              refine lv_aload_n F.1 F.2.1 dX10_drift_54 rfl (lv_at hl 3 rfl) ?_
              refine lv_aload_n F.1 F.2.1 dX10_drift_55 rfl (lv_at hl 3 rfl) ?_
              refine m_get F hin hw 3 (by decide) (by decide +kernel) rfl dX10_drift_56 ?_
              refine bi_iconst F dX10_drift_59 ?_
              refine m_ld F hw 1 4 rfl (by decide) (by omega) dX10_drift_60 ?_
              have f_12 := congrFun h1 (1)
              have hi3b : I9 3 = mNx (mNx (I1 3)) := by rw [← eI9, st1_s, hi2]
              have hm3 : mNx (I9 3) = mNx (mNx (mNx (I1 3))) := by rw [hi3b]
              have hx3 := mNx_r (I9 3)
              have hnv1 : 0 < A1 1 1 ∧ A1 1 1 ≤ 4 := by omega
              have e1 := Int.emod_nonneg (mNx (I9 3) / 65536) (show A1 1 1 ≠ 0 by omega)
              have e2 := Int.emod_lt_of_pos (mNx (I9 3) / 65536) (show 0 < A1 1 1 by omega)
              have e2b := Int.emod_lt_of_pos (mNx (I9 3) / 65536) (show 0 < A 1 1 by omega)
              refine call_F (As := [.int (iI (A1 1 1))]) (rest := [.int (iI 3), .int (iI 1), .ref (eA E 11)]) F (c_draw l E I9 A1 (A1 1 1) (by omega)) (cwV 1 F.2.2.2.2 gX10_drift_X10_draw rfl rfl rfl (by decide +kernel) ⟨Nat.le_of_ble_eq_true rfl, Nat.le_of_ble_eq_true rfl⟩) hw (m_recv hw) rfl hl.1 rfl (Nat.le_of_ble_eq_true rfl) dX10_drift_61 ⟨Nat.zero_le _, Nat.zero_le _⟩ (fun H locs hw => ?_)
              generalize eI13 : st1 I9 3 (mNx (I9 3)) = I13 at hw
              refine bi_imul F dX10_drift_64 ?_
              refine bi_iadd F dX10_drift_65 ?_
              refine bi_iconst F dX10_drift_66 ?_
              refine bi_iadd F dX10_drift_67 ?_
              refine lv_dup2_11 F.1 F.2.1 dX10_drift_68 rfl rfl ?_
              refine m_ld F hw 11 35 rfl (by decide) (by omega) dX10_drift_69 ?_
              refine bi_iconst F dX10_drift_70 ?_
              refine bi_iadd F dX10_drift_71 ?_
              refine m_st F hw 11 35 rfl (by decide) (by omega) dX10_drift_72 (fun H locs hw => ?_)
              generalize eA14 : st2 A1 11 (1 + (3 * (mNx (I9 3) / 65536 % (A1 1 1))) + 1) (A1 11 (1 + (3 * (mNx (I9 3) / 65536 % (A1 1 1))) + 1) + 1) = A14 at hw
              try have eA7x := eA14
              refine lv_aload_n F.1 F.2.1 dX10_drift_73 rfl (lv_at hl 3 rfl) ?_
              refine lv_aload_n F.1 F.2.1 dX10_drift_74 rfl (lv_at hl 3 rfl) ?_
              refine m_get F hin hw 13 (by decide) (by decide +kernel) rfl dX10_drift_75 ?_
              refine lv_iload F.1 F.2.1 dX10_drift_78 (lv_at hl 0 rfl) ?_
              have hokp : mOk A14 := by first | (rw [hA1]; exact mOk_st (by decide) (mOk_st (by decide) hok)) | (rw [← eA14, hA1]; exact mOk_st (by decide) (mOk_st (by decide) (mOk_st (by decide) hok)))
              have hrp : rOk (A14 1 1) (A14 1 2) (A14 11) 900000 := by first | (rw [h1, h11]; exact rOk_w hrk (by omega)) | (rw [← eA14, st2_a, st2_n (show (1 : Nat) ≠ 11 by decide), h1, h11]; exact rOk_w (rOk_up1 hrk (by omega)) (by omega))
              refine call_G (As := [.ref (eA E 11), .int (iI (mNx (I1 3) / 65536 % 41))]) (rest := []) F (c_passes l E I13 A14 11 (mNx (I1 3) / 65536 % 41) rfl (by decide) (Or.inl rfl) (by omega) (hokp) (hrp)) (cwV 2 F.2.2.2.2 gX10_drift_X10_passes rfl rfl rfl (by decide +kernel) ⟨Nat.le_of_ble_eq_true rfl, Nat.le_of_ble_eq_true rfl⟩) hw (m_recv hw) rfl hl.1 rfl (Nat.le_of_ble_eq_true rfl) dX10_drift_80 ⟨Nat.zero_le _, Nat.zero_le _⟩ (fun H locs hw => ?_)
              generalize eA15 : stA A14 11 (mPass (A14 3) (A14 11) (mNx (I1 3) / 65536 % 41) (A14 1 1) (A14 1 2)) = A15 at hw
              refine lv_iinc (v := iI (k + 1)) (lv' := [(3, .int (iI (k + 1))), (4, .int (iI (mNx (I1 3) / 65536 % 41))), (2, .int (iI (mBar A n))), (0, .ref (eO E 0)), (1, .int (iI n))]) F.1 F.2.1 dX10_drift_83 hl (k := 1) rfl (iI_add _ _).symm (by decide) rfl (fun ls hl => ?_)
              refine lv_goto (tgt := 18) F.1 F.2.1 dX10_drift_86 (by decide) ?_
              have hds : mDrS (A 3) (A 1 1) (A 1 2) (I1 3, A1 11) = (I13 3, A15 11) := by first | (rw [mDrS_a (by omega)]; exact Prod.ext (show _ = _ by rw [← eI13, st1_s]) (show _ = _ by rw [← eA15, stA_s, h1, h3])) | (rw [mDrS_b (by omega) (by omega)]; exact Prod.ext (show _ = _ by rw [← eI13, st1_s, hi2]) (show _ = _ by rw [← eA15, stA_s, h1, h3])) | (rw [mDrS_c (by omega) (by omega)]; exact Prod.ext (show _ = _ by rw [← eI13, st1_s, hi3b]) (show _ = _ by rw [← eA15, stA_s, ← eA7x, st2_a, st2_n (show (1 : Nat) ≠ 11 by decide), st2_n (show (3 : Nat) ≠ 11 by decide), h1, h3, hm3]))
              exact ih_18 (k + 1) I13 A15 H locs ls (by omega) (by rw [mDr_s hk.1, hD, hds]; show I13 = st1 (ndI I) 3 (I13 3); subst_vars; simp only [st1_2, st1_s]) (by rw [mDr_s hk.1, hD, hds]; show A15 = stA (ndA I A) 11 (A15 11); rw [← eA15, stA_s]; first | exact stA_eq (fun i hi => by rw [hA1]; exact stA_n hi) | exact stA_eq (fun i hi => by rw [← eA7x, st2_n hi, hA1]; exact stA_n hi)) hw (lv_sub hl [0, 2, 3, 4] rfl) (by omega)
    exact loop_18 ((n - 0 : Int).toNat + 1) 0 I2 A3 H locs ls (by omega) (by rw [← eI2]; exact (st1_id (I := ndI I) (k := 3)).symm) (by rw [← eA3]; exact stA_id.symm) hw (lv_sub hl [0, 1, 2, 3] rfl) (by omega)
  · refine lv_iload_n F.1 F.2.1 dX10_drift_10 rfl (lv_at hl 0 rfl) ?_
    exact hret _ _ _ _ _ _ (by unfold mDriftR; rw [if_neg (by omega)]) (mW_c (by unfold mDriftI; rw [if_neg (by omega)]) (by unfold mDriftA; rw [if_neg (by omega)])) hw dX10_drift_11
