set_option maxRecDepth 100000 in
set_option maxHeartbeats 4000000 in
theorem y_readWinter (l : Launch) (E : Ev) (I : Nat → Int) (A : Nat → Int → Int) (L : Nat → Int64) (f k a c5 c6 c7 c8 : Int) (hT : 0 ≤ I 3 ∧ I 3 ≤ 240) (hl0 : ∀ k, 0 ≤ A 0 k ∧ A 0 k ≤ 255) (hff0 : -1 ≤ f ∧ f ≤ 240) (hkk : 0 ≤ k ∧ k ≤ 3) (haa : 0 ≤ a ∧ a ≤ 240) (hk0 : k = 0) (ha2 : a < I 3) (hc5 : 0 ≤ c5 ∧ c5 ≤ 20) : MetG l yX4_readWinter wsX4_readWinter ({ frames := 2, cells := 0, slots := 0, locals := 47 } : Room) E [.ref (eO E 1)] (xW E (jX I f k a c5 c6 c7 c8) A L) (xW E (jX I ((cWinU (A 0) (I 3) ((f, k, a), c5, c6, c7, c8, A)).1.1) ((cWinU (A 0) (I 3) ((f, k, a), c5, c6, c7, c8, A)).1.2.1) ((cWinU (A 0) (I 3) ((f, k, a), c5, c6, c7, c8, A)).1.2.2) ((cWinU (A 0) (I 3) ((f, k, a), c5, c6, c7, c8, A)).2.1) ((cWinU (A 0) (I 3) ((f, k, a), c5, c6, c7, c8, A)).2.2.1) ((cWinU (A 0) (I 3) ((f, k, a), c5, c6, c7, c8, A)).2.2.2.1) ((cWinU (A 0) (I 3) ((f, k, a), c5, c6, c7, c8, A)).2.2.2.2.1)) ((cWinU (A 0) (I 3) ((f, k, a), c5, c6, c7, c8, A)).2.2.2.2.2) L) := by
  have hin4 : ∀ w ∈ wsX40, w ∈ wsX4_readWinter := by decide +kernel
  have hin7 : ∀ w ∈ wsX70, w ∈ wsX4_readWinter := by decide +kernel
  refine met_G (cc := cX4_readWinter) (nL := 3) (by decide) rfl (Nat.le_of_ble_eq_true rfl) ?_
  intro p e s m args below meth c Q H0 A0 H locs ls F hw hl hret
  have F : CallFix p m c cX4_readWinter 3 s args wsX4_readWinter RX4 := F
  have hl : lv_has ls 3 [(0, .ref (eO E 1))] := hl
  refine lv_aload_n F.1 F.2.1 dX4_readWinter_0 rfl (lv_at hl 0 rfl) ?_
  refine lv_dup F.1 F.2.1 dX4_readWinter_1 rfl ?_
  refine x_get (v := .int (iI a)) F hin4 hw 1 4 rfl rfl 5 (by decide) (by decide +kernel) rfl rfl dX4_readWinter_2 ?_
  refine bi_iconst F dX4_readWinter_5 ?_
  refine bi_iadd F dX4_readWinter_6 ?_
  refine x_put (I2 := jX I f k (a + 1) c5 c6 c7 c8) F hin4 tyX4 tyX4_ok nmX4 hw 1 4 rfl rfl 5 (by decide) (by decide +kernel) rfl rfl (by decide +kernel) (Nat.le_of_ble_eq_true rfl) rfl (by decide) dX4_readWinter_7 (fun H locs hw => ?_)
  refine bi_iconst F dX4_readWinter_10 ?_
  refine lv_istore_n (lv' := [(1, .int (iI 0)), (0, .ref (eO E 1))]) F.1 F.2.1 dX4_readWinter_11 rfl hl (by decide) rfl (fun ls hl => ?_)
  have loop_12 : ∀ (nf : Nat) (i : Int) (d5 : Int) (a1 : Int) (f1 : Int) (k1 : Int) (A1 : Nat → Int → Int) (H : Heap) (locs : List Loc) (ls : Array Slot) (hi1 : 0 ≤ i ∧ i < 20) (hk1 : k1 = 0) (hf1 : -1 ≤ f1 ∧ f1 ≤ 240) (ha1 : 0 ≤ a1 ∧ a1 ≤ 240) (hgA : ∃ g, A1 = stA A 1 g ∧ cWin (A 0) (I 3) (20 - i).toNat i (f1, k1, a1) d5 g = cWin (A 0) (I 3) 20 0 (f, k, a + 1) c5 (A 1)) (hw : gH E A0 H0 s (xW E (jX I f1 k1 a1 d5 c6 c7 c8) A1 L) H locs) (hl : lv_has ls 3 [(1, .int (iI i)), (0, .ref (eO E 1))]) (hnf : (20 - i).toNat < nf), W p l e ({ frames := 2, cells := 0, slots := 0, locals := 47 } : Room) s m args below meth c H locs 0 0 Q (F0 m 12 ls []) := by
    intro nf
    induction nf with
    | zero =>
      intro i d5 a1 f1 k1 A1 H locs ls hi1 hk1 hf1 ha1 hgA hw hl hnf
      exact absurd hnf (Nat.not_lt_zero _)
    | succ nf ih_12 =>
      intro i d5 a1 f1 k1 A1 H locs ls hi1 hk1 hf1 ha1 hgA hw hl hnf
      obtain ⟨g, rfl, hcw⟩ := hgA
      have hst := hcw.symm.trans (cWin_s hi1)
      refine lv_iload_n F.1 F.2.1 dX4_readWinter_12 rfl (lv_at hl 0 rfl) ?_
      refine bi_bipush F dX4_readWinter_13 (by decide) ?_
      refine bi_icmp_ge (tgt := 88) F dX4_readWinter_15 (by decide) (by omega) (fun c_1 => ?_) (fun c_1 => ?_)
      · exfalso; omega
      refine lv_aload_n F.1 F.2.1 dX4_readWinter_18 rfl (lv_at hl 1 rfl) ?_
      refine bi_iconst F dX4_readWinter_19 ?_
      refine bi_bipush F dX4_readWinter_20 (by decide) ?_
      refine call_F (As := [.int (iI 0), .int (iI 40)]) (rest := []) F (y_readNumber l E I (stA A 1 g) L f1 k1 a1 d5 c6 c7 c8 0 40 (by omega) (hl0) (by omega) (by omega) (by omega) (by omega) (by omega)) (cwV 2 F.2.2.2.2 gX4_readWinter_X4_readNumber rfl rfl rfl (by decide +kernel) ⟨(Nat.le_of_ble_eq_true rfl), (Nat.le_of_ble_eq_true rfl)⟩) hw (x_recv hw 1 4 rfl rfl) rfl hl.1 rfl (Nat.le_of_ble_eq_true rfl) dX4_readWinter_22 ⟨Nat.zero_le _, Nat.zero_le _⟩ (fun H locs hw => ?_)
      generalize ev2 : cNv ((stA A 1 g) 0) (I 3) (f1, k1, a1) = v2
      have fvv2 : 0 ≤ v2 ∧ v2 ≤ 999 := by rw [← ev2]; exact pNumV_r
      generalize ef_3 : ((cNum ((stA A 1 g) 0) (I 3) 0 40 (f1, k1, a1)).1) = f_3 at hw
      generalize ek_4 : ((cNum ((stA A 1 g) 0) (I 3) 0 40 (f1, k1, a1)).2.1) = k_4 at hw
      generalize ea_5 : ((cNum ((stA A 1 g) 0) (I 3) 0 40 (f1, k1, a1)).2.2) = a_5 at hw
      obtain ⟨g_61, g_62, g_63⟩ := cGd_num (T := (stA A 1 g) 0) (n := I 3) (lo := 0) (hi := 40) (s := (f1, k1, a1)) hT ⟨by show -1 ≤ f1 ∧ f1 ≤ 240; omega, by show 0 ≤ k1 ∧ k1 ≤ 3; omega, by show 0 ≤ a1 ∧ a1 ≤ 240; omega⟩
      rw [ef_3] at g_61
      rw [ek_4] at g_62
      rw [ea_5] at g_63
      have hnum : cNum (A 0) (I 3) 0 40 (f1, k1, a1) = (f_3, k_4, a_5) := by subst_vars; rfl
      have hval : cNv (A 0) (I 3) (f1, k1, a1) = v2 := ev2
      rw [hnum, hval] at hst
      refine lv_istore_n (lv' := [(2, .int (iI v2)), (1, .int (iI i)), (0, .ref (eO E 1))]) F.1 F.2.1 dX4_readWinter_25 rfl hl (by decide) rfl (fun ls hl => ?_)
      refine lv_aload_n F.1 F.2.1 dX4_readWinter_26 rfl (lv_at hl 2 rfl) ?_
      refine x_get (v := .int (iI k_4)) F hin4 hw 1 4 rfl rfl 3 (by decide) (by decide +kernel) rfl rfl dX4_readWinter_27 ?_
      refine bi_if_eq (tgt := 34) F dX4_readWinter_30 (by decide) (by omega) (fun c_7 => ?_) (fun c_7 => ?_)
      · refine lv_aload_n F.1 F.2.1 dX4_readWinter_34 rfl (lv_at hl 2 rfl) ?_
        refine x_get (v := .ref (eO E 2)) F hin4 hw 1 4 rfl rfl 0 (by decide) (by decide +kernel) rfl rfl dX4_readWinter_35 ?_
        refine x_get (v := .ref (eA E 1)) F hin7 hw 2 7 rfl rfl 0 (by decide) (by decide +kernel) rfl rfl dX4_readWinter_38 ?_
        refine lv_iload_n F.1 F.2.1 dX4_readWinter_41 rfl (lv_at hl 1 rfl) ?_
        refine lv_iload_n F.1 F.2.1 dX4_readWinter_42 rfl (lv_at hl 0 rfl) ?_
        refine x_st F hw 1 20 rfl (by decide) (by omega) dX4_readWinter_43 (fun H locs hw => ?_)
        generalize eA8 : st2 (stA A 1 g) 1 i v2 = A8 at hw
        rw [if_pos (show k_4 = 0 by omega)] at hst
        have hA44 : A8 = stA A 1 (up1 g i v2) := by subst_vars; exact st2_A
        rw [hA44] at hw
        refine lv_aload_n F.1 F.2.1 dX4_readWinter_44 rfl (lv_at hl 2 rfl) ?_
        refine x_get (v := .ref (eO E 2)) F hin4 hw 1 4 rfl rfl 0 (by decide) (by decide +kernel) rfl rfl dX4_readWinter_45 ?_
        refine lv_iload_n F.1 F.2.1 dX4_readWinter_48 rfl (lv_at hl 1 rfl) ?_
        refine bi_iconst F dX4_readWinter_49 ?_
        refine bi_iadd F dX4_readWinter_50 ?_
        refine x_put (I2 := jX I f_3 k_4 a_5 (i + 1) c6 c7 c8) F hin7 tyX7 tyX7_ok nmX7 hw 2 7 rfl rfl 8 (by decide) (by decide +kernel) rfl rfl (by decide +kernel) (Nat.le_of_ble_eq_true rfl) rfl (by decide) dX4_readWinter_51 (fun H locs hw => ?_)
        refine lv_aload_n F.1 F.2.1 dX4_readWinter_54 rfl (lv_at hl 2 rfl) ?_
        refine call_F (As := []) (rest := []) F (y_nextWord l E I (stA A 1 (up1 g i v2)) L f_3 k_4 a_5 (i + 1) c6 c7 c8  (by omega) (hl0) (by omega)) (cwV 0 F.2.2.2.2 gX4_readWinter_X4_nextWord rfl rfl rfl (by decide +kernel) ⟨(Nat.le_of_ble_eq_true rfl), (Nat.le_of_ble_eq_true rfl)⟩) hw (x_recv hw 1 4 rfl rfl) rfl hl.1 rfl (Nat.le_of_ble_eq_true rfl) dX4_readWinter_55 ⟨Nat.zero_le _, Nat.zero_le _⟩ (fun H locs hw => ?_)
        generalize ev9 : pLook ((stA A 1 (up1 g i v2)) 0) (I 3) (pSk ((stA A 1 (up1 g i v2)) 0) (I 3) a_5) = v9
        have fvv9 : -1 ≤ v9 ∧ v9 ≤ 255 := by rw [← ev9]; exact pLook_r (by first | exact hl0 | (rw [h0A]; exact hl0) | (subst_vars; exact hl0))
        generalize ea_10 : (pSk ((stA A 1 (up1 g i v2)) 0) (I 3) a_5) = a_10 at hw
        have g_11 : 0 ≤ a_10 ∧ a_10 ≤ 240 := by rw [← ea_10]; exact pSk_240 (by omega) (by omega)
        have hv9 : pLook (A 0) (I 3) (pSk (A 0) (I 3) a_5) = v9 := ev9
        have ha10 : pSk (A 0) (I 3) a_5 = a_10 := ea_10
        have hst2 : cWin (A 0) (I 3) 20 0 (f, k, a + 1) c5 (A 1) = if pLook (A 0) (I 3) (pSk (A 0) (I 3) a_5) = 44 ∧ i ≠ 19 then cWin (A 0) (I 3) (20 - (i + 1)).toNat (i + 1) (f_3, k_4, pSk (A 0) (I 3) a_5 + 1) (i + 1) (up1 g i v2) else (cEnd (A 0) (I 3) (f_3, k_4, pSk (A 0) (I 3) a_5), i + 1, up1 g i v2) := hst
        rw [hv9, ha10] at hst2
        refine bi_bipush F dX4_readWinter_58 (by decide) ?_
        refine bi_icmp_ne (tgt := 88) F dX4_readWinter_60 (by decide) (by omega) (fun c_12 => ?_) (fun c_12 => ?_)
        · rw [if_neg (by omega)] at hst2
          refine lv_aload_n F.1 F.2.1 dX4_readWinter_88 rfl (lv_at hl 2 rfl) ?_
          refine call_G (As := []) (rest := []) F (y_readEnd l E I (stA A 1 (up1 g i v2)) L f_3 k_4 a_10 (i + 1) c6 c7 c8  (by omega) (hl0) (by omega) (by omega) (by omega)) (cwV 0 F.2.2.2.2 gX4_readWinter_X4_readEnd rfl rfl rfl (by decide +kernel) ⟨(Nat.le_of_ble_eq_true rfl), (Nat.le_of_ble_eq_true rfl)⟩) hw (x_recv hw 1 4 rfl rfl) rfl hl.1 rfl (Nat.le_of_ble_eq_true rfl) dX4_readWinter_89 ⟨Nat.zero_le _, Nat.zero_le _⟩ (fun H locs hw => ?_)
          generalize ef_13 : ((cEnd ((stA A 1 (up1 g i v2)) 0) (I 3) (f_3, k_4, a_10)).1) = f_13 at hw
          generalize ek_14 : ((cEnd ((stA A 1 (up1 g i v2)) 0) (I 3) (f_3, k_4, a_10)).2.1) = k_14 at hw
          generalize ea_15 : ((cEnd ((stA A 1 (up1 g i v2)) 0) (I 3) (f_3, k_4, a_10)).2.2) = a_15 at hw
          obtain ⟨g_161, g_162, g_163⟩ := cGd_end (T := (stA A 1 (up1 g i v2)) 0) (n := I 3) (s := (f_3, k_4, a_10)) hT ⟨by show -1 ≤ f_3 ∧ f_3 ≤ 240; omega, by show 0 ≤ k_4 ∧ k_4 ≤ 3; omega, by show 0 ≤ a_10 ∧ a_10 ≤ 240; omega⟩
          rw [ef_13] at g_161
          rw [ek_14] at g_162
          rw [ea_15] at g_163
          exact hret _ _ _ _ _ (xW_j (by rw [← ef_13]; exact (congrArg (fun r : CT × Int × (Int → Int) => r.1.1) hst2).symm) (by rw [← ek_14]; exact (congrArg (fun r : CT × Int × (Int → Int) => r.1.2.1) hst2).symm) (by rw [← ea_15]; exact (congrArg (fun r : CT × Int × (Int → Int) => r.1.2.2) hst2).symm) ((congrArg (fun r : CT × Int × (Int → Int) => r.2.1) hst2).symm) (rfl) (rfl) (rfl) ((congrArg (fun r : CT × Int × (Int → Int) => stA A 1 r.2.2) hst2).symm)) hw dX4_readWinter_92
        · refine lv_iload_n F.1 F.2.1 dX4_readWinter_63 rfl (lv_at hl 1 rfl) ?_
          refine bi_bipush F dX4_readWinter_64 (by decide) ?_
          refine bi_icmp_ne (tgt := 72) F dX4_readWinter_66 (by decide) (by omega) (fun c_17 => ?_) (fun c_17 => ?_)
          · rw [if_pos ⟨by omega, by omega⟩] at hst2
            have hlt := pLook_c (show pLook (A 0) (I 3) a_10 = 44 by rw [← ha10, hv9]; omega) (by decide)
            refine lv_aload_n F.1 F.2.1 dX4_readWinter_72 rfl (lv_at hl 2 rfl) ?_
            refine lv_dup F.1 F.2.1 dX4_readWinter_73 rfl ?_
            refine x_get (v := .int (iI a_10)) F hin4 hw 1 4 rfl rfl 5 (by decide) (by decide +kernel) rfl rfl dX4_readWinter_74 ?_
            refine bi_iconst F dX4_readWinter_77 ?_
            refine bi_iadd F dX4_readWinter_78 ?_
            refine x_put (I2 := jX I f_3 k_4 (a_10 + 1) (i + 1) c6 c7 c8) F hin4 tyX4 tyX4_ok nmX4 hw 1 4 rfl rfl 5 (by decide) (by decide +kernel) rfl rfl (by decide +kernel) (Nat.le_of_ble_eq_true rfl) rfl (by decide) dX4_readWinter_79 (fun H locs hw => ?_)
            refine lv_iinc (v := iI (i + 1)) (lv' := [(1, .int (iI (i + 1))), (2, .int (iI v2)), (0, .ref (eO E 1))]) F.1 F.2.1 dX4_readWinter_82 hl (k := 1) rfl (iI_add _ _).symm (by decide) rfl (fun ls hl => ?_)
            refine lv_goto (tgt := 12) F.1 F.2.1 dX4_readWinter_85 (by decide) ?_
            exact ih_12 (i + 1) (i + 1) (a_10 + 1) f_3 k_4 (stA A 1 (up1 g i v2)) H locs ls (by omega) (by omega) (by omega) (by omega) (⟨up1 g i v2, rfl, hst2.symm⟩) hw (lv_sub hl [0, 2] rfl) (by omega)
          · refine lv_goto (tgt := 88) F.1 F.2.1 dX4_readWinter_69 (by decide) ?_
            rw [if_neg (by omega)] at hst2
            refine lv_aload_n F.1 F.2.1 dX4_readWinter_88 rfl (lv_at hl 2 rfl) ?_
            refine call_G (As := []) (rest := []) F (y_readEnd l E I (stA A 1 (up1 g i v2)) L f_3 k_4 a_10 (i + 1) c6 c7 c8  (by omega) (hl0) (by omega) (by omega) (by omega)) (cwV 0 F.2.2.2.2 gX4_readWinter_X4_readEnd rfl rfl rfl (by decide +kernel) ⟨(Nat.le_of_ble_eq_true rfl), (Nat.le_of_ble_eq_true rfl)⟩) hw (x_recv hw 1 4 rfl rfl) rfl hl.1 rfl (Nat.le_of_ble_eq_true rfl) dX4_readWinter_89 ⟨Nat.zero_le _, Nat.zero_le _⟩ (fun H locs hw => ?_)
            generalize ef_18 : ((cEnd ((stA A 1 (up1 g i v2)) 0) (I 3) (f_3, k_4, a_10)).1) = f_18 at hw
            generalize ek_19 : ((cEnd ((stA A 1 (up1 g i v2)) 0) (I 3) (f_3, k_4, a_10)).2.1) = k_19 at hw
            generalize ea_20 : ((cEnd ((stA A 1 (up1 g i v2)) 0) (I 3) (f_3, k_4, a_10)).2.2) = a_20 at hw
            obtain ⟨g_211, g_212, g_213⟩ := cGd_end (T := (stA A 1 (up1 g i v2)) 0) (n := I 3) (s := (f_3, k_4, a_10)) hT ⟨by show -1 ≤ f_3 ∧ f_3 ≤ 240; omega, by show 0 ≤ k_4 ∧ k_4 ≤ 3; omega, by show 0 ≤ a_10 ∧ a_10 ≤ 240; omega⟩
            rw [ef_18] at g_211
            rw [ek_19] at g_212
            rw [ea_20] at g_213
            exact hret _ _ _ _ _ (xW_j (by rw [← ef_18]; exact (congrArg (fun r : CT × Int × (Int → Int) => r.1.1) hst2).symm) (by rw [← ek_19]; exact (congrArg (fun r : CT × Int × (Int → Int) => r.1.2.1) hst2).symm) (by rw [← ea_20]; exact (congrArg (fun r : CT × Int × (Int → Int) => r.1.2.2) hst2).symm) ((congrArg (fun r : CT × Int × (Int → Int) => r.2.1) hst2).symm) (rfl) (rfl) (rfl) ((congrArg (fun r : CT × Int × (Int → Int) => stA A 1 r.2.2) hst2).symm)) hw dX4_readWinter_92
      · rw [if_neg (show ¬ k_4 = 0 by omega)] at hst
        exact hret _ _ _ _ _ (xW_j ((congrArg (fun r : CT × Int × (Int → Int) => r.1.1) hst).symm) ((congrArg (fun r : CT × Int × (Int → Int) => r.1.2.1) hst).symm) ((congrArg (fun r : CT × Int × (Int → Int) => r.1.2.2) hst).symm) ((congrArg (fun r : CT × Int × (Int → Int) => r.2.1) hst).symm) (rfl) (rfl) (rfl) ((congrArg (fun r : CT × Int × (Int → Int) => stA A 1 r.2.2) hst).symm)) hw dX4_readWinter_33
  exact loop_12 ((20 - 0 : Int).toNat + 1) 0 c5 (a + 1) f k A H locs ls (by omega) (by omega) (by omega) (by omega) (⟨A 1, stA_id.symm, rfl⟩) hw (lv_sub hl [0, 1] rfl) (by omega)
set_option maxRecDepth 100000 in
set_option maxHeartbeats 4000000 in
theorem y_readClause (l : Launch) (E : Ev) (I : Nat → Int) (A : Nat → Int → Int) (L : Nat → Int64) (f k a c5 c6 c7 c8 : Int) (x : Int) (hT : 0 ≤ I 3 ∧ I 3 ≤ 240) (hl0 : ∀ k, 0 ≤ A 0 k ∧ A 0 k ≤ 255) (hff0 : -1 ≤ f ∧ f ≤ 240) (hkk : 0 ≤ k ∧ k ≤ 3) (haa : 0 ≤ a ∧ a ≤ 240) (hk0 : k = 0) (ha2 : a < I 3) (hc5 : 0 ≤ c5 ∧ c5 ≤ 20) (hc6 : 0 ≤ c6 ∧ c6 ≤ 4) (hc7 : 0 ≤ c7 ∧ c7 ≤ 6) (hc8 : 0 ≤ c8 ∧ c8 ≤ 5) (hx : -1 ≤ x ∧ x ≤ 255) : MetG l yX4_readClause wsX4_readClause ({ frames := 3, cells := 0, slots := 0, locals := 72 } : Room) E [.ref (eO E 1), .int (iI x)] (xW E (jX I f k a c5 c6 c7 c8) A L) (xW E (jX I ((cClU (A 0) (I 3) x ((f, k, a), c5, c6, c7, c8, A)).1.1) ((cClU (A 0) (I 3) x ((f, k, a), c5, c6, c7, c8, A)).1.2.1) ((cClU (A 0) (I 3) x ((f, k, a), c5, c6, c7, c8, A)).1.2.2) ((cClU (A 0) (I 3) x ((f, k, a), c5, c6, c7, c8, A)).2.1) ((cClU (A 0) (I 3) x ((f, k, a), c5, c6, c7, c8, A)).2.2.1) ((cClU (A 0) (I 3) x ((f, k, a), c5, c6, c7, c8, A)).2.2.2.1) ((cClU (A 0) (I 3) x ((f, k, a), c5, c6, c7, c8, A)).2.2.2.2.1)) ((cClU (A 0) (I 3) x ((f, k, a), c5, c6, c7, c8, A)).2.2.2.2.2) L) := by
  have hin4 : ∀ w ∈ wsX40, w ∈ wsX4_readClause := by decide +kernel
  refine met_G (cc := cX4_readClause) (nL := 2) (by decide) rfl (Nat.le_of_ble_eq_true rfl) ?_
  intro p e s m args below meth c Q H0 A0 H locs ls F hw hl hret
  have F : CallFix p m c cX4_readClause 2 s args wsX4_readClause RX4 := F
  have hl : lv_has ls 2 [(0, .ref (eO E 1)), (1, .int (iI x))] := hl
  refine lv_iload_n F.1 F.2.1 dX4_readClause_0 rfl (lv_at hl 1 rfl) ?_
  by_cases hs_100 : x = 100
  · refine bi_lookup (off := 69) (tgt := 70) F dX4_readClause_1 (by omega) (by decide) (by rw [hs_100]; rfl) (by decide) ?_
    have hbr : cClU (A 0) (I 3) x ((f, k, a), c5, c6, c7, c8, A) = cDebU (A 0) (I 3) ((f, k, a), c5, c6, c7, c8, A) := by unfold cClU; rw [if_neg (show ¬ x = 110 by omega), if_neg (show ¬ x = 118 by omega), if_neg (show ¬ x = 112 by omega), if_pos (show x = 100 by omega)]
    refine lv_aload_n F.1 F.2.1 dX4_readClause_70 rfl (lv_at hl 0 rfl) ?_
    refine call_G (As := []) (rest := []) F (y_readDebt l E I A L f k a c5 c6 c7 c8  (by omega) hl0 (by omega) (by omega) (by omega) (by omega) (by omega) (by omega) (by omega) (by omega) (by omega)) (cwV 0 F.2.2.2.2 gX4_readClause_X4_readDebt rfl rfl rfl (by decide +kernel) ⟨(Nat.le_of_ble_eq_true rfl), (Nat.le_of_ble_eq_true rfl)⟩) hw (x_recv hw 1 4 rfl rfl) rfl hl.1 rfl (Nat.le_of_ble_eq_true rfl) dX4_readClause_71 ⟨Nat.zero_le _, Nat.zero_le _⟩ (fun H locs hw => ?_)
    generalize ef_1 : (if c8 < 5 then (cP (A 0) (I 3) 1 c6 (f, 0, a + 1)).1 else a) = f_1 at hw
    generalize ek_2 : (if c8 < 5 then (cP (A 0) (I 3) 1 c6 (f, 0, a + 1)).2.1 else 3) = k_2 at hw
    generalize ea_3 : (if c8 < 5 then (cP (A 0) (I 3) 1 c6 (f, 0, a + 1)).2.2 else a) = a_3 at hw
    generalize ec8_4 : (if c8 < 5 ∧ (cP (A 0) (I 3) 1 c6 (f, 0, a + 1)).2.1 = 0 then c8 + 1 else c8) = c8_4 at hw
    generalize eA5 : (if c8 < 5 ∧ (cP (A 0) (I 3) 1 c6 (f, 0, a + 1)).2.1 = 0 then cPA (A 0) (I 3) c6 7 c8 (f, 0, a + 1) A else A) = A5 at hw
    refine lv_goto (tgt := 86) F.1 F.2.1 dX4_readClause_74 (by decide) ?_
    have hfin : cClU (A 0) (I 3) x ((f, k, a), c5, c6, c7, c8, A) = ((f_1, k_2, a_3), c5, c6, c7, c8_4, A5) := by rw [hbr]; subst_vars; rfl
    exact hret _ _ _ _ _ (xW_j ((congrArg (fun r : CS => r.1.1) hfin).symm) ((congrArg (fun r : CS => r.1.2.1) hfin).symm) ((congrArg (fun r : CS => r.1.2.2) hfin).symm) ((congrArg (fun r : CS => r.2.1) hfin).symm) ((congrArg (fun r : CS => r.2.2.1) hfin).symm) ((congrArg (fun r : CS => r.2.2.2.1) hfin).symm) ((congrArg (fun r : CS => r.2.2.2.2.1) hfin).symm) ((congrArg (fun r : CS => r.2.2.2.2.2) hfin).symm)) hw dX4_readClause_86
  by_cases hs_110 : x = 110
  · refine bi_lookup (off := 43) (tgt := 44) F dX4_readClause_1 (by omega) (by decide) (by rw [hs_110]; rfl) (by decide) ?_
    have hbr : cClU (A 0) (I 3) x ((f, k, a), c5, c6, c7, c8, A) = cFaU 3 ((f, k, a), c5, c6, c7, c8, A) := by unfold cClU; rw [if_pos (show x = 110 by omega)]
    refine lv_aload_n F.1 F.2.1 dX4_readClause_44 rfl (lv_at hl 0 rfl) ?_
    refine bi_iconst F dX4_readClause_45 ?_
    refine lv_aload_n F.1 F.2.1 dX4_readClause_46 rfl (lv_at hl 0 rfl) ?_
    refine x_get (v := .int (iI a)) F hin4 hw 1 4 rfl rfl 5 (by decide) (by decide +kernel) rfl rfl dX4_readClause_47 ?_
    refine call_G (As := [.int (iI 3), .int (iI a)]) (rest := []) F (y_fail l E I A L f k a c5 c6 c7 c8 3 a (by omega)) (cwV 2 F.2.2.2.2 gX4_readClause_X4_fail rfl rfl rfl (by decide +kernel) ⟨(Nat.le_of_ble_eq_true rfl), (Nat.le_of_ble_eq_true rfl)⟩) hw (x_recv hw 1 4 rfl rfl) rfl hl.1 rfl (Nat.le_of_ble_eq_true rfl) dX4_readClause_50 ⟨Nat.zero_le _, Nat.zero_le _⟩ (fun H locs hw => ?_)
    generalize ef_6 : (if k = 0 then a else f) = f_6 at hw
    generalize ek_7 : (if k = 0 then 3 else k) = k_7 at hw
    refine lv_goto (tgt := 86) F.1 F.2.1 dX4_readClause_53 (by decide) ?_
    have hfin : cClU (A 0) (I 3) x ((f, k, a), c5, c6, c7, c8, A) = ((f_6, k_7, a), c5, c6, c7, c8, A) := by rw [hbr]; subst_vars; rfl
    exact hret _ _ _ _ _ (xW_j ((congrArg (fun r : CS => r.1.1) hfin).symm) ((congrArg (fun r : CS => r.1.2.1) hfin).symm) ((congrArg (fun r : CS => r.1.2.2) hfin).symm) ((congrArg (fun r : CS => r.2.1) hfin).symm) ((congrArg (fun r : CS => r.2.2.1) hfin).symm) ((congrArg (fun r : CS => r.2.2.2.1) hfin).symm) ((congrArg (fun r : CS => r.2.2.2.2.1) hfin).symm) ((congrArg (fun r : CS => r.2.2.2.2.2) hfin).symm)) hw dX4_readClause_86
  by_cases hs_112 : x = 112
  · refine bi_lookup (off := 62) (tgt := 63) F dX4_readClause_1 (by omega) (by decide) (by rw [hs_112]; rfl) (by decide) ?_
    have hbr : cClU (A 0) (I 3) x ((f, k, a), c5, c6, c7, c8, A) = cPerU (A 0) (I 3) ((f, k, a), c5, c6, c7, c8, A) := by unfold cClU; rw [if_neg (show ¬ x = 110 by omega), if_neg (show ¬ x = 118 by omega), if_pos (show x = 112 by omega)]
    refine lv_aload_n F.1 F.2.1 dX4_readClause_63 rfl (lv_at hl 0 rfl) ?_
    refine call_G (As := []) (rest := []) F (y_readPerson l E I A L f k a c5 c6 c7 c8  (by omega) hl0 (by omega) (by omega) (by omega) (by omega) (by omega) (by omega) (by omega) (by omega) (by omega)) (cwV 0 F.2.2.2.2 gX4_readClause_X4_readPerson rfl rfl rfl (by decide +kernel) ⟨(Nat.le_of_ble_eq_true rfl), (Nat.le_of_ble_eq_true rfl)⟩) hw (x_recv hw 1 4 rfl rfl) rfl hl.1 rfl (Nat.le_of_ble_eq_true rfl) dX4_readClause_64 ⟨Nat.zero_le _, Nat.zero_le _⟩ (fun H locs hw => ?_)
    generalize ef_8 : (if c7 < 6 then (cP (A 0) (I 3) 0 c6 (f, 0, a + 1)).1 else a) = f_8 at hw
    generalize ek_9 : (if c7 < 6 then (cP (A 0) (I 3) 0 c6 (f, 0, a + 1)).2.1 else 3) = k_9 at hw
    generalize ea_10 : (if c7 < 6 then (cP (A 0) (I 3) 0 c6 (f, 0, a + 1)).2.2 else a) = a_10 at hw
    generalize ec7_11 : (if c7 < 6 ∧ (cP (A 0) (I 3) 0 c6 (f, 0, a + 1)).2.1 = 0 then c7 + 1 else c7) = c7_11 at hw
    generalize eA12 : (if c7 < 6 ∧ (cP (A 0) (I 3) 0 c6 (f, 0, a + 1)).2.1 = 0 then cPA (A 0) (I 3) c6 5 c7 (f, 0, a + 1) A else A) = A12 at hw
    refine lv_goto (tgt := 86) F.1 F.2.1 dX4_readClause_67 (by decide) ?_
    have hfin : cClU (A 0) (I 3) x ((f, k, a), c5, c6, c7, c8, A) = ((f_8, k_9, a_10), c5, c6, c7_11, c8, A12) := by rw [hbr]; subst_vars; rfl
    exact hret _ _ _ _ _ (xW_j ((congrArg (fun r : CS => r.1.1) hfin).symm) ((congrArg (fun r : CS => r.1.2.1) hfin).symm) ((congrArg (fun r : CS => r.1.2.2) hfin).symm) ((congrArg (fun r : CS => r.2.1) hfin).symm) ((congrArg (fun r : CS => r.2.2.1) hfin).symm) ((congrArg (fun r : CS => r.2.2.2.1) hfin).symm) ((congrArg (fun r : CS => r.2.2.2.2.1) hfin).symm) ((congrArg (fun r : CS => r.2.2.2.2.2) hfin).symm)) hw dX4_readClause_86
  by_cases hs_118 : x = 118
  · refine bi_lookup (off := 55) (tgt := 56) F dX4_readClause_1 (by omega) (by decide) (by rw [hs_118]; rfl) (by decide) ?_
    have hbr : cClU (A 0) (I 3) x ((f, k, a), c5, c6, c7, c8, A) = cVilU (A 0) (I 3) ((f, k, a), c5, c6, c7, c8, A) := by unfold cClU; rw [if_neg (show ¬ x = 110 by omega), if_pos (show x = 118 by omega)]
    refine lv_aload_n F.1 F.2.1 dX4_readClause_56 rfl (lv_at hl 0 rfl) ?_
    refine call_G (As := []) (rest := []) F (y_readVillage l E I A L f k a c5 c6 c7 c8  (by omega) hl0 (by omega) (by omega) (by omega) (by omega) (by omega) (by omega) (by omega) (by omega) (by omega)) (cwV 0 F.2.2.2.2 gX4_readClause_X4_readVillage rfl rfl rfl (by decide +kernel) ⟨(Nat.le_of_ble_eq_true rfl), (Nat.le_of_ble_eq_true rfl)⟩) hw (x_recv hw 1 4 rfl rfl) rfl hl.1 rfl (Nat.le_of_ble_eq_true rfl) dX4_readClause_57 ⟨Nat.zero_le _, Nat.zero_le _⟩ (fun H locs hw => ?_)
    generalize ef_13 : (if c6 < 4 then (cV (A 0) (I 3) (f, 0, a + 1)).1 else a) = f_13 at hw
    generalize ek_14 : (if c6 < 4 then (cV (A 0) (I 3) (f, 0, a + 1)).2.1 else 3) = k_14 at hw
    generalize ea_15 : (if c6 < 4 then (cV (A 0) (I 3) (f, 0, a + 1)).2.2 else a) = a_15 at hw
    generalize ec6_16 : (if c6 < 4 ∧ (cV (A 0) (I 3) (f, 0, a + 1)).2.1 = 0 then c6 + 1 else c6) = c6_16 at hw
    generalize eA17 : (if c6 < 4 ∧ (cV (A 0) (I 3) (f, 0, a + 1)).2.1 = 0 then cVA (A 0) (I 3) c6 (f, 0, a + 1) A else A) = A17 at hw
    refine lv_goto (tgt := 86) F.1 F.2.1 dX4_readClause_60 (by decide) ?_
    have hfin : cClU (A 0) (I 3) x ((f, k, a), c5, c6, c7, c8, A) = ((f_13, k_14, a_15), c5, c6_16, c7, c8, A17) := by rw [hbr]; subst_vars; rfl
    exact hret _ _ _ _ _ (xW_j ((congrArg (fun r : CS => r.1.1) hfin).symm) ((congrArg (fun r : CS => r.1.2.1) hfin).symm) ((congrArg (fun r : CS => r.1.2.2) hfin).symm) ((congrArg (fun r : CS => r.2.1) hfin).symm) ((congrArg (fun r : CS => r.2.2.1) hfin).symm) ((congrArg (fun r : CS => r.2.2.2.1) hfin).symm) ((congrArg (fun r : CS => r.2.2.2.2.1) hfin).symm) ((congrArg (fun r : CS => r.2.2.2.2.2) hfin).symm)) hw dX4_readClause_86
  refine bi_lookup (off := 76) (tgt := 77) F dX4_readClause_1 (by omega) (by decide) (by show (if (100 : Int) = x then 69 else if (110 : Int) = x then 43 else if (112 : Int) = x then 62 else if (118 : Int) = x then 55 else (76 : Int)) = _; rw [if_neg (fun h => hs_100 h.symm), if_neg (fun h => hs_110 h.symm), if_neg (fun h => hs_112 h.symm), if_neg (fun h => hs_118 h.symm)]) (by decide) ?_
  have hbr : cClU (A 0) (I 3) x ((f, k, a), c5, c6, c7, c8, A) = cFaU 1 ((f, k, a), c5, c6, c7, c8, A) := by unfold cClU; rw [if_neg (show ¬ x = 110 by omega), if_neg (show ¬ x = 118 by omega), if_neg (show ¬ x = 112 by omega), if_neg (show ¬ x = 100 by omega)]
  refine lv_aload_n F.1 F.2.1 dX4_readClause_77 rfl (lv_at hl 0 rfl) ?_
  refine bi_iconst F dX4_readClause_78 ?_
  refine lv_aload_n F.1 F.2.1 dX4_readClause_79 rfl (lv_at hl 0 rfl) ?_
  refine x_get (v := .int (iI a)) F hin4 hw 1 4 rfl rfl 5 (by decide) (by decide +kernel) rfl rfl dX4_readClause_80 ?_
  refine call_G (As := [.int (iI 1), .int (iI a)]) (rest := []) F (y_fail l E I A L f k a c5 c6 c7 c8 1 a (by omega)) (cwV 2 F.2.2.2.2 gX4_readClause_X4_fail rfl rfl rfl (by decide +kernel) ⟨(Nat.le_of_ble_eq_true rfl), (Nat.le_of_ble_eq_true rfl)⟩) hw (x_recv hw 1 4 rfl rfl) rfl hl.1 rfl (Nat.le_of_ble_eq_true rfl) dX4_readClause_83 ⟨Nat.zero_le _, Nat.zero_le _⟩ (fun H locs hw => ?_)
  generalize ef_18 : (if k = 0 then a else f) = f_18 at hw
  generalize ek_19 : (if k = 0 then 1 else k) = k_19 at hw
  have hfin : cClU (A 0) (I 3) x ((f, k, a), c5, c6, c7, c8, A) = ((f_18, k_19, a), c5, c6, c7, c8, A) := by rw [hbr]; subst_vars; rfl
  exact hret _ _ _ _ _ (xW_j ((congrArg (fun r : CS => r.1.1) hfin).symm) ((congrArg (fun r : CS => r.1.2.1) hfin).symm) ((congrArg (fun r : CS => r.1.2.2) hfin).symm) ((congrArg (fun r : CS => r.2.1) hfin).symm) ((congrArg (fun r : CS => r.2.2.1) hfin).symm) ((congrArg (fun r : CS => r.2.2.2.1) hfin).symm) ((congrArg (fun r : CS => r.2.2.2.2.1) hfin).symm) ((congrArg (fun r : CS => r.2.2.2.2.2) hfin).symm)) hw dX4_readClause_86
set_option maxRecDepth 100000 in
set_option maxHeartbeats 4000000 in
theorem y_readClauses (l : Launch) (E : Ev) (I : Nat → Int) (A : Nat → Int → Int) (L : Nat → Int64) (f k a c5 c6 c7 c8 : Int) (hT : 0 ≤ I 3 ∧ I 3 ≤ 240) (hl0 : ∀ k, 0 ≤ A 0 k ∧ A 0 k ≤ 255) (hff0 : -1 ≤ f ∧ f ≤ 240) (hkk : 0 ≤ k ∧ k ≤ 3) (haa : 0 ≤ a ∧ a ≤ 240) (hk0 : k = 0) (hc5 : 0 ≤ c5 ∧ c5 ≤ 20) (hc6 : 0 ≤ c6 ∧ c6 ≤ 4) (hc7 : 0 ≤ c7 ∧ c7 ≤ 6) (hc8 : 0 ≤ c8 ∧ c8 ≤ 5) : MetG l yX4_readClauses wsX4_readClauses ({ frames := 4, cells := 0, slots := 0, locals := 93 } : Room) E [.ref (eO E 1)] (xW E (jX I f k a c5 c6 c7 c8) A L) (xW E (jX I ((cAll (A 0) (I 3) ((f, k, a), c5, c6, c7, c8, A)).1.1) ((cAll (A 0) (I 3) ((f, k, a), c5, c6, c7, c8, A)).1.2.1) ((cAll (A 0) (I 3) ((f, k, a), c5, c6, c7, c8, A)).1.2.2) ((cAll (A 0) (I 3) ((f, k, a), c5, c6, c7, c8, A)).2.1) ((cAll (A 0) (I 3) ((f, k, a), c5, c6, c7, c8, A)).2.2.1) ((cAll (A 0) (I 3) ((f, k, a), c5, c6, c7, c8, A)).2.2.2.1) ((cAll (A 0) (I 3) ((f, k, a), c5, c6, c7, c8, A)).2.2.2.2.1)) ((cAll (A 0) (I 3) ((f, k, a), c5, c6, c7, c8, A)).2.2.2.2.2) L) := by
  have hin4 : ∀ w ∈ wsX40, w ∈ wsX4_readClauses := by decide +kernel
  refine met_G (cc := cX4_readClauses) (nL := 3) (by decide) rfl (Nat.le_of_ble_eq_true rfl) ?_
  intro p e s m args below meth c Q H0 A0 H locs ls F hw hl hret
  have F : CallFix p m c cX4_readClauses 3 s args wsX4_readClauses RX4 := F
  have hl : lv_has ls 3 [(0, .ref (eO E 1))] := hl
  refine lv_aload_n F.1 F.2.1 dX4_readClauses_0 rfl (lv_at hl 0 rfl) ?_
  refine call_F (As := []) (rest := []) F (y_nextWord l E I A L f k a c5 c6 c7 c8  (by omega) hl0 (by omega)) (cwV 0 F.2.2.2.2 gX4_readClauses_X4_nextWord rfl rfl rfl (by decide +kernel) ⟨(Nat.le_of_ble_eq_true rfl), (Nat.le_of_ble_eq_true rfl)⟩) hw (x_recv hw 1 4 rfl rfl) rfl hl.1 rfl (Nat.le_of_ble_eq_true rfl) dX4_readClauses_1 ⟨Nat.zero_le _, Nat.zero_le _⟩ (fun H locs hw => ?_)
  generalize ev1 : pLook (A 0) (I 3) (pSk (A 0) (I 3) a) = v1
  have fvv1 : -1 ≤ v1 ∧ v1 ≤ 255 := by rw [← ev1]; exact pLook_r (by first | exact hl0 | (rw [h0A]; exact hl0) | (subst_vars; exact hl0))
  generalize ea_2 : (pSk (A 0) (I 3) a) = a_2 at hw
  have g_3 : 0 ≤ a_2 ∧ a_2 ≤ 240 := by rw [← ea_2]; exact pSk_240 (by omega) (by omega)
  have hv1 : pLook (A 0) (I 3) (pSk (A 0) (I 3) a) = v1 := ev1
  have ha1 : pSk (A 0) (I 3) a = a_2 := ea_2
  refine bi_bipush F dX4_readClauses_4 (by decide) ?_
  refine bi_icmp_eq (tgt := 19) F dX4_readClauses_6 (by decide) (by omega) (fun c_4 => ?_) (fun c_4 => ?_)
  · have hlt := pLook_c (show pLook (A 0) (I 3) a_2 = 110 by rw [← ha1, hv1]; omega) (by decide)
    refine lv_aload_n F.1 F.2.1 dX4_readClauses_19 rfl (lv_at hl 0 rfl) ?_
    refine call_G (As := []) (rest := []) F (y_readWinter l E I A L f k a_2 c5 c6 c7 c8  (by omega) hl0 (by omega) (by omega) (by omega) (by omega) (by omega) (by omega)) (cwV 0 F.2.2.2.2 gX4_readClauses_X4_readWinter rfl rfl rfl (by decide +kernel) ⟨(Nat.le_of_ble_eq_true rfl), (Nat.le_of_ble_eq_true rfl)⟩) hw (x_recv hw 1 4 rfl rfl) rfl hl.1 rfl (Nat.le_of_ble_eq_true rfl) dX4_readClauses_20 ⟨Nat.zero_le _, Nat.zero_le _⟩ (fun H locs hw => ?_)
    obtain ⟨u5, hu5⟩ : ∃ z, z = cWinU (A 0) (I 3) ((f, k, a_2), c5, c6, c7, c8, A) := ⟨_, rfl⟩
    rw [← hu5] at hw
    have hgu5 : uGd A u5 := by rw [hu5]; exact uGd_win (by omega) (by show a_2 < _; omega) ⟨⟨by show -1 ≤ f ∧ f ≤ 240; omega, by show 0 ≤ k ∧ k ≤ 3; omega, by show 0 ≤ a_2 ∧ a_2 ≤ 240; omega⟩, by show 0 ≤ c5 ∧ c5 ≤ 20; omega, by show 0 ≤ c6 ∧ c6 ≤ 4; omega, by show 0 ≤ c7 ∧ c7 ≤ 6; omega, by show 0 ≤ c8 ∧ c8 ≤ 5; omega, fun _ _ => rfl⟩
    have hc0 : cLoop (A 0) (I 3) 240 u5 = cAll (A 0) (I 3) ((f, k, a), c5, c6, c7, c8, A) := by unfold cAll; rw [if_pos (show pLook (A 0) (I 3) (pSk (A 0) (I 3) a) = 110 by omega), hu5, ← ha1]; rfl
    have hgu : uGd A u5 := hgu5
    refine bi_iconst F dX4_readClauses_23 ?_
    refine lv_istore_n (lv' := [(1, .int (iI 0)), (0, .ref (eO E 1))]) F.1 F.2.1 dX4_readClauses_24 rfl hl (by decide) rfl (fun ls hl => ?_)
    have loop_25 : ∀ (nf : Nat) (i : Int) (d5 : Int) (d6 : Int) (d7 : Int) (d8 : Int) (a1 : Int) (f1 : Int) (k1 : Int) (A1 : Nat → Int → Int) (H : Heap) (locs : List Loc) (ls : Array Slot) (hi1 : 0 ≤ i ∧ i ≤ 240) (hcl : cLoop (A 0) (I 3) (240 - i).toNat ((f1, k1, a1), d5, d6, d7, d8, A1) = cAll (A 0) (I 3) ((f, k, a), c5, c6, c7, c8, A)) (hgd : uGd A ((f1, k1, a1), d5, d6, d7, d8, A1)) (hw : gH E A0 H0 s (xW E (jX I f1 k1 a1 d5 d6 d7 d8) A1 L) H locs) (hl : lv_has ls 3 [(1, .int (iI i)), (0, .ref (eO E 1))]) (hnf : (240 - i).toNat < nf), W p l e ({ frames := 4, cells := 0, slots := 0, locals := 93 } : Room) s m args below meth c H locs 0 0 Q (F0 m 25 ls []) := by
      intro nf
      induction nf with
      | zero =>
        intro i d5 d6 d7 d8 a1 f1 k1 A1 H locs ls hi1 hcl hgd hw hl hnf
        exact absurd hnf (Nat.not_lt_zero _)
      | succ nf ih_25 =>
        intro i d5 d6 d7 d8 a1 f1 k1 A1 H locs ls hi1 hcl hgd hw hl hnf
        have hf1 : -1 ≤ f1 ∧ f1 ≤ 240 := hgd.1.1
        have hk1 : 0 ≤ k1 ∧ k1 ≤ 3 := hgd.1.2.1
        have ha1 : 0 ≤ a1 ∧ a1 ≤ 240 := hgd.1.2.2
        have hd5 : 0 ≤ d5 ∧ d5 ≤ 20 := hgd.2.1
        have hd6 : 0 ≤ d6 ∧ d6 ≤ 4 := hgd.2.2.1
        have hd7 : 0 ≤ d7 ∧ d7 ≤ 6 := hgd.2.2.2.1
        have hd8 : 0 ≤ d8 ∧ d8 ≤ 5 := hgd.2.2.2.2.1
        have h0A : A1 0 = A 0 := hgd.2.2.2.2.2 0 (Or.inl rfl)
        refine lv_iload_n F.1 F.2.1 dX4_readClauses_25 rfl (lv_at hl 0 rfl) ?_
        refine bi_sipush F dX4_readClauses_26 (by decide) ?_
        refine bi_icmp_ge (tgt := 61) F dX4_readClauses_29 (by decide) (by omega) (fun c_7 => ?_) (fun c_7 => ?_)
        · have hfin : cAll (A 0) (I 3) ((f, k, a), c5, c6, c7, c8, A) = ((f1, k1, a1), d5, d6, d7, d8, A1) := by rw [← hcl]; first | (rw [show (240 - i).toNat = 0 by omega]; rfl) | (rw [cLoop_s (by omega), if_neg (show ¬ k1 = 0 by omega)]; done)
          exact hret _ _ _ _ _ (xW_j ((congrArg (fun r : CS => r.1.1) hfin).symm) ((congrArg (fun r : CS => r.1.2.1) hfin).symm) ((congrArg (fun r : CS => r.1.2.2) hfin).symm) ((congrArg (fun r : CS => r.2.1) hfin).symm) ((congrArg (fun r : CS => r.2.2.1) hfin).symm) ((congrArg (fun r : CS => r.2.2.2.1) hfin).symm) ((congrArg (fun r : CS => r.2.2.2.2.1) hfin).symm) ((congrArg (fun r : CS => r.2.2.2.2.2) hfin).symm)) hw dX4_readClauses_61
        · refine lv_aload_n F.1 F.2.1 dX4_readClauses_32 rfl (lv_at hl 1 rfl) ?_
          refine x_get (v := .int (iI k1)) F hin4 hw 1 4 rfl rfl 3 (by decide) (by decide +kernel) rfl rfl dX4_readClauses_33 ?_
          refine bi_if_ne (tgt := 61) F dX4_readClauses_36 (by decide) (by omega) (fun c_8 => ?_) (fun c_8 => ?_)
          · have hfin : cAll (A 0) (I 3) ((f, k, a), c5, c6, c7, c8, A) = ((f1, k1, a1), d5, d6, d7, d8, A1) := by rw [← hcl]; first | (rw [show (240 - i).toNat = 0 by omega]; rfl) | (rw [cLoop_s (by omega), if_neg (show ¬ k1 = 0 by omega)]; done)
            exact hret _ _ _ _ _ (xW_j ((congrArg (fun r : CS => r.1.1) hfin).symm) ((congrArg (fun r : CS => r.1.2.1) hfin).symm) ((congrArg (fun r : CS => r.1.2.2) hfin).symm) ((congrArg (fun r : CS => r.2.1) hfin).symm) ((congrArg (fun r : CS => r.2.2.1) hfin).symm) ((congrArg (fun r : CS => r.2.2.2.1) hfin).symm) ((congrArg (fun r : CS => r.2.2.2.2.1) hfin).symm) ((congrArg (fun r : CS => r.2.2.2.2.2) hfin).symm)) hw dX4_readClauses_61
          · refine lv_aload_n F.1 F.2.1 dX4_readClauses_39 rfl (lv_at hl 1 rfl) ?_
            refine call_F (As := []) (rest := []) F (y_nextWord l E I A1 L f1 k1 a1 d5 d6 d7 d8  (by omega) (by rw [h0A]; exact hl0) (by omega)) (cwV 0 F.2.2.2.2 gX4_readClauses_X4_nextWord rfl rfl rfl (by decide +kernel) ⟨(Nat.le_of_ble_eq_true rfl), (Nat.le_of_ble_eq_true rfl)⟩) hw (x_recv hw 1 4 rfl rfl) rfl hl.1 rfl (Nat.le_of_ble_eq_true rfl) dX4_readClauses_40 ⟨Nat.zero_le _, Nat.zero_le _⟩ (fun H locs hw => ?_)
            generalize ev9 : pLook (A1 0) (I 3) (pSk (A1 0) (I 3) a1) = v9
            have fvv9 : -1 ≤ v9 ∧ v9 ≤ 255 := by rw [← ev9]; exact pLook_r (by first | exact hl0 | (rw [h0A]; exact hl0) | (subst_vars; exact hl0))
            generalize ea_10 : (pSk (A1 0) (I 3) a1) = a_10 at hw
            have g_11 : 0 ≤ a_10 ∧ a_10 ≤ 240 := by rw [← ea_10]; exact pSk_240 (by omega) (by omega)
            rw [h0A] at ev9 ea_10
            have hst := hcl.symm.trans (cLoop_s (by omega))
            rw [if_pos (show k1 = 0 by omega)] at hst
            have hst2 : cAll (A 0) (I 3) ((f, k, a), c5, c6, c7, c8, A) = if pLook (A 0) (I 3) (pSk (A 0) (I 3) a1) = -1 then ((f1, k1, pSk (A 0) (I 3) a1), d5, d6, d7, d8, A1) else cLoop (A 0) (I 3) (240 - (i + 1)).toNat (cClU (A 0) (I 3) (pLook (A 0) (I 3) (pSk (A 0) (I 3) a1)) ((f1, k1, pSk (A 0) (I 3) a1), d5, d6, d7, d8, A1)) := hst
            rw [ev9, ea_10] at hst2
            refine lv_istore_n (lv' := [(2, .int (iI v9)), (1, .int (iI i)), (0, .ref (eO E 1))]) F.1 F.2.1 dX4_readClauses_43 rfl hl (by decide) rfl (fun ls hl => ?_)
            refine lv_iload_n F.1 F.2.1 dX4_readClauses_44 rfl (lv_at hl 0 rfl) ?_
            refine bi_iconst F dX4_readClauses_45 ?_
            refine bi_icmp_ne (tgt := 50) F dX4_readClauses_46 (by decide) (by omega) (fun c_12 => ?_) (fun c_12 => ?_)
            · rw [if_neg (by omega)] at hst2
              have hlt := pLook_ne (T := A 0) (n := I 3) (a := a_10) (by rw [← ea_10, ev9]; omega)
              refine lv_aload_n F.1 F.2.1 dX4_readClauses_50 rfl (lv_at hl 2 rfl) ?_
              refine lv_iload_n F.1 F.2.1 dX4_readClauses_51 rfl (lv_at hl 0 rfl) ?_
              refine call_G (As := [.int (iI v9)]) (rest := []) F (y_readClause l E I A1 L f1 k1 a_10 d5 d6 d7 d8 v9 (by omega) (by rw [h0A]; exact hl0) (by omega) (by omega) (by omega) (by omega) (by omega) (by omega) (by omega) (by omega) (by omega) (by omega)) (cwV 1 F.2.2.2.2 gX4_readClauses_X4_readClause rfl rfl rfl (by decide +kernel) ⟨(Nat.le_of_ble_eq_true rfl), (Nat.le_of_ble_eq_true rfl)⟩) hw (x_recv hw 1 4 rfl rfl) rfl hl.1 rfl (Nat.le_of_ble_eq_true rfl) dX4_readClauses_52 ⟨Nat.zero_le _, Nat.zero_le _⟩ (fun H locs hw => ?_)
              obtain ⟨u13, hu13⟩ : ∃ z, z = cClU (A1 0) (I 3) v9 ((f1, k1, a_10), d5, d6, d7, d8, A1) := ⟨_, rfl⟩
              rw [← hu13] at hw
              rw [h0A] at hu13
              rw [← hu13] at hst2
              have hgu2 : uGd A u13 := by rw [hu13]; exact uGd_cl (by omega) (show _ < _ from hlt) ⟨⟨hf1, hk1, by show 0 ≤ a_10 ∧ a_10 ≤ 240; omega⟩, hd5, hd6, hd7, hd8, hgd.2.2.2.2.2⟩
              refine lv_iinc (v := iI (i + 1)) (lv' := [(1, .int (iI (i + 1))), (2, .int (iI v9)), (0, .ref (eO E 1))]) F.1 F.2.1 dX4_readClauses_55 hl (k := 1) rfl (iI_add _ _).symm (by decide) rfl (fun ls hl => ?_)
              refine lv_goto (tgt := 25) F.1 F.2.1 dX4_readClauses_58 (by decide) ?_
              exact ih_25 (i + 1) u13.2.1 u13.2.2.1 u13.2.2.2.1 u13.2.2.2.2.1 u13.1.2.2 u13.1.1 u13.1.2.1 u13.2.2.2.2.2 H locs ls (by omega) (hst2.symm) (hgu2) hw (lv_sub hl [0, 2] rfl) (by omega)
            · rw [if_pos (by omega)] at hst2
              have hfin := hst2
              exact hret _ _ _ _ _ (xW_j ((congrArg (fun r : CS => r.1.1) hfin).symm) ((congrArg (fun r : CS => r.1.2.1) hfin).symm) ((congrArg (fun r : CS => r.1.2.2) hfin).symm) ((congrArg (fun r : CS => r.2.1) hfin).symm) ((congrArg (fun r : CS => r.2.2.1) hfin).symm) ((congrArg (fun r : CS => r.2.2.2.1) hfin).symm) ((congrArg (fun r : CS => r.2.2.2.2.1) hfin).symm) ((congrArg (fun r : CS => r.2.2.2.2.2) hfin).symm)) hw dX4_readClauses_49
    exact loop_25 ((240 - 0 : Int).toNat + 1) 0 u5.2.1 u5.2.2.1 u5.2.2.2.1 u5.2.2.2.2.1 u5.1.2.2 u5.1.1 u5.1.2.1 u5.2.2.2.2.2 H locs ls (by omega) (hc0) (hgu) hw (lv_sub hl [0, 1] rfl) (by omega)
  · refine lv_aload_n F.1 F.2.1 dX4_readClauses_9 rfl (lv_at hl 0 rfl) ?_
    refine bi_iconst F dX4_readClauses_10 ?_
    refine lv_aload_n F.1 F.2.1 dX4_readClauses_11 rfl (lv_at hl 0 rfl) ?_
    refine x_get (v := .int (iI a_2)) F hin4 hw 1 4 rfl rfl 5 (by decide) (by decide +kernel) rfl rfl dX4_readClauses_12 ?_
    refine call_G (As := [.int (iI 1), .int (iI a_2)]) (rest := []) F (y_fail l E I A L f k a_2 c5 c6 c7 c8 1 a_2 (by omega)) (cwV 2 F.2.2.2.2 gX4_readClauses_X4_fail rfl rfl rfl (by decide +kernel) ⟨(Nat.le_of_ble_eq_true rfl), (Nat.le_of_ble_eq_true rfl)⟩) hw (x_recv hw 1 4 rfl rfl) rfl hl.1 rfl (Nat.le_of_ble_eq_true rfl) dX4_readClauses_15 ⟨Nat.zero_le _, Nat.zero_le _⟩ (fun H locs hw => ?_)
    generalize ef_14 : (if k = 0 then a_2 else f) = f_14 at hw
    generalize ek_15 : (if k = 0 then 1 else k) = k_15 at hw
    have hfin : cAll (A 0) (I 3) ((f, k, a), c5, c6, c7, c8, A) = ((f_14, k_15, a_2), c5, c6, c7, c8, A) := by unfold cAll; rw [if_neg (show ¬ pLook (A 0) (I 3) (pSk (A 0) (I 3) a) = 110 by omega)]; subst_vars; rfl
    exact hret _ _ _ _ _ (xW_j ((congrArg (fun r : CS => r.1.1) hfin).symm) ((congrArg (fun r : CS => r.1.2.1) hfin).symm) ((congrArg (fun r : CS => r.1.2.2) hfin).symm) ((congrArg (fun r : CS => r.2.1) hfin).symm) ((congrArg (fun r : CS => r.2.2.1) hfin).symm) ((congrArg (fun r : CS => r.2.2.2.1) hfin).symm) ((congrArg (fun r : CS => r.2.2.2.2.1) hfin).symm) ((congrArg (fun r : CS => r.2.2.2.2.2) hfin).symm)) hw dX4_readClauses_18
set_option maxRecDepth 100000 in
set_option maxHeartbeats 4000000 in
theorem y_read (l : Launch) (E : Ev) (I : Nat → Int) (A : Nat → Int → Int) (L : Nat → Int64) (f k a c5 c6 c7 c8 : Int) (q : Int) (hq : 0 ≤ q ∧ q ≤ 1000) (hl0 : ∀ k, 0 ≤ A 0 k ∧ A 0 k ≤ 255) : MetF l yX4_read wsX4_read ({ frames := 5, cells := 0, slots := 0, locals := 115 } : Room) E [.ref (eO E 1), .int (iI q)] (xW E (jX I f k a c5 c6 c7 c8) A L) (xW E (jX (st1 I 3 (iMx 0 (iMn q 240))) ((cRead (A 0) (iMx 0 (iMn q 240)) A).1.1) ((cRead (A 0) (iMx 0 (iMn q 240)) A).1.2.1) ((cRead (A 0) (iMx 0 (iMn q 240)) A).1.2.2) ((cRead (A 0) (iMx 0 (iMn q 240)) A).2.1) ((cRead (A 0) (iMx 0 (iMn q 240)) A).2.2.1) ((cRead (A 0) (iMx 0 (iMn q 240)) A).2.2.2.1) ((cRead (A 0) (iMx 0 (iMn q 240)) A).2.2.2.2.1)) ((cRead (A 0) (iMx 0 (iMn q 240)) A).2.2.2.2.2) L) ((cRead (A 0) (iMx 0 (iMn q 240)) A).1.2.1) := by
  have hin4 : ∀ w ∈ wsX40, w ∈ wsX4_read := by decide +kernel
  refine met_F (cc := cX4_read) (nL := 2) (by decide) rfl (Nat.le_of_ble_eq_true rfl) ?_
  intro p e s m args below meth c Q H0 A0 H locs ls F hw hl hret
  have F : CallFix p m c cX4_read 2 s args wsX4_read RX4 := F
  have hl : lv_has ls 2 [(0, .ref (eO E 1)), (1, .int (iI q))] := hl
  refine lv_aload_n F.1 F.2.1 dX4_read_0 rfl (lv_at hl 0 rfl) ?_
  refine bi_iconst F dX4_read_1 ?_
  refine lv_iload_n F.1 F.2.1 dX4_read_2 rfl (lv_at hl 1 rfl) ?_
  refine lv_aload_n F.1 F.2.1 dX4_read_3 rfl (lv_at hl 0 rfl) ?_
  refine x_get (v := .ref (eA E 0)) F hin4 hw 1 4 rfl rfl 2 (by decide) (by decide +kernel) rfl rfl dX4_read_4 ?_
  refine x_len F hw 0 (by decide) 240 rfl dX4_read_7 ?_
  refine bi_min F hl.1 (by decide +kernel) (by decide +kernel) (by decide +kernel) (by decide +kernel) (Nat.le_of_ble_eq_true rfl) (Nat.le_of_ble_eq_true rfl) (Nat.zero_le _) (Nat.zero_le _) (by omega) dX4_read_8 ?_
  have f_1 := iMn_r q 240
  refine bi_max F hl.1 (by decide +kernel) (by decide +kernel) (by decide +kernel) (by decide +kernel) (Nat.le_of_ble_eq_true rfl) (Nat.le_of_ble_eq_true rfl) (Nat.zero_le _) (Nat.zero_le _) (by omega) dX4_read_11 ?_
  have f_2 := iMx_r 0 (iMn q 240)
  refine x_put (I2 := jX (st1 I 3 (iMx 0 (iMn q 240))) f k a c5 c6 c7 c8) F hin4 tyX4 tyX4_ok nmX4 hw 1 4 rfl rfl 4 (by decide) (by decide +kernel) rfl rfl (by decide +kernel) (Nat.le_of_ble_eq_true rfl) rfl (by decide) dX4_read_14 (fun H locs hw => ?_)
  obtain ⟨I1, hI1⟩ : ∃ z, z = st1 I 3 (iMx 0 (iMn q 240)) := ⟨_, rfl⟩
  rw [← hI1] at hw
  have hI13 : I1 3 = iMx 0 (iMn q 240) := by rw [hI1]; exact st1_s
  have hT : 0 ≤ I1 3 ∧ I1 3 ≤ 240 := by omega
  refine lv_aload_n F.1 F.2.1 dX4_read_17 rfl (lv_at hl 0 rfl) ?_
  refine bi_iconst F dX4_read_18 ?_
  refine x_put (I2 := jX I1 f k 0 c5 c6 c7 c8) F hin4 tyX4 tyX4_ok nmX4 hw 1 4 rfl rfl 5 (by decide) (by decide +kernel) rfl rfl (by decide +kernel) (Nat.le_of_ble_eq_true rfl) rfl (by decide) dX4_read_19 (fun H locs hw => ?_)
  refine lv_aload_n F.1 F.2.1 dX4_read_22 rfl (lv_at hl 0 rfl) ?_
  refine bi_iconst F dX4_read_23 ?_
  refine x_put (I2 := jX I1 f 0 0 c5 c6 c7 c8) F hin4 tyX4 tyX4_ok nmX4 hw 1 4 rfl rfl 3 (by decide) (by decide +kernel) rfl rfl (by decide +kernel) (Nat.le_of_ble_eq_true rfl) rfl (by decide) dX4_read_24 (fun H locs hw => ?_)
  refine lv_aload_n F.1 F.2.1 dX4_read_27 rfl (lv_at hl 0 rfl) ?_
  refine bi_iconst F dX4_read_28 ?_
  refine x_put (I2 := jX I1 (-1) 0 0 c5 c6 c7 c8) F hin4 tyX4 tyX4_ok nmX4 hw 1 4 rfl rfl 1 (by decide) (by decide +kernel) rfl rfl (by decide +kernel) (Nat.le_of_ble_eq_true rfl) rfl (by decide) dX4_read_29 (fun H locs hw => ?_)
  refine lv_aload_n F.1 F.2.1 dX4_read_32 rfl (lv_at hl 0 rfl) ?_
  refine x_get (v := .ref (eO E 2)) F hin4 hw 1 4 rfl rfl 0 (by decide) (by decide +kernel) rfl rfl dX4_read_33 ?_
  refine call_G (As := []) (rest := []) F (y_clear l E I1 A L (-1) 0 0 c5 c6 c7 c8  ) (cwV 0 F.2.2.2.2 gX4_read_X7_clear rfl rfl rfl (by decide +kernel) ⟨(Nat.le_of_ble_eq_true rfl), (Nat.le_of_ble_eq_true rfl)⟩) hw (x_recv hw 2 7 rfl rfl) rfl hl.1 rfl (Nat.le_of_ble_eq_true rfl) dX4_read_36 ⟨Nat.zero_le _, Nat.zero_le _⟩ (fun H locs hw => ?_)
  refine lv_aload_n F.1 F.2.1 dX4_read_39 rfl (lv_at hl 0 rfl) ?_
  refine call_F (As := []) (rest := []) F (y_nextWord l E I1 A L (-1) 0 0 0 0 0 0  (by omega) hl0 (by omega)) (cwV 0 F.2.2.2.2 gX4_read_X4_nextWord rfl rfl rfl (by decide +kernel) ⟨(Nat.le_of_ble_eq_true rfl), (Nat.le_of_ble_eq_true rfl)⟩) hw (x_recv hw 1 4 rfl rfl) rfl hl.1 rfl (Nat.le_of_ble_eq_true rfl) dX4_read_40 ⟨Nat.zero_le _, Nat.zero_le _⟩ (fun H locs hw => ?_)
  generalize ev3 : pLook (A 0) (I1 3) (pSk (A 0) (I1 3) 0) = v3
  have fvv3 : -1 ≤ v3 ∧ v3 ≤ 255 := by rw [← ev3]; exact pLook_r (by first | exact hl0 | (rw [h0A]; exact hl0) | (subst_vars; exact hl0))
  generalize ea_4 : (pSk (A 0) (I1 3) 0) = a_4 at hw
  have g_5 : 0 ≤ a_4 ∧ a_4 ≤ 240 := by rw [← ea_4]; exact pSk_240 (by omega) (by omega)
  have hv1 : pLook (A 0) (I1 3) (pSk (A 0) (I1 3) 0) = v3 := ev3
  have ha1 : pSk (A 0) (I1 3) 0 = a_4 := ea_4
  refine bi_iconst F dX4_read_43 ?_
  refine bi_icmp_eq (tgt := 51) F dX4_read_44 (by decide) (by omega) (fun c_6 => ?_) (fun c_6 => ?_)
  · have hfin : cRead (A 0) (iMx 0 (iMn q 240)) A = (((-1), 0, a_4), 0, 0, 0, 0, A) := by rw [← hI13]; unfold cRead; first | (rw [if_pos (show pLook (A 0) (I1 3) (pSk (A 0) (I1 3) 0) = -1 by omega), ha1]; done) | (rw [if_neg (show ¬ pLook (A 0) (I1 3) (pSk (A 0) (I1 3) 0) = -1 by omega), ha1]; exact h?.symm)
    refine lv_aload_n F.1 F.2.1 dX4_read_51 rfl (lv_at hl 0 rfl) ?_
    refine x_get (v := .int (iI 0)) F hin4 hw 1 4 rfl rfl 3 (by decide) (by decide +kernel) rfl rfl dX4_read_52 ?_
    exact hret _ _ _ _ _ _ ((congrArg (fun r : CS => r.1.2.1) hfin).symm) (by rw [hI1]; exact xW_j ((congrArg (fun r : CS => r.1.1) hfin).symm) ((congrArg (fun r : CS => r.1.2.1) hfin).symm) ((congrArg (fun r : CS => r.1.2.2) hfin).symm) ((congrArg (fun r : CS => r.2.1) hfin).symm) ((congrArg (fun r : CS => r.2.2.1) hfin).symm) ((congrArg (fun r : CS => r.2.2.2.1) hfin).symm) ((congrArg (fun r : CS => r.2.2.2.2.1) hfin).symm) ((congrArg (fun r : CS => r.2.2.2.2.2) hfin).symm)) hw dX4_read_55
  · refine lv_aload_n F.1 F.2.1 dX4_read_47 rfl (lv_at hl 0 rfl) ?_
    refine call_G (As := []) (rest := []) F (y_readClauses l E I1 A L (-1) 0 a_4 0 0 0 0  (by omega) hl0 (by omega) (by omega) (by omega) (by omega) (by omega) (by omega) (by omega) (by omega)) (cwV 0 F.2.2.2.2 gX4_read_X4_readClauses rfl rfl rfl (by decide +kernel) ⟨(Nat.le_of_ble_eq_true rfl), (Nat.le_of_ble_eq_true rfl)⟩) hw (x_recv hw 1 4 rfl rfl) rfl hl.1 rfl (Nat.le_of_ble_eq_true rfl) dX4_read_48 ⟨Nat.zero_le _, Nat.zero_le _⟩ (fun H locs hw => ?_)
    obtain ⟨u7, hu7⟩ : ∃ z, z = cAll (A 0) (I1 3) (((-1), 0, a_4), 0, 0, 0, 0, A) := ⟨_, rfl⟩
    rw [← hu7] at hw
    have hfin : cRead (A 0) (iMx 0 (iMn q 240)) A = ((u7.1.1, u7.1.2.1, u7.1.2.2), u7.2.1, u7.2.2.1, u7.2.2.2.1, u7.2.2.2.2.1, u7.2.2.2.2.2) := by rw [← hI13]; unfold cRead; first | (rw [if_pos (show pLook (A 0) (I1 3) (pSk (A 0) (I1 3) 0) = -1 by omega), ha1]; done) | (rw [if_neg (show ¬ pLook (A 0) (I1 3) (pSk (A 0) (I1 3) 0) = -1 by omega), ha1]; exact hu7.symm)
    refine lv_aload_n F.1 F.2.1 dX4_read_51 rfl (lv_at hl 0 rfl) ?_
    refine x_get (v := .int (iI u7.1.2.1)) F hin4 hw 1 4 rfl rfl 3 (by decide) (by decide +kernel) rfl rfl dX4_read_52 ?_
    exact hret _ _ _ _ _ _ ((congrArg (fun r : CS => r.1.2.1) hfin).symm) (by rw [hI1]; exact xW_j ((congrArg (fun r : CS => r.1.1) hfin).symm) ((congrArg (fun r : CS => r.1.2.1) hfin).symm) ((congrArg (fun r : CS => r.1.2.2) hfin).symm) ((congrArg (fun r : CS => r.2.1) hfin).symm) ((congrArg (fun r : CS => r.2.2.1) hfin).symm) ((congrArg (fun r : CS => r.2.2.2.1) hfin).symm) ((congrArg (fun r : CS => r.2.2.2.2.1) hfin).symm) ((congrArg (fun r : CS => r.2.2.2.2.2) hfin).symm)) hw dX4_read_55
