set_option maxRecDepth 100000 in
set_option maxHeartbeats 4000000 in
theorem x4_middle (l : Launch) (E : Ev) (a : Int) (b : Int) (d : Int) (ha : -2147483648 ≤ a ∧ a ≤ 2147483647) (hb : -2147483648 ≤ b ∧ b ≤ 2147483647) (hd : -2147483648 ≤ d ∧ d ≤ 2147483647) : MetN l yX4_middle wsX4_middle ({ frames := 1, cells := 0, slots := 0, locals := 22 } : Room) E [.int (iI a), .int (iI b), .int (iI d)] ([]) (cMid a b d) := by
  refine met_N (cc := cX4_middle) (nL := 3) (by decide) rfl (Nat.le_of_ble_eq_true rfl) ?_
  intro p e s m args below meth c Q H0 A0 H locs ls F hw hl hret
  have F : CallFix p m c cX4_middle 3 s args wsX4_middle RX4 := F
  have hl : lv_has ls 3 [(0, .int (iI a)), (1, .int (iI b)), (2, .int (iI d))] := hl
  refine lv_iload_n F.1 F.2.1 dX4_middle_0 rfl (lv_at hl 0 rfl) ?_
  refine lv_iload_n F.1 F.2.1 dX4_middle_1 rfl (lv_at hl 1 rfl) ?_
  refine bi_min F hl.1 (by decide +kernel) (by decide +kernel) (by decide +kernel) (by decide +kernel) (Nat.le_of_ble_eq_true rfl) (Nat.le_of_ble_eq_true rfl) (Nat.zero_le _) (Nat.zero_le _) (by omega) dX4_middle_2 ?_
  have f_1 := iMn_r a b
  refine lv_iload_n F.1 F.2.1 dX4_middle_5 rfl (lv_at hl 0 rfl) ?_
  refine lv_iload_n F.1 F.2.1 dX4_middle_6 rfl (lv_at hl 1 rfl) ?_
  refine bi_max F hl.1 (by decide +kernel) (by decide +kernel) (by decide +kernel) (by decide +kernel) (Nat.le_of_ble_eq_true rfl) (Nat.le_of_ble_eq_true rfl) (Nat.zero_le _) (Nat.zero_le _) (by omega) dX4_middle_7 ?_
  have f_2 := iMx_r a b
  refine lv_iload_n F.1 F.2.1 dX4_middle_10 rfl (lv_at hl 2 rfl) ?_
  refine bi_min F hl.1 (by decide +kernel) (by decide +kernel) (by decide +kernel) (by decide +kernel) (Nat.le_of_ble_eq_true rfl) (Nat.le_of_ble_eq_true rfl) (Nat.zero_le _) (Nat.zero_le _) (by omega) dX4_middle_11 ?_
  have f_3 := iMn_r (iMx a b) d
  refine bi_max F hl.1 (by decide +kernel) (by decide +kernel) (by decide +kernel) (by decide +kernel) (Nat.le_of_ble_eq_true rfl) (Nat.le_of_ble_eq_true rfl) (Nat.zero_le _) (Nat.zero_le _) (by omega) dX4_middle_14 ?_
  have f_4 := iMx_r (iMn a b) (iMn (iMx a b) d)
  exact hret _ _ _ _ _ (rfl) hw dX4_middle_17
set_option maxRecDepth 100000 in
set_option maxHeartbeats 4000000 in
theorem y_nextWord (l : Launch) (E : Ev) (I : Nat → Int) (A : Nat → Int → Int) (L : Nat → Int64) (f k a c5 c6 c7 c8 : Int) (hT : 0 ≤ I 3 ∧ I 3 ≤ 240) (hl0 : ∀ k, 0 ≤ A 0 k ∧ A 0 k ≤ 255) (haa : 0 ≤ a ∧ a ≤ 240) : MetF l yX4_nextWord wsX4_nextWord ({ frames := 0, cells := 0, slots := 0, locals := 0 } : Room) E [.ref (eO E 1)] (xW E (jX I f k a c5 c6 c7 c8) A L) (xW E (jX I f k (pSk (A 0) (I 3) a) c5 c6 c7 c8) (A) L) (pLook (A 0) (I 3) (pSk (A 0) (I 3) a)) := by
  have hin4 : ∀ w ∈ wsX40, w ∈ wsX4_nextWord := by decide +kernel
  refine met_F (cc := cX4_nextWord) (nL := 2) (by decide) rfl (Nat.le_of_ble_eq_true rfl) ?_
  intro p e s m args below meth c Q H0 A0 H locs ls F hw hl hret
  have F : CallFix p m c cX4_nextWord 2 s args wsX4_nextWord RX4 := F
  have hl : lv_has ls 2 [(0, .ref (eO E 1))] := hl
  refine bi_iconst F dX4_nextWord_0 ?_
  refine lv_istore_n (lv' := [(1, .int (iI 0)), (0, .ref (eO E 1))]) F.1 F.2.1 dX4_nextWord_1 rfl hl (by decide) rfl (fun ls hl => ?_)
  have loop_2 : ∀ (nf : Nat) (i : Int) (a1 : Int) (H : Heap) (locs : List Loc) (ls : Array Slot) (ha1 : 0 ≤ a1 ∧ a1 ≤ 240) (hi : 0 ≤ i ∧ i ≤ a1) (hsk : pSk (A 0) (I 3) a1 = pSk (A 0) (I 3) a) (hw : gH E A0 H0 s (xW E (jX I f k a1 c5 c6 c7 c8) A L) H locs) (hl : lv_has ls 2 [(1, .int (iI i)), (0, .ref (eO E 1))]) (hnf : (I 3 - a1).toNat < nf), W p l e ({ frames := 0, cells := 0, slots := 0, locals := 0 } : Room) s m args below meth c H locs 0 0 Q (F0 m 2 ls []) := by
    intro nf
    induction nf with
    | zero =>
      intro i a1 H locs ls ha1 hi hsk hw hl hnf
      exact absurd hnf (Nat.not_lt_zero _)
    | succ nf ih_2 =>
      intro i a1 H locs ls ha1 hi hsk hw hl hnf
      refine lv_iload_n F.1 F.2.1 dX4_nextWord_2 rfl (lv_at hl 0 rfl) ?_
      refine bi_sipush F dX4_nextWord_3 (by decide) ?_
      refine bi_icmp_ge (tgt := 50) F dX4_nextWord_6 (by decide) (by omega) (fun c_1 => ?_) (fun c_1 => ?_)
      · have hs : pSk (A 0) (I 3) a = a1 := by rw [← hsk]; exact pSk_f (by omega)
        refine lv_aload_n F.1 F.2.1 dX4_nextWord_50 rfl (lv_at hl 1 rfl) ?_
        refine x_get (v := .int (iI a1)) F hin4 hw 1 4 rfl rfl 5 (by decide) (by decide +kernel) rfl rfl dX4_nextWord_51 ?_
        refine lv_aload_n F.1 F.2.1 dX4_nextWord_54 rfl (lv_at hl 1 rfl) ?_
        refine x_get (v := .int (iI (I 3))) F hin4 hw 1 4 rfl rfl 4 (by decide) (by decide +kernel) rfl rfl dX4_nextWord_55 ?_
        refine bi_icmp_ge (tgt := 73) F dX4_nextWord_58 (by decide) (by omega) (fun c_2 => ?_) (fun c_2 => ?_)
        · refine bi_iconst F dX4_nextWord_73 ?_
          exact hret _ _ _ _ _ _ (by rw [hs]; unfold pLook; first | (rw [if_pos (by omega)]; done) | (rw [if_neg (by omega)]; done)) (xW_j (rfl) (rfl) (hs.symm) (rfl) (rfl) (rfl) (rfl) (rfl)) hw dX4_nextWord_74
        · refine lv_aload_n F.1 F.2.1 dX4_nextWord_61 rfl (lv_at hl 1 rfl) ?_
          refine x_get (v := .ref (eA E 0)) F hin4 hw 1 4 rfl rfl 2 (by decide) (by decide +kernel) rfl rfl dX4_nextWord_62 ?_
          refine lv_aload_n F.1 F.2.1 dX4_nextWord_65 rfl (lv_at hl 1 rfl) ?_
          refine x_get (v := .int (iI a1)) F hin4 hw 1 4 rfl rfl 5 (by decide) (by decide +kernel) rfl rfl dX4_nextWord_66 ?_
          refine x_ld F hw 0 240 rfl (by decide) (by omega) dX4_nextWord_69 ?_
          have f_3 := hl0 (a1)
          refine lv_goto (tgt := 74) F.1 F.2.1 dX4_nextWord_70 (by decide) ?_
          exact hret _ _ _ _ _ _ (by rw [hs]; unfold pLook; first | (rw [if_pos (by omega)]; done) | (rw [if_neg (by omega)]; done)) (xW_j (rfl) (rfl) (hs.symm) (rfl) (rfl) (rfl) (rfl) (rfl)) hw dX4_nextWord_74
      · refine lv_aload_n F.1 F.2.1 dX4_nextWord_9 rfl (lv_at hl 1 rfl) ?_
        refine x_get (v := .int (iI a1)) F hin4 hw 1 4 rfl rfl 5 (by decide) (by decide +kernel) rfl rfl dX4_nextWord_10 ?_
        refine lv_aload_n F.1 F.2.1 dX4_nextWord_13 rfl (lv_at hl 1 rfl) ?_
        refine x_get (v := .int (iI (I 3))) F hin4 hw 1 4 rfl rfl 4 (by decide) (by decide +kernel) rfl rfl dX4_nextWord_14 ?_
        refine bi_icmp_ge (tgt := 50) F dX4_nextWord_17 (by decide) (by omega) (fun c_4 => ?_) (fun c_4 => ?_)
        · have hs : pSk (A 0) (I 3) a = a1 := by rw [← hsk]; exact pSk_f (by omega)
          refine lv_aload_n F.1 F.2.1 dX4_nextWord_50 rfl (lv_at hl 1 rfl) ?_
          refine x_get (v := .int (iI a1)) F hin4 hw 1 4 rfl rfl 5 (by decide) (by decide +kernel) rfl rfl dX4_nextWord_51 ?_
          refine lv_aload_n F.1 F.2.1 dX4_nextWord_54 rfl (lv_at hl 1 rfl) ?_
          refine x_get (v := .int (iI (I 3))) F hin4 hw 1 4 rfl rfl 4 (by decide) (by decide +kernel) rfl rfl dX4_nextWord_55 ?_
          refine bi_icmp_ge (tgt := 73) F dX4_nextWord_58 (by decide) (by omega) (fun c_5 => ?_) (fun c_5 => ?_)
          · refine bi_iconst F dX4_nextWord_73 ?_
            exact hret _ _ _ _ _ _ (by rw [hs]; unfold pLook; first | (rw [if_pos (by omega)]; done) | (rw [if_neg (by omega)]; done)) (xW_j (rfl) (rfl) (hs.symm) (rfl) (rfl) (rfl) (rfl) (rfl)) hw dX4_nextWord_74
          · refine lv_aload_n F.1 F.2.1 dX4_nextWord_61 rfl (lv_at hl 1 rfl) ?_
            refine x_get (v := .ref (eA E 0)) F hin4 hw 1 4 rfl rfl 2 (by decide) (by decide +kernel) rfl rfl dX4_nextWord_62 ?_
            refine lv_aload_n F.1 F.2.1 dX4_nextWord_65 rfl (lv_at hl 1 rfl) ?_
            refine x_get (v := .int (iI a1)) F hin4 hw 1 4 rfl rfl 5 (by decide) (by decide +kernel) rfl rfl dX4_nextWord_66 ?_
            refine x_ld F hw 0 240 rfl (by decide) (by omega) dX4_nextWord_69 ?_
            have f_6 := hl0 (a1)
            refine lv_goto (tgt := 74) F.1 F.2.1 dX4_nextWord_70 (by decide) ?_
            exact hret _ _ _ _ _ _ (by rw [hs]; unfold pLook; first | (rw [if_pos (by omega)]; done) | (rw [if_neg (by omega)]; done)) (xW_j (rfl) (rfl) (hs.symm) (rfl) (rfl) (rfl) (rfl) (rfl)) hw dX4_nextWord_74
        · refine lv_aload_n F.1 F.2.1 dX4_nextWord_20 rfl (lv_at hl 1 rfl) ?_
          refine x_get (v := .ref (eA E 0)) F hin4 hw 1 4 rfl rfl 2 (by decide) (by decide +kernel) rfl rfl dX4_nextWord_21 ?_
          refine lv_aload_n F.1 F.2.1 dX4_nextWord_24 rfl (lv_at hl 1 rfl) ?_
          refine x_get (v := .int (iI a1)) F hin4 hw 1 4 rfl rfl 5 (by decide) (by decide +kernel) rfl rfl dX4_nextWord_25 ?_
          refine x_ld F hw 0 240 rfl (by decide) (by omega) dX4_nextWord_28 ?_
          have f_7 := hl0 (a1)
          refine bi_bipush F dX4_nextWord_29 (by decide) ?_
          refine bi_icmp_ne (tgt := 50) F dX4_nextWord_31 (by decide) (by omega) (fun c_8 => ?_) (fun c_8 => ?_)
          · have hs : pSk (A 0) (I 3) a = a1 := by rw [← hsk]; exact pSk_f (by omega)
            refine lv_aload_n F.1 F.2.1 dX4_nextWord_50 rfl (lv_at hl 1 rfl) ?_
            refine x_get (v := .int (iI a1)) F hin4 hw 1 4 rfl rfl 5 (by decide) (by decide +kernel) rfl rfl dX4_nextWord_51 ?_
            refine lv_aload_n F.1 F.2.1 dX4_nextWord_54 rfl (lv_at hl 1 rfl) ?_
            refine x_get (v := .int (iI (I 3))) F hin4 hw 1 4 rfl rfl 4 (by decide) (by decide +kernel) rfl rfl dX4_nextWord_55 ?_
            refine bi_icmp_ge (tgt := 73) F dX4_nextWord_58 (by decide) (by omega) (fun c_9 => ?_) (fun c_9 => ?_)
            · refine bi_iconst F dX4_nextWord_73 ?_
              exact hret _ _ _ _ _ _ (by rw [hs]; unfold pLook; first | (rw [if_pos (by omega)]; done) | (rw [if_neg (by omega)]; done)) (xW_j (rfl) (rfl) (hs.symm) (rfl) (rfl) (rfl) (rfl) (rfl)) hw dX4_nextWord_74
            · refine lv_aload_n F.1 F.2.1 dX4_nextWord_61 rfl (lv_at hl 1 rfl) ?_
              refine x_get (v := .ref (eA E 0)) F hin4 hw 1 4 rfl rfl 2 (by decide) (by decide +kernel) rfl rfl dX4_nextWord_62 ?_
              refine lv_aload_n F.1 F.2.1 dX4_nextWord_65 rfl (lv_at hl 1 rfl) ?_
              refine x_get (v := .int (iI a1)) F hin4 hw 1 4 rfl rfl 5 (by decide) (by decide +kernel) rfl rfl dX4_nextWord_66 ?_
              refine x_ld F hw 0 240 rfl (by decide) (by omega) dX4_nextWord_69 ?_
              have f_10 := hl0 (a1)
              refine lv_goto (tgt := 74) F.1 F.2.1 dX4_nextWord_70 (by decide) ?_
              exact hret _ _ _ _ _ _ (by rw [hs]; unfold pLook; first | (rw [if_pos (by omega)]; done) | (rw [if_neg (by omega)]; done)) (xW_j (rfl) (rfl) (hs.symm) (rfl) (rfl) (rfl) (rfl) (rfl)) hw dX4_nextWord_74
          · refine lv_aload_n F.1 F.2.1 dX4_nextWord_34 rfl (lv_at hl 1 rfl) ?_
            refine lv_dup F.1 F.2.1 dX4_nextWord_35 rfl ?_
            refine x_get (v := .int (iI a1)) F hin4 hw 1 4 rfl rfl 5 (by decide) (by decide +kernel) rfl rfl dX4_nextWord_36 ?_
            refine bi_iconst F dX4_nextWord_39 ?_
            refine bi_iadd F dX4_nextWord_40 ?_
            refine x_put (I2 := jX I f k (a1 + 1) c5 c6 c7 c8) F hin4 tyX4 tyX4_ok nmX4 hw 1 4 rfl rfl 5 (by decide) (by decide +kernel) rfl rfl (by decide +kernel) (Nat.le_of_ble_eq_true rfl) rfl (by decide) dX4_nextWord_41 (fun H locs hw => ?_)
            refine lv_iinc (v := iI (i + 1)) (lv' := [(1, .int (iI (i + 1))), (0, .ref (eO E 1))]) F.1 F.2.1 dX4_nextWord_44 hl (k := 0) rfl (iI_add _ _).symm (by decide) rfl (fun ls hl => ?_)
            refine lv_goto (tgt := 2) F.1 F.2.1 dX4_nextWord_47 (by decide) ?_
            exact ih_2 (i + 1) (a1 + 1) H locs ls (by omega) (by omega) (by rw [← hsk]; exact (pSk_t (by omega) (by omega)).symm) hw (lv_sub hl [0, 1] rfl) (by omega)
  exact loop_2 ((I 3 - a : Int).toNat + 1) 0 a H locs ls (by omega) (by omega) (rfl) hw (lv_sub hl [0, 1] rfl) (by omega)
set_option maxRecDepth 100000 in
set_option maxHeartbeats 4000000 in
theorem y_isFigure (l : Launch) (E : Ev) (I : Nat → Int) (A : Nat → Int → Int) (L : Nat → Int64) (f k a c5 c6 c7 c8 : Int) (q : Int) (hT : 0 ≤ I 3 ∧ I 3 ≤ 240) (hl0 : ∀ k, 0 ≤ A 0 k ∧ A 0 k ≤ 255) (hq : 0 ≤ q ∧ q ≤ 240) : MetP l yX4_isFigure wsX4_isFigure ({ frames := 0, cells := 0, slots := 0, locals := 0 } : Room) E [.ref (eO E 1), .int (iI q)] (xW E (jX I f k a c5 c6 c7 c8) A L) (q < I 3 ∧ 48 ≤ A 0 q ∧ A 0 q ≤ 57) := by
  have hin4 : ∀ w ∈ wsX40, w ∈ wsX4_isFigure := by decide +kernel
  refine met_P (cc := cX4_isFigure) (nL := 2) (by decide) rfl (Nat.le_of_ble_eq_true rfl) ?_
  intro p e s m args below meth c Q H0 A0 H locs ls F hw hl hret
  have F : CallFix p m c cX4_isFigure 2 s args wsX4_isFigure RX4 := F
  have hl : lv_has ls 2 [(0, .ref (eO E 1)), (1, .int (iI q))] := hl
  refine lv_iload_n F.1 F.2.1 dX4_isFigure_0 rfl (lv_at hl 1 rfl) ?_
  refine lv_aload_n F.1 F.2.1 dX4_isFigure_1 rfl (lv_at hl 0 rfl) ?_
  refine x_get (v := .int (iI (I 3))) F hin4 hw 1 4 rfl rfl 4 (by decide) (by decide +kernel) rfl rfl dX4_isFigure_2 ?_
  refine bi_icmp_ge (tgt := 34) F dX4_isFigure_5 (by decide) (by omega) (fun c_1 => ?_) (fun c_1 => ?_)
  · refine bi_iconst F dX4_isFigure_34 ?_
    exact hret _ _ _ _ _ (Or.inr ⟨rfl, by omega⟩) hw dX4_isFigure_35
  · refine lv_aload_n F.1 F.2.1 dX4_isFigure_8 rfl (lv_at hl 0 rfl) ?_
    refine x_get (v := .ref (eA E 0)) F hin4 hw 1 4 rfl rfl 2 (by decide) (by decide +kernel) rfl rfl dX4_isFigure_9 ?_
    refine lv_iload_n F.1 F.2.1 dX4_isFigure_12 rfl (lv_at hl 1 rfl) ?_
    refine x_ld F hw 0 240 rfl (by decide) (by omega) dX4_isFigure_13 ?_
    have f_2 := hl0 (q)
    refine bi_bipush F dX4_isFigure_14 (by decide) ?_
    refine bi_icmp_lt (tgt := 34) F dX4_isFigure_16 (by decide) (by omega) (fun c_3 => ?_) (fun c_3 => ?_)
    · refine bi_iconst F dX4_isFigure_34 ?_
      exact hret _ _ _ _ _ (Or.inr ⟨rfl, by omega⟩) hw dX4_isFigure_35
    · refine lv_aload_n F.1 F.2.1 dX4_isFigure_19 rfl (lv_at hl 0 rfl) ?_
      refine x_get (v := .ref (eA E 0)) F hin4 hw 1 4 rfl rfl 2 (by decide) (by decide +kernel) rfl rfl dX4_isFigure_20 ?_
      refine lv_iload_n F.1 F.2.1 dX4_isFigure_23 rfl (lv_at hl 1 rfl) ?_
      refine x_ld F hw 0 240 rfl (by decide) (by omega) dX4_isFigure_24 ?_
      have f_4 := hl0 (q)
      refine bi_bipush F dX4_isFigure_25 (by decide) ?_
      refine bi_icmp_gt (tgt := 34) F dX4_isFigure_27 (by decide) (by omega) (fun c_5 => ?_) (fun c_5 => ?_)
      · refine bi_iconst F dX4_isFigure_34 ?_
        exact hret _ _ _ _ _ (Or.inr ⟨rfl, by omega⟩) hw dX4_isFigure_35
      · refine bi_iconst F dX4_isFigure_30 ?_
        refine lv_goto (tgt := 35) F.1 F.2.1 dX4_isFigure_31 (by decide) ?_
        exact hret _ _ _ _ _ (Or.inl ⟨rfl, by omega⟩) hw dX4_isFigure_35
set_option maxRecDepth 100000 in
set_option maxHeartbeats 4000000 in
theorem y_fail (l : Launch) (E : Ev) (I : Nat → Int) (A : Nat → Int → Int) (L : Nat → Int64) (f k a c5 c6 c7 c8 : Int) (z : Int) (pl : Int) (hkk : 0 ≤ k ∧ k ≤ 3) : MetG l yX4_fail wsX4_fail ({ frames := 0, cells := 0, slots := 0, locals := 0 } : Room) E [.ref (eO E 1), .int (iI z), .int (iI pl)] (xW E (jX I f k a c5 c6 c7 c8) A L) (xW E (jX I (if k = 0 then pl else f) (if k = 0 then z else k) a c5 c6 c7 c8) (A) L) := by
  have hin4 : ∀ w ∈ wsX40, w ∈ wsX4_fail := by decide +kernel
  refine met_G (cc := cX4_fail) (nL := 3) (by decide) rfl (Nat.le_of_ble_eq_true rfl) ?_
  intro p e s m args below meth c Q H0 A0 H locs ls F hw hl hret
  have F : CallFix p m c cX4_fail 3 s args wsX4_fail RX4 := F
  have hl : lv_has ls 3 [(0, .ref (eO E 1)), (1, .int (iI z)), (2, .int (iI pl))] := hl
  refine lv_aload_n F.1 F.2.1 dX4_fail_0 rfl (lv_at hl 0 rfl) ?_
  refine x_get (v := .int (iI k)) F hin4 hw 1 4 rfl rfl 3 (by decide) (by decide +kernel) rfl rfl dX4_fail_1 ?_
  refine bi_if_ne (tgt := 17) F dX4_fail_4 (by decide) (by omega) (fun c_1 => ?_) (fun c_1 => ?_)
  · exact hret _ _ _ _ _ (xW_j (by first | (rw [if_pos (by omega)]; done) | (rw [if_neg (by omega)]; done)) (by first | (rw [if_pos (by omega)]; done) | (rw [if_neg (by omega)]; done)) (rfl) (rfl) (rfl) (rfl) (rfl) (rfl)) hw dX4_fail_17
  · refine lv_aload_n F.1 F.2.1 dX4_fail_7 rfl (lv_at hl 0 rfl) ?_
    refine lv_iload_n F.1 F.2.1 dX4_fail_8 rfl (lv_at hl 1 rfl) ?_
    refine x_put (I2 := jX I f z a c5 c6 c7 c8) F hin4 tyX4 tyX4_ok nmX4 hw 1 4 rfl rfl 3 (by decide) (by decide +kernel) rfl rfl (by decide +kernel) (Nat.le_of_ble_eq_true rfl) rfl (by decide) dX4_fail_9 (fun H locs hw => ?_)
    refine lv_aload_n F.1 F.2.1 dX4_fail_12 rfl (lv_at hl 0 rfl) ?_
    refine lv_iload_n F.1 F.2.1 dX4_fail_13 rfl (lv_at hl 2 rfl) ?_
    refine x_put (I2 := jX I pl z a c5 c6 c7 c8) F hin4 tyX4 tyX4_ok nmX4 hw 1 4 rfl rfl 1 (by decide) (by decide +kernel) rfl rfl (by decide +kernel) (Nat.le_of_ble_eq_true rfl) rfl (by decide) dX4_fail_14 (fun H locs hw => ?_)
    exact hret _ _ _ _ _ (xW_j (by first | (rw [if_pos (by omega)]; done) | (rw [if_neg (by omega)]; done)) (by first | (rw [if_pos (by omega)]; done) | (rw [if_neg (by omega)]; done)) (rfl) (rfl) (rfl) (rfl) (rfl) (rfl)) hw dX4_fail_17
set_option maxRecDepth 100000 in
set_option maxHeartbeats 4000000 in
theorem y_readNumber (l : Launch) (E : Ev) (I : Nat → Int) (A : Nat → Int → Int) (L : Nat → Int64) (f k a c5 c6 c7 c8 : Int) (lo : Int) (hi : Int) (hT : 0 ≤ I 3 ∧ I 3 ≤ 240) (hl0 : ∀ k, 0 ≤ A 0 k ∧ A 0 k ≤ 255) (hff0 : -1 ≤ f ∧ f ≤ 240) (hkk : 0 ≤ k ∧ k ≤ 3) (haa : 0 ≤ a ∧ a ≤ 240) (hlo : 0 ≤ lo ∧ lo ≤ 1000) (hhi : -1 ≤ hi ∧ hi ≤ 1000) : MetF l yX4_readNumber wsX4_readNumber ({ frames := 1, cells := 0, slots := 0, locals := 22 } : Room) E [.ref (eO E 1), .int (iI lo), .int (iI hi)] (xW E (jX I f k a c5 c6 c7 c8) A L) (xW E (jX I ((cNum (A 0) (I 3) lo hi (f, k, a)).1) ((cNum (A 0) (I 3) lo hi (f, k, a)).2.1) ((cNum (A 0) (I 3) lo hi (f, k, a)).2.2) c5 c6 c7 c8) (A) L) (cNv (A 0) (I 3) (f, k, a)) := by
  have hin4 : ∀ w ∈ wsX40, w ∈ wsX4_readNumber := by decide +kernel
  refine met_F (cc := cX4_readNumber) (nL := 6) (by decide) rfl (Nat.le_of_ble_eq_true rfl) ?_
  intro p e s m args below meth c Q H0 A0 H locs ls F hw hl hret
  have F : CallFix p m c cX4_readNumber 6 s args wsX4_readNumber RX4 := F
  have hl : lv_has ls 6 [(0, .ref (eO E 1)), (1, .int (iI lo)), (2, .int (iI hi))] := hl
  refine lv_aload_n F.1 F.2.1 dX4_readNumber_0 rfl (lv_at hl 0 rfl) ?_
  refine x_get (v := .int (iI k)) F hin4 hw 1 4 rfl rfl 3 (by decide) (by decide +kernel) rfl rfl dX4_readNumber_1 ?_
  refine bi_if_eq (tgt := 9) F dX4_readNumber_4 (by decide) (by omega) (fun c_1 => ?_) (fun c_1 => ?_)
  · refine lv_aload_n F.1 F.2.1 dX4_readNumber_9 rfl (lv_at hl 0 rfl) ?_
    refine call_F (As := []) (rest := []) F (y_nextWord l E I A L f k a c5 c6 c7 c8  (by omega) hl0 (by omega)) (cwV 0 F.2.2.2.2 gX4_readNumber_X4_nextWord rfl rfl rfl (by decide +kernel) ⟨(Nat.le_of_ble_eq_true rfl), (Nat.le_of_ble_eq_true rfl)⟩) hw (x_recv hw 1 4 rfl rfl) rfl hl.1 rfl (Nat.le_of_ble_eq_true rfl) dX4_readNumber_10 ⟨Nat.zero_le _, Nat.zero_le _⟩ (fun H locs hw => ?_)
    generalize ev2 : pLook (A 0) (I 3) (pSk (A 0) (I 3) a) = v2
    have fvv2 : -1 ≤ v2 ∧ v2 ≤ 255 := by rw [← ev2]; exact pLook_r (by first | exact hl0 | (subst_vars; exact hl0))
    generalize ea_3 : (pSk (A 0) (I 3) a) = a_3 at hw
    have g_4 : 0 ≤ a_3 ∧ a_3 ≤ 240 := by rw [← ea_3]; exact pSk_240 (by omega) (by omega)
    refine lv_pop F.1 F.2.1 dX4_readNumber_13 rfl ?_
    obtain ⟨p0, ep0⟩ : ∃ z, z = a_3 := ⟨_, rfl⟩
    rw [← ep0] at hw
    have hs : p0 = pSk (A 0) (I 3) a := by rw [ep0, ← ea_3]
    have hp0 : 0 ≤ p0 ∧ p0 ≤ 240 := by omega
    have hk0 : k = 0 := by omega
    refine lv_aload_n F.1 F.2.1 dX4_readNumber_14 rfl (lv_at hl 0 rfl) ?_
    refine x_get (v := .int (iI p0)) F hin4 hw 1 4 rfl rfl 5 (by decide) (by decide +kernel) rfl rfl dX4_readNumber_15 ?_
    refine lv_istore_n (lv' := [(3, .int (iI p0)), (0, .ref (eO E 1)), (1, .int (iI lo)), (2, .int (iI hi))]) F.1 F.2.1 dX4_readNumber_18 rfl hl (by decide) rfl (fun ls hl => ?_)
    refine bi_iconst F dX4_readNumber_19 ?_
    refine lv_istore (lv' := [(4, .int (iI 0)), (3, .int (iI p0)), (0, .ref (eO E 1)), (1, .int (iI lo)), (2, .int (iI hi))]) F.1 F.2.1 dX4_readNumber_20 hl (by decide) rfl (fun ls hl => ?_)
    refine bi_iconst F dX4_readNumber_22 ?_
    refine lv_istore (lv' := [(5, .int (iI 0)), (4, .int (iI 0)), (3, .int (iI p0)), (0, .ref (eO E 1)), (1, .int (iI lo)), (2, .int (iI hi))]) F.1 F.2.1 dX4_readNumber_23 hl (by decide) rfl (fun ls hl => ?_)
    have loop_25 : ∀ (nf : Nat) (v : Int) (i : Int) (a1 : Int) (H : Heap) (locs : List Loc) (ls : Array Slot) (ha1 : p0 ≤ a1 ∧ a1 ≤ 240) (hii : i = a1 - p0) (hr : pRun (A 0) (I 3) p0 a1 v = pRun (A 0) (I 3) p0 p0 0) (hv : (0 ≤ v ∧ v ≤ 999) ∧ (a1 - p0 ≤ 0 → v = 0) ∧ (a1 - p0 ≤ 1 → v ≤ 9) ∧ (a1 - p0 ≤ 2 → v ≤ 99)) (hw : gH E A0 H0 s (xW E (jX I f k a1 c5 c6 c7 c8) A L) H locs) (hl : lv_has ls 6 [(5, .int (iI i)), (4, .int (iI v)), (3, .int (iI p0)), (0, .ref (eO E 1)), (1, .int (iI lo)), (2, .int (iI hi))]) (hnf : (I 3 - a1).toNat < nf), W p l e ({ frames := 1, cells := 0, slots := 0, locals := 22 } : Room) s m args below meth c H locs 0 0 Q (F0 m 25 ls []) := by
      intro nf
      induction nf with
      | zero =>
        intro v i a1 H locs ls ha1 hii hr hv hw hl hnf
        exact absurd hnf (Nat.not_lt_zero _)
      | succ nf ih_25 =>
        intro v i a1 H locs ls ha1 hii hr hv hw hl hnf
        refine lv_iload F.1 F.2.1 dX4_readNumber_25 (lv_at hl 0 rfl) ?_
        refine bi_sipush F dX4_readNumber_27 (by decide) ?_
        refine bi_icmp_ge (tgt := 86) F dX4_readNumber_30 (by decide) (by omega) (fun c_5 => ?_) (fun c_5 => ?_)
        · have hng : ¬ (a1 < I 3 ∧ 48 ≤ A 0 a1 ∧ A 0 a1 ≤ 57) := by omega
          have hrun : pRun (A 0) (I 3) p0 p0 0 = (a1, v) := by rw [← hr]; exact pRun_f (by omega)
          refine lv_aload_n F.1 F.2.1 dX4_readNumber_86 rfl (lv_at hl 3 rfl) ?_
          refine x_get (v := .int (iI a1)) F hin4 hw 1 4 rfl rfl 5 (by decide) (by decide +kernel) rfl rfl dX4_readNumber_87 ?_
          refine lv_iload_n F.1 F.2.1 dX4_readNumber_90 rfl (lv_at hl 2 rfl) ?_
          refine bi_icmp_ne (tgt := 106) F dX4_readNumber_91 (by decide) (by omega) (fun c_6 => ?_) (fun c_6 => ?_)
          · have hne : a1 ≠ p0 := by omega
            have hdg : 48 ≤ pLook (A 0) (I 3) p0 ∧ pLook (A 0) (I 3) p0 ≤ 57 := Decidable.byContradiction (fun hc => hne (congrArg Prod.fst (hrun.symm.trans (pRun_f (T := A 0) (n := I 3) (f := p0) (a := p0) (v := 0) (fun h => hc (pIn_i.mpr h))))))
            have hnw0 : pNumW (A 0) (I 3) lo hi a k = if a1 - p0 ≤ 3 ∧ lo ≤ v ∧ v ≤ hi then 0 else 2 := by unfold pNumW; rw [if_pos hk0, ← hs, if_pos hdg, hrun]
            refine lv_aload_n F.1 F.2.1 dX4_readNumber_106 rfl (lv_at hl 3 rfl) ?_
            refine x_get (v := .int (iI a1)) F hin4 hw 1 4 rfl rfl 5 (by decide) (by decide +kernel) rfl rfl dX4_readNumber_107 ?_
            refine lv_iload_n F.1 F.2.1 dX4_readNumber_110 rfl (lv_at hl 2 rfl) ?_
            refine bi_isub F dX4_readNumber_111 ?_
            refine bi_iconst F dX4_readNumber_112 ?_
            refine bi_icmp_gt (tgt := 126) F dX4_readNumber_113 (by decide) (by omega) (fun c_7 => ?_) (fun c_7 => ?_)
            · have hnw : pNumW (A 0) (I 3) lo hi a k = 2 := by rw [hnw0, if_neg (by omega)]
              refine lv_aload_n F.1 F.2.1 dX4_readNumber_126 rfl (lv_at hl 3 rfl) ?_
              refine bi_iconst F dX4_readNumber_127 ?_
              refine lv_iload_n F.1 F.2.1 dX4_readNumber_128 rfl (lv_at hl 2 rfl) ?_
              refine call_G (As := [.int (iI 2), .int (iI p0)]) (rest := []) F (y_fail l E I A L f k a1 c5 c6 c7 c8 2 p0 (by omega)) (cwV 2 F.2.2.2.2 gX4_readNumber_X4_fail rfl rfl rfl (by decide +kernel) ⟨(Nat.le_of_ble_eq_true rfl), (Nat.le_of_ble_eq_true rfl)⟩) hw (x_recv hw 1 4 rfl rfl) rfl hl.1 rfl (Nat.le_of_ble_eq_true rfl) dX4_readNumber_129 ⟨Nat.zero_le _, Nat.zero_le _⟩ (fun H locs hw => ?_)
              generalize ef_8 : (if k = 0 then p0 else f) = f_8 at hw
              generalize ek_9 : (if k = 0 then 2 else k) = k_9 at hw
              try have hnw : pNumW (A 0) (I 3) lo hi a k = 0 := by rw [hnw0, if_pos (by omega)]
              refine lv_iload F.1 F.2.1 dX4_readNumber_132 (lv_at hl 1 rfl) ?_
              exact hret _ _ _ _ _ _ (by show _ = pNumV (A 0) (I 3) a k; unfold pNumV; rw [if_pos hk0, ← hs, hrun]; first | (rw [if_pos hdg]; done) | (rw [if_neg hdg]; show v = 0; omega)) (xW_j (by show _ = if k = 0 ∧ pNumW (A 0) (I 3) lo hi a k ≠ 0 then pSk (A 0) (I 3) a else f; rw [hnw, ← hs]; first | (exfalso; omega) | (rw [if_neg (fun hq => hq.2 rfl)]; done) | (rw [if_pos ⟨hk0, by decide⟩, ← ef_8, if_pos hk0]; done) | (rw [if_pos ⟨hk0, by decide⟩, ← ef_8, if_pos hk0]; omega)) (by show _ = pNumW (A 0) (I 3) lo hi a k; rw [hnw]; first | (exfalso; omega) | exact hk0 | (rw [← ek_9, if_pos hk0]; done)) (by show _ = if k = 0 then (pRun (A 0) (I 3) (pSk (A 0) (I 3) a) (pSk (A 0) (I 3) a) 0).1 else a; rw [if_pos hk0, ← hs, hrun]) (rfl) (rfl) (rfl) (rfl) (rfl)) hw dX4_readNumber_134
            · refine lv_iload F.1 F.2.1 dX4_readNumber_116 (lv_at hl 1 rfl) ?_
              refine lv_iload_n F.1 F.2.1 dX4_readNumber_118 rfl (lv_at hl 4 rfl) ?_
              refine lv_iload_n F.1 F.2.1 dX4_readNumber_119 rfl (lv_at hl 5 rfl) ?_
              refine calls_PN (n := 3) (As := [.int (iI v), .int (iI lo), .int (iI hi)]) (rest := []) (host := "SnowDays") F (x9_isOut l E v lo hi (by omega) (by omega) (by omega)) (by decide +kernel) gX4_readNumber_X9_isOut_n113 rfl rfl rfl (by decide +kernel) (by decide +kernel) (by decide +kernel) ⟨(Nat.le_of_ble_eq_true rfl), (Nat.le_of_ble_eq_true rfl)⟩ hw rfl hl.1 rfl (Nat.le_of_ble_eq_true rfl) dX4_readNumber_120 ⟨Nat.zero_le _, Nat.zero_le _⟩ (fun q_10 H locs hw => ?_) (fun q_10 H locs hw => ?_)
              · refine bi_if_eq (tgt := 132) F dX4_readNumber_123 (by decide) (by decide) (fun q => absurd q (by decide)) (fun _ => ?_)
                have hnw : pNumW (A 0) (I 3) lo hi a k = 2 := by rw [hnw0, if_neg (by omega)]
                refine lv_aload_n F.1 F.2.1 dX4_readNumber_126 rfl (lv_at hl 3 rfl) ?_
                refine bi_iconst F dX4_readNumber_127 ?_
                refine lv_iload_n F.1 F.2.1 dX4_readNumber_128 rfl (lv_at hl 2 rfl) ?_
                refine call_G (As := [.int (iI 2), .int (iI p0)]) (rest := []) F (y_fail l E I A L f k a1 c5 c6 c7 c8 2 p0 (by omega)) (cwV 2 F.2.2.2.2 gX4_readNumber_X4_fail rfl rfl rfl (by decide +kernel) ⟨(Nat.le_of_ble_eq_true rfl), (Nat.le_of_ble_eq_true rfl)⟩) hw (x_recv hw 1 4 rfl rfl) rfl hl.1 rfl (Nat.le_of_ble_eq_true rfl) dX4_readNumber_129 ⟨Nat.zero_le _, Nat.zero_le _⟩ (fun H locs hw => ?_)
                generalize ef_12 : (if k = 0 then p0 else f) = f_12 at hw
                generalize ek_13 : (if k = 0 then 2 else k) = k_13 at hw
                try have hnw : pNumW (A 0) (I 3) lo hi a k = 0 := by rw [hnw0, if_pos (by omega)]
                refine lv_iload F.1 F.2.1 dX4_readNumber_132 (lv_at hl 1 rfl) ?_
                exact hret _ _ _ _ _ _ (by show _ = pNumV (A 0) (I 3) a k; unfold pNumV; rw [if_pos hk0, ← hs, hrun]; first | (rw [if_pos hdg]; done) | (rw [if_neg hdg]; show v = 0; omega)) (xW_j (by show _ = if k = 0 ∧ pNumW (A 0) (I 3) lo hi a k ≠ 0 then pSk (A 0) (I 3) a else f; rw [hnw, ← hs]; first | (exfalso; omega) | (rw [if_neg (fun hq => hq.2 rfl)]; done) | (rw [if_pos ⟨hk0, by decide⟩, ← ef_12, if_pos hk0]; done) | (rw [if_pos ⟨hk0, by decide⟩, ← ef_12, if_pos hk0]; omega)) (by show _ = pNumW (A 0) (I 3) lo hi a k; rw [hnw]; first | (exfalso; omega) | exact hk0 | (rw [← ek_13, if_pos hk0]; done)) (by show _ = if k = 0 then (pRun (A 0) (I 3) (pSk (A 0) (I 3) a) (pSk (A 0) (I 3) a) 0).1 else a; rw [if_pos hk0, ← hs, hrun]) (rfl) (rfl) (rfl) (rfl) (rfl)) hw dX4_readNumber_134
              · refine bi_if_eq (tgt := 132) F dX4_readNumber_123 (by decide) (by decide) (fun _ => ?_) (fun q => absurd q (by decide))
                try have hnw : pNumW (A 0) (I 3) lo hi a k = 0 := by rw [hnw0, if_pos (by omega)]
                refine lv_iload F.1 F.2.1 dX4_readNumber_132 (lv_at hl 1 rfl) ?_
                exact hret _ _ _ _ _ _ (by show _ = pNumV (A 0) (I 3) a k; unfold pNumV; rw [if_pos hk0, ← hs, hrun]; first | (rw [if_pos hdg]; done) | (rw [if_neg hdg]; show v = 0; omega)) (xW_j (by show _ = if k = 0 ∧ pNumW (A 0) (I 3) lo hi a k ≠ 0 then pSk (A 0) (I 3) a else f; rw [hnw, ← hs]; first | (exfalso; omega) | (rw [if_neg (fun hq => hq.2 rfl)]; done) | (rw [if_pos ⟨hk0, by decide⟩, ← ef, if_pos hk0]; done) | (rw [if_pos ⟨hk0, by decide⟩, ← ef, if_pos hk0]; omega)) (by show _ = pNumW (A 0) (I 3) lo hi a k; rw [hnw]; first | (exfalso; omega) | exact hk0 | (rw [← ek, if_pos hk0]; done)) (by show _ = if k = 0 then (pRun (A 0) (I 3) (pSk (A 0) (I 3) a) (pSk (A 0) (I 3) a) 0).1 else a; rw [if_pos hk0, ← hs, hrun]) (rfl) (rfl) (rfl) (rfl) (rfl)) hw dX4_readNumber_134
          · have hdg : ¬ (48 ≤ pLook (A 0) (I 3) p0 ∧ pLook (A 0) (I 3) p0 ≤ 57) := fun h => by have h2 := pIn_i.mp (show pIn (A 0) (I 3) p0 from h); rw [show a1 = p0 by omega] at hng; exact hng h2
            have hnw : pNumW (A 0) (I 3) lo hi a k = 1 := by unfold pNumW; rw [if_pos hk0, ← hs, if_neg hdg]
            refine lv_aload_n F.1 F.2.1 dX4_readNumber_94 rfl (lv_at hl 3 rfl) ?_
            refine bi_iconst F dX4_readNumber_95 ?_
            refine lv_aload_n F.1 F.2.1 dX4_readNumber_96 rfl (lv_at hl 3 rfl) ?_
            refine x_get (v := .int (iI a1)) F hin4 hw 1 4 rfl rfl 5 (by decide) (by decide +kernel) rfl rfl dX4_readNumber_97 ?_
            refine call_G (As := [.int (iI 1), .int (iI a1)]) (rest := []) F (y_fail l E I A L f k a1 c5 c6 c7 c8 1 a1 (by omega)) (cwV 2 F.2.2.2.2 gX4_readNumber_X4_fail rfl rfl rfl (by decide +kernel) ⟨(Nat.le_of_ble_eq_true rfl), (Nat.le_of_ble_eq_true rfl)⟩) hw (x_recv hw 1 4 rfl rfl) rfl hl.1 rfl (Nat.le_of_ble_eq_true rfl) dX4_readNumber_100 ⟨Nat.zero_le _, Nat.zero_le _⟩ (fun H locs hw => ?_)
            generalize ef_15 : (if k = 0 then a1 else f) = f_15 at hw
            generalize ek_16 : (if k = 0 then 1 else k) = k_16 at hw
            refine lv_goto (tgt := 132) F.1 F.2.1 dX4_readNumber_103 (by decide) ?_
            try have hnw : pNumW (A 0) (I 3) lo hi a k = 0 := by rw [hnw0, if_pos (by omega)]
            refine lv_iload F.1 F.2.1 dX4_readNumber_132 (lv_at hl 1 rfl) ?_
            exact hret _ _ _ _ _ _ (by show _ = pNumV (A 0) (I 3) a k; unfold pNumV; rw [if_pos hk0, ← hs, hrun]; first | (rw [if_pos hdg]; done) | (rw [if_neg hdg]; show v = 0; omega)) (xW_j (by show _ = if k = 0 ∧ pNumW (A 0) (I 3) lo hi a k ≠ 0 then pSk (A 0) (I 3) a else f; rw [hnw, ← hs]; first | (exfalso; omega) | (rw [if_neg (fun hq => hq.2 rfl)]; done) | (rw [if_pos ⟨hk0, by decide⟩, ← ef_15, if_pos hk0]; done) | (rw [if_pos ⟨hk0, by decide⟩, ← ef_15, if_pos hk0]; omega)) (by show _ = pNumW (A 0) (I 3) lo hi a k; rw [hnw]; first | (exfalso; omega) | exact hk0 | (rw [← ek_16, if_pos hk0]; done)) (by show _ = if k = 0 then (pRun (A 0) (I 3) (pSk (A 0) (I 3) a) (pSk (A 0) (I 3) a) 0).1 else a; rw [if_pos hk0, ← hs, hrun]) (rfl) (rfl) (rfl) (rfl) (rfl)) hw dX4_readNumber_134
        · refine lv_aload_n F.1 F.2.1 dX4_readNumber_33 rfl (lv_at hl 3 rfl) ?_
          refine lv_aload_n F.1 F.2.1 dX4_readNumber_34 rfl (lv_at hl 3 rfl) ?_
          refine x_get (v := .int (iI a1)) F hin4 hw 1 4 rfl rfl 5 (by decide) (by decide +kernel) rfl rfl dX4_readNumber_35 ?_
          refine call_P (As := [.int (iI a1)]) (rest := []) F (y_isFigure l E I A L f k a1 c5 c6 c7 c8 a1 (by omega) hl0 (by omega)) (cwV 1 F.2.2.2.2 gX4_readNumber_X4_isFigure rfl rfl rfl (by decide +kernel) ⟨(Nat.le_of_ble_eq_true rfl), (Nat.le_of_ble_eq_true rfl)⟩) hw (x_recv hw 1 4 rfl rfl) rfl hl.1 rfl (Nat.le_of_ble_eq_true rfl) dX4_readNumber_38 ⟨Nat.zero_le _, Nat.zero_le _⟩ (fun q_17 H locs hw => ?_) (fun q_17 H locs hw => ?_)
          · refine bi_if_eq (tgt := 86) F dX4_readNumber_41 (by decide) (by decide) (fun q => absurd q (by decide)) (fun _ => ?_)
            refine lv_iload F.1 F.2.1 dX4_readNumber_44 (lv_at hl 0 rfl) ?_
            refine bi_iconst F dX4_readNumber_46 ?_
            refine bi_icmp_ge (tgt := 70) F dX4_readNumber_47 (by decide) (by omega) (fun c_19 => ?_) (fun c_19 => ?_)
            · refine lv_aload_n F.1 F.2.1 dX4_readNumber_70 rfl (lv_at hl 3 rfl) ?_
              refine lv_dup F.1 F.2.1 dX4_readNumber_71 rfl ?_
              refine x_get (v := .int (iI a1)) F hin4 hw 1 4 rfl rfl 5 (by decide) (by decide +kernel) rfl rfl dX4_readNumber_72 ?_
              refine bi_iconst F dX4_readNumber_75 ?_
              refine bi_iadd F dX4_readNumber_76 ?_
              refine x_put (I2 := jX I f k (a1 + 1) c5 c6 c7 c8) F hin4 tyX4 tyX4_ok nmX4 hw 1 4 rfl rfl 5 (by decide) (by decide +kernel) rfl rfl (by decide +kernel) (Nat.le_of_ble_eq_true rfl) rfl (by decide) dX4_readNumber_77 (fun H locs hw => ?_)
              refine lv_iinc (v := iI (i + 1)) (lv' := [(5, .int (iI (i + 1))), (4, .int (iI v)), (3, .int (iI p0)), (0, .ref (eO E 1)), (1, .int (iI lo)), (2, .int (iI hi))]) F.1 F.2.1 dX4_readNumber_80 hl (k := 0) rfl (iI_add _ _).symm (by decide) rfl (fun ls hl => ?_)
              refine lv_goto (tgt := 25) F.1 F.2.1 dX4_readNumber_83 (by decide) ?_
              exact ih_25 v (i + 1) (a1 + 1) H locs ls (by omega) (by omega) (by rw [← hr]; refine Eq.symm ((pRun_t (a := a1) (v := v) (by omega) (by omega)).trans ?_); first | (rw [if_pos (by omega)]; congr 1; omega) | (rw [if_neg (by omega)]; done)) (by omega) hw (lv_sub hl [0, 1, 2, 3, 4, 5] rfl) (by omega)
            · refine lv_iload F.1 F.2.1 dX4_readNumber_50 (lv_at hl 1 rfl) ?_
              refine bi_bipush F dX4_readNumber_52 (by decide) ?_
              refine bi_imul F dX4_readNumber_54 ?_
              refine lv_aload_n F.1 F.2.1 dX4_readNumber_55 rfl (lv_at hl 3 rfl) ?_
              refine x_get (v := .ref (eA E 0)) F hin4 hw 1 4 rfl rfl 2 (by decide) (by decide +kernel) rfl rfl dX4_readNumber_56 ?_
              refine lv_aload_n F.1 F.2.1 dX4_readNumber_59 rfl (lv_at hl 3 rfl) ?_
              refine x_get (v := .int (iI a1)) F hin4 hw 1 4 rfl rfl 5 (by decide) (by decide +kernel) rfl rfl dX4_readNumber_60 ?_
              refine x_ld F hw 0 240 rfl (by decide) (by omega) dX4_readNumber_63 ?_
              have f_20 := hl0 (a1)
              refine bi_iadd F dX4_readNumber_64 ?_
              refine bi_bipush F dX4_readNumber_65 (by decide) ?_
              refine bi_isub F dX4_readNumber_67 ?_
              refine lv_istore (lv' := [(4, .int (iI (v * 10 + (A 0 a1) - 48))), (5, .int (iI i)), (3, .int (iI p0)), (0, .ref (eO E 1)), (1, .int (iI lo)), (2, .int (iI hi))]) F.1 F.2.1 dX4_readNumber_68 hl (by decide) rfl (fun ls hl => ?_)
              refine lv_aload_n F.1 F.2.1 dX4_readNumber_70 rfl (lv_at hl 3 rfl) ?_
              refine lv_dup F.1 F.2.1 dX4_readNumber_71 rfl ?_
              refine x_get (v := .int (iI a1)) F hin4 hw 1 4 rfl rfl 5 (by decide) (by decide +kernel) rfl rfl dX4_readNumber_72 ?_
              refine bi_iconst F dX4_readNumber_75 ?_
              refine bi_iadd F dX4_readNumber_76 ?_
              refine x_put (I2 := jX I f k (a1 + 1) c5 c6 c7 c8) F hin4 tyX4 tyX4_ok nmX4 hw 1 4 rfl rfl 5 (by decide) (by decide +kernel) rfl rfl (by decide +kernel) (Nat.le_of_ble_eq_true rfl) rfl (by decide) dX4_readNumber_77 (fun H locs hw => ?_)
              refine lv_iinc (v := iI (i + 1)) (lv' := [(5, .int (iI (i + 1))), (4, .int (iI (v * 10 + (A 0 a1) - 48))), (3, .int (iI p0)), (0, .ref (eO E 1)), (1, .int (iI lo)), (2, .int (iI hi))]) F.1 F.2.1 dX4_readNumber_80 hl (k := 1) rfl (iI_add _ _).symm (by decide) rfl (fun ls hl => ?_)
              refine lv_goto (tgt := 25) F.1 F.2.1 dX4_readNumber_83 (by decide) ?_
              exact ih_25 (v * 10 + (A 0 a1) - 48) (i + 1) (a1 + 1) H locs ls (by omega) (by omega) (by rw [← hr]; refine Eq.symm ((pRun_t (a := a1) (v := v) (by omega) (by omega)).trans ?_); first | (rw [if_pos (by omega)]; congr 1; omega) | (rw [if_neg (by omega)]; done)) (by omega) hw (lv_sub hl [0, 1, 2, 3, 4, 5] rfl) (by omega)
          · refine bi_if_eq (tgt := 86) F dX4_readNumber_41 (by decide) (by decide) (fun _ => ?_) (fun q => absurd q (by decide))
            have hng : ¬ (a1 < I 3 ∧ 48 ≤ A 0 a1 ∧ A 0 a1 ≤ 57) := by omega
            have hrun : pRun (A 0) (I 3) p0 p0 0 = (a1, v) := by rw [← hr]; exact pRun_f (by omega)
            refine lv_aload_n F.1 F.2.1 dX4_readNumber_86 rfl (lv_at hl 3 rfl) ?_
            refine x_get (v := .int (iI a1)) F hin4 hw 1 4 rfl rfl 5 (by decide) (by decide +kernel) rfl rfl dX4_readNumber_87 ?_
            refine lv_iload_n F.1 F.2.1 dX4_readNumber_90 rfl (lv_at hl 2 rfl) ?_
            refine bi_icmp_ne (tgt := 106) F dX4_readNumber_91 (by decide) (by omega) (fun c_22 => ?_) (fun c_22 => ?_)
            · have hne : a1 ≠ p0 := by omega
              have hdg : 48 ≤ pLook (A 0) (I 3) p0 ∧ pLook (A 0) (I 3) p0 ≤ 57 := Decidable.byContradiction (fun hc => hne (congrArg Prod.fst (hrun.symm.trans (pRun_f (T := A 0) (n := I 3) (f := p0) (a := p0) (v := 0) (fun h => hc (pIn_i.mpr h))))))
              have hnw0 : pNumW (A 0) (I 3) lo hi a k = if a1 - p0 ≤ 3 ∧ lo ≤ v ∧ v ≤ hi then 0 else 2 := by unfold pNumW; rw [if_pos hk0, ← hs, if_pos hdg, hrun]
              refine lv_aload_n F.1 F.2.1 dX4_readNumber_106 rfl (lv_at hl 3 rfl) ?_
              refine x_get (v := .int (iI a1)) F hin4 hw 1 4 rfl rfl 5 (by decide) (by decide +kernel) rfl rfl dX4_readNumber_107 ?_
              refine lv_iload_n F.1 F.2.1 dX4_readNumber_110 rfl (lv_at hl 2 rfl) ?_
              refine bi_isub F dX4_readNumber_111 ?_
              refine bi_iconst F dX4_readNumber_112 ?_
              refine bi_icmp_gt (tgt := 126) F dX4_readNumber_113 (by decide) (by omega) (fun c_23 => ?_) (fun c_23 => ?_)
              · have hnw : pNumW (A 0) (I 3) lo hi a k = 2 := by rw [hnw0, if_neg (by omega)]
                refine lv_aload_n F.1 F.2.1 dX4_readNumber_126 rfl (lv_at hl 3 rfl) ?_
                refine bi_iconst F dX4_readNumber_127 ?_
                refine lv_iload_n F.1 F.2.1 dX4_readNumber_128 rfl (lv_at hl 2 rfl) ?_
                refine call_G (As := [.int (iI 2), .int (iI p0)]) (rest := []) F (y_fail l E I A L f k a1 c5 c6 c7 c8 2 p0 (by omega)) (cwV 2 F.2.2.2.2 gX4_readNumber_X4_fail rfl rfl rfl (by decide +kernel) ⟨(Nat.le_of_ble_eq_true rfl), (Nat.le_of_ble_eq_true rfl)⟩) hw (x_recv hw 1 4 rfl rfl) rfl hl.1 rfl (Nat.le_of_ble_eq_true rfl) dX4_readNumber_129 ⟨Nat.zero_le _, Nat.zero_le _⟩ (fun H locs hw => ?_)
                generalize ef_24 : (if k = 0 then p0 else f) = f_24 at hw
                generalize ek_25 : (if k = 0 then 2 else k) = k_25 at hw
                try have hnw : pNumW (A 0) (I 3) lo hi a k = 0 := by rw [hnw0, if_pos (by omega)]
                refine lv_iload F.1 F.2.1 dX4_readNumber_132 (lv_at hl 1 rfl) ?_
                exact hret _ _ _ _ _ _ (by show _ = pNumV (A 0) (I 3) a k; unfold pNumV; rw [if_pos hk0, ← hs, hrun]; first | (rw [if_pos hdg]; done) | (rw [if_neg hdg]; show v = 0; omega)) (xW_j (by show _ = if k = 0 ∧ pNumW (A 0) (I 3) lo hi a k ≠ 0 then pSk (A 0) (I 3) a else f; rw [hnw, ← hs]; first | (exfalso; omega) | (rw [if_neg (fun hq => hq.2 rfl)]; done) | (rw [if_pos ⟨hk0, by decide⟩, ← ef_24, if_pos hk0]; done) | (rw [if_pos ⟨hk0, by decide⟩, ← ef_24, if_pos hk0]; omega)) (by show _ = pNumW (A 0) (I 3) lo hi a k; rw [hnw]; first | (exfalso; omega) | exact hk0 | (rw [← ek_25, if_pos hk0]; done)) (by show _ = if k = 0 then (pRun (A 0) (I 3) (pSk (A 0) (I 3) a) (pSk (A 0) (I 3) a) 0).1 else a; rw [if_pos hk0, ← hs, hrun]) (rfl) (rfl) (rfl) (rfl) (rfl)) hw dX4_readNumber_134
              · refine lv_iload F.1 F.2.1 dX4_readNumber_116 (lv_at hl 1 rfl) ?_
                refine lv_iload_n F.1 F.2.1 dX4_readNumber_118 rfl (lv_at hl 4 rfl) ?_
                refine lv_iload_n F.1 F.2.1 dX4_readNumber_119 rfl (lv_at hl 5 rfl) ?_
                refine calls_PN (n := 3) (As := [.int (iI v), .int (iI lo), .int (iI hi)]) (rest := []) (host := "SnowDays") F (x9_isOut l E v lo hi (by omega) (by omega) (by omega)) (by decide +kernel) gX4_readNumber_X9_isOut_n113 rfl rfl rfl (by decide +kernel) (by decide +kernel) (by decide +kernel) ⟨(Nat.le_of_ble_eq_true rfl), (Nat.le_of_ble_eq_true rfl)⟩ hw rfl hl.1 rfl (Nat.le_of_ble_eq_true rfl) dX4_readNumber_120 ⟨Nat.zero_le _, Nat.zero_le _⟩ (fun q_26 H locs hw => ?_) (fun q_26 H locs hw => ?_)
                · refine bi_if_eq (tgt := 132) F dX4_readNumber_123 (by decide) (by decide) (fun q => absurd q (by decide)) (fun _ => ?_)
                  have hnw : pNumW (A 0) (I 3) lo hi a k = 2 := by rw [hnw0, if_neg (by omega)]
                  refine lv_aload_n F.1 F.2.1 dX4_readNumber_126 rfl (lv_at hl 3 rfl) ?_
                  refine bi_iconst F dX4_readNumber_127 ?_
                  refine lv_iload_n F.1 F.2.1 dX4_readNumber_128 rfl (lv_at hl 2 rfl) ?_
                  refine call_G (As := [.int (iI 2), .int (iI p0)]) (rest := []) F (y_fail l E I A L f k a1 c5 c6 c7 c8 2 p0 (by omega)) (cwV 2 F.2.2.2.2 gX4_readNumber_X4_fail rfl rfl rfl (by decide +kernel) ⟨(Nat.le_of_ble_eq_true rfl), (Nat.le_of_ble_eq_true rfl)⟩) hw (x_recv hw 1 4 rfl rfl) rfl hl.1 rfl (Nat.le_of_ble_eq_true rfl) dX4_readNumber_129 ⟨Nat.zero_le _, Nat.zero_le _⟩ (fun H locs hw => ?_)
                  generalize ef_28 : (if k = 0 then p0 else f) = f_28 at hw
                  generalize ek_29 : (if k = 0 then 2 else k) = k_29 at hw
                  try have hnw : pNumW (A 0) (I 3) lo hi a k = 0 := by rw [hnw0, if_pos (by omega)]
                  refine lv_iload F.1 F.2.1 dX4_readNumber_132 (lv_at hl 1 rfl) ?_
                  exact hret _ _ _ _ _ _ (by show _ = pNumV (A 0) (I 3) a k; unfold pNumV; rw [if_pos hk0, ← hs, hrun]; first | (rw [if_pos hdg]; done) | (rw [if_neg hdg]; show v = 0; omega)) (xW_j (by show _ = if k = 0 ∧ pNumW (A 0) (I 3) lo hi a k ≠ 0 then pSk (A 0) (I 3) a else f; rw [hnw, ← hs]; first | (exfalso; omega) | (rw [if_neg (fun hq => hq.2 rfl)]; done) | (rw [if_pos ⟨hk0, by decide⟩, ← ef_28, if_pos hk0]; done) | (rw [if_pos ⟨hk0, by decide⟩, ← ef_28, if_pos hk0]; omega)) (by show _ = pNumW (A 0) (I 3) lo hi a k; rw [hnw]; first | (exfalso; omega) | exact hk0 | (rw [← ek_29, if_pos hk0]; done)) (by show _ = if k = 0 then (pRun (A 0) (I 3) (pSk (A 0) (I 3) a) (pSk (A 0) (I 3) a) 0).1 else a; rw [if_pos hk0, ← hs, hrun]) (rfl) (rfl) (rfl) (rfl) (rfl)) hw dX4_readNumber_134
                · refine bi_if_eq (tgt := 132) F dX4_readNumber_123 (by decide) (by decide) (fun _ => ?_) (fun q => absurd q (by decide))
                  try have hnw : pNumW (A 0) (I 3) lo hi a k = 0 := by rw [hnw0, if_pos (by omega)]
                  refine lv_iload F.1 F.2.1 dX4_readNumber_132 (lv_at hl 1 rfl) ?_
                  exact hret _ _ _ _ _ _ (by show _ = pNumV (A 0) (I 3) a k; unfold pNumV; rw [if_pos hk0, ← hs, hrun]; first | (rw [if_pos hdg]; done) | (rw [if_neg hdg]; show v = 0; omega)) (xW_j (by show _ = if k = 0 ∧ pNumW (A 0) (I 3) lo hi a k ≠ 0 then pSk (A 0) (I 3) a else f; rw [hnw, ← hs]; first | (exfalso; omega) | (rw [if_neg (fun hq => hq.2 rfl)]; done) | (rw [if_pos ⟨hk0, by decide⟩, ← ef, if_pos hk0]; done) | (rw [if_pos ⟨hk0, by decide⟩, ← ef, if_pos hk0]; omega)) (by show _ = pNumW (A 0) (I 3) lo hi a k; rw [hnw]; first | (exfalso; omega) | exact hk0 | (rw [← ek, if_pos hk0]; done)) (by show _ = if k = 0 then (pRun (A 0) (I 3) (pSk (A 0) (I 3) a) (pSk (A 0) (I 3) a) 0).1 else a; rw [if_pos hk0, ← hs, hrun]) (rfl) (rfl) (rfl) (rfl) (rfl)) hw dX4_readNumber_134
            · have hdg : ¬ (48 ≤ pLook (A 0) (I 3) p0 ∧ pLook (A 0) (I 3) p0 ≤ 57) := fun h => by have h2 := pIn_i.mp (show pIn (A 0) (I 3) p0 from h); rw [show a1 = p0 by omega] at hng; exact hng h2
              have hnw : pNumW (A 0) (I 3) lo hi a k = 1 := by unfold pNumW; rw [if_pos hk0, ← hs, if_neg hdg]
              refine lv_aload_n F.1 F.2.1 dX4_readNumber_94 rfl (lv_at hl 3 rfl) ?_
              refine bi_iconst F dX4_readNumber_95 ?_
              refine lv_aload_n F.1 F.2.1 dX4_readNumber_96 rfl (lv_at hl 3 rfl) ?_
              refine x_get (v := .int (iI a1)) F hin4 hw 1 4 rfl rfl 5 (by decide) (by decide +kernel) rfl rfl dX4_readNumber_97 ?_
              refine call_G (As := [.int (iI 1), .int (iI a1)]) (rest := []) F (y_fail l E I A L f k a1 c5 c6 c7 c8 1 a1 (by omega)) (cwV 2 F.2.2.2.2 gX4_readNumber_X4_fail rfl rfl rfl (by decide +kernel) ⟨(Nat.le_of_ble_eq_true rfl), (Nat.le_of_ble_eq_true rfl)⟩) hw (x_recv hw 1 4 rfl rfl) rfl hl.1 rfl (Nat.le_of_ble_eq_true rfl) dX4_readNumber_100 ⟨Nat.zero_le _, Nat.zero_le _⟩ (fun H locs hw => ?_)
              generalize ef_31 : (if k = 0 then a1 else f) = f_31 at hw
              generalize ek_32 : (if k = 0 then 1 else k) = k_32 at hw
              refine lv_goto (tgt := 132) F.1 F.2.1 dX4_readNumber_103 (by decide) ?_
              try have hnw : pNumW (A 0) (I 3) lo hi a k = 0 := by rw [hnw0, if_pos (by omega)]
              refine lv_iload F.1 F.2.1 dX4_readNumber_132 (lv_at hl 1 rfl) ?_
              exact hret _ _ _ _ _ _ (by show _ = pNumV (A 0) (I 3) a k; unfold pNumV; rw [if_pos hk0, ← hs, hrun]; first | (rw [if_pos hdg]; done) | (rw [if_neg hdg]; show v = 0; omega)) (xW_j (by show _ = if k = 0 ∧ pNumW (A 0) (I 3) lo hi a k ≠ 0 then pSk (A 0) (I 3) a else f; rw [hnw, ← hs]; first | (exfalso; omega) | (rw [if_neg (fun hq => hq.2 rfl)]; done) | (rw [if_pos ⟨hk0, by decide⟩, ← ef_31, if_pos hk0]; done) | (rw [if_pos ⟨hk0, by decide⟩, ← ef_31, if_pos hk0]; omega)) (by show _ = pNumW (A 0) (I 3) lo hi a k; rw [hnw]; first | (exfalso; omega) | exact hk0 | (rw [← ek_32, if_pos hk0]; done)) (by show _ = if k = 0 then (pRun (A 0) (I 3) (pSk (A 0) (I 3) a) (pSk (A 0) (I 3) a) 0).1 else a; rw [if_pos hk0, ← hs, hrun]) (rfl) (rfl) (rfl) (rfl) (rfl)) hw dX4_readNumber_134
    exact loop_25 ((I 3 - p0 : Int).toNat + 1) 0 0 p0 H locs ls (by omega) (by omega) (rfl) (by omega) hw (lv_sub hl [0, 1, 2, 3, 4, 5] rfl) (by omega)
  · refine bi_iconst F dX4_readNumber_7 ?_
    exact hret _ _ _ _ _ _ (by show _ = pNumV (A 0) (I 3) a k; unfold pNumV; rw [if_neg (by omega)]) (xW_j (by show _ = if k = 0 ∧ _ then _ else f; rw [if_neg (by omega)]) (by show _ = pNumW (A 0) (I 3) lo hi a k; unfold pNumW; rw [if_neg (by omega)]) (by show _ = if k = 0 then _ else a; rw [if_neg (by omega)]) (rfl) (rfl) (rfl) (rfl) (rfl)) hw dX4_readNumber_8
set_option maxRecDepth 100000 in
set_option maxHeartbeats 4000000 in
theorem y_readEnd (l : Launch) (E : Ev) (I : Nat → Int) (A : Nat → Int → Int) (L : Nat → Int64) (f k a c5 c6 c7 c8 : Int) (hT : 0 ≤ I 3 ∧ I 3 ≤ 240) (hl0 : ∀ k, 0 ≤ A 0 k ∧ A 0 k ≤ 255) (hff0 : -1 ≤ f ∧ f ≤ 240) (hkk : 0 ≤ k ∧ k ≤ 3) (haa : 0 ≤ a ∧ a ≤ 240) : MetG l yX4_readEnd wsX4_readEnd ({ frames := 1, cells := 0, slots := 0, locals := 22 } : Room) E [.ref (eO E 1)] (xW E (jX I f k a c5 c6 c7 c8) A L) (xW E (jX I ((cEnd (A 0) (I 3) (f, k, a)).1) ((cEnd (A 0) (I 3) (f, k, a)).2.1) ((cEnd (A 0) (I 3) (f, k, a)).2.2) c5 c6 c7 c8) (A) L) := by
  have hin4 : ∀ w ∈ wsX40, w ∈ wsX4_readEnd := by decide +kernel
  refine met_G (cc := cX4_readEnd) (nL := 1) (by decide) rfl (Nat.le_of_ble_eq_true rfl) ?_
  intro p e s m args below meth c Q H0 A0 H locs ls F hw hl hret
  have F : CallFix p m c cX4_readEnd 1 s args wsX4_readEnd RX4 := F
  have hl : lv_has ls 1 [(0, .ref (eO E 1))] := hl
  refine lv_aload_n F.1 F.2.1 dX4_readEnd_0 rfl (lv_at hl 0 rfl) ?_
  refine x_get (v := .int (iI k)) F hin4 hw 1 4 rfl rfl 3 (by decide) (by decide +kernel) rfl rfl dX4_readEnd_1 ?_
  refine bi_if_eq (tgt := 8) F dX4_readEnd_4 (by decide) (by omega) (fun c_1 => ?_) (fun c_1 => ?_)
  · refine lv_aload_n F.1 F.2.1 dX4_readEnd_8 rfl (lv_at hl 0 rfl) ?_
    refine call_F (As := []) (rest := []) F (y_nextWord l E I A L f k a c5 c6 c7 c8  (by omega) hl0 (by omega)) (cwV 0 F.2.2.2.2 gX4_readEnd_X4_nextWord rfl rfl rfl (by decide +kernel) ⟨(Nat.le_of_ble_eq_true rfl), (Nat.le_of_ble_eq_true rfl)⟩) hw (x_recv hw 1 4 rfl rfl) rfl hl.1 rfl (Nat.le_of_ble_eq_true rfl) dX4_readEnd_9 ⟨Nat.zero_le _, Nat.zero_le _⟩ (fun H locs hw => ?_)
    generalize ev2 : pLook (A 0) (I 3) (pSk (A 0) (I 3) a) = v2
    have fvv2 : -1 ≤ v2 ∧ v2 ≤ 255 := by rw [← ev2]; exact pLook_r (by first | exact hl0 | (subst_vars; exact hl0))
    generalize ea_3 : (pSk (A 0) (I 3) a) = a_3 at hw
    have g_4 : 0 ≤ a_3 ∧ a_3 ≤ 240 := by rw [← ea_3]; exact pSk_240 (by omega) (by omega)
    have hk0 : k = 0 := by omega
    obtain ⟨p0, ep0⟩ : ∃ z, z = a_3 := ⟨_, rfl⟩
    rw [← ep0] at hw
    have hs : p0 = pSk (A 0) (I 3) a := by rw [ep0, ← ea_3]
    have hp0 : 0 ≤ p0 ∧ p0 ≤ 240 := by omega
    refine bi_bipush F dX4_readEnd_12 (by decide) ?_
    refine bi_icmp_ne (tgt := 30) F dX4_readEnd_14 (by decide) (by omega) (fun c_5 => ?_) (fun c_5 => ?_)
    · refine lv_aload_n F.1 F.2.1 dX4_readEnd_30 rfl (lv_at hl 0 rfl) ?_
      refine bi_iconst F dX4_readEnd_31 ?_
      refine lv_aload_n F.1 F.2.1 dX4_readEnd_32 rfl (lv_at hl 0 rfl) ?_
      refine x_get (v := .int (iI p0)) F hin4 hw 1 4 rfl rfl 5 (by decide) (by decide +kernel) rfl rfl dX4_readEnd_33 ?_
      refine call_G (As := [.int (iI 1), .int (iI p0)]) (rest := []) F (y_fail l E I A L f k p0 c5 c6 c7 c8 1 p0 (by omega)) (cwV 2 F.2.2.2.2 gX4_readEnd_X4_fail rfl rfl rfl (by decide +kernel) ⟨(Nat.le_of_ble_eq_true rfl), (Nat.le_of_ble_eq_true rfl)⟩) hw (x_recv hw 1 4 rfl rfl) rfl hl.1 rfl (Nat.le_of_ble_eq_true rfl) dX4_readEnd_36 ⟨Nat.zero_le _, Nat.zero_le _⟩ (fun H locs hw => ?_)
      generalize ef_6 : (if k = 0 then p0 else f) = f_6 at hw
      generalize ek_7 : (if k = 0 then 1 else k) = k_7 at hw
      try have hv9 : 0 = 0 := rfl
      exact hret _ _ _ _ _ (xW_j (by show _ = if k = 0 ∧ pWordW (A 0) (I 3) 59 a k ≠ 0 then pSk (A 0) (I 3) a else f; unfold pWordW; rw [if_pos hk0, ← hs]; first | (rw [if_pos (show pLook (A 0) (I 3) p0 = 59 by subst_vars; assumption), if_neg (by omega)]; done) | (rw [if_neg (show ¬ pLook (A 0) (I 3) p0 = 59 by subst_vars; assumption), if_pos (by omega), ← ef_6, if_pos hk0]; done)) (by show _ = pWordW (A 0) (I 3) 59 a k; unfold pWordW; rw [if_pos hk0, ← hs]; first | (rw [if_pos (show pLook (A 0) (I 3) p0 = 59 by subst_vars; assumption)]; omega) | (rw [if_neg (show ¬ pLook (A 0) (I 3) p0 = 59 by subst_vars; assumption), ← ek_7, if_pos hk0]; done)) (by show _ = pWordA (A 0) (I 3) 59 a k; unfold pWordA; rw [if_pos hk0, ← hs]; first | (rw [if_pos (show pLook (A 0) (I 3) p0 = 59 by subst_vars; assumption)]; done) | (rw [if_neg (show ¬ pLook (A 0) (I 3) p0 = 59 by subst_vars; assumption)]; done)) (rfl) (rfl) (rfl) (rfl) (rfl)) hw dX4_readEnd_39
    · refine lv_aload_n F.1 F.2.1 dX4_readEnd_17 rfl (lv_at hl 0 rfl) ?_
      refine lv_dup F.1 F.2.1 dX4_readEnd_18 rfl ?_
      refine x_get (v := .int (iI p0)) F hin4 hw 1 4 rfl rfl 5 (by decide) (by decide +kernel) rfl rfl dX4_readEnd_19 ?_
      refine bi_iconst F dX4_readEnd_22 ?_
      refine bi_iadd F dX4_readEnd_23 ?_
      refine x_put (I2 := jX I f k (p0 + 1) c5 c6 c7 c8) F hin4 tyX4 tyX4_ok nmX4 hw 1 4 rfl rfl 5 (by decide) (by decide +kernel) rfl rfl (by decide +kernel) (Nat.le_of_ble_eq_true rfl) rfl (by decide) dX4_readEnd_24 (fun H locs hw => ?_)
      refine lv_goto (tgt := 39) F.1 F.2.1 dX4_readEnd_27 (by decide) ?_
      try have hv9 : 0 = 0 := rfl
      exact hret _ _ _ _ _ (xW_j (by show _ = if k = 0 ∧ pWordW (A 0) (I 3) 59 a k ≠ 0 then pSk (A 0) (I 3) a else f; unfold pWordW; rw [if_pos hk0, ← hs]; first | (rw [if_pos (show pLook (A 0) (I 3) p0 = 59 by subst_vars; assumption), if_neg (by omega)]; done) | (rw [if_neg (show ¬ pLook (A 0) (I 3) p0 = 59 by subst_vars; assumption), if_pos (by omega), ← ef, if_pos hk0]; done)) (by show _ = pWordW (A 0) (I 3) 59 a k; unfold pWordW; rw [if_pos hk0, ← hs]; first | (rw [if_pos (show pLook (A 0) (I 3) p0 = 59 by subst_vars; assumption)]; omega) | (rw [if_neg (show ¬ pLook (A 0) (I 3) p0 = 59 by subst_vars; assumption), ← ek, if_pos hk0]; done)) (by show _ = pWordA (A 0) (I 3) 59 a k; unfold pWordA; rw [if_pos hk0, ← hs]; first | (rw [if_pos (show pLook (A 0) (I 3) p0 = 59 by subst_vars; assumption)]; done) | (rw [if_neg (show ¬ pLook (A 0) (I 3) p0 = 59 by subst_vars; assumption)]; done)) (rfl) (rfl) (rfl) (rfl) (rfl)) hw dX4_readEnd_39
  · exact hret _ _ _ _ _ (xW_j (by show _ = if k = 0 ∧ _ then _ else f; rw [if_neg (by omega)]) (by show _ = pWordW (A 0) (I 3) 59 a k; unfold pWordW; rw [if_neg (by omega)]) (by show _ = pWordA (A 0) (I 3) 59 a k; unfold pWordA; rw [if_neg (by omega)]) (rfl) (rfl) (rfl) (rfl) (rfl)) hw dX4_readEnd_7
