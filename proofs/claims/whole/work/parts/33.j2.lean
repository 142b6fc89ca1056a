set_option maxRecDepth 100000 in
set_option maxHeartbeats 4000000 in
theorem j_readsPerson (l : Launch) (E : Ev) (I : Nat → Int) (A : Nat → Int → Int) (a : Int) (w : Int) (hT : 0 ≤ I 0 ∧ I 0 ≤ 240) (hl0 : ∀ k, 0 ≤ A 0 k ∧ A 0 k ≤ 255) (ha : 0 ≤ a ∧ a ≤ 240) (hw3 : 0 ≤ w ∧ w ≤ 3) (hw0 : w = 0) (ha2 : a < I 0) (hc : cOk A) : MetG l yX10_readsPerson wsX10_readsPerson ({ frames := 4, cells := 0, slots := 0, locals := 86 } : Room) E [.ref (eO E 0)] (mW E (jI I a w) A) (mW E (jI I ((rPer (A 0) (I 0) (a, w, A)).1) ((rPer (A 0) (I 0) (a, w, A)).2.1)) ((rPer (A 0) (I 0) (a, w, A)).2.2)) := by
  have hin : ∀ w ∈ wsX100, w ∈ wsX10_readsPerson := fun w h => in_tail h
  refine met_G (cc := cX10_readsPerson) (nL := 1) (by decide) rfl (Nat.le_of_ble_eq_true rfl) ?_
  intro p e s m args below meth c Q H0 A0 H locs ls F hw hl hret
  have F : CallFix p m c cX10_readsPerson 1 s args wsX10_readsPerson RX10 := F
  have hl : lv_has ls 1 [(0, .ref (eO E 0))] := hl
  obtain ⟨hc0, hc1, hc2, hc3⟩ := id hc
  refine lv_aload_n F.1 F.2.1 dX10_readsPerson_0 rfl (lv_at hl 0 rfl) ?_
  refine lv_aload_n F.1 F.2.1 dX10_readsPerson_1 rfl (lv_at hl 0 rfl) ?_
  refine m_get F hin hw 8 (by decide) (by decide +kernel) rfl dX10_readsPerson_2 ?_
  refine bi_iconst F dX10_readsPerson_5 ?_
  refine m_ld F hw 6 4 rfl (by decide) (by omega) dX10_readsPerson_6 ?_
  refine bi_bipush F dX10_readsPerson_7 (by decide) ?_
  refine bi_icmp_ne (tgt := 16) F dX10_readsPerson_9 (by decide) (by omega) (fun c_1 => ?_) (fun c_1 => ?_)
  · refine bi_iconst F dX10_readsPerson_16 ?_
    refine call_B (As := [.int (iI 0)]) (rest := []) F (j_opens l E I A a w 0 (by omega) (by omega) (by omega)) (cwV 1 F.2.2.2.2 gX10_readsPerson_X10_opens rfl rfl rfl (by decide +kernel) ⟨Nat.le_of_ble_eq_true rfl, Nat.le_of_ble_eq_true rfl⟩) hw (m_recv hw) rfl hl.1 rfl (Nat.le_of_ble_eq_true rfl) dX10_readsPerson_17 ⟨Nat.zero_le _, Nat.zero_le _⟩ (fun q_2 H locs hw => ?_) (fun q_2 H locs hw => ?_)
    · refine bi_if_eq (tgt := 79) F dX10_readsPerson_20 (by decide) (by decide) (fun q => absurd q (by decide)) (fun _ => ?_)
      refine lv_aload_n F.1 F.2.1 dX10_readsPerson_23 rfl (lv_at hl 0 rfl) ?_
      refine m_get F hin hw 11 (by decide) (by decide +kernel) rfl dX10_readsPerson_24 ?_
      refine bi_iconst F dX10_readsPerson_27 ?_
      refine lv_aload_n F.1 F.2.1 dX10_readsPerson_28 rfl (lv_at hl 0 rfl) ?_
      refine m_get F hin hw 8 (by decide) (by decide +kernel) rfl dX10_readsPerson_29 ?_
      refine bi_iconst F dX10_readsPerson_32 ?_
      refine m_ld F hw 6 4 rfl (by decide) (by omega) dX10_readsPerson_33 ?_
      refine bi_imul F dX10_readsPerson_34 ?_
      refine lv_aload_n F.1 F.2.1 dX10_readsPerson_35 rfl (lv_at hl 0 rfl) ?_
      refine call_F (As := []) (rest := [.int (iI (2 * (A 6 2))), .ref (eA E 9)]) F (j_toldAhead l E I A (a + 1) w  (by omega) (by subst_vars; exact hl0) (by omega) (by omega) (hc)) (cwV 0 F.2.2.2.2 gX10_readsPerson_X10_toldAhead rfl rfl rfl (by decide +kernel) ⟨Nat.le_of_ble_eq_true rfl, Nat.le_of_ble_eq_true rfl⟩) hw (m_recv hw) rfl hl.1 rfl (Nat.le_of_ble_eq_true rfl) dX10_readsPerson_36 ⟨Nat.zero_le _, Nat.zero_le _⟩ (fun H locs hw => ?_)
      generalize ea4 : tlA (A 0) (I 0) (A 6 1) (a + 1) w = a4 at hw
      generalize ew5 : tlW (A 0) (I 0) (A 6 1) (a + 1) w = w5 at hw
      have f_6 := tlA_r (T := A 0) (n := I 0) (nv := A 6 1) (a := (a + 1)) (w := w) (by omega) (by omega)
      try rw [ea4] at f_6
      try rw [ew5] at f_6
      have f_7 := tlW_r (T := A 0) (n := I 0) (nv := A 6 1) (a := (a + 1)) (w := w) (by omega)
      try rw [ea4] at f_7
      try rw [ew5] at f_7
      generalize ev8 : tlV (A 0) (I 0) (a + 1) w = v8
      have f_9 : 0 ≤ v8 ∧ v8 ≤ 999 := by rw [← ev8]; exact tlV_r
      refine m_st F hw 9 12 rfl (by decide) (by omega) dX10_readsPerson_39 (fun H locs hw => ?_)
      generalize eA10 : st2 A 9 (2 * (A 6 2)) v8 = A10 at hw
      have h6 : A10 6 2 = A 6 2 := by subst_vars; rfl
      refine lv_aload_n F.1 F.2.1 dX10_readsPerson_40 rfl (lv_at hl 0 rfl) ?_
      refine m_get F hin hw 11 (by decide) (by decide +kernel) rfl dX10_readsPerson_41 ?_
      refine bi_iconst F dX10_readsPerson_44 ?_
      refine lv_aload_n F.1 F.2.1 dX10_readsPerson_45 rfl (lv_at hl 0 rfl) ?_
      refine m_get F hin hw 8 (by decide) (by decide +kernel) rfl dX10_readsPerson_46 ?_
      refine bi_iconst F dX10_readsPerson_49 ?_
      refine m_ld F hw 6 4 rfl (by decide) (by omega) dX10_readsPerson_50 ?_
      have f_11 : A10 6 2 = A 6 2 := by rw [← eA10, st2_n (by decide)]
      refine bi_imul F dX10_readsPerson_51 ?_
      refine bi_iconst F dX10_readsPerson_52 ?_
      refine bi_iadd F dX10_readsPerson_53 ?_
      refine lv_aload_n F.1 F.2.1 dX10_readsPerson_54 rfl (lv_at hl 0 rfl) ?_
      refine bi_iconst F dX10_readsPerson_55 ?_
      refine bi_sipush F dX10_readsPerson_56 (by decide) ?_
      refine call_F (As := [.int (iI 0), .int (iI 999)]) (rest := [.int (iI (2 * (A10 6 2) + 1)), .ref (eA E 9)]) F (j_number l E I A10 a4 w5 0 999 (by omega) (by subst_vars; exact hl0) (by omega) (by omega) (by omega) (by omega)) (cwV 2 F.2.2.2.2 gX10_readsPerson_X10_number rfl rfl rfl (by decide +kernel) ⟨Nat.le_of_ble_eq_true rfl, Nat.le_of_ble_eq_true rfl⟩) hw (m_recv hw) rfl hl.1 rfl (Nat.le_of_ble_eq_true rfl) dX10_readsPerson_59 ⟨Nat.zero_le _, Nat.zero_le _⟩ (fun H locs hw => ?_)
      generalize ea12 : pNumA (A10 0) (I 0) 0 999 a4 w5 = a12 at hw
      generalize ew13 : pNumW (A10 0) (I 0) 0 999 a4 w5 = w13 at hw
      have f_14 := pNumA_r (T := A10 0) (n := I 0) (lo := 0) (hi := 999) (a := a4) (w := w5) (by omega) (by omega)
      try rw [ea12] at f_14
      try rw [ew13] at f_14
      have f_15 := pNumW_r (T := A10 0) (n := I 0) (lo := 0) (hi := 999) (a := a4) (w := w5) (by omega)
      try rw [ea12] at f_15
      try rw [ew13] at f_15
      generalize ev16 : pNumV (A10 0) (I 0) a4 w5 = v16
      have f_17 : 0 ≤ v16 ∧ v16 ≤ 999 := by rw [← ev16]; exact pNumV_r
      refine m_st F hw 9 12 rfl (by decide) (by omega) dX10_readsPerson_62 (fun H locs hw => ?_)
      generalize eA18 : st2 A10 9 (2 * (A10 6 2) + 1) v16 = A18 at hw
      have h6 : A18 6 2 = A 6 2 := by subst_vars; rfl
      refine lv_aload_n F.1 F.2.1 dX10_readsPerson_63 rfl (lv_at hl 0 rfl) ?_
      refine bi_bipush F dX10_readsPerson_64 (by decide) ?_
      refine call_G (As := [.int (iI 59)]) (rest := []) F (j_word l E I A18 a12 w13 59 (by omega) (by subst_vars; exact hl0) (by omega) (by omega) (by omega)) (cwV 1 F.2.2.2.2 gX10_readsPerson_X10_word rfl rfl rfl (by decide +kernel) ⟨Nat.le_of_ble_eq_true rfl, Nat.le_of_ble_eq_true rfl⟩) hw (m_recv hw) rfl hl.1 rfl (Nat.le_of_ble_eq_true rfl) dX10_readsPerson_66 ⟨Nat.zero_le _, Nat.zero_le _⟩ (fun H locs hw => ?_)
      generalize ea19 : pWordA (A18 0) (I 0) 59 a12 w13 = a19 at hw
      generalize ew20 : pWordW (A18 0) (I 0) 59 a12 w13 = w20 at hw
      have f_21 := pWordA_r (T := A18 0) (n := I 0) (c := 59) (a := a12) (w := w13) (by omega) (by omega) (by omega)
      try rw [ea19] at f_21
      try rw [ew20] at f_21
      have f_22 := pWordW_r (T := A18 0) (n := I 0) (c := 59) (a := a12) (w := w13) (by omega)
      try rw [ea19] at f_22
      try rw [ew20] at f_22
      refine lv_aload_n F.1 F.2.1 dX10_readsPerson_69 rfl (lv_at hl 0 rfl) ?_
      refine m_get F hin hw 8 (by decide) (by decide +kernel) rfl dX10_readsPerson_70 ?_
      refine bi_iconst F dX10_readsPerson_73 ?_
      refine lv_dup2_11 F.1 F.2.1 dX10_readsPerson_74 rfl rfl ?_
      refine m_ld F hw 6 4 rfl (by decide) (by omega) dX10_readsPerson_75 ?_
      have f_23 : A18 6 2 = A10 6 2 := by rw [← eA18, st2_n (by decide)]
      have f_24 : A10 6 2 = A 6 2 := by rw [← eA10, st2_n (by decide)]
      refine bi_iconst F dX10_readsPerson_76 ?_
      refine bi_iadd F dX10_readsPerson_77 ?_
      refine m_st F hw 6 4 rfl (by decide) (by omega) dX10_readsPerson_78 (fun H locs hw => ?_)
      generalize eA25 : st2 A18 6 2 (A18 6 2 + 1) = A25 at hw
      have hfin : rPer (A 0) (I 0) (a, w, A) = (a19, w20, A25) := by first | (unfold rPer; rw [if_pos (show A 6 2 = 6 by omega)]; done) | (unfold rPer; rw [if_neg (show ¬ A 6 2 = 6 by omega)]; subst_vars; rfl)
      exact hret _ _ _ _ _ (mW_j (by rw [hfin]) (by rw [hfin]) (by rw [hfin])) hw dX10_readsPerson_79
    · exfalso; omega
  · refine bi_iconst F dX10_readsPerson_12 ?_
    refine lv_goto (tgt := 17) F.1 F.2.1 dX10_readsPerson_13 (by decide) ?_
    refine call_B (As := [.int (iI 1)]) (rest := []) F (j_opens l E I A a w 1 (by omega) (by omega) (by omega)) (cwV 1 F.2.2.2.2 gX10_readsPerson_X10_opens rfl rfl rfl (by decide +kernel) ⟨Nat.le_of_ble_eq_true rfl, Nat.le_of_ble_eq_true rfl⟩) hw (m_recv hw) rfl hl.1 rfl (Nat.le_of_ble_eq_true rfl) dX10_readsPerson_17 ⟨Nat.zero_le _, Nat.zero_le _⟩ (fun q_26 H locs hw => ?_) (fun q_26 H locs hw => ?_)
    · exfalso; omega
    · refine bi_if_eq (tgt := 79) F dX10_readsPerson_20 (by decide) (by decide) (fun _ => ?_) (fun q => absurd q (by decide))
      have hfin : rPer (A 0) (I 0) (a, w, A) = (a, 3, A) := by first | (unfold rPer; rw [if_pos (show A 6 2 = 6 by omega)]; done) | (unfold rPer; rw [if_neg (show ¬ A 6 2 = 6 by omega)]; subst_vars; rfl)
      exact hret _ _ _ _ _ (mW_j (by rw [hfin]) (by rw [hfin]) (by rw [hfin])) hw dX10_readsPerson_79
set_option maxRecDepth 100000 in
set_option maxHeartbeats 4000000 in
theorem j_readsDebt (l : Launch) (E : Ev) (I : Nat → Int) (A : Nat → Int → Int) (a : Int) (w : Int) (hT : 0 ≤ I 0 ∧ I 0 ≤ 240) (hl0 : ∀ k, 0 ≤ A 0 k ∧ A 0 k ≤ 255) (ha : 0 ≤ a ∧ a ≤ 240) (hw3 : 0 ≤ w ∧ w ≤ 3) (hw0 : w = 0) (ha2 : a < I 0) (hc : cOk A) : MetG l yX10_readsDebt wsX10_readsDebt ({ frames := 4, cells := 0, slots := 0, locals := 86 } : Room) E [.ref (eO E 0)] (mW E (jI I a w) A) (mW E (jI I ((rDeb (A 0) (I 0) (a, w, A)).1) ((rDeb (A 0) (I 0) (a, w, A)).2.1)) ((rDeb (A 0) (I 0) (a, w, A)).2.2)) := by
  have hin : ∀ w ∈ wsX100, w ∈ wsX10_readsDebt := fun w h => in_tail h
  refine met_G (cc := cX10_readsDebt) (nL := 1) (by decide) rfl (Nat.le_of_ble_eq_true rfl) ?_
  intro p e s m args below meth c Q H0 A0 H locs ls F hw hl hret
  have F : CallFix p m c cX10_readsDebt 1 s args wsX10_readsDebt RX10 := F
  have hl : lv_has ls 1 [(0, .ref (eO E 0))] := hl
  obtain ⟨hc0, hc1, hc2, hc3⟩ := id hc
  refine lv_aload_n F.1 F.2.1 dX10_readsDebt_0 rfl (lv_at hl 0 rfl) ?_
  refine lv_aload_n F.1 F.2.1 dX10_readsDebt_1 rfl (lv_at hl 0 rfl) ?_
  refine m_get F hin hw 8 (by decide) (by decide +kernel) rfl dX10_readsDebt_2 ?_
  refine bi_iconst F dX10_readsDebt_5 ?_
  refine m_ld F hw 6 4 rfl (by decide) (by omega) dX10_readsDebt_6 ?_
  refine bi_iconst F dX10_readsDebt_7 ?_
  refine bi_icmp_ne (tgt := 15) F dX10_readsDebt_8 (by decide) (by omega) (fun c_1 => ?_) (fun c_1 => ?_)
  · refine bi_iconst F dX10_readsDebt_15 ?_
    refine call_B (As := [.int (iI 0)]) (rest := []) F (j_opens l E I A a w 0 (by omega) (by omega) (by omega)) (cwV 1 F.2.2.2.2 gX10_readsDebt_X10_opens rfl rfl rfl (by decide +kernel) ⟨Nat.le_of_ble_eq_true rfl, Nat.le_of_ble_eq_true rfl⟩) hw (m_recv hw) rfl hl.1 rfl (Nat.le_of_ble_eq_true rfl) dX10_readsDebt_16 ⟨Nat.zero_le _, Nat.zero_le _⟩ (fun q_2 H locs hw => ?_) (fun q_2 H locs hw => ?_)
    · refine bi_if_eq (tgt := 78) F dX10_readsDebt_19 (by decide) (by decide) (fun q => absurd q (by decide)) (fun _ => ?_)
      refine lv_aload_n F.1 F.2.1 dX10_readsDebt_22 rfl (lv_at hl 0 rfl) ?_
      refine m_get F hin hw 12 (by decide) (by decide +kernel) rfl dX10_readsDebt_23 ?_
      refine bi_iconst F dX10_readsDebt_26 ?_
      refine lv_aload_n F.1 F.2.1 dX10_readsDebt_27 rfl (lv_at hl 0 rfl) ?_
      refine m_get F hin hw 8 (by decide) (by decide +kernel) rfl dX10_readsDebt_28 ?_
      refine bi_iconst F dX10_readsDebt_31 ?_
      refine m_ld F hw 6 4 rfl (by decide) (by omega) dX10_readsDebt_32 ?_
      refine bi_imul F dX10_readsDebt_33 ?_
      refine lv_aload_n F.1 F.2.1 dX10_readsDebt_34 rfl (lv_at hl 0 rfl) ?_
      refine call_F (As := []) (rest := [.int (iI (2 * (A 6 3))), .ref (eA E 10)]) F (j_toldAhead l E I A (a + 1) w  (by omega) (by subst_vars; exact hl0) (by omega) (by omega) (hc)) (cwV 0 F.2.2.2.2 gX10_readsDebt_X10_toldAhead rfl rfl rfl (by decide +kernel) ⟨Nat.le_of_ble_eq_true rfl, Nat.le_of_ble_eq_true rfl⟩) hw (m_recv hw) rfl hl.1 rfl (Nat.le_of_ble_eq_true rfl) dX10_readsDebt_35 ⟨Nat.zero_le _, Nat.zero_le _⟩ (fun H locs hw => ?_)
      generalize ea4 : tlA (A 0) (I 0) (A 6 1) (a + 1) w = a4 at hw
      generalize ew5 : tlW (A 0) (I 0) (A 6 1) (a + 1) w = w5 at hw
      have f_6 := tlA_r (T := A 0) (n := I 0) (nv := A 6 1) (a := (a + 1)) (w := w) (by omega) (by omega)
      try rw [ea4] at f_6
      try rw [ew5] at f_6
      have f_7 := tlW_r (T := A 0) (n := I 0) (nv := A 6 1) (a := (a + 1)) (w := w) (by omega)
      try rw [ea4] at f_7
      try rw [ew5] at f_7
      generalize ev8 : tlV (A 0) (I 0) (a + 1) w = v8
      have f_9 : 0 ≤ v8 ∧ v8 ≤ 999 := by rw [← ev8]; exact tlV_r
      refine m_st F hw 10 10 rfl (by decide) (by omega) dX10_readsDebt_38 (fun H locs hw => ?_)
      generalize eA10 : st2 A 10 (2 * (A 6 3)) v8 = A10 at hw
      have h6 : A10 6 3 = A 6 3 := by subst_vars; rfl
      refine lv_aload_n F.1 F.2.1 dX10_readsDebt_39 rfl (lv_at hl 0 rfl) ?_
      refine m_get F hin hw 12 (by decide) (by decide +kernel) rfl dX10_readsDebt_40 ?_
      refine bi_iconst F dX10_readsDebt_43 ?_
      refine lv_aload_n F.1 F.2.1 dX10_readsDebt_44 rfl (lv_at hl 0 rfl) ?_
      refine m_get F hin hw 8 (by decide) (by decide +kernel) rfl dX10_readsDebt_45 ?_
      refine bi_iconst F dX10_readsDebt_48 ?_
      refine m_ld F hw 6 4 rfl (by decide) (by omega) dX10_readsDebt_49 ?_
      have f_11 : A10 6 3 = A 6 3 := by rw [← eA10, st2_n (by decide)]
      refine bi_imul F dX10_readsDebt_50 ?_
      refine bi_iconst F dX10_readsDebt_51 ?_
      refine bi_iadd F dX10_readsDebt_52 ?_
      refine lv_aload_n F.1 F.2.1 dX10_readsDebt_53 rfl (lv_at hl 0 rfl) ?_
      refine bi_iconst F dX10_readsDebt_54 ?_
      refine bi_sipush F dX10_readsDebt_55 (by decide) ?_
      refine call_F (As := [.int (iI 1), .int (iI 999)]) (rest := [.int (iI (2 * (A10 6 3) + 1)), .ref (eA E 10)]) F (j_number l E I A10 a4 w5 1 999 (by omega) (by subst_vars; exact hl0) (by omega) (by omega) (by omega) (by omega)) (cwV 2 F.2.2.2.2 gX10_readsDebt_X10_number rfl rfl rfl (by decide +kernel) ⟨Nat.le_of_ble_eq_true rfl, Nat.le_of_ble_eq_true rfl⟩) hw (m_recv hw) rfl hl.1 rfl (Nat.le_of_ble_eq_true rfl) dX10_readsDebt_58 ⟨Nat.zero_le _, Nat.zero_le _⟩ (fun H locs hw => ?_)
      generalize ea12 : pNumA (A10 0) (I 0) 1 999 a4 w5 = a12 at hw
      generalize ew13 : pNumW (A10 0) (I 0) 1 999 a4 w5 = w13 at hw
      have f_14 := pNumA_r (T := A10 0) (n := I 0) (lo := 1) (hi := 999) (a := a4) (w := w5) (by omega) (by omega)
      try rw [ea12] at f_14
      try rw [ew13] at f_14
      have f_15 := pNumW_r (T := A10 0) (n := I 0) (lo := 1) (hi := 999) (a := a4) (w := w5) (by omega)
      try rw [ea12] at f_15
      try rw [ew13] at f_15
      generalize ev16 : pNumV (A10 0) (I 0) a4 w5 = v16
      have f_17 : 0 ≤ v16 ∧ v16 ≤ 999 := by rw [← ev16]; exact pNumV_r
      refine m_st F hw 10 10 rfl (by decide) (by omega) dX10_readsDebt_61 (fun H locs hw => ?_)
      generalize eA18 : st2 A10 10 (2 * (A10 6 3) + 1) v16 = A18 at hw
      have h6 : A18 6 3 = A 6 3 := by subst_vars; rfl
      refine lv_aload_n F.1 F.2.1 dX10_readsDebt_62 rfl (lv_at hl 0 rfl) ?_
      refine bi_bipush F dX10_readsDebt_63 (by decide) ?_
      refine call_G (As := [.int (iI 59)]) (rest := []) F (j_word l E I A18 a12 w13 59 (by omega) (by subst_vars; exact hl0) (by omega) (by omega) (by omega)) (cwV 1 F.2.2.2.2 gX10_readsDebt_X10_word rfl rfl rfl (by decide +kernel) ⟨Nat.le_of_ble_eq_true rfl, Nat.le_of_ble_eq_true rfl⟩) hw (m_recv hw) rfl hl.1 rfl (Nat.le_of_ble_eq_true rfl) dX10_readsDebt_65 ⟨Nat.zero_le _, Nat.zero_le _⟩ (fun H locs hw => ?_)
      generalize ea19 : pWordA (A18 0) (I 0) 59 a12 w13 = a19 at hw
      generalize ew20 : pWordW (A18 0) (I 0) 59 a12 w13 = w20 at hw
      have f_21 := pWordA_r (T := A18 0) (n := I 0) (c := 59) (a := a12) (w := w13) (by omega) (by omega) (by omega)
      try rw [ea19] at f_21
      try rw [ew20] at f_21
      have f_22 := pWordW_r (T := A18 0) (n := I 0) (c := 59) (a := a12) (w := w13) (by omega)
      try rw [ea19] at f_22
      try rw [ew20] at f_22
      refine lv_aload_n F.1 F.2.1 dX10_readsDebt_68 rfl (lv_at hl 0 rfl) ?_
      refine m_get F hin hw 8 (by decide) (by decide +kernel) rfl dX10_readsDebt_69 ?_
      refine bi_iconst F dX10_readsDebt_72 ?_
      refine lv_dup2_11 F.1 F.2.1 dX10_readsDebt_73 rfl rfl ?_
      refine m_ld F hw 6 4 rfl (by decide) (by omega) dX10_readsDebt_74 ?_
      have f_23 : A18 6 3 = A10 6 3 := by rw [← eA18, st2_n (by decide)]
      have f_24 : A10 6 3 = A 6 3 := by rw [← eA10, st2_n (by decide)]
      refine bi_iconst F dX10_readsDebt_75 ?_
      refine bi_iadd F dX10_readsDebt_76 ?_
      refine m_st F hw 6 4 rfl (by decide) (by omega) dX10_readsDebt_77 (fun H locs hw => ?_)
      generalize eA25 : st2 A18 6 3 (A18 6 3 + 1) = A25 at hw
      have hfin : rDeb (A 0) (I 0) (a, w, A) = (a19, w20, A25) := by first | (unfold rDeb; rw [if_pos (show A 6 3 = 5 by omega)]; done) | (unfold rDeb; rw [if_neg (show ¬ A 6 3 = 5 by omega)]; subst_vars; rfl)
      exact hret _ _ _ _ _ (mW_j (by rw [hfin]) (by rw [hfin]) (by rw [hfin])) hw dX10_readsDebt_78
    · exfalso; omega
  · refine bi_iconst F dX10_readsDebt_11 ?_
    refine lv_goto (tgt := 16) F.1 F.2.1 dX10_readsDebt_12 (by decide) ?_
    refine call_B (As := [.int (iI 1)]) (rest := []) F (j_opens l E I A a w 1 (by omega) (by omega) (by omega)) (cwV 1 F.2.2.2.2 gX10_readsDebt_X10_opens rfl rfl rfl (by decide +kernel) ⟨Nat.le_of_ble_eq_true rfl, Nat.le_of_ble_eq_true rfl⟩) hw (m_recv hw) rfl hl.1 rfl (Nat.le_of_ble_eq_true rfl) dX10_readsDebt_16 ⟨Nat.zero_le _, Nat.zero_le _⟩ (fun q_26 H locs hw => ?_) (fun q_26 H locs hw => ?_)
    · exfalso; omega
    · refine bi_if_eq (tgt := 78) F dX10_readsDebt_19 (by decide) (by decide) (fun _ => ?_) (fun q => absurd q (by decide))
      have hfin : rDeb (A 0) (I 0) (a, w, A) = (a, 3, A) := by first | (unfold rDeb; rw [if_pos (show A 6 3 = 5 by omega)]; done) | (unfold rDeb; rw [if_neg (show ¬ A 6 3 = 5 by omega)]; subst_vars; rfl)
      exact hret _ _ _ _ _ (mW_j (by rw [hfin]) (by rw [hfin]) (by rw [hfin])) hw dX10_readsDebt_78
