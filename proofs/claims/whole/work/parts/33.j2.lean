set_option maxRecDepth 100000 in
set_option maxHeartbeats 4000000 in
theorem j_readsPerson (l : Launch) (E : Ev) (I : Nat → Int) (A : Nat → Int → Int) (a : Int) (w : Int) (hT : 0 ≤ I 0 ∧ I 0 ≤ 240) (hl0 : ∀ k, 0 ≤ A 0 k ∧ A 0 k ≤ 255) (ha : 0 ≤ a ∧ a ≤ 240) (hw3 : 0 ≤ w ∧ w ≤ 3) (hw0 : w = 0) (ha2 : a < I 0) (hc : cOk A) : MetG l yX10_readsPerson wsX10_readsPerson ({ frames := 4, cells := 0, slots := 0, locals := 86 } : Room) E [.ref (eO E 0)] (mW E (jI I a w) A) (mW E (jI I ((rPer (A 0) (I 0) (a, w, A)).1) ((rPer (A 0) (I 0) (a, w, A)).2.1)) ((rPer (A 0) (I 0) (a, w, A)).2.2)) := by
  have hin : ∀ w ∈ wsX100, w ∈ wsX10_readsPerson := fun w h => in_tail h
  refine met_G (cc := cX10_readsPerson) (nL := 1) (by decide) rfl (Nat.le_of_ble_eq_true rfl) ?_
  intro p e s m args below meth c Q H0 A0 H locs ls F hw hl hret
  have F : CallFix p m c cX10_readsPerson 1 s args wsX10_readsPerson RX10 := F
  have hl : lv_has ls 1 [(0, .ref (eO E 0))] := hl
  obtain ⟨hc0, hc1, hc2, hc3⟩ := id hc
  refine lv_aload_n F.1 F.2.1 dX10_readsPerson_0 rfl (lv_at hl 0 rfl) ?_
  refine lv_aload_n F.1 F.2.1 dX10_readsPerson_1 rfl (lv_at hl 0 rfl) ?_
  refine m_get F hin hw 8 (by decide) (by decide +kernel) rfl dX10_readsPerson_2 ?_
  refine bi_iconst F dX10_readsPerson_5 ?_
  refine m_ld F hw 6 4 rfl (by decide) (by omega) dX10_readsPerson_6 ?_
  refine bi_bipush F dX10_readsPerson_7 (by decide) ?_
  refine bi_icmp_ne (tgt := 16) F dX10_readsPerson_9 (by decide) (by omega) (fun c_1 => ?_) (fun c_1 => ?_)
  · refine bi_iconst F dX10_readsPerson_16 ?_
    refine call_B (As := [.int (iI 0)]) (rest := []) F (j_opens l E I A a w 0 (by omega) (by omega) (by omega)) (cwV 1 F.2.2.2.2 gX10_readsPerson_X10_opens rfl rfl rfl (by decide +kernel) ⟨Nat.le_of_ble_eq_true rfl, Nat.le_of_ble_eq_true rfl⟩) hw (m_recv hw) rfl hl.1 rfl (Nat.le_of_ble_eq_true rfl) dX10_readsPerson_17 ⟨Nat.zero_le _, Nat.zero_le _⟩ (fun q_2 H locs hw => ?_) (fun q_2 H locs hw => ?_)
    · refine bi_if_eq (tgt := 79) F dX10_readsPerson_20 (by decide) (by decide) (fun q => absurd q (by decide)) (fun _ => ?_)
      refine lv_aload_n F.1 F.2.1 dX10_readsPerson_23 rfl (lv_at hl 0 rfl) ?_
      refine m_get F hin hw 11 (by decide) (by decide +kernel) rfl dX10_readsPerson_24 ?_
      refine bi_iconst F dX10_readsPerson_27 ?_
      refine lv_aload_n F.1 F.2.1 dX10_readsPerson_28 rfl (lv_at hl 0 rfl) ?_
      refine m_get F hin hw 8 (by decide) (by decide +kernel) rfl dX10_readsPerson_29 ?_
      refine bi_iconst F dX10_readsPerson_32 ?_
      refine m_ld F hw 6 4 rfl (by decide) (by omega) dX10_readsPerson_33 ?_
      refine bi_imul F dX10_readsPerson_34 ?_
      refine lv_aload_n F.1 F.2.1 dX10_readsPerson_35 rfl (lv_at hl 0 rfl) ?_
      refine call_F (As := []) (rest := [.int (iI (2 * (A 6 2))), .ref (eA E 9)]) F (j_toldAhead l E I A (a + 1) w  (by omega) (by subst_vars; exact hl0) (by omega) (by omega) (hc)) (cwV 0 F.2.2.2.2 gX10_readsPerson_X10_toldAhead rfl rfl rfl (by decide +kernel) ⟨Nat.le_of_ble_eq_true rfl, Nat.le_of_ble_eq_true rfl⟩) hw (m_recv hw) rfl hl.1 rfl (Nat.le_of_ble_eq_true rfl) dX10_readsPerson_36 ⟨Nat.zero_le _, Nat.zero_le _⟩ (fun H locs hw => ?_)
      generalize ea4 : tlA (A 0) (I 0) (A 6 1) (a + 1) w = a4 at hw
      generalize ew5 : tlW (A 0) (I 0) (A 6 1) (a + 1) w = w5 at hw
      have f_6 := tlA_r (T := A 0) (n := I 0) (nv := A 6 1) (a := (a + 1)) (w := w) (by omega) (by omega)
      try rw [ea4] at f_6
      try rw [ew5] at f_6
      have f_7 := tlW_r (T := A 0) (n := I 0) (nv := A 6 1) (a := (a + 1)) (w := w) (by omega)
      try rw [ea4] at f_7
      try rw [ew5] at f_7
      generalize ev8 : tlV (A 0) (I 0) (a + 1) w = v8
      have f_9 : 0 ≤ v8 ∧ v8 ≤ 999 := by rw [← ev8]; exact tlV_r
      refine m_st F hw 9 12 rfl (by decide) (by omega) dX10_readsPerson_39 (fun H locs hw => ?_)
      generalize eA10 : st2 A 9 (2 * (A 6 2)) v8 = A10 at hw
      have h6 : A10 6 2 = A 6 2 := by subst_vars; rfl
      refine lv_aload_n F.1 F.2.1 dX10_readsPerson_40 rfl (lv_at hl 0 rfl) ?_
      refine m_get F hin hw 11 (by decide) (by decide +kernel) rfl dX10_readsPerson_41 ?_
      refine bi_iconst F dX10_readsPerson_44 ?_
      refine lv_aload_n F.1 F.2.1 dX10_readsPerson_45 rfl (lv_at hl 0 rfl) ?_
      refine m_get F hin hw 8 (by decide) (by decide +kernel) rfl dX10_readsPerson_46 ?_
      refine bi_iconst F dX10_readsPerson_49 ?_
      refine m_ld F hw 6 4 rfl (by decide) (by omega) dX10_readsPerson_50 ?_
      have f_11 : A10 6 2 = A 6 2 := by rw [← eA10, st2_n (by decide)]
      refine bi_imul F dX10_readsPerson_51 ?_
      refine bi_iconst F dX10_readsPerson_52 ?_
      refine bi_iadd F dX10_readsPerson_53 ?_
      refine lv_aload_n F.1 F.2.1 dX10_readsPerson_54 rfl (lv_at hl 0 rfl) ?_
      refine bi_iconst F dX10_readsPerson_55 ?_
      refine bi_sipush F dX10_readsPerson_56 (by decide) ?_
      refine call_F (As := [.int (iI 0), .int (iI 999)]) (rest := [.int (iI (2 * (A10 6 2) + 1)), .ref (eA E 9)]) F (j_number l E I A10 a4 w5 0 999 (by omega) (by subst_vars; exact hl0) (by omega) (by omega) (by omega) (by omega)) (cwV 2 F.2.2.2.2 gX10_readsPerson_X10_number rfl rfl rfl (by decide +kernel) ⟨Nat.le_of_ble_eq_true rfl, Nat.le_of_ble_eq_true rfl⟩) hw (m_recv hw) rfl hl.1 rfl (Nat.le_of_ble_eq_true rfl) dX10_readsPerson_59 ⟨Nat.zero_le _, Nat.zero_le _⟩ (fun H locs hw => ?_)
      generalize ea12 : pNumA (A10 0) (I 0) 0 999 a4 w5 = a12 at hw
      generalize ew13 : pNumW (A10 0) (I 0) 0 999 a4 w5 = w13 at hw
      have f_14 := pNumA_r (T := A10 0) (n := I 0) (lo := 0) (hi := 999) (a := a4) (w := w5) (by omega) (by omega)
      try rw [ea12] at f_14
      try rw [ew13] at f_14
      have f_15 := pNumW_r (T := A10 0) (n := I 0) (lo := 0) (hi := 999) (a := a4) (w := w5) (by omega)
      try rw [ea12] at f_15
      try rw [ew13] at f_15
      generalize ev16 : pNumV (A10 0) (I 0) a4 w5 = v16
      have f_17 : 0 ≤ v16 ∧ v16 ≤ 999 := by rw [← ev16]; exact pNumV_r
      refine m_st F hw 9 12 rfl (by decide) (by omega) dX10_readsPerson_62 (fun H locs hw => ?_)
      generalize eA18 : st2 A10 9 (2 * (A10 6 2) + 1) v16 = A18 at hw
      have h6 : A18 6 2 = A 6 2 := by subst_vars; rfl
      refine lv_aload_n F.1 F.2.1 dX10_readsPerson_63 rfl (lv_at hl 0 rfl) ?_
      refine bi_bipush F dX10_readsPerson_64 (by decide) ?_
      refine call_G (As := [.int (iI 59)]) (rest := []) F (j_word l E I A18 a12 w13 59 (by omega) (by subst_vars; exact hl0) (by omega) (by omega) (by omega)) (cwV 1 F.2.2.2.2 gX10_readsPerson_X10_word rfl rfl rfl (by decide +kernel) ⟨Nat.le_of_ble_eq_true rfl, Nat.le_of_ble_eq_true rfl⟩) hw (m_recv hw) rfl hl.1 rfl (Nat.le_of_ble_eq_true rfl) dX10_readsPerson_66 ⟨Nat.zero_le _, Nat.zero_le _⟩ (fun H locs hw => ?_)
      generalize ea19 : pWordA (A18 0) (I 0) 59 a12 w13 = a19 at hw
      generalize ew20 : pWordW (A18 0) (I 0) 59 a12 w13 = w20 at hw
      have f_21 := pWordA_r (T := A18 0) (n := I 0) (c := 59) (a := a12) (w := w13) (by omega) (by omega) (by omega)
      try rw [ea19] at f_21
      try rw [ew20] at f_21
      have f_22 := pWordW_r (T := A18 0) (n := I 0) (c := 59) (a := a12) (w := w13) (by omega)
      try rw [ea19] at f_22
      try rw [ew20] at f_22
      refine lv_aload_n F.1 F.2.1 dX10_readsPerson_69 rfl (lv_at hl 0 rfl) ?_
      refine m_get F hin hw 8 (by decide) (by decide +kernel) rfl dX10_readsPerson_70 ?_
      refine bi_iconst F dX10_readsPerson_73 ?_
      refine lv_dup2_11 F.1 F.2.1 dX10_readsPerson_74 rfl rfl ?_
      refine m_ld F hw 6 4 rfl (by decide) (by omega) dX10_readsPerson_75 ?_
      have f_23 : A18 6 2 = A10 6 2 := by rw [← eA18, st2_n (by decide)]
      have f_24 : A10 6 2 = A 6 2 := by rw [← eA10, st2_n (by decide)]
      refine bi_iconst F dX10_readsPerson_76 ?_
      refine bi_iadd F dX10_readsPerson_77 ?_
      refine m_st F hw 6 4 rfl (by decide) (by omega) dX10_readsPerson_78 (fun H locs hw => ?_)
      generalize eA25 : st2 A18 6 2 (A18 6 2 + 1) = A25 at hw
      have hfin : rPer (A 0) (I 0) (a, w, A) = (a19, w20, A25) := by first | (unfold rPer; rw [if_pos (show A 6 2 = 6 by omega)]; done) | (unfold rPer; rw [if_neg (show ¬ A 6 2 = 6 by omega)]; subst_vars; rfl)
      exact hret _ _ _ _ _ (mW_j (by rw [hfin]) (by rw [hfin]) (by rw [hfin])) hw dX10_readsPerson_79
    · exfalso; omega
  · refine bi_iconst F dX10_readsPerson_12 ?_
    refine lv_goto (tgt := 17) F.1 F.2.1 dX10_readsPerson_13 (by decide) ?_
    refine call_B (As := [.int (iI 1)]) (rest := []) F (j_opens l E I A a w 1 (by omega) (by omega) (by omega)) (cwV 1 F.2.2.2.2 gX10_readsPerson_X10_opens rfl rfl rfl (by decide +kernel) ⟨Nat.le_of_ble_eq_true rfl, Nat.le_of_ble_eq_true rfl⟩) hw (m_recv hw) rfl hl.1 rfl (Nat.le_of_ble_eq_true rfl) dX10_readsPerson_17 ⟨Nat.zero_le _, Nat.zero_le _⟩ (fun q_26 H locs hw => ?_) (fun q_26 H locs hw => ?_)
    · exfalso; omega
    · refine bi_if_eq (tgt := 79) F dX10_readsPerson_20 (by decide) (by decide) (fun _ => ?_) (fun q => absurd q (by decide))
      have hfin : rPer (A 0) (I 0) (a, w, A) = (a, 3, A) := by first | (unfold rPer; rw [if_pos (show A 6 2 = 6 by omega)]; done) | (unfold rPer; rw [if_neg (show ¬ A 6 2 = 6 by omega)]; subst_vars; rfl)
      exact hret _ _ _ _ _ (mW_j (by rw [hfin]) (by rw [hfin]) (by rw [hfin])) hw dX10_readsPerson_79
set_option maxRecDepth 100000 in
set_option maxHeartbeats 4000000 in
theorem j_readsDebt (l : Launch) (E : Ev) (I : Nat → Int) (A : Nat → Int → Int) (a : Int) (w : Int) (hT : 0 ≤ I 0 ∧ I 0 ≤ 240) (hl0 : ∀ k, 0 ≤ A 0 k ∧ A 0 k ≤ 255) (ha : 0 ≤ a ∧ a ≤ 240) (hw3 : 0 ≤ w ∧ w ≤ 3) (hw0 : w = 0) (ha2 : a < I 0) (hc : cOk A) : MetG l yX10_readsDebt wsX10_readsDebt ({ frames := 4, cells := 0, slots := 0, locals := 86 } : Room) E [.ref (eO E 0)] (mW E (jI I a w) A) (mW E (jI I ((rDeb (A 0) (I 0) (a, w, A)).1) ((rDeb (A 0) (I 0) (a, w, A)).2.1)) ((rDeb (A 0) (I 0) (a, w, A)).2.2)) := by
  have hin : ∀ w ∈ wsX100, w ∈ wsX10_readsDebt := fun w h => in_tail h
  refine met_G (cc := cX10_readsDebt) (nL := 1) (by decide) rfl (Nat.le_of_ble_eq_true rfl) ?_
  intro p e s m args below meth c Q H0 A0 H locs ls F hw hl hret
  have F : CallFix p m c cX10_readsDebt 1 s args wsX10_readsDebt RX10 := F
  have hl : lv_has ls 1 [(0, .ref (eO E 0))] := hl
  obtain ⟨hc0, hc1, hc2, hc3⟩ := id hc
  refine lv_aload_n F.1 F.2.1 dX10_readsDebt_0 rfl (lv_at hl 0 rfl) ?_
  refine lv_aload_n F.1 F.2.1 dX10_readsDebt_1 rfl (lv_at hl 0 rfl) ?_
  refine m_get F hin hw 8 (by decide) (by decide +kernel) rfl dX10_readsDebt_2 ?_
  refine bi_iconst F dX10_readsDebt_5 ?_
  refine m_ld F hw 6 4 rfl (by decide) (by omega) dX10_readsDebt_6 ?_
  refine bi_iconst F dX10_readsDebt_7 ?_
  refine bi_icmp_ne (tgt := 15) F dX10_readsDebt_8 (by decide) (by omega) (fun c_1 => ?_) (fun c_1 => ?_)
  · refine bi_iconst F dX10_readsDebt_15 ?_
    refine call_B (As := [.int (iI 0)]) (rest := []) F (j_opens l E I A a w 0 (by omega) (by omega) (by omega)) (cwV 1 F.2.2.2.2 gX10_readsDebt_X10_opens rfl rfl rfl (by decide +kernel) ⟨Nat.le_of_ble_eq_true rfl, Nat.le_of_ble_eq_true rfl⟩) hw (m_recv hw) rfl hl.1 rfl (Nat.le_of_ble_eq_true rfl) dX10_readsDebt_16 ⟨Nat.zero_le _, Nat.zero_le _⟩ (fun q_2 H locs hw => ?_) (fun q_2 H locs hw => ?_)
    · refine bi_if_eq (tgt := 78) F dX10_readsDebt_19 (by decide) (by decide) (fun q => absurd q (by decide)) (fun _ => ?_)
      refine lv_aload_n F.1 F.2.1 dX10_readsDebt_22 rfl (lv_at hl 0 rfl) ?_
      refine m_get F hin hw 12 (by decide) (by decide +kernel) rfl dX10_readsDebt_23 ?_
      refine bi_iconst F dX10_readsDebt_26 ?_
      refine lv_aload_n F.1 F.2.1 dX10_readsDebt_27 rfl (lv_at hl 0 rfl) ?_
      refine m_get F hin hw 8 (by decide) (by decide +kernel) rfl dX10_readsDebt_28 ?_
      refine bi_iconst F dX10_readsDebt_31 ?_
      refine m_ld F hw 6 4 rfl (by decide) (by omega) dX10_readsDebt_32 ?_
      refine bi_imul F dX10_readsDebt_33 ?_
      refine lv_aload_n F.1 F.2.1 dX10_readsDebt_34 rfl (lv_at hl 0 rfl) ?_
      refine call_F (As := []) (rest := [.int (iI (2 * (A 6 3))), .ref (eA E 10)]) F (j_toldAhead l E I A (a + 1) w  (by omega) (by subst_vars; exact hl0) (by omega) (by omega) (hc)) (cwV 0 F.2.2.2.2 gX10_readsDebt_X10_toldAhead rfl rfl rfl (by decide +kernel) ⟨Nat.le_of_ble_eq_true rfl, Nat.le_of_ble_eq_true rfl⟩) hw (m_recv hw) rfl hl.1 rfl (Nat.le_of_ble_eq_true rfl) dX10_readsDebt_35 ⟨Nat.zero_le _, Nat.zero_le _⟩ (fun H locs hw => ?_)
      generalize ea4 : tlA (A 0) (I 0) (A 6 1) (a + 1) w = a4 at hw
      generalize ew5 : tlW (A 0) (I 0) (A 6 1) (a + 1) w = w5 at hw
      have f_6 := tlA_r (T := A 0) (n := I 0) (nv := A 6 1) (a := (a + 1)) (w := w) (by omega) (by omega)
      try rw [ea4] at f_6
      try rw [ew5] at f_6
      have f_7 := tlW_r (T := A 0) (n := I 0) (nv := A 6 1) (a := (a + 1)) (w := w) (by omega)
      try rw [ea4] at f_7
      try rw [ew5] at f_7
      generalize ev8 : tlV (A 0) (I 0) (a + 1) w = v8
      have f_9 : 0 ≤ v8 ∧ v8 ≤ 999 := by rw [← ev8]; exact tlV_r
      refine m_st F hw 10 10 rfl (by decide) (by omega) dX10_readsDebt_38 (fun H locs hw => ?_)
      generalize eA10 : st2 A 10 (2 * (A 6 3)) v8 = A10 at hw
      have h6 : A10 6 3 = A 6 3 := by subst_vars; rfl
      refine lv_aload_n F.1 F.2.1 dX10_readsDebt_39 rfl (lv_at hl 0 rfl) ?_
      refine m_get F hin hw 12 (by decide) (by decide +kernel) rfl dX10_readsDebt_40 ?_
      refine bi_iconst F dX10_readsDebt_43 ?_
      refine lv_aload_n F.1 F.2.1 dX10_readsDebt_44 rfl (lv_at hl 0 rfl) ?_
      refine m_get F hin hw 8 (by decide) (by decide +kernel) rfl dX10_readsDebt_45 ?_
      refine bi_iconst F dX10_readsDebt_48 ?_
      refine m_ld F hw 6 4 rfl (by decide) (by omega) dX10_readsDebt_49 ?_
      have f_11 : A10 6 3 = A 6 3 := by rw [← eA10, st2_n (by decide)]
      refine bi_imul F dX10_readsDebt_50 ?_
      refine bi_iconst F dX10_readsDebt_51 ?_
      refine bi_iadd F dX10_readsDebt_52 ?_
      refine lv_aload_n F.1 F.2.1 dX10_readsDebt_53 rfl (lv_at hl 0 rfl) ?_
      refine bi_iconst F dX10_readsDebt_54 ?_
      refine bi_sipush F dX10_readsDebt_55 (by decide) ?_
      refine call_F (As := [.int (iI 1), .int (iI 999)]) (rest := [.int (iI (2 * (A10 6 3) + 1)), .ref (eA E 10)]) F (j_number l E I A10 a4 w5 1 999 (by omega) (by subst_vars; exact hl0) (by omega) (by omega) (by omega) (by omega)) (cwV 2 F.2.2.2.2 gX10_readsDebt_X10_number rfl rfl rfl (by decide +kernel) ⟨Nat.le_of_ble_eq_true rfl, Nat.le_of_ble_eq_true rfl⟩) hw (m_recv hw) rfl hl.1 rfl (Nat.le_of_ble_eq_true rfl) dX10_readsDebt_58 ⟨Nat.zero_le _, Nat.zero_le _⟩ (fun H locs hw => ?_)
      generalize ea12 : pNumA (A10 0) (I 0) 1 999 a4 w5 = a12 at hw
      generalize ew13 : pNumW (A10 0) (I 0) 1 999 a4 w5 = w13 at hw
      have f_14 := pNumA_r (T := A10 0) (n := I 0) (lo := 1) (hi := 999) (a := a4) (w := w5) (by omega) (by omega)
      try rw [ea12] at f_14
      try rw [ew13] at f_14
      have f_15 := pNumW_r (T := A10 0) (n := I 0) (lo := 1) (hi := 999) (a := a4) (w := w5) (by omega)
      try rw [ea12] at f_15
      try rw [ew13] at f_15
      generalize ev16 : pNumV (A10 0) (I 0) a4 w5 = v16
      have f_17 : 0 ≤ v16 ∧ v16 ≤ 999 := by rw [← ev16]; exact pNumV_r
      refine m_st F hw 10 10 rfl (by decide) (by omega) dX10_readsDebt_61 (fun H locs hw => ?_)
      generalize eA18 : st2 A10 10 (2 * (A10 6 3) + 1) v16 = A18 at hw
      have h6 : A18 6 3 = A 6 3 := by subst_vars; rfl
      refine lv_aload_n F.1 F.2.1 dX10_readsDebt_62 rfl (lv_at hl 0 rfl) ?_
      refine bi_bipush F dX10_readsDebt_63 (by decide) ?_
      refine call_G (As := [.int (iI 59)]) (rest := []) F (j_word l E I A18 a12 w13 59 (by omega) (by subst_vars; exact hl0) (by omega) (by omega) (by omega)) (cwV 1 F.2.2.2.2 gX10_readsDebt_X10_word rfl rfl rfl (by decide +kernel) ⟨Nat.le_of_ble_eq_true rfl, Nat.le_of_ble_eq_true rfl⟩) hw (m_recv hw) rfl hl.1 rfl (Nat.le_of_ble_eq_true rfl) dX10_readsDebt_65 ⟨Nat.zero_le _, Nat.zero_le _⟩ (fun H locs hw => ?_)
      generalize ea19 : pWordA (A18 0) (I 0) 59 a12 w13 = a19 at hw
      generalize ew20 : pWordW (A18 0) (I 0) 59 a12 w13 = w20 at hw
      have f_21 := pWordA_r (T := A18 0) (n := I 0) (c := 59) (a := a12) (w := w13) (by omega) (by omega) (by omega)
      try rw [ea19] at f_21
      try rw [ew20] at f_21
      have f_22 := pWordW_r (T := A18 0) (n := I 0) (c := 59) (a := a12) (w := w13) (by omega)
      try rw [ea19] at f_22
      try rw [ew20] at f_22
      refine lv_aload_n F.1 F.2.1 dX10_readsDebt_68 rfl (lv_at hl 0 rfl) ?_
      refine m_get F hin hw 8 (by decide) (by decide +kernel) rfl dX10_readsDebt_69 ?_
      refine bi_iconst F dX10_readsDebt_72 ?_
      refine lv_dup2_11 F.1 F.2.1 dX10_readsDebt_73 rfl rfl ?_
      refine m_ld F hw 6 4 rfl (by decide) (by omega) dX10_readsDebt_74 ?_
      have f_23 : A18 6 3 = A10 6 3 := by rw [← eA18, st2_n (by decide)]
      have f_24 : A10 6 3 = A 6 3 := by rw [← eA10, st2_n (by decide)]
      refine bi_iconst F dX10_readsDebt_75 ?_
      refine bi_iadd F dX10_readsDebt_76 ?_
      refine m_st F hw 6 4 rfl (by decide) (by omega) dX10_readsDebt_77 (fun H locs hw => ?_)
      generalize eA25 : st2 A18 6 3 (A18 6 3 + 1) = A25 at hw
      have hfin : rDeb (A 0) (I 0) (a, w, A) = (a19, w20, A25) := by first | (unfold rDeb; rw [if_pos (show A 6 3 = 5 by omega)]; done) | (unfold rDeb; rw [if_neg (show ¬ A 6 3 = 5 by omega)]; subst_vars; rfl)
      exact hret _ _ _ _ _ (mW_j (by rw [hfin]) (by rw [hfin]) (by rw [hfin])) hw dX10_readsDebt_78
    · exfalso; omega
  · refine bi_iconst F dX10_readsDebt_11 ?_
    refine lv_goto (tgt := 16) F.1 F.2.1 dX10_readsDebt_12 (by decide) ?_
    refine call_B (As := [.int (iI 1)]) (rest := []) F (j_opens l E I A a w 1 (by omega) (by omega) (by omega)) (cwV 1 F.2.2.2.2 gX10_readsDebt_X10_opens rfl rfl rfl (by decide +kernel) ⟨Nat.le_of_ble_eq_true rfl, Nat.le_of_ble_eq_true rfl⟩) hw (m_recv hw) rfl hl.1 rfl (Nat.le_of_ble_eq_true rfl) dX10_readsDebt_16 ⟨Nat.zero_le _, Nat.zero_le _⟩ (fun q_26 H locs hw => ?_) (fun q_26 H locs hw => ?_)
    · exfalso; omega
    · refine bi_if_eq (tgt := 78) F dX10_readsDebt_19 (by decide) (by decide) (fun _ => ?_) (fun q => absurd q (by decide))
      have hfin : rDeb (A 0) (I 0) (a, w, A) = (a, 3, A) := by first | (unfold rDeb; rw [if_pos (show A 6 3 = 5 by omega)]; done) | (unfold rDeb; rw [if_neg (show ¬ A 6 3 = 5 by omega)]; subst_vars; rfl)
      exact hret _ _ _ _ _ (mW_j (by rw [hfin]) (by rw [hfin]) (by rw [hfin])) hw dX10_readsDebt_78
set_option maxRecDepth 100000 in
set_option maxHeartbeats 4000000 in
theorem j_readsVillage (l : Launch) (E : Ev) (I : Nat → Int) (A : Nat → Int → Int) (a : Int) (w : Int) (hT : 0 ≤ I 0 ∧ I 0 ≤ 240) (hl0 : ∀ k, 0 ≤ A 0 k ∧ A 0 k ≤ 255) (ha : 0 ≤ a ∧ a ≤ 240) (hw3 : 0 ≤ w ∧ w ≤ 3) (hw0 : w = 0) (ha2 : a < I 0) (hc : cOk A) : MetG l yX10_readsVillage wsX10_readsVillage ({ frames := 3, cells := 0, slots := 0, locals := 64 } : Room) E [.ref (eO E 0)] (mW E (jI I a w) A) (mW E (jI I ((rVil (A 0) (I 0) (a, w, A)).1) ((rVil (A 0) (I 0) (a, w, A)).2.1)) ((rVil (A 0) (I 0) (a, w, A)).2.2)) := by
  have hin : ∀ w ∈ wsX100, w ∈ wsX10_readsVillage := fun w h => in_tail h
  refine met_G (cc := cX10_readsVillage) (nL := 3) (by decide) rfl (Nat.le_of_ble_eq_true rfl) ?_
  intro p e s m args below meth c Q H0 A0 H locs ls F hw hl hret
  have F : CallFix p m c cX10_readsVillage 3 s args wsX10_readsVillage RX10 := F
  have hl : lv_has ls 3 [(0, .ref (eO E 0))] := hl
  obtain ⟨hc0, hc1, hc2, hc3⟩ := id hc
  refine lv_aload_n F.1 F.2.1 dX10_readsVillage_0 rfl (lv_at hl 0 rfl) ?_
  refine lv_aload_n F.1 F.2.1 dX10_readsVillage_1 rfl (lv_at hl 0 rfl) ?_
  refine m_get F hin hw 8 (by decide) (by decide +kernel) rfl dX10_readsVillage_2 ?_
  refine bi_iconst F dX10_readsVillage_5 ?_
  refine m_ld F hw 6 4 rfl (by decide) (by omega) dX10_readsVillage_6 ?_
  refine bi_iconst F dX10_readsVillage_7 ?_
  refine bi_icmp_ne (tgt := 15) F dX10_readsVillage_8 (by decide) (by omega) (fun c_1 => ?_) (fun c_1 => ?_)
  · refine bi_iconst F dX10_readsVillage_15 ?_
    refine call_B (As := [.int (iI 0)]) (rest := []) F (j_opens l E I A a w 0 (by omega) (by omega) (by omega)) (cwV 1 F.2.2.2.2 gX10_readsVillage_X10_opens rfl rfl rfl (by decide +kernel) ⟨Nat.le_of_ble_eq_true rfl, Nat.le_of_ble_eq_true rfl⟩) hw (m_recv hw) rfl hl.1 rfl (Nat.le_of_ble_eq_true rfl) dX10_readsVillage_16 ⟨Nat.zero_le _, Nat.zero_le _⟩ (fun q_2 H locs hw => ?_) (fun q_2 H locs hw => ?_)
    · refine bi_if_eq (tgt := 103) F dX10_readsVillage_19 (by decide) (by decide) (fun q => absurd q (by decide)) (fun _ => ?_)
      refine bi_iconst F dX10_readsVillage_22 ?_
      refine lv_aload_n F.1 F.2.1 dX10_readsVillage_23 rfl (lv_at hl 0 rfl) ?_
      refine m_get F hin hw 8 (by decide) (by decide +kernel) rfl dX10_readsVillage_24 ?_
      refine bi_iconst F dX10_readsVillage_27 ?_
      refine m_ld F hw 6 4 rfl (by decide) (by omega) dX10_readsVillage_28 ?_
      refine bi_imul F dX10_readsVillage_29 ?_
      refine lv_istore_n (lv' := [(1, .int (iI (5 * (A 6 1)))), (0, .ref (eO E 0))]) F.1 F.2.1 dX10_readsVillage_30 rfl hl (by decide) rfl (fun ls hl => ?_)
      refine lv_aload_n F.1 F.2.1 dX10_readsVillage_31 rfl (lv_at hl 1 rfl) ?_
      refine m_get F hin hw 10 (by decide) (by decide +kernel) rfl dX10_readsVillage_32 ?_
      refine lv_iload_n F.1 F.2.1 dX10_readsVillage_35 rfl (lv_at hl 0 rfl) ?_
      refine lv_aload_n F.1 F.2.1 dX10_readsVillage_36 rfl (lv_at hl 1 rfl) ?_
      refine bi_iconst F dX10_readsVillage_37 ?_
      refine bi_bipush F dX10_readsVillage_38 (by decide) ?_
      refine call_F (As := [.int (iI 0), .int (iI 40)]) (rest := [.int (iI (5 * (A 6 1))), .ref (eA E 8)]) F (j_number l E I A (a + 1) w 0 40 (by omega) (by subst_vars; exact hl0) (by omega) (by omega) (by omega) (by omega)) (cwV 2 F.2.2.2.2 gX10_readsVillage_X10_number rfl rfl rfl (by decide +kernel) ⟨Nat.le_of_ble_eq_true rfl, Nat.le_of_ble_eq_true rfl⟩) hw (m_recv hw) rfl hl.1 rfl (Nat.le_of_ble_eq_true rfl) dX10_readsVillage_40 ⟨Nat.zero_le _, Nat.zero_le _⟩ (fun H locs hw => ?_)
      generalize ea4 : pNumA (A 0) (I 0) 0 40 (a + 1) w = a4 at hw
      generalize ew5 : pNumW (A 0) (I 0) 0 40 (a + 1) w = w5 at hw
      have f_6 := pNumA_r (T := A 0) (n := I 0) (lo := 0) (hi := 40) (a := (a + 1)) (w := w) (by omega) (by omega)
      try rw [ea4] at f_6
      try rw [ew5] at f_6
      have f_7 := pNumW_r (T := A 0) (n := I 0) (lo := 0) (hi := 40) (a := (a + 1)) (w := w) (by omega)
      try rw [ea4] at f_7
      try rw [ew5] at f_7
      generalize ev8 : pNumV (A 0) (I 0) (a + 1) w = v8
      have f_9 : 0 ≤ v8 ∧ v8 ≤ 999 := by rw [← ev8]; exact pNumV_r
      refine m_st F hw 8 20 rfl (by decide) (by omega) dX10_readsVillage_43 (fun H locs hw => ?_)
      generalize eA10 : st2 A 8 (5 * (A 6 1)) v8 = A10 at hw
      refine bi_iconst F dX10_readsVillage_44 ?_
      refine lv_istore_n (lv' := [(2, .int (iI 1)), (1, .int (iI (5 * (A 6 1)))), (0, .ref (eO E 0))]) F.1 F.2.1 dX10_readsVillage_45 rfl hl (by decide) rfl (fun ls hl => ?_)
      have loop_46 : ∀ (nf : Nat) (j : Int) (a1 : Int) (w1 : Int) (A1 : Nat → Int → Int) (H : Heap) (locs : List Loc) (ls : Array Slot) (hj : 1 ≤ j ∧ j ≤ 4) (hS : (a1, w1, A1) = fld (fun t i => rNum (A 0) (I 0) 0 40 8 (5 * A 6 1 + (i + 1)) t) (rNum (A 0) (I 0) 0 40 8 (5 * A 6 1) (a + 1, 0, A)) (j - 1).toNat) (h0 : A1 0 = A 0) (h6 : A1 6 = A 6) (ha1 : 0 ≤ a1 ∧ a1 ≤ 240) (hw1 : 0 ≤ w1 ∧ w1 ≤ 3) (hw : gH E A0 H0 s (mW E (jI I a1 w1) A1) H locs) (hl : lv_has ls 3 [(2, .int (iI j)), (1, .int (iI (5 * (A 6 1)))), (0, .ref (eO E 0))]) (hnf : (4 - j).toNat < nf), W p l e ({ frames := 3, cells := 0, slots := 0, locals := 64 } : Room) s m args below meth c H locs 0 0 Q (F0 m 46 ls []) := by
        intro nf
        induction nf with
        | zero =>
          intro j a1 w1 A1 H locs ls hj hS h0 h6 ha1 hw1 hw hl hnf
          exact absurd hnf (Nat.not_lt_zero _)
        | succ nf ih_46 =>
          intro j a1 w1 A1 H locs ls hj hS h0 h6 ha1 hw1 hw hl hnf
          have hl0 : ∀ k, 0 ≤ A1 0 k ∧ A1 0 k ≤ 255 := by rw [h0]; exact hl0
          refine lv_iload_n F.1 F.2.1 dX10_readsVillage_46 rfl (lv_at hl 0 rfl) ?_
          refine bi_iconst F dX10_readsVillage_47 ?_
          refine bi_icmp_ge (tgt := 72) F dX10_readsVillage_48 (by decide) (by omega) (fun c_11 => ?_) (fun c_11 => ?_)
          · have hS3 : fld (fun t i => rNum (A 0) (I 0) 0 40 8 (5 * A 6 1 + (i + 1)) t) (rNum (A 0) (I 0) 0 40 8 (5 * A 6 1) (a + 1, 0, A)) 3 = (a1, w1, A1) := by rw [hS, show j = 4 by omega]; rfl
            refine lv_aload_n F.1 F.2.1 dX10_readsVillage_72 rfl (lv_at hl 2 rfl) ?_
            refine m_get F hin hw 10 (by decide) (by decide +kernel) rfl dX10_readsVillage_73 ?_
            refine lv_iload_n F.1 F.2.1 dX10_readsVillage_76 rfl (lv_at hl 1 rfl) ?_
            refine bi_iconst F dX10_readsVillage_77 ?_
            refine bi_iadd F dX10_readsVillage_78 ?_
            refine lv_aload_n F.1 F.2.1 dX10_readsVillage_79 rfl (lv_at hl 2 rfl) ?_
            refine bi_iconst F dX10_readsVillage_80 ?_
            refine bi_bipush F dX10_readsVillage_81 (by decide) ?_
            refine call_F (As := [.int (iI 1), .int (iI 40)]) (rest := [.int (iI (5 * (A 6 1) + 4)), .ref (eA E 8)]) F (j_number l E I A1 a1 w1 1 40 (by omega) hl0 (by omega) (by omega) (by omega) (by omega)) (cwV 2 F.2.2.2.2 gX10_readsVillage_X10_number rfl rfl rfl (by decide +kernel) ⟨Nat.le_of_ble_eq_true rfl, Nat.le_of_ble_eq_true rfl⟩) hw (m_recv hw) rfl hl.1 rfl (Nat.le_of_ble_eq_true rfl) dX10_readsVillage_83 ⟨Nat.zero_le _, Nat.zero_le _⟩ (fun H locs hw => ?_)
            generalize ea12 : pNumA (A1 0) (I 0) 1 40 a1 w1 = a12 at hw
            generalize ew13 : pNumW (A1 0) (I 0) 1 40 a1 w1 = w13 at hw
            have f_14 := pNumA_r (T := A1 0) (n := I 0) (lo := 1) (hi := 40) (a := a1) (w := w1) (by omega) (by omega)
            try rw [ea12] at f_14
            try rw [ew13] at f_14
            have f_15 := pNumW_r (T := A1 0) (n := I 0) (lo := 1) (hi := 40) (a := a1) (w := w1) (by omega)
            try rw [ea12] at f_15
            try rw [ew13] at f_15
            generalize ev16 : pNumV (A1 0) (I 0) a1 w1 = v16
            have f_17 : 0 ≤ v16 ∧ v16 ≤ 999 := by rw [← ev16]; exact pNumV_r
            refine m_st F hw 8 20 rfl (by decide) (by omega) dX10_readsVillage_86 (fun H locs hw => ?_)
            generalize eA18 : st2 A1 8 (5 * (A 6 1) + 4) v16 = A18 at hw
            refine lv_aload_n F.1 F.2.1 dX10_readsVillage_87 rfl (lv_at hl 2 rfl) ?_
            refine bi_bipush F dX10_readsVillage_88 (by decide) ?_
            refine call_G (As := [.int (iI 59)]) (rest := []) F (j_word l E I A18 a12 w13 59 (by omega) (by subst_vars; exact hl0) (by omega) (by omega) (by omega)) (cwV 1 F.2.2.2.2 gX10_readsVillage_X10_word rfl rfl rfl (by decide +kernel) ⟨Nat.le_of_ble_eq_true rfl, Nat.le_of_ble_eq_true rfl⟩) hw (m_recv hw) rfl hl.1 rfl (Nat.le_of_ble_eq_true rfl) dX10_readsVillage_90 ⟨Nat.zero_le _, Nat.zero_le _⟩ (fun H locs hw => ?_)
            generalize ea19 : pWordA (A18 0) (I 0) 59 a12 w13 = a19 at hw
            generalize ew20 : pWordW (A18 0) (I 0) 59 a12 w13 = w20 at hw
            have f_21 := pWordA_r (T := A18 0) (n := I 0) (c := 59) (a := a12) (w := w13) (by omega) (by omega) (by omega)
            try rw [ea19] at f_21
            try rw [ew20] at f_21
            have f_22 := pWordW_r (T := A18 0) (n := I 0) (c := 59) (a := a12) (w := w13) (by omega)
            try rw [ea19] at f_22
            try rw [ew20] at f_22
            refine lv_aload_n F.1 F.2.1 dX10_readsVillage_93 rfl (lv_at hl 2 rfl) ?_
            refine m_get F hin hw 8 (by decide) (by decide +kernel) rfl dX10_readsVillage_94 ?_
            refine bi_iconst F dX10_readsVillage_97 ?_
            have h61 : A18 6 1 = A 6 1 := by subst_vars; exact congrFun h6 1
            refine lv_dup2_11 F.1 F.2.1 dX10_readsVillage_98 rfl rfl ?_
            refine m_ld F hw 6 4 rfl (by decide) (by omega) dX10_readsVillage_99 ?_
            have f_23 : A18 6 1 = A1 6 1 := by rw [← eA18, st2_n (by decide)]
            refine bi_iconst F dX10_readsVillage_100 ?_
            refine bi_iadd F dX10_readsVillage_101 ?_
            refine m_st F hw 6 4 rfl (by decide) (by omega) dX10_readsVillage_102 (fun H locs hw => ?_)
            generalize eA24 : st2 A18 6 1 (A18 6 1 + 1) = A24 at hw
            have hfin : rVil (A 0) (I 0) (a, w, A) = (a19, w20, A24) := by first | (unfold rVil; rw [if_pos (show A 6 1 = 4 by omega)]; done) | (unfold rVil; rw [if_neg (show ¬ A 6 1 = 4 by omega)]; show rInc 1 (rWord (A 0) (I 0) 59 (rNum (A 0) (I 0) 1 40 8 (5 * A 6 1 + 4) (fld (fun t i => rNum (A 0) (I 0) 0 40 8 (5 * A 6 1 + (i + 1)) t) (rNum (A 0) (I 0) 0 40 8 (5 * A 6 1) (a + 1, 0, A)) 3))) = _; rw [hS3, ← h0]; subst_vars; rfl)
            exact hret _ _ _ _ _ (mW_j (by rw [hfin]) (by rw [hfin]) (by rw [hfin])) hw dX10_readsVillage_103
          · refine lv_aload_n F.1 F.2.1 dX10_readsVillage_51 rfl (lv_at hl 2 rfl) ?_
            refine m_get F hin hw 10 (by decide) (by decide +kernel) rfl dX10_readsVillage_52 ?_
            refine lv_iload_n F.1 F.2.1 dX10_readsVillage_55 rfl (lv_at hl 1 rfl) ?_
            refine lv_iload_n F.1 F.2.1 dX10_readsVillage_56 rfl (lv_at hl 0 rfl) ?_
            refine bi_iadd F dX10_readsVillage_57 ?_
            refine lv_aload_n F.1 F.2.1 dX10_readsVillage_58 rfl (lv_at hl 2 rfl) ?_
            refine bi_iconst F dX10_readsVillage_59 ?_
            refine bi_bipush F dX10_readsVillage_60 (by decide) ?_
            refine call_F (As := [.int (iI 0), .int (iI 40)]) (rest := [.int (iI (5 * (A 6 1) + j)), .ref (eA E 8)]) F (j_number l E I A1 a1 w1 0 40 (by omega) hl0 (by omega) (by omega) (by omega) (by omega)) (cwV 2 F.2.2.2.2 gX10_readsVillage_X10_number rfl rfl rfl (by decide +kernel) ⟨Nat.le_of_ble_eq_true rfl, Nat.le_of_ble_eq_true rfl⟩) hw (m_recv hw) rfl hl.1 rfl (Nat.le_of_ble_eq_true rfl) dX10_readsVillage_62 ⟨Nat.zero_le _, Nat.zero_le _⟩ (fun H locs hw => ?_)
            generalize ea25 : pNumA (A1 0) (I 0) 0 40 a1 w1 = a25 at hw
            generalize ew26 : pNumW (A1 0) (I 0) 0 40 a1 w1 = w26 at hw
            have f_27 := pNumA_r (T := A1 0) (n := I 0) (lo := 0) (hi := 40) (a := a1) (w := w1) (by omega) (by omega)
            try rw [ea25] at f_27
            try rw [ew26] at f_27
            have f_28 := pNumW_r (T := A1 0) (n := I 0) (lo := 0) (hi := 40) (a := a1) (w := w1) (by omega)
            try rw [ea25] at f_28
            try rw [ew26] at f_28
            generalize ev29 : pNumV (A1 0) (I 0) a1 w1 = v29
            have f_30 : 0 ≤ v29 ∧ v29 ≤ 999 := by rw [← ev29]; exact pNumV_r
            refine m_st F hw 8 20 rfl (by decide) (by omega) dX10_readsVillage_65 (fun H locs hw => ?_)
            generalize eA31 : st2 A1 8 (5 * (A 6 1) + j) v29 = A31 at hw
            refine lv_iinc (v := iI (j + 1)) (lv' := [(2, .int (iI (j + 1))), (1, .int (iI (5 * (A 6 1)))), (0, .ref (eO E 0))]) F.1 F.2.1 dX10_readsVillage_66 hl (k := 0) rfl (iI_add _ _).symm (by decide) rfl (fun ls hl => ?_)
            refine lv_goto (tgt := 46) F.1 F.2.1 dX10_readsVillage_69 (by decide) ?_
            exact ih_46 (j + 1) a25 w26 A31 H locs ls (by omega) (by rw [fld_1 hj.1, ← hS, show j - 1 + 1 = j by omega, ← h0]; subst_vars; rfl) (by subst_vars; exact h0) (by subst_vars; exact h6) (by omega) (by omega) hw (lv_sub hl [0, 1, 2] rfl) (by omega)
      exact loop_46 ((4 - 1 : Int).toNat + 1) 1 a4 w5 A10 H locs ls (by omega) (by subst_vars; rfl) (by subst_vars; rfl) (by subst_vars; rfl) (by omega) (by omega) hw (lv_sub hl [0, 1, 2] rfl) (by omega)
    · exfalso; omega
  · refine bi_iconst F dX10_readsVillage_11 ?_
    refine lv_goto (tgt := 16) F.1 F.2.1 dX10_readsVillage_12 (by decide) ?_
    refine call_B (As := [.int (iI 1)]) (rest := []) F (j_opens l E I A a w 1 (by omega) (by omega) (by omega)) (cwV 1 F.2.2.2.2 gX10_readsVillage_X10_opens rfl rfl rfl (by decide +kernel) ⟨Nat.le_of_ble_eq_true rfl, Nat.le_of_ble_eq_true rfl⟩) hw (m_recv hw) rfl hl.1 rfl (Nat.le_of_ble_eq_true rfl) dX10_readsVillage_16 ⟨Nat.zero_le _, Nat.zero_le _⟩ (fun q_32 H locs hw => ?_) (fun q_32 H locs hw => ?_)
    · exfalso; omega
    · refine bi_if_eq (tgt := 103) F dX10_readsVillage_19 (by decide) (by decide) (fun _ => ?_) (fun q => absurd q (by decide))
      have hfin : rVil (A 0) (I 0) (a, w, A) = (a, 3, A) := by first | (unfold rVil; rw [if_pos (show A 6 1 = 4 by omega)]; done) | (unfold rVil; rw [if_neg (show ¬ A 6 1 = 4 by omega)]; show rInc 1 (rWord (A 0) (I 0) 59 (rNum (A 0) (I 0) 1 40 8 (5 * A 6 1 + 4) (fld (fun t i => rNum (A 0) (I 0) 0 40 8 (5 * A 6 1 + (i + 1)) t) (rNum (A 0) (I 0) 0 40 8 (5 * A 6 1) (a + 1, 0, A)) 3))) = _; rw [hS3, ← h0]; subst_vars; rfl)
      exact hret _ _ _ _ _ (mW_j (by rw [hfin]) (by rw [hfin]) (by rw [hfin])) hw dX10_readsVillage_103
set_option maxRecDepth 100000 in
set_option maxHeartbeats 4000000 in
theorem j_readsWinter (l : Launch) (E : Ev) (I : Nat → Int) (A : Nat → Int → Int) (a : Int) (w : Int) (hT : 0 ≤ I 0 ∧ I 0 ≤ 240) (hl0 : ∀ k, 0 ≤ A 0 k ∧ A 0 k ≤ 255) (ha : 0 ≤ a ∧ a ≤ 240) (hw3 : 0 ≤ w ∧ w ≤ 3) (hw0 : w = 0) (ha2 : a < I 0) (hc : cOk A) : MetG l yX10_readsWinter wsX10_readsWinter ({ frames := 3, cells := 0, slots := 0, locals := 64 } : Room) E [.ref (eO E 0)] (mW E (jI I a w) A) (mW E (jI I ((rWin (A 0) (I 0) (a, w, A)).1) ((rWin (A 0) (I 0) (a, w, A)).2.1)) ((rWin (A 0) (I 0) (a, w, A)).2.2)) := by
  have hin : ∀ w ∈ wsX100, w ∈ wsX10_readsWinter := fun w h => in_tail h
  refine met_G (cc := cX10_readsWinter) (nL := 1) (by decide) rfl (Nat.le_of_ble_eq_true rfl) ?_
  intro p e s m args below meth c Q H0 A0 H locs ls F hw hl hret
  have F : CallFix p m c cX10_readsWinter 1 s args wsX10_readsWinter RX10 := F
  have hl : lv_has ls 1 [(0, .ref (eO E 0))] := hl
  obtain ⟨hc0, hc1, hc2, hc3⟩ := id hc
  refine lv_aload_n F.1 F.2.1 dX10_readsWinter_0 rfl (lv_at hl 0 rfl) ?_
  refine lv_aload_n F.1 F.2.1 dX10_readsWinter_1 rfl (lv_at hl 0 rfl) ?_
  refine m_get F hin hw 8 (by decide) (by decide +kernel) rfl dX10_readsWinter_2 ?_
  refine bi_iconst F dX10_readsWinter_5 ?_
  refine m_ld F hw 6 4 rfl (by decide) (by omega) dX10_readsWinter_6 ?_
  refine bi_if_le (tgt := 14) F dX10_readsWinter_7 (by decide) (by omega) (fun c_1 => ?_) (fun c_1 => ?_)
  · refine bi_iconst F dX10_readsWinter_14 ?_
    refine call_B (As := [.int (iI 0)]) (rest := []) F (j_opens l E I A a w 0 (by omega) (by omega) (by omega)) (cwV 1 F.2.2.2.2 gX10_readsWinter_X10_opens rfl rfl rfl (by decide +kernel) ⟨Nat.le_of_ble_eq_true rfl, Nat.le_of_ble_eq_true rfl⟩) hw (m_recv hw) rfl hl.1 rfl (Nat.le_of_ble_eq_true rfl) dX10_readsWinter_15 ⟨Nat.zero_le _, Nat.zero_le _⟩ (fun q_2 H locs hw => ?_) (fun q_2 H locs hw => ?_)
    · refine bi_if_eq (tgt := 131) F dX10_readsWinter_18 (by decide) (by decide) (fun q => absurd q (by decide)) (fun _ => ?_)
      refine lv_aload_n F.1 F.2.1 dX10_readsWinter_21 rfl (lv_at hl 0 rfl) ?_
      refine m_get F hin hw 9 (by decide) (by decide +kernel) rfl dX10_readsWinter_22 ?_
      refine bi_iconst F dX10_readsWinter_25 ?_
      refine lv_aload_n F.1 F.2.1 dX10_readsWinter_26 rfl (lv_at hl 0 rfl) ?_
      refine bi_iconst F dX10_readsWinter_27 ?_
      refine bi_bipush F dX10_readsWinter_28 (by decide) ?_
      refine call_F (As := [.int (iI 0), .int (iI 40)]) (rest := [.int (iI 0), .ref (eA E 7)]) F (j_number l E I A (a + 1) w 0 40 (by omega) (by subst_vars; exact hl0) (by omega) (by omega) (by omega) (by omega)) (cwV 2 F.2.2.2.2 gX10_readsWinter_X10_number rfl rfl rfl (by decide +kernel) ⟨Nat.le_of_ble_eq_true rfl, Nat.le_of_ble_eq_true rfl⟩) hw (m_recv hw) rfl hl.1 rfl (Nat.le_of_ble_eq_true rfl) dX10_readsWinter_30 ⟨Nat.zero_le _, Nat.zero_le _⟩ (fun H locs hw => ?_)
      generalize ea4 : pNumA (A 0) (I 0) 0 40 (a + 1) w = a4 at hw
      generalize ew5 : pNumW (A 0) (I 0) 0 40 (a + 1) w = w5 at hw
      have f_6 := pNumA_r (T := A 0) (n := I 0) (lo := 0) (hi := 40) (a := (a + 1)) (w := w) (by omega) (by omega)
      try rw [ea4] at f_6
      try rw [ew5] at f_6
      have f_7 := pNumW_r (T := A 0) (n := I 0) (lo := 0) (hi := 40) (a := (a + 1)) (w := w) (by omega)
      try rw [ea4] at f_7
      try rw [ew5] at f_7
      generalize ev8 : pNumV (A 0) (I 0) (a + 1) w = v8
      have f_9 : 0 ≤ v8 ∧ v8 ≤ 999 := by rw [← ev8]; exact pNumV_r
      refine m_st F hw 7 20 rfl (by decide) (by omega) dX10_readsWinter_33 (fun H locs hw => ?_)
      generalize eA10 : st2 A 7 0 v8 = A10 at hw
      refine lv_aload_n F.1 F.2.1 dX10_readsWinter_34 rfl (lv_at hl 0 rfl) ?_
      refine m_get F hin hw 8 (by decide) (by decide +kernel) rfl dX10_readsWinter_35 ?_
      refine bi_iconst F dX10_readsWinter_38 ?_
      refine bi_iconst F dX10_readsWinter_39 ?_
      refine m_st F hw 6 4 rfl (by decide) (by omega) dX10_readsWinter_40 (fun H locs hw => ?_)
      generalize eA11 : st2 A10 6 0 1 = A11 at hw
      refine lv_aload_n F.1 F.2.1 dX10_readsWinter_41 rfl (lv_at hl 0 rfl) ?_
      refine call_G (As := []) (rest := []) F (j_skips l E I A11 a4 w5  (by omega) (by subst_vars; exact hl0) (by omega) (by omega)) (cwV 0 F.2.2.2.2 gX10_readsWinter_X10_skips rfl rfl rfl (by decide +kernel) ⟨Nat.le_of_ble_eq_true rfl, Nat.le_of_ble_eq_true rfl⟩) hw (m_recv hw) rfl hl.1 rfl (Nat.le_of_ble_eq_true rfl) dX10_readsWinter_42 ⟨Nat.zero_le _, Nat.zero_le _⟩ (fun H locs hw => ?_)
      generalize ea12 : pSkW (A11 0) (I 0) a4 w5 = a12 at hw
      have f_14 := pSkW_r (T := A11 0) (n := I 0) (a := a4) (w := w5) (by omega) (by omega)
      try rw [ea12] at f_14
      have loop_45 : ∀ (nf : Nat) (i : Int) (a1 : Int) (w1 : Int) (A1 : Nat → Int → Int) (H : Heap) (locs : List Loc) (ls : Array Slot) (hi : 0 ≤ i ∧ i ≤ 20) (hcnt : w1 = 0 → A1 6 0 = i + 1) (h0 : A1 0 = A 0) (hc : cOk A1) (ha1 : 0 ≤ a1 ∧ a1 ≤ 240) (hw1 : 0 ≤ w1 ∧ w1 ≤ 3) (hR : rCom (A 0) (I 0) (22 - i).toNat (a1, w1, A1) = rCom (A 0) (I 0) 22 (rSk (A 0) (I 0) (rSet1 (rNum (A 0) (I 0) 0 40 7 0 (a + 1, 0, A))))) (hw : gH E A0 H0 s (mW E (jI I a1 w1) A1) H locs) (hl : lv_has ls 1 [(0, .ref (eO E 0))]) (hnf : (22 - i).toNat < nf), W p l e ({ frames := 3, cells := 0, slots := 0, locals := 64 } : Room) s m args below meth c H locs 0 0 Q (F0 m 45 ls []) := by
        intro nf
        induction nf with
        | zero =>
          intro i a1 w1 A1 H locs ls hi hcnt h0 hc ha1 hw1 hR hw hl hnf
          exact absurd hnf (Nat.not_lt_zero _)
        | succ nf ih_45 =>
          intro i a1 w1 A1 H locs ls hi hcnt h0 hc ha1 hw1 hR hw hl hnf
          have hl0 : ∀ k, 0 ≤ A1 0 k ∧ A1 0 k ≤ 255 := by rw [h0]; exact hl0
          obtain ⟨hd0, hd1, hd2, hd3⟩ := id hc
          have hRs : rCom (A 0) (I 0) (22 - i).toNat (a1, w1, A1) = if w1 = 0 ∧ pLook (A 0) (I 0) a1 = 44 then (if A1 6 0 = 20 then rCom (A 0) (I 0) (22 - (i + 1)).toNat (rSk (A 0) (I 0) (a1, 1, A1)) else rCom (A 0) (I 0) (22 - (i + 1)).toNat (rSk (A 0) (I 0) (rInc 0 (rNum (A 0) (I 0) 0 40 7 (A1 6 0) (a1 + 1, w1, A1))))) else (a1, w1, A1) := by rw [show (22 - i).toNat = (22 - (i + 1)).toNat + 1 by omega]; rfl
          refine lv_aload_n F.1 F.2.1 dX10_readsWinter_45 rfl (lv_at hl 0 rfl) ?_
          refine m_get (v := .int (iI w1)) F hin hw 26 (by decide) (by decide +kernel) rfl dX10_readsWinter_46 ?_
          refine bi_if_ne (tgt := 125) F dX10_readsWinter_49 (by decide) (by omega) (fun c_15 => ?_) (fun c_15 => ?_)
          · have hR2 : rCom (A 0) (I 0) 22 (rSk (A 0) (I 0) (rSet1 (rNum (A 0) (I 0) 0 40 7 0 (a + 1, 0, A)))) = (a1, w1, A1) := by rw [← hR, hRs, if_neg (fun hq => by rw [← h0] at hq; omega)]
            refine lv_aload_n F.1 F.2.1 dX10_readsWinter_125 rfl (lv_at hl 0 rfl) ?_
            refine bi_bipush F dX10_readsWinter_126 (by decide) ?_
            refine call_G (As := [.int (iI 59)]) (rest := []) F (j_word l E I A1 a1 w1 59 (by omega) hl0 (by omega) (by omega) (by omega)) (cwV 1 F.2.2.2.2 gX10_readsWinter_X10_word rfl rfl rfl (by decide +kernel) ⟨Nat.le_of_ble_eq_true rfl, Nat.le_of_ble_eq_true rfl⟩) hw (m_recv hw) rfl hl.1 rfl (Nat.le_of_ble_eq_true rfl) dX10_readsWinter_128 ⟨Nat.zero_le _, Nat.zero_le _⟩ (fun H locs hw => ?_)
            generalize ea16 : pWordA (A1 0) (I 0) 59 a1 w1 = a16 at hw
            generalize ew17 : pWordW (A1 0) (I 0) 59 a1 w1 = w17 at hw
            have f_18 := pWordA_r (T := A1 0) (n := I 0) (c := 59) (a := a1) (w := w1) (by omega) (by omega) (by omega)
            try rw [ea16] at f_18
            try rw [ew17] at f_18
            have f_19 := pWordW_r (T := A1 0) (n := I 0) (c := 59) (a := a1) (w := w1) (by omega)
            try rw [ea16] at f_19
            try rw [ew17] at f_19
            have hfin : rWin (A 0) (I 0) (a, w, A) = (a16, w17, A1) := by first | (unfold rWin; rw [if_pos (show 0 < A 6 0 by omega)]; done) | (unfold rWin; rw [if_neg (show ¬ 0 < A 6 0 by omega)]; show rWord (A 0) (I 0) 59 (rCom (A 0) (I 0) 22 (rSk (A 0) (I 0) (rSet1 (rNum (A 0) (I 0) 0 40 7 0 (a + 1, 0, A))))) = _; rw [hR2, ← h0]; subst_vars; rfl)
            exact hret _ _ _ _ _ (mW_j (by rw [hfin]) (by rw [hfin]) (by rw [hfin])) hw dX10_readsWinter_131
          · refine lv_aload_n F.1 F.2.1 dX10_readsWinter_52 rfl (lv_at hl 0 rfl) ?_
            refine call_N (As := []) (rest := []) F (j_look l E I A1 a1 w1  (by omega) hl0 (by omega) (by omega)) (cwV 0 F.2.2.2.2 gX10_readsWinter_X10_look rfl rfl rfl (by decide +kernel) ⟨Nat.le_of_ble_eq_true rfl, Nat.le_of_ble_eq_true rfl⟩) hw (m_recv hw) rfl hl.1 rfl (Nat.le_of_ble_eq_true rfl) dX10_readsWinter_53 ⟨Nat.zero_le _, Nat.zero_le _⟩ (fun H locs hw => ?_)
            have f_20 := pLook_r (T := A1 0) (n := I 0) (a := a1) hl0
            refine bi_bipush F dX10_readsWinter_56 (by decide) ?_
            refine bi_icmp_ne (tgt := 125) F dX10_readsWinter_58 (by decide) (by omega) (fun c_21 => ?_) (fun c_21 => ?_)
            · have hR2 : rCom (A 0) (I 0) 22 (rSk (A 0) (I 0) (rSet1 (rNum (A 0) (I 0) 0 40 7 0 (a + 1, 0, A)))) = (a1, w1, A1) := by rw [← hR, hRs, if_neg (fun hq => by rw [← h0] at hq; omega)]
              refine lv_aload_n F.1 F.2.1 dX10_readsWinter_125 rfl (lv_at hl 0 rfl) ?_
              refine bi_bipush F dX10_readsWinter_126 (by decide) ?_
              refine call_G (As := [.int (iI 59)]) (rest := []) F (j_word l E I A1 a1 w1 59 (by omega) hl0 (by omega) (by omega) (by omega)) (cwV 1 F.2.2.2.2 gX10_readsWinter_X10_word rfl rfl rfl (by decide +kernel) ⟨Nat.le_of_ble_eq_true rfl, Nat.le_of_ble_eq_true rfl⟩) hw (m_recv hw) rfl hl.1 rfl (Nat.le_of_ble_eq_true rfl) dX10_readsWinter_128 ⟨Nat.zero_le _, Nat.zero_le _⟩ (fun H locs hw => ?_)
              generalize ea22 : pWordA (A1 0) (I 0) 59 a1 w1 = a22 at hw
              generalize ew23 : pWordW (A1 0) (I 0) 59 a1 w1 = w23 at hw
              have f_24 := pWordA_r (T := A1 0) (n := I 0) (c := 59) (a := a1) (w := w1) (by omega) (by omega) (by omega)
              try rw [ea22] at f_24
              try rw [ew23] at f_24
              have f_25 := pWordW_r (T := A1 0) (n := I 0) (c := 59) (a := a1) (w := w1) (by omega)
              try rw [ea22] at f_25
              try rw [ew23] at f_25
              have hfin : rWin (A 0) (I 0) (a, w, A) = (a22, w23, A1) := by first | (unfold rWin; rw [if_pos (show 0 < A 6 0 by omega)]; done) | (unfold rWin; rw [if_neg (show ¬ 0 < A 6 0 by omega)]; show rWord (A 0) (I 0) 59 (rCom (A 0) (I 0) 22 (rSk (A 0) (I 0) (rSet1 (rNum (A 0) (I 0) 0 40 7 0 (a + 1, 0, A))))) = _; rw [hR2, ← h0]; subst_vars; rfl)
              exact hret _ _ _ _ _ (mW_j (by rw [hfin]) (by rw [hfin]) (by rw [hfin])) hw dX10_readsWinter_131
            · have hlk : pLook (A 0) (I 0) a1 = 44 := by rw [← h0]; assumption
              have hlt := pLook_c hlk (by decide)
              have hcn := hcnt (by omega)
              refine lv_aload_n F.1 F.2.1 dX10_readsWinter_61 rfl (lv_at hl 0 rfl) ?_
              refine m_get F hin hw 8 (by decide) (by decide +kernel) rfl dX10_readsWinter_62 ?_
              refine bi_iconst F dX10_readsWinter_65 ?_
              refine m_ld F hw 6 4 rfl (by decide) (by omega) dX10_readsWinter_66 ?_
              refine bi_bipush F dX10_readsWinter_67 (by decide) ?_
              refine bi_icmp_ne (tgt := 80) F dX10_readsWinter_69 (by decide) (by omega) (fun c_26 => ?_) (fun c_26 => ?_)
              · have hlt20 : A1 6 0 < 20 := by omega
                refine lv_aload_n F.1 F.2.1 dX10_readsWinter_80 rfl (lv_at hl 0 rfl) ?_
                refine lv_dup F.1 F.2.1 dX10_readsWinter_81 rfl ?_
                refine m_get (v := .int (iI a1)) F hin hw 25 (by decide) (by decide +kernel) rfl dX10_readsWinter_82 ?_
                refine bi_iconst F dX10_readsWinter_85 ?_
                refine bi_iadd F dX10_readsWinter_86 ?_
                refine m_putJ (I2 := jI I (a1 + 1) w1) F hin hw 25 (by decide) (by decide +kernel) rfl (by decide +kernel) rfl dX10_readsWinter_87 (fun H locs hw => ?_)
                refine lv_aload_n F.1 F.2.1 dX10_readsWinter_90 rfl (lv_at hl 0 rfl) ?_
                refine m_get F hin hw 9 (by decide) (by decide +kernel) rfl dX10_readsWinter_91 ?_
                refine lv_aload_n F.1 F.2.1 dX10_readsWinter_94 rfl (lv_at hl 0 rfl) ?_
                refine m_get F hin hw 8 (by decide) (by decide +kernel) rfl dX10_readsWinter_95 ?_
                refine bi_iconst F dX10_readsWinter_98 ?_
                refine m_ld F hw 6 4 rfl (by decide) (by omega) dX10_readsWinter_99 ?_
                refine lv_aload_n F.1 F.2.1 dX10_readsWinter_100 rfl (lv_at hl 0 rfl) ?_
                refine bi_iconst F dX10_readsWinter_101 ?_
                refine bi_bipush F dX10_readsWinter_102 (by decide) ?_
                refine call_F (As := [.int (iI 0), .int (iI 40)]) (rest := [.int (iI (A1 6 0)), .ref (eA E 7)]) F (j_number l E I A1 (a1 + 1) w1 0 40 (by omega) (by subst_vars; exact hl0) (by omega) (by omega) (by omega) (by omega)) (cwV 2 F.2.2.2.2 gX10_readsWinter_X10_number rfl rfl rfl (by decide +kernel) ⟨Nat.le_of_ble_eq_true rfl, Nat.le_of_ble_eq_true rfl⟩) hw (m_recv hw) rfl hl.1 rfl (Nat.le_of_ble_eq_true rfl) dX10_readsWinter_104 ⟨Nat.zero_le _, Nat.zero_le _⟩ (fun H locs hw => ?_)
                generalize ea27 : pNumA (A1 0) (I 0) 0 40 (a1 + 1) w1 = a27 at hw
                generalize ew28 : pNumW (A1 0) (I 0) 0 40 (a1 + 1) w1 = w28 at hw
                have f_29 := pNumA_r (T := A1 0) (n := I 0) (lo := 0) (hi := 40) (a := (a1 + 1)) (w := w1) (by omega) (by omega)
                try rw [ea27] at f_29
                try rw [ew28] at f_29
                have f_30 := pNumW_r (T := A1 0) (n := I 0) (lo := 0) (hi := 40) (a := (a1 + 1)) (w := w1) (by omega)
                try rw [ea27] at f_30
                try rw [ew28] at f_30
                generalize ev31 : pNumV (A1 0) (I 0) (a1 + 1) w1 = v31
                have f_32 : 0 ≤ v31 ∧ v31 ≤ 999 := by rw [← ev31]; exact pNumV_r
                refine m_st F hw 7 20 rfl (by decide) (by omega) dX10_readsWinter_107 (fun H locs hw => ?_)
                generalize eA33 : st2 A1 7 (A1 6 0) v31 = A33 at hw
                refine lv_aload_n F.1 F.2.1 dX10_readsWinter_108 rfl (lv_at hl 0 rfl) ?_
                refine m_get F hin hw 8 (by decide) (by decide +kernel) rfl dX10_readsWinter_109 ?_
                refine bi_iconst F dX10_readsWinter_112 ?_
                have hc6a : A33 6 0 = A1 6 0 := by subst_vars; rfl
                refine lv_dup2_11 F.1 F.2.1 dX10_readsWinter_113 rfl rfl ?_
                refine m_ld F hw 6 4 rfl (by decide) (by omega) dX10_readsWinter_114 ?_
                have f_34 : A33 6 0 = A1 6 0 := by rw [← eA33, st2_n (by decide)]
                refine bi_iconst F dX10_readsWinter_115 ?_
                refine bi_iadd F dX10_readsWinter_116 ?_
                refine m_st F hw 6 4 rfl (by decide) (by omega) dX10_readsWinter_117 (fun H locs hw => ?_)
                generalize eA35 : st2 A33 6 0 (A33 6 0 + 1) = A35 at hw
                try have hc60 : A35 6 0 = A1 6 0 + 1 := by subst_vars; exact st2_s
                refine lv_aload_n F.1 F.2.1 dX10_readsWinter_118 rfl (lv_at hl 0 rfl) ?_
                refine call_G (As := []) (rest := []) F (j_skips l E I A35 a27 w28  (by omega) (by subst_vars; exact hl0) (by omega) (by omega)) (cwV 0 F.2.2.2.2 gX10_readsWinter_X10_skips rfl rfl rfl (by decide +kernel) ⟨Nat.le_of_ble_eq_true rfl, Nat.le_of_ble_eq_true rfl⟩) hw (m_recv hw) rfl hl.1 rfl (Nat.le_of_ble_eq_true rfl) dX10_readsWinter_119 ⟨Nat.zero_le _, Nat.zero_le _⟩ (fun H locs hw => ?_)
                generalize ea36 : pSkW (A35 0) (I 0) a27 w28 = a36 at hw
                have f_38 := pSkW_r (T := A35 0) (n := I 0) (a := a27) (w := w28) (by omega) (by omega)
                try rw [ea36] at f_38
                refine lv_goto (tgt := 45) F.1 F.2.1 dX10_readsWinter_122 (by decide) ?_
                exact ih_45 (i + 1) a36 w28 A35 H locs ls (by omega) (by first | (intro hq; exfalso; omega) | (intro _; rw [hc60]; omega)) (by first | exact h0 | (subst_vars; exact h0)) (by first | exact hc | (subst_vars; exact cOk_i0 (cOk_st (by decide) hc) hlt20)) (by omega) (by omega) (by rw [← hR, hRs, if_pos ⟨by omega, hlk⟩]; first | (rw [if_pos (by omega), ← h0]; subst_vars; rfl) | (rw [if_neg (by omega), ← h0]; subst_vars; rfl)) hw (lv_sub hl [0] rfl) (by omega)
              · refine lv_aload_n F.1 F.2.1 dX10_readsWinter_72 rfl (lv_at hl 0 rfl) ?_
                refine bi_iconst F dX10_readsWinter_73 ?_
                refine call_G (As := [.int (iI 1)]) (rest := []) F (j_fails l E I A1 a1 w1 1 (by omega) (by omega)) (cwV 1 F.2.2.2.2 gX10_readsWinter_X10_fails rfl rfl rfl (by decide +kernel) ⟨Nat.le_of_ble_eq_true rfl, Nat.le_of_ble_eq_true rfl⟩) hw (m_recv hw) rfl hl.1 rfl (Nat.le_of_ble_eq_true rfl) dX10_readsWinter_74 ⟨Nat.zero_le _, Nat.zero_le _⟩ (fun H locs hw => ?_)
                generalize ew40 : pFail 1 w1 = w40 at hw
                have f_41 := pFail_r (k := 1) (w := w1) (by omega) (by omega)
                try rw [ew40] at f_41
                have hw5 : w40 = 1 := by rw [← ew40]; exact if_pos (by omega)
                refine lv_goto (tgt := 118) F.1 F.2.1 dX10_readsWinter_77 (by decide) ?_
                try have hc60 : A1 6 0 = A1 6 0 + 1 := by subst_vars; exact st2_s
                refine lv_aload_n F.1 F.2.1 dX10_readsWinter_118 rfl (lv_at hl 0 rfl) ?_
                refine call_G (As := []) (rest := []) F (j_skips l E I A1 a1 w40  (by omega) (by subst_vars; exact hl0) (by omega) (by omega)) (cwV 0 F.2.2.2.2 gX10_readsWinter_X10_skips rfl rfl rfl (by decide +kernel) ⟨Nat.le_of_ble_eq_true rfl, Nat.le_of_ble_eq_true rfl⟩) hw (m_recv hw) rfl hl.1 rfl (Nat.le_of_ble_eq_true rfl) dX10_readsWinter_119 ⟨Nat.zero_le _, Nat.zero_le _⟩ (fun H locs hw => ?_)
                generalize ea42 : pSkW (A1 0) (I 0) a1 w40 = a42 at hw
                have f_44 := pSkW_r (T := A1 0) (n := I 0) (a := a1) (w := w40) (by omega) (by omega)
                try rw [ea42] at f_44
                refine lv_goto (tgt := 45) F.1 F.2.1 dX10_readsWinter_122 (by decide) ?_
                exact ih_45 (i + 1) a42 w40 A1 H locs ls (by omega) (by first | (intro hq; exfalso; omega) | (intro _; rw [hc60]; omega)) (by first | exact h0 | (subst_vars; exact h0)) (by first | exact hc | (subst_vars; exact cOk_i0 (cOk_st (by decide) hc) hlt20)) (by omega) (by omega) (by rw [← hR, hRs, if_pos ⟨by omega, hlk⟩]; first | (rw [if_pos (by omega), ← h0]; subst_vars; rfl) | (rw [if_neg (by omega), ← h0]; subst_vars; rfl)) hw (lv_sub hl [0] rfl) (by omega)
      exact loop_45 ((22 - 0 : Int).toNat + 1) 0 a12 w5 A11 H locs ls (by omega) (fun _ => by subst_vars; exact st2_s) (by subst_vars; rfl) (by subst_vars; exact cOk_1 (cOk_st (by decide) hc)) (by omega) (by omega) (by subst_vars; rfl) hw (lv_sub hl [0] rfl) (by omega)
    · exfalso; omega
  · refine bi_iconst F dX10_readsWinter_10 ?_
    refine lv_goto (tgt := 15) F.1 F.2.1 dX10_readsWinter_11 (by decide) ?_
    refine call_B (As := [.int (iI 1)]) (rest := []) F (j_opens l E I A a w 1 (by omega) (by omega) (by omega)) (cwV 1 F.2.2.2.2 gX10_readsWinter_X10_opens rfl rfl rfl (by decide +kernel) ⟨Nat.le_of_ble_eq_true rfl, Nat.le_of_ble_eq_true rfl⟩) hw (m_recv hw) rfl hl.1 rfl (Nat.le_of_ble_eq_true rfl) dX10_readsWinter_15 ⟨Nat.zero_le _, Nat.zero_le _⟩ (fun q_45 H locs hw => ?_) (fun q_45 H locs hw => ?_)
    · exfalso; omega
    · refine bi_if_eq (tgt := 131) F dX10_readsWinter_18 (by decide) (by decide) (fun _ => ?_) (fun q => absurd q (by decide))
      have hfin : rWin (A 0) (I 0) (a, w, A) = (a, 3, A) := by first | (unfold rWin; rw [if_pos (show 0 < A 6 0 by omega)]; done) | (unfold rWin; rw [if_neg (show ¬ 0 < A 6 0 by omega)]; show rWord (A 0) (I 0) 59 (rCom (A 0) (I 0) 22 (rSk (A 0) (I 0) (rSet1 (rNum (A 0) (I 0) 0 40 7 0 (a + 1, 0, A))))) = _; rw [hR2, ← h0]; subst_vars; rfl)
      exact hret _ _ _ _ _ (mW_j (by rw [hfin]) (by rw [hfin]) (by rw [hfin])) hw dX10_readsWinter_131
