set_option maxRecDepth 100000 in
set_option maxHeartbeats 4000000 in
theorem x9_feed (l : Launch) (E : Ev) (I : Nat → Int) (A : Nat → Int → Int) (L : Nat → Int64) (v : Int) (b_v : -2147483648 ≤ v ∧ v ≤ 2147483647) (hx : xOk I A) : MetF l yX9_feed wsX9_feed ({ frames := 1, cells := 0, slots := 0, locals := 22 } : Room) E [.ref (eO E 0), .int (iI v)] (xW E I A L) (xW E (mFeedI I v) (mFeedA I A v) L) (mFeedR I v) := by
  have hin9 : ∀ w ∈ wsX90, w ∈ wsX9_feed := by decide +kernel
  refine met_F (cc := cX9_feed) (nL := 2) (by decide) rfl (Nat.le_of_ble_eq_true rfl) ?_
  intro p e s m args below meth c Q H0 A0 H locs ls F hw hl hret
  have F : CallFix p m c cX9_feed 2 s args wsX9_feed RX9 := F
  have hl : lv_has ls 2 [(0, .ref (eO E 0)), (1, .int (iI v))] := hl
  obtain ⟨ht, hl0, hnn, hnv, hnp, hnd, h00, hin9k, hdr, hff, hyr, hbn, hpl, hf5, hni, hhm, hcn3, hnx, hcn, hsp, hsa, hcn0, hb, hb2, hlk, hkp⟩ := id hx
  have hf : ∀ k, 0 ≤ A 17 k ∧ A 17 k ≤ 900000 := fun k => by have := hf5 k; omega
  have hh : ∀ t, 13 ≤ t ∧ t < 19 → 0 ≤ A 17 t ∧ A 17 t ≤ 1000 := fun t h => by have h1 := hhm t h; have h2 := hf t; omega
  have hho : ∀ q, 0 ≤ q ∧ q < I 11 → A 17 (13 + q) < 4 := fun q h => hhm (13 + q) (by omega)
  have hin0 := hin9k
  refine lv_iload_n F.1 F.2.1 dX9_feed_0 rfl (lv_at hl 1 rfl) ?_
  refine bi_iconst F dX9_feed_1 ?_
  refine bi_sipush F dX9_feed_2 (by decide) ?_
  refine calls_P0 (As := [.int (iI v), .int (iI 0), .int (iI 255)]) (rest := []) F (x9_isOut l E v 0 255 (by omega) (by omega) (by omega)) (va_cwS 3 F.2.2.2.2 gX9_feed_X9_isOut rfl rfl rfl (by decide +kernel) ⟨(Nat.le_of_ble_eq_true rfl), (Nat.le_of_ble_eq_true rfl)⟩) hw rfl hl.1 rfl (Nat.le_of_ble_eq_true rfl) dX9_feed_5 ⟨Nat.zero_le _, Nat.zero_le _⟩ (fun q_1 H locs hw => ?_) (fun q_1 H locs hw => ?_)
  · refine bi_if_eq (tgt := 14) F dX9_feed_8 (by decide) (by decide) (fun q => absurd q (by decide)) (fun _ => ?_)
    refine bi_ldc F (-1000000002) (by decide +kernel) rfl dX9_feed_11 ?_
    exact hret _ _ _ _ _ _ (by unfold mFeedR; rw [if_neg (by omega)]) (xW_c (by unfold mFeedI; rw [if_neg (by omega)]) (by unfold mFeedA; rw [if_neg (by omega)]) rfl) hw dX9_feed_13
  · refine bi_if_eq (tgt := 14) F dX9_feed_8 (by decide) (by decide) (fun _ => ?_) (fun q => absurd q (by decide))
    refine lv_aload_n F.1 F.2.1 dX9_feed_14 rfl (lv_at hl 0 rfl) ?_
    refine x_get F hin9 hw 0 9 rfl rfl 1 (by decide) (by decide +kernel) rfl rfl dX9_feed_15 ?_
    refine bi_sipush F dX9_feed_18 (by decide) ?_
    refine bi_icmp_lt (tgt := 27) F dX9_feed_21 (by decide) (by omega) (fun c_4 => ?_) (fun c_4 => ?_)
    · refine lv_aload_n F.1 F.2.1 dX9_feed_27 rfl (lv_at hl 0 rfl) ?_
      refine x_get F hin9 hw 0 9 rfl rfl 0 (by decide) (by decide +kernel) rfl rfl dX9_feed_28 ?_
      refine lv_aload_n F.1 F.2.1 dX9_feed_31 rfl (lv_at hl 0 rfl) ?_
      refine x_get F hin9 hw 0 9 rfl rfl 1 (by decide) (by decide +kernel) rfl rfl dX9_feed_32 ?_
      refine lv_iload_n F.1 F.2.1 dX9_feed_35 rfl (lv_at hl 1 rfl) ?_
      refine x_st F hw 0 240 rfl (by decide) (by omega) dX9_feed_36 (fun H locs hw => ?_)
      generalize eA5 : st2 A 0 (I 0) v = A5 at hw
      refine lv_aload_n F.1 F.2.1 dX9_feed_37 rfl (lv_at hl 0 rfl) ?_
      refine lv_dup F.1 F.2.1 dX9_feed_38 rfl ?_
      refine x_get F hin9 hw 0 9 rfl rfl 1 (by decide) (by decide +kernel) rfl rfl dX9_feed_39 ?_
      refine bi_iconst F dX9_feed_42 ?_
      refine bi_iadd F dX9_feed_43 ?_
      refine x_put (I2 := st1 I 0 (I 0 + 1)) F hin9 tyX9 tyX9_ok nmX9 hw 0 9 rfl rfl 1 (by decide) (by decide +kernel) rfl rfl (by decide +kernel) (Nat.le_of_ble_eq_true rfl) rfl (by decide) dX9_feed_44 (fun H locs hw => ?_)
      generalize eI6 : st1 I 0 (I 0 + 1) = I6 at hw
      refine lv_aload_n F.1 F.2.1 dX9_feed_47 rfl (lv_at hl 0 rfl) ?_
      refine x_get F hin9 hw 0 9 rfl rfl 1 (by decide) (by decide +kernel) rfl rfl dX9_feed_48 ?_
      have f_7 : I6 0 = I 0 + 1 := by rw [← eI6]; exact st1_s
      exact hret _ _ _ _ _ _ (by unfold mFeedR; rw [if_pos (by omega), if_neg (by omega)]; omega) (xW_c (by unfold mFeedI; rw [if_pos (by omega), if_neg (by omega)]; subst_vars; rfl) (by unfold mFeedA; rw [if_pos (by omega), if_neg (by omega)]; subst_vars; rfl) rfl) hw dX9_feed_51
    · refine bi_ldc F (-1000000004) (by decide +kernel) rfl dX9_feed_24 ?_
      exact hret _ _ _ _ _ _ (by unfold mFeedR; rw [if_pos (by omega), if_pos (by omega)]) (xW_c (by unfold mFeedI; rw [if_pos (by omega), if_pos (by omega)]) (by unfold mFeedA; rw [if_pos (by omega), if_pos (by omega)]) rfl) hw dX9_feed_26
set_option maxRecDepth 100000 in
set_option maxHeartbeats 4000000 in
theorem x9_fault (l : Launch) (E : Ev) (I : Nat → Int) (A : Nat → Int → Int) (L : Nat → Int64) (hx : xOk I A) : MetN l yX9_fault wsX9_fault ({ frames := 0, cells := 0, slots := 0, locals := 0 } : Room) E [.ref (eO E 0)] (xW E I A L) (I 1) := by
  have hin4 : ∀ w ∈ wsX40, w ∈ wsX9_fault := by decide +kernel
  have hin9 : ∀ w ∈ wsX90, w ∈ wsX9_fault := by decide +kernel
  refine met_N (cc := cX9_fault) (nL := 1) (by decide) rfl (Nat.le_of_ble_eq_true rfl) ?_
  intro p e s m args below meth c Q H0 A0 H locs ls F hw hl hret
  have F : CallFix p m c cX9_fault 1 s args wsX9_fault RX9 := F
  have hl : lv_has ls 1 [(0, .ref (eO E 0))] := hl
  obtain ⟨ht, hl0, hnn, hnv, hnp, hnd, h00, hin9k, hdr, hff, hyr, hbn, hpl, hf5, hni, hhm, hcn3, hnx, hcn, hsp, hsa, hcn0, hb, hb2, hlk, hkp⟩ := id hx
  have hf : ∀ k, 0 ≤ A 17 k ∧ A 17 k ≤ 900000 := fun k => by have := hf5 k; omega
  have hh : ∀ t, 13 ≤ t ∧ t < 19 → 0 ≤ A 17 t ∧ A 17 t ≤ 1000 := fun t h => by have h1 := hhm t h; have h2 := hf t; omega
  have hho : ∀ q, 0 ≤ q ∧ q < I 11 → A 17 (13 + q) < 4 := fun q h => hhm (13 + q) (by omega)
  have hin0 := hin9k
  refine lv_aload_n F.1 F.2.1 dX9_fault_0 rfl (lv_at hl 0 rfl) ?_
  refine x_get F hin9 hw 0 9 rfl rfl 2 (by decide) (by decide +kernel) rfl rfl dX9_fault_1 ?_
  refine x_get F hin4 hw 1 4 rfl rfl 1 (by decide) (by decide +kernel) rfl rfl dX9_fault_4 ?_
  exact hret _ _ _ _ _ (rfl) hw dX9_fault_7
set_option maxRecDepth 100000 in
set_option maxHeartbeats 4000000 in
theorem x9_told (l : Launch) (E : Ev) (I : Nat → Int) (A : Nat → Int → Int) (L : Nat → Int64) (w : Int) (b_w : -2147483648 ≤ w ∧ w ≤ 2147483647) (hx : xOk I A) : MetN l yX9_told wsX9_told ({ frames := 5, cells := 0, slots := 0, locals := 110 } : Room) E [.ref (eO E 0), .int (iI w)] (xW E I A L) (xToldR I A w) := by
  have hin0 : ∀ w ∈ wsX00, w ∈ wsX9_told := by decide +kernel
  have hin3 : ∀ w ∈ wsX30, w ∈ wsX9_told := by decide +kernel
  have hin5 : ∀ w ∈ wsX50, w ∈ wsX9_told := by decide +kernel
  have hin7 : ∀ w ∈ wsX70, w ∈ wsX9_told := by decide +kernel
  have hin9 : ∀ w ∈ wsX90, w ∈ wsX9_told := by decide +kernel
  refine met_N (cc := cX9_told) (nL := 2) (by decide) rfl (Nat.le_of_ble_eq_true rfl) ?_
  intro p e s m args below meth c Q H0 A0 H locs ls F hw hl hret
  have F : CallFix p m c cX9_told 2 s args wsX9_told RX9 := F
  have hl : lv_has ls 2 [(0, .ref (eO E 0)), (1, .int (iI w))] := hl
  obtain ⟨ht, hl0, hnn, hnv, hnp, hnd, h00, hin9k, hdr, hff, hyr, hbn, hpl, hf5, hni, hhm, hcn3, hnx, hcn, hsp, hsa, hcn0, hb, hb2, hlk, hkp⟩ := id hx
  have hf : ∀ k, 0 ≤ A 17 k ∧ A 17 k ≤ 900000 := fun k => by have := hf5 k; omega
  have hh : ∀ t, 13 ≤ t ∧ t < 19 → 0 ≤ A 17 t ∧ A 17 t ≤ 1000 := fun t h => by have h1 := hhm t h; have h2 := hf t; omega
  have hho : ∀ q, 0 ≤ q ∧ q < I 11 → A 17 (13 + q) < 4 := fun q h => hhm (13 + q) (by omega)
  refine lv_iload_n F.1 F.2.1 dX9_told_0 rfl (lv_at hl 1 rfl) ?_
  by_cases hsw : w < 0 ∨ 10 < w
  · refine bi_tabOut (tgt := 149) F dX9_told_1 (by omega) hsw (by decide) ?_
    refine bi_ldc F (-1000000002) (by decide +kernel) rfl dX9_told_149 ?_
    exact hret _ _ _ _ _ (by unfold xToldR; repeat rw [if_neg (by omega)]) hw dX9_told_151
  · rcases (show w = 0 ∨ w = 1 ∨ w = 2 ∨ w = 3 ∨ w = 4 ∨ w = 5 ∨ w = 6 ∨ w = 7 ∨ w = 8 ∨ w = 9 ∨ w = 10 by omega) with rfl | rfl | rfl | rfl | rfl | rfl | rfl | rfl | rfl | rfl | rfl
    · refine bi_tabIn (tgt := 60) F dX9_told_1 (by decide) (by decide) rfl (by decide) ?_
      refine lv_aload_n F.1 F.2.1 dX9_told_60 rfl (lv_at hl 0 rfl) ?_
      refine x_get F hin9 hw 0 9 rfl rfl 3 (by decide) (by decide +kernel) rfl rfl dX9_told_61 ?_
      refine x_get F hin7 hw 3 7 rfl rfl 8 (by decide) (by decide +kernel) rfl rfl dX9_told_64 ?_
      exact hret _ _ _ _ _ (rfl) hw dX9_told_67
    · refine bi_tabIn (tgt := 68) F dX9_told_1 (by decide) (by decide) rfl (by decide) ?_
      refine lv_aload_n F.1 F.2.1 dX9_told_68 rfl (lv_at hl 0 rfl) ?_
      refine x_get F hin9 hw 0 9 rfl rfl 3 (by decide) (by decide +kernel) rfl rfl dX9_told_69 ?_
      refine x_get F hin7 hw 3 7 rfl rfl 9 (by decide) (by decide +kernel) rfl rfl dX9_told_72 ?_
      exact hret _ _ _ _ _ (rfl) hw dX9_told_75
    · refine bi_tabIn (tgt := 76) F dX9_told_1 (by decide) (by decide) rfl (by decide) ?_
      refine lv_aload_n F.1 F.2.1 dX9_told_76 rfl (lv_at hl 0 rfl) ?_
      refine x_get F hin9 hw 0 9 rfl rfl 3 (by decide) (by decide +kernel) rfl rfl dX9_told_77 ?_
      refine x_get F hin7 hw 3 7 rfl rfl 10 (by decide) (by decide +kernel) rfl rfl dX9_told_80 ?_
      exact hret _ _ _ _ _ (rfl) hw dX9_told_83
    · refine bi_tabIn (tgt := 84) F dX9_told_1 (by decide) (by decide) rfl (by decide) ?_
      refine lv_aload_n F.1 F.2.1 dX9_told_84 rfl (lv_at hl 0 rfl) ?_
      refine x_get F hin9 hw 0 9 rfl rfl 3 (by decide) (by decide +kernel) rfl rfl dX9_told_85 ?_
      refine x_get F hin7 hw 3 7 rfl rfl 11 (by decide) (by decide +kernel) rfl rfl dX9_told_88 ?_
      exact hret _ _ _ _ _ (rfl) hw dX9_told_91
    · refine bi_tabIn (tgt := 92) F dX9_told_1 (by decide) (by decide) rfl (by decide) ?_
      refine lv_aload_n F.1 F.2.1 dX9_told_92 rfl (lv_at hl 0 rfl) ?_
      refine x_get F hin9 hw 0 9 rfl rfl 1 (by decide) (by decide +kernel) rfl rfl dX9_told_93 ?_
      exact hret _ _ _ _ _ (rfl) hw dX9_told_96
    · refine bi_tabIn (tgt := 97) F dX9_told_1 (by decide) (by decide) rfl (by decide) ?_
      refine lv_aload_n F.1 F.2.1 dX9_told_97 rfl (lv_at hl 0 rfl) ?_
      refine x_get F hin9 hw 0 9 rfl rfl 4 (by decide) (by decide +kernel) rfl rfl dX9_told_98 ?_
      refine call_N (As := []) (rest := []) F (x6_nights l E I A L  ) (cwV 0 F.2.2.2.2 gX9_told_X6_nights rfl rfl rfl (by decide +kernel) ⟨(Nat.le_of_ble_eq_true rfl), (Nat.le_of_ble_eq_true rfl)⟩) hw (x_recv hw 4 6 rfl rfl) rfl hl.1 rfl (Nat.le_of_ble_eq_true rfl) dX9_told_101 ⟨Nat.zero_le _, Nat.zero_le _⟩ (fun H locs hw => ?_)
      exact hret _ _ _ _ _ (rfl) hw dX9_told_104
    · refine bi_tabIn (tgt := 105) F dX9_told_1 (by decide) (by decide) rfl (by decide) ?_
      refine lv_aload_n F.1 F.2.1 dX9_told_105 rfl (lv_at hl 0 rfl) ?_
      refine x_get F hin9 hw 0 9 rfl rfl 4 (by decide) (by decide +kernel) rfl rfl dX9_told_106 ?_
      refine lv_aload_n F.1 F.2.1 dX9_told_109 rfl (lv_at hl 0 rfl) ?_
      refine x_get F hin9 hw 0 9 rfl rfl 3 (by decide) (by decide +kernel) rfl rfl dX9_told_110 ?_
      refine call_N (As := [.ref (eO E 3)]) (rest := []) F (x6_dueDebts l E I A L  (by omega) hf hpl) (cwV 1 F.2.2.2.2 gX9_told_X6_dueDebts rfl rfl rfl (by decide +kernel) ⟨(Nat.le_of_ble_eq_true rfl), (Nat.le_of_ble_eq_true rfl)⟩) hw (x_recv hw 4 6 rfl rfl) rfl hl.1 rfl (Nat.le_of_ble_eq_true rfl) dX9_told_113 ⟨Nat.zero_le _, Nat.zero_le _⟩ (fun H locs hw => ?_)
      have f_1 := xDueN_r A (I 12).toNat
      exact hret _ _ _ _ _ (rfl) hw dX9_told_116
    · refine bi_tabIn (tgt := 117) F dX9_told_1 (by decide) (by decide) rfl (by decide) ?_
      refine lv_aload_n F.1 F.2.1 dX9_told_117 rfl (lv_at hl 0 rfl) ?_
      refine x_get F hin9 hw 0 9 rfl rfl 3 (by decide) (by decide +kernel) rfl rfl dX9_told_118 ?_
      refine call_N (As := []) (rest := []) F (x7_greenNights l E I A L  (by omega) (by omega) hff (hin9k)) (cwV 0 F.2.2.2.2 gX9_told_X7_greenNights rfl rfl rfl (by decide +kernel) ⟨(Nat.le_of_ble_eq_true rfl), (Nat.le_of_ble_eq_true rfl)⟩) hw (x_recv hw 3 7 rfl rfl) rfl hl.1 rfl (Nat.le_of_ble_eq_true rfl) dX9_told_121 ⟨Nat.zero_le _, Nat.zero_le _⟩ (fun H locs hw => ?_)
      exact hret _ _ _ _ _ (rfl) hw dX9_told_124
    · refine bi_tabIn (tgt := 125) F dX9_told_1 (by decide) (by decide) rfl (by decide) ?_
      refine lv_aload_n F.1 F.2.1 dX9_told_125 rfl (lv_at hl 0 rfl) ?_
      refine x_get F hin9 hw 0 9 rfl rfl 9 (by decide) (by decide +kernel) rfl rfl dX9_told_126 ?_
      refine x_get F hin5 hw 9 5 rfl rfl 0 (by decide) (by decide +kernel) rfl rfl dX9_told_129 ?_
      exact hret _ _ _ _ _ (rfl) hw dX9_told_132
    · refine bi_tabIn (tgt := 133) F dX9_told_1 (by decide) (by decide) rfl (by decide) ?_
      refine lv_aload_n F.1 F.2.1 dX9_told_133 rfl (lv_at hl 0 rfl) ?_
      refine x_get F hin9 hw 0 9 rfl rfl 10 (by decide) (by decide +kernel) rfl rfl dX9_told_134 ?_
      refine x_get F hin0 hw 10 0 rfl rfl 0 (by decide) (by decide +kernel) rfl rfl dX9_told_137 ?_
      exact hret _ _ _ _ _ (rfl) hw dX9_told_140
    · refine bi_tabIn (tgt := 141) F dX9_told_1 (by decide) (by decide) rfl (by decide) ?_
      refine lv_aload_n F.1 F.2.1 dX9_told_141 rfl (lv_at hl 0 rfl) ?_
      refine x_get F hin9 hw 0 9 rfl rfl 5 (by decide) (by decide +kernel) rfl rfl dX9_told_142 ?_
      refine x_get F hin3 hw 5 3 rfl rfl 0 (by decide) (by decide +kernel) rfl rfl dX9_told_145 ?_
      exact hret _ _ _ _ _ (rfl) hw dX9_told_148
set_option maxRecDepth 100000 in
set_option maxHeartbeats 4000000 in
theorem x9_winter (l : Launch) (E : Ev) (I : Nat → Int) (A : Nat → Int → Int) (L : Nat → Int64) (k : Int) (b_k : -2147483648 ≤ k ∧ k ≤ 2147483647) (hx : xOk I A) : MetN l yX9_winter wsX9_winter ({ frames := 1, cells := 0, slots := 0, locals := 22 } : Room) E [.ref (eO E 0), .int (iI k)] (xW E I A L) (xWinR I A k) := by
  have hin9 : ∀ w ∈ wsX90, w ∈ wsX9_winter := by decide +kernel
  refine met_N (cc := cX9_winter) (nL := 2) (by decide) rfl (Nat.le_of_ble_eq_true rfl) ?_
  intro p e s m args below meth c Q H0 A0 H locs ls F hw hl hret
  have F : CallFix p m c cX9_winter 2 s args wsX9_winter RX9 := F
  have hl : lv_has ls 2 [(0, .ref (eO E 0)), (1, .int (iI k))] := hl
  obtain ⟨ht, hl0, hnn, hnv, hnp, hnd, h00, hin9k, hdr, hff, hyr, hbn, hpl, hf5, hni, hhm, hcn3, hnx, hcn, hsp, hsa, hcn0, hb, hb2, hlk, hkp⟩ := id hx
  have hf : ∀ k, 0 ≤ A 17 k ∧ A 17 k ≤ 900000 := fun k => by have := hf5 k; omega
  have hh : ∀ t, 13 ≤ t ∧ t < 19 → 0 ≤ A 17 t ∧ A 17 t ≤ 1000 := fun t h => by have h1 := hhm t h; have h2 := hf t; omega
  have hho : ∀ q, 0 ≤ q ∧ q < I 11 → A 17 (13 + q) < 4 := fun q h => hhm (13 + q) (by omega)
  have hin0 := hin9k
  refine lv_iload_n F.1 F.2.1 dX9_winter_0 rfl (lv_at hl 1 rfl) ?_
  refine bi_iconst F dX9_winter_1 ?_
  refine bi_sipush F dX9_winter_2 (by decide) ?_
  refine calls_P0 (As := [.int (iI k), .int (iI 0), .int (iI 9999)]) (rest := []) F (x9_isOut l E k 0 9999 (by omega) (by omega) (by omega)) (va_cwS 3 F.2.2.2.2 gX9_winter_X9_isOut rfl rfl rfl (by decide +kernel) ⟨(Nat.le_of_ble_eq_true rfl), (Nat.le_of_ble_eq_true rfl)⟩) hw rfl hl.1 rfl (Nat.le_of_ble_eq_true rfl) dX9_winter_5 ⟨Nat.zero_le _, Nat.zero_le _⟩ (fun q_1 H locs hw => ?_) (fun q_1 H locs hw => ?_)
  · refine bi_if_eq (tgt := 14) F dX9_winter_8 (by decide) (by decide) (fun q => absurd q (by decide)) (fun _ => ?_)
    refine bi_ldc F (-1000000002) (by decide +kernel) rfl dX9_winter_11 ?_
    exact hret _ _ _ _ _ (by unfold xWinR; rw [if_neg (by omega)]) hw dX9_winter_13
  · refine bi_if_eq (tgt := 14) F dX9_winter_8 (by decide) (by decide) (fun _ => ?_) (fun q => absurd q (by decide))
    refine lv_aload_n F.1 F.2.1 dX9_winter_14 rfl (lv_at hl 0 rfl) ?_
    refine x_get F hin9 hw 0 9 rfl rfl 3 (by decide) (by decide +kernel) rfl rfl dX9_winter_15 ?_
    refine call_P (As := []) (rest := []) F (x7_isThere l E I A L  (by omega)) (cwV 0 F.2.2.2.2 gX9_winter_X7_isThere rfl rfl rfl (by decide +kernel) ⟨(Nat.le_of_ble_eq_true rfl), (Nat.le_of_ble_eq_true rfl)⟩) hw (x_recv hw 3 7 rfl rfl) rfl hl.1 rfl (Nat.le_of_ble_eq_true rfl) dX9_winter_18 ⟨Nat.zero_le _, Nat.zero_le _⟩ (fun q_4 H locs hw => ?_) (fun q_4 H locs hw => ?_)
    · refine bi_if_eq (tgt := 35) F dX9_winter_21 (by decide) (by decide) (fun q => absurd q (by decide)) (fun _ => ?_)
      refine lv_aload_n F.1 F.2.1 dX9_winter_24 rfl (lv_at hl 0 rfl) ?_
      refine x_get F hin9 hw 0 9 rfl rfl 3 (by decide) (by decide +kernel) rfl rfl dX9_winter_25 ?_
      refine lv_iload_n F.1 F.2.1 dX9_winter_28 rfl (lv_at hl 1 rfl) ?_
      refine call_N (As := [.int (iI k)]) (rest := []) F (x7_inchesOf l E I A L k (by omega) (by omega)) (cwV 1 F.2.2.2.2 gX9_winter_X7_inchesOf rfl rfl rfl (by decide +kernel) ⟨(Nat.le_of_ble_eq_true rfl), (Nat.le_of_ble_eq_true rfl)⟩) hw (x_recv hw 3 7 rfl rfl) rfl hl.1 rfl (Nat.le_of_ble_eq_true rfl) dX9_winter_29 ⟨Nat.zero_le _, Nat.zero_le _⟩ (fun H locs hw => ?_)
      refine lv_goto (tgt := 37) F.1 F.2.1 dX9_winter_32 (by decide) ?_
      exact hret _ _ _ _ _ (by unfold xWinR; first | (rw [if_pos (by omega), if_pos (by omega), if_pos (by omega)]; done) | (rw [if_pos (by omega), if_neg (by omega)]; done)) hw dX9_winter_37
    · refine bi_if_eq (tgt := 35) F dX9_winter_21 (by decide) (by decide) (fun _ => ?_) (fun q => absurd q (by decide))
      refine bi_ldc F (-1000000003) (by decide +kernel) rfl dX9_winter_35 ?_
      exact hret _ _ _ _ _ (by unfold xWinR; first | (rw [if_pos (by omega), if_pos (by omega), if_pos (by omega)]; done) | (rw [if_pos (by omega), if_neg (by omega)]; done)) hw dX9_winter_37
set_option maxRecDepth 100000 in
set_option maxHeartbeats 4000000 in
theorem x9_village (l : Launch) (E : Ev) (I : Nat → Int) (A : Nat → Int → Int) (L : Nat → Int64) (v : Int) (w : Int) (b_v : -2147483648 ≤ v ∧ v ≤ 2147483647) (b_w : -2147483648 ≤ w ∧ w ≤ 2147483647) (hx : xOk I A) : MetN l yX9_village wsX9_village ({ frames := 2, cells := 0, slots := 0, locals := 43 } : Room) E [.ref (eO E 0), .int (iI v), .int (iI w)] (xW E I A L) (xVilR I A v w) := by
  have hin7 : ∀ w ∈ wsX70, w ∈ wsX9_village := by decide +kernel
  have hin9 : ∀ w ∈ wsX90, w ∈ wsX9_village := by decide +kernel
  refine met_N (cc := cX9_village) (nL := 3) (by decide) rfl (Nat.le_of_ble_eq_true rfl) ?_
  intro p e s m args below meth c Q H0 A0 H locs ls F hw hl hret
  have F : CallFix p m c cX9_village 3 s args wsX9_village RX9 := F
  have hl : lv_has ls 3 [(0, .ref (eO E 0)), (1, .int (iI v)), (2, .int (iI w))] := hl
  obtain ⟨ht, hl0, hnn, hnv, hnp, hnd, h00, hin9k, hdr, hff, hyr, hbn, hpl, hf5, hni, hhm, hcn3, hnx, hcn, hsp, hsa, hcn0, hb, hb2, hlk, hkp⟩ := id hx
  have hf : ∀ k, 0 ≤ A 17 k ∧ A 17 k ≤ 900000 := fun k => by have := hf5 k; omega
  have hh : ∀ t, 13 ≤ t ∧ t < 19 → 0 ≤ A 17 t ∧ A 17 t ≤ 1000 := fun t h => by have h1 := hhm t h; have h2 := hf t; omega
  have hho : ∀ q, 0 ≤ q ∧ q < I 11 → A 17 (13 + q) < 4 := fun q h => hhm (13 + q) (by omega)
  have hin0 := hin9k
  refine lv_aload_n F.1 F.2.1 dX9_village_0 rfl (lv_at hl 0 rfl) ?_
  refine x_get F hin9 hw 0 9 rfl rfl 3 (by decide) (by decide +kernel) rfl rfl dX9_village_1 ?_
  refine lv_iload_n F.1 F.2.1 dX9_village_4 rfl (lv_at hl 1 rfl) ?_
  refine call_P (As := [.int (iI v)]) (rest := []) F (x7_hasVillage l E I A L v (by omega) (by omega)) (cwV 1 F.2.2.2.2 gX9_village_X7_hasVillage rfl rfl rfl (by decide +kernel) ⟨(Nat.le_of_ble_eq_true rfl), (Nat.le_of_ble_eq_true rfl)⟩) hw (x_recv hw 3 7 rfl rfl) rfl hl.1 rfl (Nat.le_of_ble_eq_true rfl) dX9_village_5 ⟨Nat.zero_le _, Nat.zero_le _⟩ (fun q_1 H locs hw => ?_) (fun q_1 H locs hw => ?_)
  · refine bi_if_ne (tgt := 14) F dX9_village_8 (by decide) (by decide) (fun _ => ?_) (fun q => absurd q (by decide))
    refine lv_iload_n F.1 F.2.1 dX9_village_14 rfl (lv_at hl 2 rfl) ?_
    by_cases hsw : w < 0 ∨ 6 < w
    · refine bi_tabOut (tgt := 127) F dX9_village_15 (by omega) hsw (by decide) ?_
      refine bi_ldc F (-1000000002) (by decide +kernel) rfl dX9_village_127 ?_
      exact hret _ _ _ _ _ (by unfold xVilR xVil; rw [if_pos (by omega)]; repeat rw [if_neg (by omega)]) hw dX9_village_129
    · rcases (show w = 0 ∨ w = 1 ∨ w = 2 ∨ w = 3 ∨ w = 4 ∨ w = 5 ∨ w = 6 by omega) with rfl | rfl | rfl | rfl | rfl | rfl | rfl
      · refine bi_tabIn (tgt := 56) F dX9_village_15 (by decide) (by decide) rfl (by decide) ?_
        refine lv_aload_n F.1 F.2.1 dX9_village_56 rfl (lv_at hl 0 rfl) ?_
        refine x_get F hin9 hw 0 9 rfl rfl 3 (by decide) (by decide +kernel) rfl rfl dX9_village_57 ?_
        refine x_get F hin7 hw 3 7 rfl rfl 1 (by decide) (by decide +kernel) rfl rfl dX9_village_60 ?_
        refine lv_iload_n F.1 F.2.1 dX9_village_63 rfl (lv_at hl 1 rfl) ?_
        refine x_ld F hw 10 4 rfl (by decide) (by omega) dX9_village_64 ?_
        exact hret _ _ _ _ _ (by unfold xVilR; rw [if_pos (by omega)]; rfl) hw dX9_village_65
      · refine bi_tabIn (tgt := 66) F dX9_village_15 (by decide) (by decide) rfl (by decide) ?_
        refine lv_aload_n F.1 F.2.1 dX9_village_66 rfl (lv_at hl 0 rfl) ?_
        refine x_get F hin9 hw 0 9 rfl rfl 3 (by decide) (by decide +kernel) rfl rfl dX9_village_67 ?_
        refine x_get F hin7 hw 3 7 rfl rfl 3 (by decide) (by decide +kernel) rfl rfl dX9_village_70 ?_
        refine lv_iload_n F.1 F.2.1 dX9_village_73 rfl (lv_at hl 1 rfl) ?_
        refine x_ld F hw 12 4 rfl (by decide) (by omega) dX9_village_74 ?_
        exact hret _ _ _ _ _ (by unfold xVilR; rw [if_pos (by omega)]; rfl) hw dX9_village_75
      · refine bi_tabIn (tgt := 76) F dX9_village_15 (by decide) (by decide) rfl (by decide) ?_
        refine lv_aload_n F.1 F.2.1 dX9_village_76 rfl (lv_at hl 0 rfl) ?_
        refine x_get F hin9 hw 0 9 rfl rfl 4 (by decide) (by decide +kernel) rfl rfl dX9_village_77 ?_
        refine lv_iload_n F.1 F.2.1 dX9_village_80 rfl (lv_at hl 1 rfl) ?_
        refine call_N (As := [.int (iI v)]) (rest := []) F (x6_falls l E I A L v (by omega)) (cwV 1 F.2.2.2.2 gX9_village_X6_falls rfl rfl rfl (by decide +kernel) ⟨(Nat.le_of_ble_eq_true rfl), (Nat.le_of_ble_eq_true rfl)⟩) hw (x_recv hw 4 6 rfl rfl) rfl hl.1 rfl (Nat.le_of_ble_eq_true rfl) dX9_village_81 ⟨Nat.zero_le _, Nat.zero_le _⟩ (fun H locs hw => ?_)
        exact hret _ _ _ _ _ (by unfold xVilR; rw [if_pos (by omega)]; rfl) hw dX9_village_84
      · refine bi_tabIn (tgt := 85) F dX9_village_15 (by decide) (by decide) rfl (by decide) ?_
        refine lv_aload_n F.1 F.2.1 dX9_village_85 rfl (lv_at hl 0 rfl) ?_
        refine x_get F hin9 hw 0 9 rfl rfl 4 (by decide) (by decide +kernel) rfl rfl dX9_village_86 ?_
        refine lv_iload_n F.1 F.2.1 dX9_village_89 rfl (lv_at hl 1 rfl) ?_
        refine call_N (As := [.int (iI v)]) (rest := []) F (x6_pole l E I A L v (by omega) hf) (cwV 1 F.2.2.2.2 gX9_village_X6_pole rfl rfl rfl (by decide +kernel) ⟨(Nat.le_of_ble_eq_true rfl), (Nat.le_of_ble_eq_true rfl)⟩) hw (x_recv hw 4 6 rfl rfl) rfl hl.1 rfl (Nat.le_of_ble_eq_true rfl) dX9_village_90 ⟨Nat.zero_le _, Nat.zero_le _⟩ (fun H locs hw => ?_)
        exact hret _ _ _ _ _ (by unfold xVilR; rw [if_pos (by omega)]; rfl) hw dX9_village_93
      · refine bi_tabIn (tgt := 94) F dX9_village_15 (by decide) (by decide) rfl (by decide) ?_
        refine lv_aload_n F.1 F.2.1 dX9_village_94 rfl (lv_at hl 0 rfl) ?_
        refine x_get F hin9 hw 0 9 rfl rfl 4 (by decide) (by decide +kernel) rfl rfl dX9_village_95 ?_
        refine lv_iload_n F.1 F.2.1 dX9_village_98 rfl (lv_at hl 1 rfl) ?_
        refine call_N (As := [.int (iI v)]) (rest := []) F (x6_fell l E I A L v (by omega)) (cwV 1 F.2.2.2.2 gX9_village_X6_fell rfl rfl rfl (by decide +kernel) ⟨(Nat.le_of_ble_eq_true rfl), (Nat.le_of_ble_eq_true rfl)⟩) hw (x_recv hw 4 6 rfl rfl) rfl hl.1 rfl (Nat.le_of_ble_eq_true rfl) dX9_village_99 ⟨Nat.zero_le _, Nat.zero_le _⟩ (fun H locs hw => ?_)
        have hf9 := hf (5 + v)
        refine bi_ldc F (999999) (by decide +kernel) rfl dX9_village_102 ?_
        refine bi_min F hl.1 (by decide +kernel) (by decide +kernel) (by decide +kernel) (by decide +kernel) (Nat.le_of_ble_eq_true rfl) (Nat.le_of_ble_eq_true rfl) (Nat.zero_le _) (Nat.zero_le _) (by omega) dX9_village_104 ?_
        have f_3 := iMn_r (A 17 (5 + v)) 999999
        exact hret _ _ _ _ _ (by unfold xVilR; rw [if_pos (by omega)]; rfl) hw dX9_village_107
      · refine bi_tabIn (tgt := 108) F dX9_village_15 (by decide) (by decide) rfl (by decide) ?_
        refine lv_aload_n F.1 F.2.1 dX9_village_108 rfl (lv_at hl 0 rfl) ?_
        refine x_get F hin9 hw 0 9 rfl rfl 4 (by decide) (by decide +kernel) rfl rfl dX9_village_109 ?_
        refine lv_iload_n F.1 F.2.1 dX9_village_112 rfl (lv_at hl 1 rfl) ?_
        refine call_N (As := [.int (iI v)]) (rest := []) F (x6_sawedOff l E I A L v (by omega)) (cwV 1 F.2.2.2.2 gX9_village_X6_sawedOff rfl rfl rfl (by decide +kernel) ⟨(Nat.le_of_ble_eq_true rfl), (Nat.le_of_ble_eq_true rfl)⟩) hw (x_recv hw 4 6 rfl rfl) rfl hl.1 rfl (Nat.le_of_ble_eq_true rfl) dX9_village_113 ⟨Nat.zero_le _, Nat.zero_le _⟩ (fun H locs hw => ?_)
        exact hret _ _ _ _ _ (by unfold xVilR; rw [if_pos (by omega)]; rfl) hw dX9_village_116
      · refine bi_tabIn (tgt := 117) F dX9_village_15 (by decide) (by decide) rfl (by decide) ?_
        refine lv_aload_n F.1 F.2.1 dX9_village_117 rfl (lv_at hl 0 rfl) ?_
        refine x_get F hin9 hw 0 9 rfl rfl 3 (by decide) (by decide +kernel) rfl rfl dX9_village_118 ?_
        refine x_get F hin7 hw 3 7 rfl rfl 2 (by decide) (by decide +kernel) rfl rfl dX9_village_121 ?_
        refine lv_iload_n F.1 F.2.1 dX9_village_124 rfl (lv_at hl 1 rfl) ?_
        refine x_ld F hw 11 4 rfl (by decide) (by omega) dX9_village_125 ?_
        exact hret _ _ _ _ _ (by unfold xVilR; rw [if_pos (by omega)]; rfl) hw dX9_village_126
  · refine bi_if_ne (tgt := 14) F dX9_village_8 (by decide) (by decide) (fun q => absurd q (by decide)) (fun _ => ?_)
    refine bi_ldc F (-1000000001) (by decide +kernel) rfl dX9_village_11 ?_
    exact hret _ _ _ _ _ (by unfold xVilR; rw [if_neg (by omega)]) hw dX9_village_13
set_option maxRecDepth 100000 in
set_option maxHeartbeats 4000000 in
theorem x9_person (l : Launch) (E : Ev) (I : Nat → Int) (A : Nat → Int → Int) (L : Nat → Int64) (v : Int) (w : Int) (b_v : -2147483648 ≤ v ∧ v ≤ 2147483647) (b_w : -2147483648 ≤ w ∧ w ≤ 2147483647) (hx : xOk I A) : MetN l yX9_person wsX9_person ({ frames := 2, cells := 0, slots := 0, locals := 44 } : Room) E [.ref (eO E 0), .int (iI v), .int (iI w)] (xW E I A L) (xPerR I A v w) := by
  have hin9 : ∀ w ∈ wsX90, w ∈ wsX9_person := by decide +kernel
  refine met_N (cc := cX9_person) (nL := 3) (by decide) rfl (Nat.le_of_ble_eq_true rfl) ?_
  intro p e s m args below meth c Q H0 A0 H locs ls F hw hl hret
  have F : CallFix p m c cX9_person 3 s args wsX9_person RX9 := F
  have hl : lv_has ls 3 [(0, .ref (eO E 0)), (1, .int (iI v)), (2, .int (iI w))] := hl
  obtain ⟨ht, hl0, hnn, hnv, hnp, hnd, h00, hin9k, hdr, hff, hyr, hbn, hpl, hf5, hni, hhm, hcn3, hnx, hcn, hsp, hsa, hcn0, hb, hb2, hlk, hkp⟩ := id hx
  have hf : ∀ k, 0 ≤ A 17 k ∧ A 17 k ≤ 900000 := fun k => by have := hf5 k; omega
  have hh : ∀ t, 13 ≤ t ∧ t < 19 → 0 ≤ A 17 t ∧ A 17 t ≤ 1000 := fun t h => by have h1 := hhm t h; have h2 := hf t; omega
  have hho : ∀ q, 0 ≤ q ∧ q < I 11 → A 17 (13 + q) < 4 := fun q h => hhm (13 + q) (by omega)
  have hin0 := hin9k
  refine lv_aload_n F.1 F.2.1 dX9_person_0 rfl (lv_at hl 0 rfl) ?_
  refine x_get F hin9 hw 0 9 rfl rfl 3 (by decide) (by decide +kernel) rfl rfl dX9_person_1 ?_
  refine lv_iload_n F.1 F.2.1 dX9_person_4 rfl (lv_at hl 1 rfl) ?_
  refine call_P (As := [.int (iI v)]) (rest := []) F (x7_hasPerson l E I A L v (by omega) (by omega)) (cwV 1 F.2.2.2.2 gX9_person_X7_hasPerson rfl rfl rfl (by decide +kernel) ⟨(Nat.le_of_ble_eq_true rfl), (Nat.le_of_ble_eq_true rfl)⟩) hw (x_recv hw 3 7 rfl rfl) rfl hl.1 rfl (Nat.le_of_ble_eq_true rfl) dX9_person_5 ⟨Nat.zero_le _, Nat.zero_le _⟩ (fun q_1 H locs hw => ?_) (fun q_1 H locs hw => ?_)
  · refine bi_if_ne (tgt := 14) F dX9_person_8 (by decide) (by decide) (fun _ => ?_) (fun q => absurd q (by decide))
    have hh1 := hho v (by omega)
    refine lv_iload_n F.1 F.2.1 dX9_person_14 rfl (lv_at hl 2 rfl) ?_
    by_cases hsw : w < 0 ∨ 2 < w
    · refine bi_tabOut (tgt := 71) F dX9_person_15 (by omega) hsw (by decide) ?_
      refine bi_ldc F (-1000000002) (by decide +kernel) rfl dX9_person_71 ?_
      exact hret _ _ _ _ _ (by unfold xPerR xPer; rw [if_pos (by omega)]; repeat rw [if_neg (by omega)]) hw dX9_person_73
    · rcases (show w = 0 ∨ w = 1 ∨ w = 2 by omega) with rfl | rfl | rfl
      · refine bi_tabIn (tgt := 40) F dX9_person_15 (by decide) (by decide) rfl (by decide) ?_
        refine lv_aload_n F.1 F.2.1 dX9_person_40 rfl (lv_at hl 0 rfl) ?_
        refine x_get F hin9 hw 0 9 rfl rfl 4 (by decide) (by decide +kernel) rfl rfl dX9_person_41 ?_
        refine lv_iload_n F.1 F.2.1 dX9_person_44 rfl (lv_at hl 1 rfl) ?_
        refine call_N (As := [.int (iI v)]) (rest := []) F (x6_home l E I A L v (by omega)) (cwV 1 F.2.2.2.2 gX9_person_X6_home rfl rfl rfl (by decide +kernel) ⟨(Nat.le_of_ble_eq_true rfl), (Nat.le_of_ble_eq_true rfl)⟩) hw (x_recv hw 4 6 rfl rfl) rfl hl.1 rfl (Nat.le_of_ble_eq_true rfl) dX9_person_45 ⟨Nat.zero_le _, Nat.zero_le _⟩ (fun H locs hw => ?_)
        exact hret _ _ _ _ _ (by unfold xPerR; rw [if_pos (by omega)]; rfl) hw dX9_person_48
      · refine bi_tabIn (tgt := 49) F dX9_person_15 (by decide) (by decide) rfl (by decide) ?_
        refine lv_aload_n F.1 F.2.1 dX9_person_49 rfl (lv_at hl 0 rfl) ?_
        refine x_get F hin9 hw 0 9 rfl rfl 4 (by decide) (by decide +kernel) rfl rfl dX9_person_50 ?_
        refine lv_iload_n F.1 F.2.1 dX9_person_53 rfl (lv_at hl 1 rfl) ?_
        refine call_N (As := [.int (iI v)]) (rest := []) F (x6_lived l E I A L v (by omega)) (cwV 1 F.2.2.2.2 gX9_person_X6_lived rfl rfl rfl (by decide +kernel) ⟨(Nat.le_of_ble_eq_true rfl), (Nat.le_of_ble_eq_true rfl)⟩) hw (x_recv hw 4 6 rfl rfl) rfl hl.1 rfl (Nat.le_of_ble_eq_true rfl) dX9_person_54 ⟨Nat.zero_le _, Nat.zero_le _⟩ (fun H locs hw => ?_)
        exact hret _ _ _ _ _ (by unfold xPerR; rw [if_pos (by omega)]; rfl) hw dX9_person_57
      · refine bi_tabIn (tgt := 58) F dX9_person_15 (by decide) (by decide) rfl (by decide) ?_
        refine lv_aload_n F.1 F.2.1 dX9_person_58 rfl (lv_at hl 0 rfl) ?_
        refine x_get F hin9 hw 0 9 rfl rfl 4 (by decide) (by decide +kernel) rfl rfl dX9_person_59 ?_
        refine lv_aload_n F.1 F.2.1 dX9_person_62 rfl (lv_at hl 0 rfl) ?_
        refine x_get F hin9 hw 0 9 rfl rfl 3 (by decide) (by decide +kernel) rfl rfl dX9_person_63 ?_
        refine lv_iload_n F.1 F.2.1 dX9_person_66 rfl (lv_at hl 1 rfl) ?_
        refine call_N (As := [.ref (eO E 3), .int (iI v)]) (rest := []) F (x6_age l E I A L v (by omega) hf hyr (by omega)) (cwV 2 F.2.2.2.2 gX9_person_X6_age rfl rfl rfl (by decide +kernel) ⟨(Nat.le_of_ble_eq_true rfl), (Nat.le_of_ble_eq_true rfl)⟩) hw (x_recv hw 4 6 rfl rfl) rfl hl.1 rfl (Nat.le_of_ble_eq_true rfl) dX9_person_67 ⟨Nat.zero_le _, Nat.zero_le _⟩ (fun H locs hw => ?_)
        exact hret _ _ _ _ _ (by unfold xPerR; rw [if_pos (by omega)]; rfl) hw dX9_person_70
  · refine bi_if_ne (tgt := 14) F dX9_person_8 (by decide) (by decide) (fun q => absurd q (by decide)) (fun _ => ?_)
    refine bi_ldc F (-1000000001) (by decide +kernel) rfl dX9_person_11 ?_
    exact hret _ _ _ _ _ (by unfold xPerR; rw [if_neg (by omega)]) hw dX9_person_13
set_option maxRecDepth 100000 in
set_option maxHeartbeats 4000000 in
theorem x9_debt (l : Launch) (E : Ev) (I : Nat → Int) (A : Nat → Int → Int) (L : Nat → Int64) (v : Int) (w : Int) (b_v : -2147483648 ≤ v ∧ v ≤ 2147483647) (b_w : -2147483648 ≤ w ∧ w ≤ 2147483647) (hx : xOk I A) : MetN l yX9_debt wsX9_debt ({ frames := 4, cells := 0, slots := 0, locals := 87 } : Room) E [.ref (eO E 0), .int (iI v), .int (iI w)] (xW E I A L) (xDebR I A v w) := by
  have hin7 : ∀ w ∈ wsX70, w ∈ wsX9_debt := by decide +kernel
  have hin9 : ∀ w ∈ wsX90, w ∈ wsX9_debt := by decide +kernel
  refine met_N (cc := cX9_debt) (nL := 3) (by decide) rfl (Nat.le_of_ble_eq_true rfl) ?_
  intro p e s m args below meth c Q H0 A0 H locs ls F hw hl hret
  have F : CallFix p m c cX9_debt 3 s args wsX9_debt RX9 := F
  have hl : lv_has ls 3 [(0, .ref (eO E 0)), (1, .int (iI v)), (2, .int (iI w))] := hl
  obtain ⟨ht, hl0, hnn, hnv, hnp, hnd, h00, hin9k, hdr, hff, hyr, hbn, hpl, hf5, hni, hhm, hcn3, hnx, hcn, hsp, hsa, hcn0, hb, hb2, hlk, hkp⟩ := id hx
  have hf : ∀ k, 0 ≤ A 17 k ∧ A 17 k ≤ 900000 := fun k => by have := hf5 k; omega
  have hh : ∀ t, 13 ≤ t ∧ t < 19 → 0 ≤ A 17 t ∧ A 17 t ≤ 1000 := fun t h => by have h1 := hhm t h; have h2 := hf t; omega
  have hho : ∀ q, 0 ≤ q ∧ q < I 11 → A 17 (13 + q) < 4 := fun q h => hhm (13 + q) (by omega)
  have hin0 := hin9k
  refine lv_aload_n F.1 F.2.1 dX9_debt_0 rfl (lv_at hl 0 rfl) ?_
  refine x_get F hin9 hw 0 9 rfl rfl 3 (by decide) (by decide +kernel) rfl rfl dX9_debt_1 ?_
  refine lv_iload_n F.1 F.2.1 dX9_debt_4 rfl (lv_at hl 1 rfl) ?_
  refine call_P (As := [.int (iI v)]) (rest := []) F (x7_hasDebt l E I A L v (by omega) (by omega)) (cwV 1 F.2.2.2.2 gX9_debt_X7_hasDebt rfl rfl rfl (by decide +kernel) ⟨(Nat.le_of_ble_eq_true rfl), (Nat.le_of_ble_eq_true rfl)⟩) hw (x_recv hw 3 7 rfl rfl) rfl hl.1 rfl (Nat.le_of_ble_eq_true rfl) dX9_debt_5 ⟨Nat.zero_le _, Nat.zero_le _⟩ (fun q_1 H locs hw => ?_) (fun q_1 H locs hw => ?_)
  · refine bi_if_ne (tgt := 14) F dX9_debt_8 (by decide) (by decide) (fun _ => ?_) (fun q => absurd q (by decide))
    have hp1 := hpl v (by omega)
    refine lv_iload_n F.1 F.2.1 dX9_debt_14 rfl (lv_at hl 2 rfl) ?_
    by_cases hsw : w < 0 ∨ 3 < w
    · refine bi_tabOut (tgt := 97) F dX9_debt_15 (by omega) hsw (by decide) ?_
      refine bi_ldc F (-1000000002) (by decide +kernel) rfl dX9_debt_97 ?_
      exact hret _ _ _ _ _ (by unfold xDebR xDeb; rw [if_pos (by omega)]; repeat rw [if_neg (by omega)]) hw dX9_debt_99
    · rcases (show w = 0 ∨ w = 1 ∨ w = 2 ∨ w = 3 by omega) with rfl | rfl | rfl | rfl
      · refine bi_tabIn (tgt := 44) F dX9_debt_15 (by decide) (by decide) rfl (by decide) ?_
        refine lv_aload_n F.1 F.2.1 dX9_debt_44 rfl (lv_at hl 0 rfl) ?_
        refine x_get F hin9 hw 0 9 rfl rfl 3 (by decide) (by decide +kernel) rfl rfl dX9_debt_45 ?_
        refine x_get F hin7 hw 3 7 rfl rfl 6 (by decide) (by decide +kernel) rfl rfl dX9_debt_48 ?_
        refine lv_iload_n F.1 F.2.1 dX9_debt_51 rfl (lv_at hl 1 rfl) ?_
        refine x_ld F hw 15 5 rfl (by decide) (by omega) dX9_debt_52 ?_
        exact hret _ _ _ _ _ (by unfold xDebR; rw [if_pos (by omega)]; rfl) hw dX9_debt_53
      · refine bi_tabIn (tgt := 54) F dX9_debt_15 (by decide) (by decide) rfl (by decide) ?_
        refine lv_aload_n F.1 F.2.1 dX9_debt_54 rfl (lv_at hl 0 rfl) ?_
        refine x_get F hin9 hw 0 9 rfl rfl 4 (by decide) (by decide +kernel) rfl rfl dX9_debt_55 ?_
        refine lv_iload_n F.1 F.2.1 dX9_debt_58 rfl (lv_at hl 1 rfl) ?_
        refine call_N (As := [.int (iI v)]) (rest := []) F (x6_owed l E I A L v (by omega)) (cwV 1 F.2.2.2.2 gX9_debt_X6_owed rfl rfl rfl (by decide +kernel) ⟨(Nat.le_of_ble_eq_true rfl), (Nat.le_of_ble_eq_true rfl)⟩) hw (x_recv hw 4 6 rfl rfl) rfl hl.1 rfl (Nat.le_of_ble_eq_true rfl) dX9_debt_59 ⟨Nat.zero_le _, Nat.zero_le _⟩ (fun H locs hw => ?_)
        exact hret _ _ _ _ _ (by unfold xDebR; rw [if_pos (by omega)]; rfl) hw dX9_debt_62
      · refine bi_tabIn (tgt := 63) F dX9_debt_15 (by decide) (by decide) rfl (by decide) ?_
        refine lv_aload_n F.1 F.2.1 dX9_debt_63 rfl (lv_at hl 0 rfl) ?_
        refine x_get F hin9 hw 0 9 rfl rfl 4 (by decide) (by decide +kernel) rfl rfl dX9_debt_64 ?_
        refine lv_aload_n F.1 F.2.1 dX9_debt_67 rfl (lv_at hl 0 rfl) ?_
        refine x_get F hin9 hw 0 9 rfl rfl 3 (by decide) (by decide +kernel) rfl rfl dX9_debt_68 ?_
        refine lv_iload_n F.1 F.2.1 dX9_debt_71 rfl (lv_at hl 1 rfl) ?_
        refine call_N (As := [.ref (eO E 3), .int (iI v)]) (rest := []) F (x6_fellSinceMade l E I A L v (by omega) hf (by omega)) (cwV 2 F.2.2.2.2 gX9_debt_X6_fellSinceMade rfl rfl rfl (by decide +kernel) ⟨(Nat.le_of_ble_eq_true rfl), (Nat.le_of_ble_eq_true rfl)⟩) hw (x_recv hw 4 6 rfl rfl) rfl hl.1 rfl (Nat.le_of_ble_eq_true rfl) dX9_debt_72 ⟨Nat.zero_le _, Nat.zero_le _⟩ (fun H locs hw => ?_)
        have f_3 := xSince_r (A := A) (d := v) hf
        exact hret _ _ _ _ _ (by unfold xDebR; rw [if_pos (by omega)]; rfl) hw dX9_debt_75
      · refine bi_tabIn (tgt := 76) F dX9_debt_15 (by decide) (by decide) rfl (by decide) ?_
        refine lv_aload_n F.1 F.2.1 dX9_debt_76 rfl (lv_at hl 0 rfl) ?_
        refine x_get F hin9 hw 0 9 rfl rfl 4 (by decide) (by decide +kernel) rfl rfl dX9_debt_77 ?_
        refine lv_aload_n F.1 F.2.1 dX9_debt_80 rfl (lv_at hl 0 rfl) ?_
        refine x_get F hin9 hw 0 9 rfl rfl 3 (by decide) (by decide +kernel) rfl rfl dX9_debt_81 ?_
        refine lv_iload_n F.1 F.2.1 dX9_debt_84 rfl (lv_at hl 1 rfl) ?_
        refine call_P (As := [.ref (eO E 3), .int (iI v)]) (rest := []) F (x6_isDue l E I A L v (by omega) hf (by omega)) (cwV 2 F.2.2.2.2 gX9_debt_X6_isDue rfl rfl rfl (by decide +kernel) ⟨(Nat.le_of_ble_eq_true rfl), (Nat.le_of_ble_eq_true rfl)⟩) hw (x_recv hw 4 6 rfl rfl) rfl hl.1 rfl (Nat.le_of_ble_eq_true rfl) dX9_debt_85 ⟨Nat.zero_le _, Nat.zero_le _⟩ (fun q_4 H locs hw => ?_) (fun q_4 H locs hw => ?_)
        · refine bi_if_eq (tgt := 95) F dX9_debt_88 (by decide) (by decide) (fun q => absurd q (by decide)) (fun _ => ?_)
          refine bi_iconst F dX9_debt_91 ?_
          refine lv_goto (tgt := 96) F.1 F.2.1 dX9_debt_92 (by decide) ?_
          exact hret _ _ _ _ _ (by unfold xDebR; rw [if_pos (by omega)]; show _ = (if A 17 (25 + v) ≠ 0 ∧ xLack A v = 0 then 1 else 0); first | (rw [if_pos (by assumption)]; done) | (rw [if_neg (by assumption)]; done)) hw dX9_debt_96
        · refine bi_if_eq (tgt := 95) F dX9_debt_88 (by decide) (by decide) (fun _ => ?_) (fun q => absurd q (by decide))
          refine bi_iconst F dX9_debt_95 ?_
          exact hret _ _ _ _ _ (by unfold xDebR; rw [if_pos (by omega)]; show _ = (if A 17 (25 + v) ≠ 0 ∧ xLack A v = 0 then 1 else 0); first | (rw [if_pos (by assumption)]; done) | (rw [if_neg (by assumption)]; done)) hw dX9_debt_96
  · refine bi_if_ne (tgt := 14) F dX9_debt_8 (by decide) (by decide) (fun q => absurd q (by decide)) (fun _ => ?_)
    refine bi_ldc F (-1000000001) (by decide +kernel) rfl dX9_debt_11 ?_
    exact hret _ _ _ _ _ (by unfold xDebR; rw [if_neg (by omega)]) hw dX9_debt_13
set_option maxRecDepth 100000 in
set_option maxHeartbeats 4000000 in
theorem x9_refusedNights (l : Launch) (E : Ev) (I : Nat → Int) (A : Nat → Int → Int) (L : Nat → Int64) (n : Int) (b_n : -2147483648 ≤ n ∧ n ≤ 2147483647) (hx : xOk I A) : MetN l yX9_refusedNights wsX9_refusedNights ({ frames := 1, cells := 0, slots := 0, locals := 22 } : Room) E [.ref (eO E 0), .int (iI n)] (xW E I A L) (xBar I A n) := by
  have hin9 : ∀ w ∈ wsX90, w ∈ wsX9_refusedNights := by decide +kernel
  refine met_N (cc := cX9_refusedNights) (nL := 2) (by decide) rfl (Nat.le_of_ble_eq_true rfl) ?_
  intro p e s m args below meth c Q H0 A0 H locs ls F hw hl hret
  have F : CallFix p m c cX9_refusedNights 2 s args wsX9_refusedNights RX9 := F
  have hl : lv_has ls 2 [(0, .ref (eO E 0)), (1, .int (iI n))] := hl
  obtain ⟨ht, hl0, hnn, hnv, hnp, hnd, h00, hin9k, hdr, hff, hyr, hbn, hpl, hf5, hni, hhm, hcn3, hnx, hcn, hsp, hsa, hcn0, hb, hb2, hlk, hkp⟩ := id hx
  have hf : ∀ k, 0 ≤ A 17 k ∧ A 17 k ≤ 900000 := fun k => by have := hf5 k; omega
  have hh : ∀ t, 13 ≤ t ∧ t < 19 → 0 ≤ A 17 t ∧ A 17 t ≤ 1000 := fun t h => by have h1 := hhm t h; have h2 := hf t; omega
  have hho : ∀ q, 0 ≤ q ∧ q < I 11 → A 17 (13 + q) < 4 := fun q h => hhm (13 + q) (by omega)
  have hin0 := hin9k
  refine lv_iload_n F.1 F.2.1 dX9_refusedNights_0 rfl (lv_at hl 1 rfl) ?_
  refine bi_iconst F dX9_refusedNights_1 ?_
  refine bi_bipush F dX9_refusedNights_2 (by decide) ?_
  refine calls_P0 (As := [.int (iI n), .int (iI 1), .int (iI 60)]) (rest := []) F (x9_isOut l E n 1 60 (by omega) (by omega) (by omega)) (va_cwS 3 F.2.2.2.2 gX9_refusedNights_X9_isOut rfl rfl rfl (by decide +kernel) ⟨(Nat.le_of_ble_eq_true rfl), (Nat.le_of_ble_eq_true rfl)⟩) hw rfl hl.1 rfl (Nat.le_of_ble_eq_true rfl) dX9_refusedNights_4 ⟨Nat.zero_le _, Nat.zero_le _⟩ (fun q_1 H locs hw => ?_) (fun q_1 H locs hw => ?_)
  · refine bi_if_eq (tgt := 13) F dX9_refusedNights_7 (by decide) (by decide) (fun q => absurd q (by decide)) (fun _ => ?_)
    refine bi_ldc F (-1000000002) (by decide +kernel) rfl dX9_refusedNights_10 ?_
    exact hret _ _ _ _ _ (by unfold xBar; first | (rw [if_neg (by omega)]; done) | (rw [if_pos (by omega), if_neg (by omega)]; done) | (rw [if_pos (by omega), if_pos (by omega), if_pos (by omega)]; done) | (rw [if_pos (by omega), if_pos (by omega), if_neg (by omega)]; done)) hw dX9_refusedNights_12
  · refine bi_if_eq (tgt := 13) F dX9_refusedNights_7 (by decide) (by decide) (fun _ => ?_) (fun q => absurd q (by decide))
    refine lv_aload_n F.1 F.2.1 dX9_refusedNights_13 rfl (lv_at hl 0 rfl) ?_
    refine x_get F hin9 hw 0 9 rfl rfl 3 (by decide) (by decide +kernel) rfl rfl dX9_refusedNights_14 ?_
    refine call_P (As := []) (rest := []) F (x7_isThere l E I A L  (by omega)) (cwV 0 F.2.2.2.2 gX9_refusedNights_X7_isThere rfl rfl rfl (by decide +kernel) ⟨(Nat.le_of_ble_eq_true rfl), (Nat.le_of_ble_eq_true rfl)⟩) hw (x_recv hw 3 7 rfl rfl) rfl hl.1 rfl (Nat.le_of_ble_eq_true rfl) dX9_refusedNights_17 ⟨Nat.zero_le _, Nat.zero_le _⟩ (fun q_4 H locs hw => ?_) (fun q_4 H locs hw => ?_)
    · refine bi_if_ne (tgt := 26) F dX9_refusedNights_20 (by decide) (by decide) (fun _ => ?_) (fun q => absurd q (by decide))
      refine lv_aload_n F.1 F.2.1 dX9_refusedNights_26 rfl (lv_at hl 0 rfl) ?_
      refine x_get F hin9 hw 0 9 rfl rfl 4 (by decide) (by decide +kernel) rfl rfl dX9_refusedNights_27 ?_
      refine call_N (As := []) (rest := []) F (x6_nights l E I A L  ) (cwV 0 F.2.2.2.2 gX9_refusedNights_X6_nights rfl rfl rfl (by decide +kernel) ⟨(Nat.le_of_ble_eq_true rfl), (Nat.le_of_ble_eq_true rfl)⟩) hw (x_recv hw 4 6 rfl rfl) rfl hl.1 rfl (Nat.le_of_ble_eq_true rfl) dX9_refusedNights_30 ⟨Nat.zero_le _, Nat.zero_le _⟩ (fun H locs hw => ?_)
      refine bi_sipush F dX9_refusedNights_33 (by decide) ?_
      refine bi_icmp_le (tgt := 44) F dX9_refusedNights_36 (by decide) (by omega) (fun c_6 => ?_) (fun c_6 => ?_)
      · refine bi_iconst F dX9_refusedNights_44 ?_
        exact hret _ _ _ _ _ (by unfold xBar; first | (rw [if_neg (by omega)]; done) | (rw [if_pos (by omega), if_neg (by omega)]; done) | (rw [if_pos (by omega), if_pos (by omega), if_pos (by omega)]; done) | (rw [if_pos (by omega), if_pos (by omega), if_neg (by omega)]; done)) hw dX9_refusedNights_45
      · refine bi_ldc F (-1000000004) (by decide +kernel) rfl dX9_refusedNights_39 ?_
        refine lv_goto (tgt := 45) F.1 F.2.1 dX9_refusedNights_41 (by decide) ?_
        exact hret _ _ _ _ _ (by unfold xBar; first | (rw [if_neg (by omega)]; done) | (rw [if_pos (by omega), if_neg (by omega)]; done) | (rw [if_pos (by omega), if_pos (by omega), if_pos (by omega)]; done) | (rw [if_pos (by omega), if_pos (by omega), if_neg (by omega)]; done)) hw dX9_refusedNights_45
    · refine bi_if_ne (tgt := 26) F dX9_refusedNights_20 (by decide) (by decide) (fun q => absurd q (by decide)) (fun _ => ?_)
      refine bi_ldc F (-1000000003) (by decide +kernel) rfl dX9_refusedNights_23 ?_
      exact hret _ _ _ _ _ (by unfold xBar; first | (rw [if_neg (by omega)]; done) | (rw [if_pos (by omega), if_neg (by omega)]; done) | (rw [if_pos (by omega), if_pos (by omega), if_pos (by omega)]; done) | (rw [if_pos (by omega), if_pos (by omega), if_neg (by omega)]; done)) hw dX9_refusedNights_25
set_option maxRecDepth 100000 in
set_option maxHeartbeats 4000000 in
theorem x9_night (l : Launch) (E : Ev) (I : Nat → Int) (A : Nat → Int → Int) (L : Nat → Int64) (n : Int) (b_n : -2147483648 ≤ n ∧ n ≤ 2147483647) (hx : xOk I A) : MetF l yX9_night wsX9_night ({ frames := 3, cells := 0, slots := 0, locals := 67 } : Room) E [.ref (eO E 0), .int (iI n)] (xW E I A L) (xW E (xNightI I A n) (xNightA I A n) L) (xNightR I A n) := by
  have hin9 : ∀ w ∈ wsX90, w ∈ wsX9_night := by decide +kernel
  refine met_F (cc := cX9_night) (nL := 4) (by decide) rfl (Nat.le_of_ble_eq_true rfl) ?_
  intro p e s m args below meth c Q H0 A0 H locs ls F hw hl hret
  have F : CallFix p m c cX9_night 4 s args wsX9_night RX9 := F
  have hl : lv_has ls 4 [(0, .ref (eO E 0)), (1, .int (iI n))] := hl
  obtain ⟨ht, hl0, hnn, hnv, hnp, hnd, h00, hin9k, hdr, hff, hyr, hbn, hpl, hf5, hni, hhm, hcn3, hnx, hcn, hsp, hsa, hcn0, hb, hb2, hlk, hkp⟩ := id hx
  have hf : ∀ k, 0 ≤ A 17 k ∧ A 17 k ≤ 900000 := fun k => by have := hf5 k; omega
  have hh : ∀ t, 13 ≤ t ∧ t < 19 → 0 ≤ A 17 t ∧ A 17 t ≤ 1000 := fun t h => by have h1 := hhm t h; have h2 := hf t; omega
  have hho : ∀ q, 0 ≤ q ∧ q < I 11 → A 17 (13 + q) < 4 := fun q h => hhm (13 + q) (by omega)
  have hin0 := hin9k
  have hb0 := xBar_r I A n
  refine lv_aload_n F.1 F.2.1 dX9_night_0 rfl (lv_at hl 0 rfl) ?_
  refine lv_iload_n F.1 F.2.1 dX9_night_1 rfl (lv_at hl 1 rfl) ?_
  refine call_N (As := [.int (iI n)]) (rest := []) F (x9_refusedNights l E I A L n (by omega) (hx)) (cwV 1 F.2.2.2.2 gX9_night_X9_refusedNights rfl rfl rfl (by decide +kernel) ⟨(Nat.le_of_ble_eq_true rfl), (Nat.le_of_ble_eq_true rfl)⟩) hw (x_recv hw 0 9 rfl rfl) rfl hl.1 rfl (Nat.le_of_ble_eq_true rfl) dX9_night_2 ⟨Nat.zero_le _, Nat.zero_le _⟩ (fun H locs hw => ?_)
  refine lv_istore_n (lv' := [(2, .int (iI (xBar I A n))), (0, .ref (eO E 0)), (1, .int (iI n))]) F.1 F.2.1 dX9_night_5 rfl hl (by decide) rfl (fun ls hl => ?_)
  refine lv_iload_n F.1 F.2.1 dX9_night_6 rfl (lv_at hl 0 rfl) ?_
  refine bi_if_eq (tgt := 12) F dX9_night_7 (by decide) (by omega) (fun c_1 => ?_) (fun c_1 => ?_)
  · have hb1 := xBar_0 (I := I) (A := A) (n := n) (by omega)
    refine lv_aload_n F.1 F.2.1 dX9_night_12 rfl (lv_at hl 1 rfl) ?_
    refine x_get F hin9 hw 0 9 rfl rfl 5 (by decide) (by decide +kernel) rfl rfl dX9_night_13 ?_
    refine lv_aload_n F.1 F.2.1 dX9_night_16 rfl (lv_at hl 1 rfl) ?_
    refine x_get F hin9 hw 0 9 rfl rfl 4 (by decide) (by decide +kernel) rfl rfl dX9_night_17 ?_
    refine call_G (As := [.ref (eO E 4)]) (rest := []) F (x3_add l E I A L  (by omega) (by omega)) (cwV 1 F.2.2.2.2 gX9_night_X3_add rfl rfl rfl (by decide +kernel) ⟨(Nat.le_of_ble_eq_true rfl), (Nat.le_of_ble_eq_true rfl)⟩) hw (x_recv hw 5 3 rfl rfl) rfl hl.1 rfl (Nat.le_of_ble_eq_true rfl) dX9_night_20 ⟨Nat.zero_le _, Nat.zero_le _⟩ (fun H locs hw => ?_)
    generalize eI2 : st1 (st1 I 14 ((I 14 + 1) % 20)) 13 (iMn 20 (I 13 + 1)) = I2 at hw
    generalize eA3 : stA A 18 (cpI (A 17) (A 18) 0 (I 14 * 35) 35) = A3 at hw
    have hi9 : I2 9 = I 9 := by subst_vars; rfl
    have hi10 : I2 10 = I 10 := by subst_vars; rfl
    have hi11 : I2 11 = I 11 := by subst_vars; rfl
    refine bi_iconst F dX9_night_23 ?_
    refine lv_istore_n (lv' := [(3, .int (iI 0)), (2, .int (iI (xBar I A n))), (0, .ref (eO E 0)), (1, .int (iI n))]) F.1 F.2.1 dX9_night_24 rfl hl (by decide) rfl (fun ls hl => ?_)
    have loop_25 : ∀ (nf : Nat) (k : Int) (A2 : Nat → Int → Int) (H : Heap) (locs : List Loc) (ls : Array Slot) (hk : 0 ≤ k ∧ k ≤ n) (hA2 : A2 = stA (xnA I A) 17 (xNgt I A k.toNat)) (hw : gH E A0 H0 s (xW E I2 A2 L) H locs) (hl : lv_has ls 4 [(3, .int (iI k)), (2, .int (iI (xBar I A n))), (0, .ref (eO E 0)), (1, .int (iI n))]) (hnf : (n - k).toNat < nf), W p l e ({ frames := 3, cells := 0, slots := 0, locals := 67 } : Room) s m args below meth c H locs 0 0 Q (F0 m 25 ls []) := by
      intro nf
      induction nf with
      | zero =>
        intro k A2 H locs ls hk hA2 hw hl hnf
        exact absurd hnf (Nat.not_lt_zero _)
      | succ nf ih_25 =>
        intro k A2 H locs ls hk hA2 hw hl hnf
        have h17 : A2 17 = xNgt I A k.toNat := by rw [hA2]; rfl
        have h9 : A2 9 = A 9 := by rw [hA2]; rfl
        have h10 : A2 10 = A 10 := by rw [hA2]; rfl
        have h11 : A2 11 = A 11 := by rw [hA2]; rfl
        have hk0 : A2 17 0 = A 17 0 + k := by rw [h17, (xNgt_k hnv hnp k.toNat).1]; omega
        refine lv_iload_n F.1 F.2.1 dX9_night_25 rfl (lv_at hl 0 rfl) ?_
        refine lv_iload_n F.1 F.2.1 dX9_night_26 rfl (lv_at hl 3 rfl) ?_
        refine bi_icmp_ge (tgt := 61) F dX9_night_27 (by decide) (by omega) (fun c_4 => ?_) (fun c_4 => ?_)
        · refine lv_aload_n F.1 F.2.1 dX9_night_61 rfl (lv_at hl 2 rfl) ?_
          refine x_get F hin9 hw 0 9 rfl rfl 4 (by decide) (by decide +kernel) rfl rfl dX9_night_62 ?_
          refine call_N (As := []) (rest := []) F (x6_nights l E I2 A2 L  ) (cwV 0 F.2.2.2.2 gX9_night_X6_nights rfl rfl rfl (by decide +kernel) ⟨(Nat.le_of_ble_eq_true rfl), (Nat.le_of_ble_eq_true rfl)⟩) hw (x_recv hw 4 6 rfl rfl) rfl hl.1 rfl (Nat.le_of_ble_eq_true rfl) dX9_night_65 ⟨Nat.zero_le _, Nat.zero_le _⟩ (fun H locs hw => ?_)
          exact hret _ _ _ _ _ _ (by unfold xNightR; rw [if_pos (by omega), h17, show k = n by omega]) (xW_c (by unfold xNightI; rw [if_pos (by omega)]; subst_vars; rfl) (by unfold xNightA; rw [if_pos (by omega), hA2, show k = n by omega]) rfl) hw dX9_night_68
        · refine lv_aload_n F.1 F.2.1 dX9_night_30 rfl (lv_at hl 2 rfl) ?_
          refine x_get F hin9 hw 0 9 rfl rfl 4 (by decide) (by decide +kernel) rfl rfl dX9_night_31 ?_
          refine lv_aload_n F.1 F.2.1 dX9_night_34 rfl (lv_at hl 2 rfl) ?_
          refine x_get F hin9 hw 0 9 rfl rfl 3 (by decide) (by decide +kernel) rfl rfl dX9_night_35 ?_
          refine lv_aload_n F.1 F.2.1 dX9_night_38 rfl (lv_at hl 2 rfl) ?_
          refine x_get F hin9 hw 0 9 rfl rfl 3 (by decide) (by decide +kernel) rfl rfl dX9_night_39 ?_
          refine lv_aload_n F.1 F.2.1 dX9_night_42 rfl (lv_at hl 2 rfl) ?_
          refine x_get F hin9 hw 0 9 rfl rfl 4 (by decide) (by decide +kernel) rfl rfl dX9_night_43 ?_
          refine call_N (As := []) (rest := [.ref (eO E 3), .ref (eO E 3), .ref (eO E 4)]) F (x6_nights l E I2 A2 L  ) (cwV 0 F.2.2.2.2 gX9_night_X6_nights rfl rfl rfl (by decide +kernel) ⟨(Nat.le_of_ble_eq_true rfl), (Nat.le_of_ble_eq_true rfl)⟩) hw (x_recv hw 4 6 rfl rfl) rfl hl.1 rfl (Nat.le_of_ble_eq_true rfl) dX9_night_46 ⟨Nat.zero_le _, Nat.zero_le _⟩ (fun H locs hw => ?_)
          refine call_N (As := [.int (iI (A2 17 0))]) (rest := [.ref (eO E 3), .ref (eO E 4)]) F (x7_inchesOf l E I2 A2 L (A2 17 0) (by omega) (by omega)) (cwV 1 F.2.2.2.2 gX9_night_X7_inchesOf rfl rfl rfl (by decide +kernel) ⟨(Nat.le_of_ble_eq_true rfl), (Nat.le_of_ble_eq_true rfl)⟩) hw (x_recv hw 3 7 rfl rfl) rfl hl.1 rfl (Nat.le_of_ble_eq_true rfl) dX9_night_49 ⟨Nat.zero_le _, Nat.zero_le _⟩ (fun H locs hw => ?_)
          have hx9 := hin0 (A2 17 0 % I 9)
          have hx8 : 0 ≤ (if 0 < I2 9 then A2 9 (A2 17 0 % I2 9) else 0) ∧ (if 0 < I2 9 then A2 9 (A2 17 0 % I2 9) else 0) ≤ 1000 := by rw [hi9, h9]; split <;> omega
          refine call_G (As := [.ref (eO E 3), .int (iI (if 0 < I2 9 then A2 9 ((A2 17 0) % I2 9) else 0))]) (rest := []) F (x6_snow l E I2 A2 L (if 0 < I2 9 then A2 9 ((A2 17 0) % I2 9) else 0) (by omega) (by omega) (by omega) (by rw [h10]; exact hdr) (by rw [h11]; exact hff) (fun t ht => by rw [h17, (xNgt_k hnv hnp k.toNat).2 t ht]; exact hh t ht)) (cwV 2 F.2.2.2.2 gX9_night_X6_snow rfl rfl rfl (by decide +kernel) ⟨(Nat.le_of_ble_eq_true rfl), (Nat.le_of_ble_eq_true rfl)⟩) hw (x_recv hw 4 6 rfl rfl) rfl hl.1 rfl (Nat.le_of_ble_eq_true rfl) dX9_night_52 ⟨Nat.zero_le _, Nat.zero_le _⟩ (fun H locs hw => ?_)
          generalize eA5 : stA A2 17 (xSnow (A2 11) (A2 10) (I2 10) (I2 11) (if 0 < I2 9 then A2 9 ((A2 17 0) % I2 9) else 0) (A2 17)) = A5 at hw
          refine lv_iinc (v := iI (k + 1)) (lv' := [(3, .int (iI (k + 1))), (2, .int (iI (xBar I A n))), (0, .ref (eO E 0)), (1, .int (iI n))]) F.1 F.2.1 dX9_night_55 hl (k := 0) rfl (iI_add _ _).symm (by decide) rfl (fun ls hl => ?_)
          refine lv_goto (tgt := 25) F.1 F.2.1 dX9_night_58 (by decide) ?_
          exact ih_25 (k + 1) A5 H locs ls (by omega) (by rw [← eA5, h17, h9, h10, h11, hi9, hi10, hi11, hA2, stA_2, xNgt_s hk.1]) hw (lv_sub hl [0, 1, 2, 3] rfl) (by omega)
    exact loop_25 ((n - 0 : Int).toNat + 1) 0 A3 H locs ls (by omega) (by rw [← eA3]; exact stA_id.symm) hw (lv_sub hl [0, 1, 2, 3] rfl) (by omega)
  · refine lv_iload_n F.1 F.2.1 dX9_night_10 rfl (lv_at hl 0 rfl) ?_
    exact hret _ _ _ _ _ _ (by unfold xNightR; rw [if_neg (by omega)]) (xW_c (by unfold xNightI; rw [if_neg (by omega)]) (by unfold xNightA; rw [if_neg (by omega)]) rfl) hw dX9_night_11
set_option maxRecDepth 100000 in
set_option maxHeartbeats 4000000 in
theorem x9_move (l : Launch) (E : Ev) (I : Nat → Int) (A : Nat → Int → Int) (L : Nat → Int64) (q : Int) (v : Int) (b_q : -2147483648 ≤ q ∧ q ≤ 2147483647) (b_v : -2147483648 ≤ v ∧ v ≤ 2147483647) (hx : xOk I A) : MetF l yX9_move wsX9_move ({ frames := 2, cells := 0, slots := 0, locals := 61 } : Room) E [.ref (eO E 0), .int (iI q), .int (iI v)] (xW E I A L) (xW E (xMoveI I q v) (xMoveA I A q v) L) (xMoveR I A q v) := by
  have hin9 : ∀ w ∈ wsX90, w ∈ wsX9_move := by decide +kernel
  refine met_F (cc := cX9_move) (nL := 3) (by decide) rfl (Nat.le_of_ble_eq_true rfl) ?_
  intro p e s m args below meth c Q H0 A0 H locs ls F hw hl hret
  have F : CallFix p m c cX9_move 3 s args wsX9_move RX9 := F
  have hl : lv_has ls 3 [(0, .ref (eO E 0)), (1, .int (iI q)), (2, .int (iI v))] := hl
  obtain ⟨ht, hl0, hnn, hnv, hnp, hnd, h00, hin9k, hdr, hff, hyr, hbn, hpl, hf5, hni, hhm, hcn3, hnx, hcn, hsp, hsa, hcn0, hb, hb2, hlk, hkp⟩ := id hx
  have hf : ∀ k, 0 ≤ A 17 k ∧ A 17 k ≤ 900000 := fun k => by have := hf5 k; omega
  have hh : ∀ t, 13 ≤ t ∧ t < 19 → 0 ≤ A 17 t ∧ A 17 t ≤ 1000 := fun t h => by have h1 := hhm t h; have h2 := hf t; omega
  have hho : ∀ q, 0 ≤ q ∧ q < I 11 → A 17 (13 + q) < 4 := fun q h => hhm (13 + q) (by omega)
  have hin0 := hin9k
  refine lv_aload_n F.1 F.2.1 dX9_move_0 rfl (lv_at hl 0 rfl) ?_
  refine x_get F hin9 hw 0 9 rfl rfl 3 (by decide) (by decide +kernel) rfl rfl dX9_move_1 ?_
  refine lv_iload_n F.1 F.2.1 dX9_move_4 rfl (lv_at hl 1 rfl) ?_
  refine call_P (As := [.int (iI q)]) (rest := []) F (x7_hasPerson l E I A L q (by omega) (by omega)) (cwV 1 F.2.2.2.2 gX9_move_X7_hasPerson rfl rfl rfl (by decide +kernel) ⟨(Nat.le_of_ble_eq_true rfl), (Nat.le_of_ble_eq_true rfl)⟩) hw (x_recv hw 3 7 rfl rfl) rfl hl.1 rfl (Nat.le_of_ble_eq_true rfl) dX9_move_5 ⟨Nat.zero_le _, Nat.zero_le _⟩ (fun q_1 H locs hw => ?_) (fun q_1 H locs hw => ?_)
  · refine bi_if_eq (tgt := 22) F dX9_move_8 (by decide) (by decide) (fun q => absurd q (by decide)) (fun _ => ?_)
    refine lv_aload_n F.1 F.2.1 dX9_move_11 rfl (lv_at hl 0 rfl) ?_
    refine x_get F hin9 hw 0 9 rfl rfl 3 (by decide) (by decide +kernel) rfl rfl dX9_move_12 ?_
    refine lv_iload_n F.1 F.2.1 dX9_move_15 rfl (lv_at hl 2 rfl) ?_
    refine call_P (As := [.int (iI v)]) (rest := []) F (x7_hasVillage l E I A L v (by omega) (by omega)) (cwV 1 F.2.2.2.2 gX9_move_X7_hasVillage rfl rfl rfl (by decide +kernel) ⟨(Nat.le_of_ble_eq_true rfl), (Nat.le_of_ble_eq_true rfl)⟩) hw (x_recv hw 3 7 rfl rfl) rfl hl.1 rfl (Nat.le_of_ble_eq_true rfl) dX9_move_16 ⟨Nat.zero_le _, Nat.zero_le _⟩ (fun q_3 H locs hw => ?_) (fun q_3 H locs hw => ?_)
    · refine bi_if_ne (tgt := 25) F dX9_move_19 (by decide) (by decide) (fun _ => ?_) (fun q => absurd q (by decide))
      refine lv_aload_n F.1 F.2.1 dX9_move_25 rfl (lv_at hl 0 rfl) ?_
      refine x_get F hin9 hw 0 9 rfl rfl 5 (by decide) (by decide +kernel) rfl rfl dX9_move_26 ?_
      refine lv_aload_n F.1 F.2.1 dX9_move_29 rfl (lv_at hl 0 rfl) ?_
      refine x_get F hin9 hw 0 9 rfl rfl 4 (by decide) (by decide +kernel) rfl rfl dX9_move_30 ?_
      refine call_G (As := [.ref (eO E 4)]) (rest := []) F (x3_add l E I A L  (by omega) (by omega)) (cwV 1 F.2.2.2.2 gX9_move_X3_add rfl rfl rfl (by decide +kernel) ⟨(Nat.le_of_ble_eq_true rfl), (Nat.le_of_ble_eq_true rfl)⟩) hw (x_recv hw 5 3 rfl rfl) rfl hl.1 rfl (Nat.le_of_ble_eq_true rfl) dX9_move_33 ⟨Nat.zero_le _, Nat.zero_le _⟩ (fun H locs hw => ?_)
      generalize eI5 : st1 (st1 I 14 ((I 14 + 1) % 20)) 13 (iMn 20 (I 13 + 1)) = I5 at hw
      generalize eA6 : stA A 18 (cpI (A 17) (A 18) 0 (I 14 * 35) 35) = A6 at hw
      refine lv_aload_n F.1 F.2.1 dX9_move_36 rfl (lv_at hl 0 rfl) ?_
      refine x_get F hin9 hw 0 9 rfl rfl 4 (by decide) (by decide +kernel) rfl rfl dX9_move_37 ?_
      refine lv_iload_n F.1 F.2.1 dX9_move_40 rfl (lv_at hl 1 rfl) ?_
      refine lv_iload_n F.1 F.2.1 dX9_move_41 rfl (lv_at hl 2 rfl) ?_
      refine call_G (As := [.int (iI q), .int (iI v)]) (rest := []) F (x6_settle l E I5 A6 L q v (by omega)) (cwV 2 F.2.2.2.2 gX9_move_X6_settle rfl rfl rfl (by decide +kernel) ⟨(Nat.le_of_ble_eq_true rfl), (Nat.le_of_ble_eq_true rfl)⟩) hw (x_recv hw 4 6 rfl rfl) rfl hl.1 rfl (Nat.le_of_ble_eq_true rfl) dX9_move_42 ⟨Nat.zero_le _, Nat.zero_le _⟩ (fun H locs hw => ?_)
      generalize eA7 : st2 A6 17 (13 + q) v = A7 at hw
      have h17 : A7 17 = up1 (A 17) (13 + q) v := by subst_vars; rfl
      have hu : up1 (A 17) (13 + q) v (13 + q) = v := up1_s
      refine lv_aload_n F.1 F.2.1 dX9_move_45 rfl (lv_at hl 0 rfl) ?_
      refine x_get F hin9 hw 0 9 rfl rfl 4 (by decide) (by decide +kernel) rfl rfl dX9_move_46 ?_
      refine lv_aload_n F.1 F.2.1 dX9_move_49 rfl (lv_at hl 0 rfl) ?_
      refine x_get F hin9 hw 0 9 rfl rfl 3 (by decide) (by decide +kernel) rfl rfl dX9_move_50 ?_
      refine lv_iload_n F.1 F.2.1 dX9_move_53 rfl (lv_at hl 1 rfl) ?_
      refine call_N (As := [.ref (eO E 3), .int (iI q)]) (rest := []) F (x6_age l E I5 A7 L q (by omega) (by rw [h17]; intro k; unfold up1; split; omega; exact hf k) (by subst_vars; exact hyr) (by rw [h17, hu]; omega)) (cwV 2 F.2.2.2.2 gX9_move_X6_age rfl rfl rfl (by decide +kernel) ⟨(Nat.le_of_ble_eq_true rfl), (Nat.le_of_ble_eq_true rfl)⟩) hw (x_recv hw 4 6 rfl rfl) rfl hl.1 rfl (Nat.le_of_ble_eq_true rfl) dX9_move_54 ⟨Nat.zero_le _, Nat.zero_le _⟩ (fun H locs hw => ?_)
      exact hret _ _ _ _ _ _ (by unfold xMoveR; rw [if_pos (by omega)]; subst_vars; rfl) (xW_c (by unfold xMoveI; rw [if_pos (by omega)]; subst_vars; rfl) (by unfold xMoveA; rw [if_pos (by omega)]; subst_vars; rfl) rfl) hw dX9_move_57
    · refine bi_if_ne (tgt := 25) F dX9_move_19 (by decide) (by decide) (fun q => absurd q (by decide)) (fun _ => ?_)
      refine bi_ldc F (-1000000001) (by decide +kernel) rfl dX9_move_22 ?_
      exact hret _ _ _ _ _ _ (by unfold xMoveR; rw [if_neg (by omega)]) (xW_c (by unfold xMoveI; rw [if_neg (by omega)]) (by unfold xMoveA; rw [if_neg (by omega)]) rfl) hw dX9_move_24
  · refine bi_if_eq (tgt := 22) F dX9_move_8 (by decide) (by decide) (fun _ => ?_) (fun q => absurd q (by decide))
    refine bi_ldc F (-1000000001) (by decide +kernel) rfl dX9_move_22 ?_
    exact hret _ _ _ _ _ _ (by unfold xMoveR; rw [if_neg (by omega)]) (xW_c (by unfold xMoveI; rw [if_neg (by omega)]) (by unfold xMoveA; rw [if_neg (by omega)]) rfl) hw dX9_move_24
set_option maxRecDepth 100000 in
set_option maxHeartbeats 4000000 in
theorem x9_saw (l : Launch) (E : Ev) (I : Nat → Int) (A : Nat → Int → Int) (L : Nat → Int64) (v : Int) (k : Int) (b_v : -2147483648 ≤ v ∧ v ≤ 2147483647) (b_k : -2147483648 ≤ k ∧ k ≤ 2147483647) (hx : xOk I A) : MetF l yX9_saw wsX9_saw ({ frames := 2, cells := 0, slots := 0, locals := 61 } : Room) E [.ref (eO E 0), .int (iI v), .int (iI k)] (xW E I A L) (xW E (xSawI I v k) (xSawA I A v k) L) (xSawR I A v k) := by
  have hin9 : ∀ w ∈ wsX90, w ∈ wsX9_saw := by decide +kernel
  refine met_F (cc := cX9_saw) (nL := 3) (by decide) rfl (Nat.le_of_ble_eq_true rfl) ?_
  intro p e s m args below meth c Q H0 A0 H locs ls F hw hl hret
  have F : CallFix p m c cX9_saw 3 s args wsX9_saw RX9 := F
  have hl : lv_has ls 3 [(0, .ref (eO E 0)), (1, .int (iI v)), (2, .int (iI k))] := hl
  obtain ⟨ht, hl0, hnn, hnv, hnp, hnd, h00, hin9k, hdr, hff, hyr, hbn, hpl, hf5, hni, hhm, hcn3, hnx, hcn, hsp, hsa, hcn0, hb, hb2, hlk, hkp⟩ := id hx
  have hf : ∀ k, 0 ≤ A 17 k ∧ A 17 k ≤ 900000 := fun k => by have := hf5 k; omega
  have hh : ∀ t, 13 ≤ t ∧ t < 19 → 0 ≤ A 17 t ∧ A 17 t ≤ 1000 := fun t h => by have h1 := hhm t h; have h2 := hf t; omega
  have hho : ∀ q, 0 ≤ q ∧ q < I 11 → A 17 (13 + q) < 4 := fun q h => hhm (13 + q) (by omega)
  have hin0 := hin9k
  refine lv_aload_n F.1 F.2.1 dX9_saw_0 rfl (lv_at hl 0 rfl) ?_
  refine x_get F hin9 hw 0 9 rfl rfl 3 (by decide) (by decide +kernel) rfl rfl dX9_saw_1 ?_
  refine lv_iload_n F.1 F.2.1 dX9_saw_4 rfl (lv_at hl 1 rfl) ?_
  refine call_P (As := [.int (iI v)]) (rest := []) F (x7_hasVillage l E I A L v (by omega) (by omega)) (cwV 1 F.2.2.2.2 gX9_saw_X7_hasVillage rfl rfl rfl (by decide +kernel) ⟨(Nat.le_of_ble_eq_true rfl), (Nat.le_of_ble_eq_true rfl)⟩) hw (x_recv hw 3 7 rfl rfl) rfl hl.1 rfl (Nat.le_of_ble_eq_true rfl) dX9_saw_5 ⟨Nat.zero_le _, Nat.zero_le _⟩ (fun q_1 H locs hw => ?_) (fun q_1 H locs hw => ?_)
  · refine bi_if_ne (tgt := 14) F dX9_saw_8 (by decide) (by decide) (fun _ => ?_) (fun q => absurd q (by decide))
    refine lv_iload_n F.1 F.2.1 dX9_saw_14 rfl (lv_at hl 2 rfl) ?_
    refine bi_iconst F dX9_saw_15 ?_
    refine bi_bipush F dX9_saw_16 (by decide) ?_
    refine calls_P0 (As := [.int (iI k), .int (iI 1), .int (iI 99)]) (rest := []) F (x9_isOut l E k 1 99 (by omega) (by omega) (by omega)) (va_cwS 3 F.2.2.2.2 gX9_saw_X9_isOut rfl rfl rfl (by decide +kernel) ⟨(Nat.le_of_ble_eq_true rfl), (Nat.le_of_ble_eq_true rfl)⟩) hw rfl hl.1 rfl (Nat.le_of_ble_eq_true rfl) dX9_saw_18 ⟨Nat.zero_le _, Nat.zero_le _⟩ (fun q_3 H locs hw => ?_) (fun q_3 H locs hw => ?_)
    · refine bi_if_eq (tgt := 27) F dX9_saw_21 (by decide) (by decide) (fun q => absurd q (by decide)) (fun _ => ?_)
      refine bi_ldc F (-1000000002) (by decide +kernel) rfl dX9_saw_24 ?_
      exact hret _ _ _ _ _ _ (by unfold xSawR; rw [if_pos (by omega), if_neg (by omega)]) (xW_c (by unfold xSawI; rw [if_pos (by omega), if_neg (by omega)]) (by unfold xSawA; rw [if_pos (by omega), if_neg (by omega)]) rfl) hw dX9_saw_26
    · refine bi_if_eq (tgt := 27) F dX9_saw_21 (by decide) (by decide) (fun _ => ?_) (fun q => absurd q (by decide))
      refine lv_aload_n F.1 F.2.1 dX9_saw_27 rfl (lv_at hl 0 rfl) ?_
      refine x_get F hin9 hw 0 9 rfl rfl 5 (by decide) (by decide +kernel) rfl rfl dX9_saw_28 ?_
      refine lv_aload_n F.1 F.2.1 dX9_saw_31 rfl (lv_at hl 0 rfl) ?_
      refine x_get F hin9 hw 0 9 rfl rfl 4 (by decide) (by decide +kernel) rfl rfl dX9_saw_32 ?_
      refine call_G (As := [.ref (eO E 4)]) (rest := []) F (x3_add l E I A L  (by omega) (by omega)) (cwV 1 F.2.2.2.2 gX9_saw_X3_add rfl rfl rfl (by decide +kernel) ⟨(Nat.le_of_ble_eq_true rfl), (Nat.le_of_ble_eq_true rfl)⟩) hw (x_recv hw 5 3 rfl rfl) rfl hl.1 rfl (Nat.le_of_ble_eq_true rfl) dX9_saw_35 ⟨Nat.zero_le _, Nat.zero_le _⟩ (fun H locs hw => ?_)
      generalize eI6 : st1 (st1 I 14 ((I 14 + 1) % 20)) 13 (iMn 20 (I 13 + 1)) = I6 at hw
      generalize eA7 : stA A 18 (cpI (A 17) (A 18) 0 (I 14 * 35) 35) = A7 at hw
      refine lv_aload_n F.1 F.2.1 dX9_saw_38 rfl (lv_at hl 0 rfl) ?_
      refine x_get F hin9 hw 0 9 rfl rfl 4 (by decide) (by decide +kernel) rfl rfl dX9_saw_39 ?_
      refine lv_iload_n F.1 F.2.1 dX9_saw_42 rfl (lv_at hl 1 rfl) ?_
      refine lv_iload_n F.1 F.2.1 dX9_saw_43 rfl (lv_at hl 2 rfl) ?_
      refine call_G (As := [.int (iI v), .int (iI k)]) (rest := []) F (x6_cutPole l E I6 A7 L v k (by omega)) (cwV 2 F.2.2.2.2 gX9_saw_X6_cutPole rfl rfl rfl (by decide +kernel) ⟨(Nat.le_of_ble_eq_true rfl), (Nat.le_of_ble_eq_true rfl)⟩) hw (x_recv hw 4 6 rfl rfl) rfl hl.1 rfl (Nat.le_of_ble_eq_true rfl) dX9_saw_44 ⟨Nat.zero_le _, Nat.zero_le _⟩ (fun H locs hw => ?_)
      generalize eA8 : st2 A7 17 (9 + v) (A7 17 (9 + v) + k) = A8 at hw
      have h17 : A8 17 = xSawF A v k := by subst_vars; rfl
      have hs1 := hf5 (9 + v)
      refine lv_aload_n F.1 F.2.1 dX9_saw_47 rfl (lv_at hl 0 rfl) ?_
      refine x_get F hin9 hw 0 9 rfl rfl 4 (by decide) (by decide +kernel) rfl rfl dX9_saw_48 ?_
      refine lv_iload_n F.1 F.2.1 dX9_saw_51 rfl (lv_at hl 1 rfl) ?_
      refine call_N (As := [.int (iI v)]) (rest := []) F (x6_pole l E I6 A8 L v (by omega) (by rw [h17]; intro z; unfold xSawF up1; split; omega; exact hf z)) (cwV 1 F.2.2.2.2 gX9_saw_X6_pole rfl rfl rfl (by decide +kernel) ⟨(Nat.le_of_ble_eq_true rfl), (Nat.le_of_ble_eq_true rfl)⟩) hw (x_recv hw 4 6 rfl rfl) rfl hl.1 rfl (Nat.le_of_ble_eq_true rfl) dX9_saw_52 ⟨Nat.zero_le _, Nat.zero_le _⟩ (fun H locs hw => ?_)
      exact hret _ _ _ _ _ _ (by unfold xSawR; rw [if_pos (by omega), if_pos (by omega), h17]) (xW_c (by unfold xSawI; rw [if_pos (by omega), if_pos (by omega)]; subst_vars; rfl) (by unfold xSawA; rw [if_pos (by omega), if_pos (by omega)]; subst_vars; rfl) rfl) hw dX9_saw_55
  · refine bi_if_ne (tgt := 14) F dX9_saw_8 (by decide) (by decide) (fun q => absurd q (by decide)) (fun _ => ?_)
    refine bi_ldc F (-1000000001) (by decide +kernel) rfl dX9_saw_11 ?_
    exact hret _ _ _ _ _ _ (by unfold xSawR; rw [if_neg (by omega)]) (xW_c (by unfold xSawI; rw [if_neg (by omega)]) (by unfold xSawA; rw [if_neg (by omega)]) rfl) hw dX9_saw_13
set_option maxRecDepth 100000 in
set_option maxHeartbeats 4000000 in
theorem x9_pay (l : Launch) (E : Ev) (I : Nat → Int) (A : Nat → Int → Int) (L : Nat → Int64) (d : Int) (b_d : -2147483648 ≤ d ∧ d ≤ 2147483647) (hx : xOk I A) : MetF l yX9_pay wsX9_pay ({ frames := 4, cells := 0, slots := 0, locals := 87 } : Room) E [.ref (eO E 0), .int (iI d)] (xW E I A L) (xW E (xPayI I A d) (xPayA I A d) L) (xPayR I A d) := by
  have hin9 : ∀ w ∈ wsX90, w ∈ wsX9_pay := by decide +kernel
  refine met_F (cc := cX9_pay) (nL := 3) (by decide) rfl (Nat.le_of_ble_eq_true rfl) ?_
  intro p e s m args below meth c Q H0 A0 H locs ls F hw hl hret
  have F : CallFix p m c cX9_pay 3 s args wsX9_pay RX9 := F
  have hl : lv_has ls 3 [(0, .ref (eO E 0)), (1, .int (iI d))] := hl
  obtain ⟨ht, hl0, hnn, hnv, hnp, hnd, h00, hin9k, hdr, hff, hyr, hbn, hpl, hf5, hni, hhm, hcn3, hnx, hcn, hsp, hsa, hcn0, hb, hb2, hlk, hkp⟩ := id hx
  have hf : ∀ k, 0 ≤ A 17 k ∧ A 17 k ≤ 900000 := fun k => by have := hf5 k; omega
  have hh : ∀ t, 13 ≤ t ∧ t < 19 → 0 ≤ A 17 t ∧ A 17 t ≤ 1000 := fun t h => by have h1 := hhm t h; have h2 := hf t; omega
  have hho : ∀ q, 0 ≤ q ∧ q < I 11 → A 17 (13 + q) < 4 := fun q h => hhm (13 + q) (by omega)
  have hin0 := hin9k
  refine lv_aload_n F.1 F.2.1 dX9_pay_0 rfl (lv_at hl 0 rfl) ?_
  refine x_get F hin9 hw 0 9 rfl rfl 3 (by decide) (by decide +kernel) rfl rfl dX9_pay_1 ?_
  refine lv_iload_n F.1 F.2.1 dX9_pay_4 rfl (lv_at hl 1 rfl) ?_
  refine call_P (As := [.int (iI d)]) (rest := []) F (x7_hasDebt l E I A L d (by omega) (by omega)) (cwV 1 F.2.2.2.2 gX9_pay_X7_hasDebt rfl rfl rfl (by decide +kernel) ⟨(Nat.le_of_ble_eq_true rfl), (Nat.le_of_ble_eq_true rfl)⟩) hw (x_recv hw 3 7 rfl rfl) rfl hl.1 rfl (Nat.le_of_ble_eq_true rfl) dX9_pay_5 ⟨Nat.zero_le _, Nat.zero_le _⟩ (fun q_1 H locs hw => ?_) (fun q_1 H locs hw => ?_)
  · refine bi_if_ne (tgt := 14) F dX9_pay_8 (by decide) (by decide) (fun _ => ?_) (fun q => absurd q (by decide))
    have hp1 := hpl d (by omega)
    refine lv_aload_n F.1 F.2.1 dX9_pay_14 rfl (lv_at hl 0 rfl) ?_
    refine x_get F hin9 hw 0 9 rfl rfl 4 (by decide) (by decide +kernel) rfl rfl dX9_pay_15 ?_
    refine lv_aload_n F.1 F.2.1 dX9_pay_18 rfl (lv_at hl 0 rfl) ?_
    refine x_get F hin9 hw 0 9 rfl rfl 3 (by decide) (by decide +kernel) rfl rfl dX9_pay_19 ?_
    refine lv_iload_n F.1 F.2.1 dX9_pay_22 rfl (lv_at hl 1 rfl) ?_
    refine call_P (As := [.ref (eO E 3), .int (iI d)]) (rest := []) F (x6_isDue l E I A L d (by omega) hf (by omega)) (cwV 2 F.2.2.2.2 gX9_pay_X6_isDue rfl rfl rfl (by decide +kernel) ⟨(Nat.le_of_ble_eq_true rfl), (Nat.le_of_ble_eq_true rfl)⟩) hw (x_recv hw 4 6 rfl rfl) rfl hl.1 rfl (Nat.le_of_ble_eq_true rfl) dX9_pay_23 ⟨Nat.zero_le _, Nat.zero_le _⟩ (fun q_3 H locs hw => ?_) (fun q_3 H locs hw => ?_)
    · refine bi_if_ne (tgt := 32) F dX9_pay_26 (by decide) (by decide) (fun _ => ?_) (fun q => absurd q (by decide))
      refine lv_aload_n F.1 F.2.1 dX9_pay_32 rfl (lv_at hl 0 rfl) ?_
      refine x_get F hin9 hw 0 9 rfl rfl 5 (by decide) (by decide +kernel) rfl rfl dX9_pay_33 ?_
      refine lv_aload_n F.1 F.2.1 dX9_pay_36 rfl (lv_at hl 0 rfl) ?_
      refine x_get F hin9 hw 0 9 rfl rfl 4 (by decide) (by decide +kernel) rfl rfl dX9_pay_37 ?_
      refine call_G (As := [.ref (eO E 4)]) (rest := []) F (x3_add l E I A L  (by omega) (by omega)) (cwV 1 F.2.2.2.2 gX9_pay_X3_add rfl rfl rfl (by decide +kernel) ⟨(Nat.le_of_ble_eq_true rfl), (Nat.le_of_ble_eq_true rfl)⟩) hw (x_recv hw 5 3 rfl rfl) rfl hl.1 rfl (Nat.le_of_ble_eq_true rfl) dX9_pay_40 ⟨Nat.zero_le _, Nat.zero_le _⟩ (fun H locs hw => ?_)
      generalize eI5 : st1 (st1 I 14 ((I 14 + 1) % 20)) 13 (iMn 20 (I 13 + 1)) = I5 at hw
      generalize eA6 : stA A 18 (cpI (A 17) (A 18) 0 (I 14 * 35) 35) = A6 at hw
      have h17 : A6 17 = A 17 := by subst_vars; rfl
      have h15 : A6 15 = A 15 := by subst_vars; rfl
      have hsn : xSince A6 d = xSince A d := by subst_vars; rfl
      refine lv_aload_n F.1 F.2.1 dX9_pay_43 rfl (lv_at hl 0 rfl) ?_
      refine x_get F hin9 hw 0 9 rfl rfl 4 (by decide) (by decide +kernel) rfl rfl dX9_pay_44 ?_
      refine lv_aload_n F.1 F.2.1 dX9_pay_47 rfl (lv_at hl 0 rfl) ?_
      refine x_get F hin9 hw 0 9 rfl rfl 3 (by decide) (by decide +kernel) rfl rfl dX9_pay_48 ?_
      refine lv_iload_n F.1 F.2.1 dX9_pay_51 rfl (lv_at hl 1 rfl) ?_
      refine call_N (As := [.ref (eO E 3), .int (iI d)]) (rest := []) F (x6_fellSinceMade l E I5 A6 L d (by omega) (by subst_vars; exact hf) (by rw [h15]; omega)) (cwV 2 F.2.2.2.2 gX9_pay_X6_fellSinceMade rfl rfl rfl (by decide +kernel) ⟨(Nat.le_of_ble_eq_true rfl), (Nat.le_of_ble_eq_true rfl)⟩) hw (x_recv hw 4 6 rfl rfl) rfl hl.1 rfl (Nat.le_of_ble_eq_true rfl) dX9_pay_52 ⟨Nat.zero_le _, Nat.zero_le _⟩ (fun H locs hw => ?_)
      have f_7 := xSince_r (A := A6) (d := d) (by subst_vars; exact hf)
      refine lv_istore_n (lv' := [(2, .int (iI (xSince A6 d))), (0, .ref (eO E 0)), (1, .int (iI d))]) F.1 F.2.1 dX9_pay_55 rfl hl (by decide) rfl (fun ls hl => ?_)
      refine lv_aload_n F.1 F.2.1 dX9_pay_56 rfl (lv_at hl 1 rfl) ?_
      refine x_get F hin9 hw 0 9 rfl rfl 4 (by decide) (by decide +kernel) rfl rfl dX9_pay_57 ?_
      refine lv_iload_n F.1 F.2.1 dX9_pay_60 rfl (lv_at hl 2 rfl) ?_
      refine call_G (As := [.int (iI d)]) (rest := []) F (x6_clearDebt l E I5 A6 L d (by omega)) (cwV 1 F.2.2.2.2 gX9_pay_X6_clearDebt rfl rfl rfl (by decide +kernel) ⟨(Nat.le_of_ble_eq_true rfl), (Nat.le_of_ble_eq_true rfl)⟩) hw (x_recv hw 4 6 rfl rfl) rfl hl.1 rfl (Nat.le_of_ble_eq_true rfl) dX9_pay_61 ⟨Nat.zero_le _, Nat.zero_le _⟩ (fun H locs hw => ?_)
      generalize eA8 : st2 A6 17 (25 + d) 0 = A8 at hw
      refine lv_iload_n F.1 F.2.1 dX9_pay_64 rfl (lv_at hl 0 rfl) ?_
      exact hret _ _ _ _ _ _ (by unfold xPayR; rw [if_pos (by omega), if_pos (show (A 17 (25 + d) ≠ 0 ∧ xLack A d = 0) by assumption)]; exact hsn) (xW_c (by unfold xPayI; rw [if_pos (by omega), if_pos (show (A 17 (25 + d) ≠ 0 ∧ xLack A d = 0) by assumption)]; subst_vars; rfl) (by unfold xPayA; rw [if_pos (by omega), if_pos (show (A 17 (25 + d) ≠ 0 ∧ xLack A d = 0) by assumption)]; subst_vars; rfl) rfl) hw dX9_pay_65
    · refine bi_if_ne (tgt := 32) F dX9_pay_26 (by decide) (by decide) (fun q => absurd q (by decide)) (fun _ => ?_)
      refine bi_ldc F (-1000000003) (by decide +kernel) rfl dX9_pay_29 ?_
      exact hret _ _ _ _ _ _ (by unfold xPayR; rw [if_pos (by omega), if_neg (show ¬ (A 17 (25 + d) ≠ 0 ∧ xLack A d = 0) by assumption)]) (xW_c (by unfold xPayI; rw [if_pos (by omega), if_neg (show ¬ (A 17 (25 + d) ≠ 0 ∧ xLack A d = 0) by assumption)]) (by unfold xPayA; rw [if_pos (by omega), if_neg (show ¬ (A 17 (25 + d) ≠ 0 ∧ xLack A d = 0) by assumption)]) rfl) hw dX9_pay_31
  · refine bi_if_ne (tgt := 14) F dX9_pay_8 (by decide) (by decide) (fun q => absurd q (by decide)) (fun _ => ?_)
    refine bi_ldc F (-1000000001) (by decide +kernel) rfl dX9_pay_11 ?_
    exact hret _ _ _ _ _ _ (by unfold xPayR; rw [if_neg (by omega)]) (xW_c (by unfold xPayI; rw [if_neg (by omega)]) (by unfold xPayA; rw [if_neg (by omega)]) rfl) hw dX9_pay_13
set_option maxRecDepth 100000 in
set_option maxHeartbeats 4000000 in
theorem x9_lend (l : Launch) (E : Ev) (I : Nat → Int) (A : Nat → Int → Int) (L : Nat → Int64) (d : Int) (x : Int) (b_d : -2147483648 ≤ d ∧ d ≤ 2147483647) (b_x : -2147483648 ≤ x ∧ x ≤ 2147483647) (hx : xOk I A) : MetF l yX9_lend wsX9_lend ({ frames := 2, cells := 0, slots := 0, locals := 61 } : Room) E [.ref (eO E 0), .int (iI d), .int (iI x)] (xW E I A L) (xW E (xLendI I A d x) (xLendA I A d x) L) (xLendR I A d x) := by
  have hin9 : ∀ w ∈ wsX90, w ∈ wsX9_lend := by decide +kernel
  refine met_F (cc := cX9_lend) (nL := 3) (by decide) rfl (Nat.le_of_ble_eq_true rfl) ?_
  intro p e s m args below meth c Q H0 A0 H locs ls F hw hl hret
  have F : CallFix p m c cX9_lend 3 s args wsX9_lend RX9 := F
  have hl : lv_has ls 3 [(0, .ref (eO E 0)), (1, .int (iI d)), (2, .int (iI x))] := hl
  obtain ⟨ht, hl0, hnn, hnv, hnp, hnd, h00, hin9k, hdr, hff, hyr, hbn, hpl, hf5, hni, hhm, hcn3, hnx, hcn, hsp, hsa, hcn0, hb, hb2, hlk, hkp⟩ := id hx
  have hf : ∀ k, 0 ≤ A 17 k ∧ A 17 k ≤ 900000 := fun k => by have := hf5 k; omega
  have hh : ∀ t, 13 ≤ t ∧ t < 19 → 0 ≤ A 17 t ∧ A 17 t ≤ 1000 := fun t h => by have h1 := hhm t h; have h2 := hf t; omega
  have hho : ∀ q, 0 ≤ q ∧ q < I 11 → A 17 (13 + q) < 4 := fun q h => hhm (13 + q) (by omega)
  have hin0 := hin9k
  refine lv_aload_n F.1 F.2.1 dX9_lend_0 rfl (lv_at hl 0 rfl) ?_
  refine x_get F hin9 hw 0 9 rfl rfl 3 (by decide) (by decide +kernel) rfl rfl dX9_lend_1 ?_
  refine lv_iload_n F.1 F.2.1 dX9_lend_4 rfl (lv_at hl 1 rfl) ?_
  refine call_P (As := [.int (iI d)]) (rest := []) F (x7_hasDebt l E I A L d (by omega) (by omega)) (cwV 1 F.2.2.2.2 gX9_lend_X7_hasDebt rfl rfl rfl (by decide +kernel) ⟨(Nat.le_of_ble_eq_true rfl), (Nat.le_of_ble_eq_true rfl)⟩) hw (x_recv hw 3 7 rfl rfl) rfl hl.1 rfl (Nat.le_of_ble_eq_true rfl) dX9_lend_5 ⟨Nat.zero_le _, Nat.zero_le _⟩ (fun q_1 H locs hw => ?_) (fun q_1 H locs hw => ?_)
  · refine bi_if_ne (tgt := 14) F dX9_lend_8 (by decide) (by decide) (fun _ => ?_) (fun q => absurd q (by decide))
    refine lv_iload_n F.1 F.2.1 dX9_lend_14 rfl (lv_at hl 2 rfl) ?_
    refine bi_iconst F dX9_lend_15 ?_
    refine bi_sipush F dX9_lend_16 (by decide) ?_
    refine calls_P0 (As := [.int (iI x), .int (iI 1), .int (iI 999)]) (rest := []) F (x9_isOut l E x 1 999 (by omega) (by omega) (by omega)) (va_cwS 3 F.2.2.2.2 gX9_lend_X9_isOut rfl rfl rfl (by decide +kernel) ⟨(Nat.le_of_ble_eq_true rfl), (Nat.le_of_ble_eq_true rfl)⟩) hw rfl hl.1 rfl (Nat.le_of_ble_eq_true rfl) dX9_lend_19 ⟨Nat.zero_le _, Nat.zero_le _⟩ (fun q_3 H locs hw => ?_) (fun q_3 H locs hw => ?_)
    · refine bi_if_eq (tgt := 28) F dX9_lend_22 (by decide) (by decide) (fun q => absurd q (by decide)) (fun _ => ?_)
      refine bi_ldc F (-1000000002) (by decide +kernel) rfl dX9_lend_25 ?_
      exact hret _ _ _ _ _ _ (by unfold xLendR; rw [if_pos (by omega), if_neg (by omega)]) (xW_c (by unfold xLendI; rw [if_pos (by omega), if_neg (by omega)]) (by unfold xLendA; rw [if_pos (by omega), if_neg (by omega)]) rfl) hw dX9_lend_27
    · refine bi_if_eq (tgt := 28) F dX9_lend_22 (by decide) (by decide) (fun _ => ?_) (fun q => absurd q (by decide))
      have hp1 := hpl d (by omega)
      have hf9 := hf (25 + d)
      refine lv_aload_n F.1 F.2.1 dX9_lend_28 rfl (lv_at hl 0 rfl) ?_
      refine x_get F hin9 hw 0 9 rfl rfl 4 (by decide) (by decide +kernel) rfl rfl dX9_lend_29 ?_
      refine lv_iload_n F.1 F.2.1 dX9_lend_32 rfl (lv_at hl 1 rfl) ?_
      refine call_N (As := [.int (iI d)]) (rest := []) F (x6_owed l E I A L d (by omega)) (cwV 1 F.2.2.2.2 gX9_lend_X6_owed rfl rfl rfl (by decide +kernel) ⟨(Nat.le_of_ble_eq_true rfl), (Nat.le_of_ble_eq_true rfl)⟩) hw (x_recv hw 4 6 rfl rfl) rfl hl.1 rfl (Nat.le_of_ble_eq_true rfl) dX9_lend_33 ⟨Nat.zero_le _, Nat.zero_le _⟩ (fun H locs hw => ?_)
      refine bi_if_eq (tgt := 42) F dX9_lend_36 (by decide) (by omega) (fun c_6 => ?_) (fun c_6 => ?_)
      · refine lv_aload_n F.1 F.2.1 dX9_lend_42 rfl (lv_at hl 0 rfl) ?_
        refine x_get F hin9 hw 0 9 rfl rfl 5 (by decide) (by decide +kernel) rfl rfl dX9_lend_43 ?_
        refine lv_aload_n F.1 F.2.1 dX9_lend_46 rfl (lv_at hl 0 rfl) ?_
        refine x_get F hin9 hw 0 9 rfl rfl 4 (by decide) (by decide +kernel) rfl rfl dX9_lend_47 ?_
        refine call_G (As := [.ref (eO E 4)]) (rest := []) F (x3_add l E I A L  (by omega) (by omega)) (cwV 1 F.2.2.2.2 gX9_lend_X3_add rfl rfl rfl (by decide +kernel) ⟨(Nat.le_of_ble_eq_true rfl), (Nat.le_of_ble_eq_true rfl)⟩) hw (x_recv hw 5 3 rfl rfl) rfl hl.1 rfl (Nat.le_of_ble_eq_true rfl) dX9_lend_50 ⟨Nat.zero_le _, Nat.zero_le _⟩ (fun H locs hw => ?_)
        generalize eI7 : st1 (st1 I 14 ((I 14 + 1) % 20)) 13 (iMn 20 (I 13 + 1)) = I7 at hw
        generalize eA8 : stA A 18 (cpI (A 17) (A 18) 0 (I 14 * 35) 35) = A8 at hw
        have h15 : A8 15 = A 15 := by subst_vars; rfl
        refine lv_aload_n F.1 F.2.1 dX9_lend_53 rfl (lv_at hl 0 rfl) ?_
        refine x_get F hin9 hw 0 9 rfl rfl 4 (by decide) (by decide +kernel) rfl rfl dX9_lend_54 ?_
        refine lv_aload_n F.1 F.2.1 dX9_lend_57 rfl (lv_at hl 0 rfl) ?_
        refine x_get F hin9 hw 0 9 rfl rfl 3 (by decide) (by decide +kernel) rfl rfl dX9_lend_58 ?_
        refine lv_iload_n F.1 F.2.1 dX9_lend_61 rfl (lv_at hl 1 rfl) ?_
        refine lv_iload_n F.1 F.2.1 dX9_lend_62 rfl (lv_at hl 2 rfl) ?_
        refine call_G (As := [.ref (eO E 3), .int (iI d), .int (iI x)]) (rest := []) F (x6_makeDebt l E I7 A8 L d x (by omega) (by rw [h15]; omega)) (cwV 3 F.2.2.2.2 gX9_lend_X6_makeDebt rfl rfl rfl (by decide +kernel) ⟨(Nat.le_of_ble_eq_true rfl), (Nat.le_of_ble_eq_true rfl)⟩) hw (x_recv hw 4 6 rfl rfl) rfl hl.1 rfl (Nat.le_of_ble_eq_true rfl) dX9_lend_63 ⟨Nat.zero_le _, Nat.zero_le _⟩ (fun H locs hw => ?_)
        generalize eA9 : st2 (st2 A8 17 (25 + d) x) 17 (30 + d) (A8 17 (5 + A8 15 d)) = A9 at hw
        have hi12 : I7 12 = I 12 := by subst_vars; rfl
        have h17 : A9 17 = xLendF A d x := by subst_vars; unfold st2; rw [stA_2, stA_s, stA_s]; rfl
        have hf8 := hf (5 + A 15 d)
        refine lv_aload_n F.1 F.2.1 dX9_lend_66 rfl (lv_at hl 0 rfl) ?_
        refine x_get F hin9 hw 0 9 rfl rfl 4 (by decide) (by decide +kernel) rfl rfl dX9_lend_67 ?_
        refine lv_aload_n F.1 F.2.1 dX9_lend_70 rfl (lv_at hl 0 rfl) ?_
        refine x_get F hin9 hw 0 9 rfl rfl 3 (by decide) (by decide +kernel) rfl rfl dX9_lend_71 ?_
        refine call_N (As := [.ref (eO E 3)]) (rest := []) F (x6_openDebts l E I7 A9 L  (by omega) (by rw [h17]; intro z; unfold xLendF up1; split; omega; split; omega; exact hf z)) (cwV 1 F.2.2.2.2 gX9_lend_X6_openDebts rfl rfl rfl (by decide +kernel) ⟨(Nat.le_of_ble_eq_true rfl), (Nat.le_of_ble_eq_true rfl)⟩) hw (x_recv hw 4 6 rfl rfl) rfl hl.1 rfl (Nat.le_of_ble_eq_true rfl) dX9_lend_74 ⟨Nat.zero_le _, Nat.zero_le _⟩ (fun H locs hw => ?_)
        exact hret _ _ _ _ _ _ (by unfold xLendR; rw [if_pos (by omega), if_pos (by omega), if_pos (by omega)]; have hop : xOpen A9 (I 12).toNat = xOpen (stA A 17 (xLendF A d x)) (I 12).toNat := (by unfold xOpen; rw [h17, stA_s]); rw [← hop]; subst_vars; rfl) (xW_c (by unfold xLendI; rw [if_pos (by omega), if_pos (by omega), if_pos (by omega)]; subst_vars; rfl) (by unfold xLendA; rw [if_pos (by omega), if_pos (by omega), if_pos (by omega)]; exact stA_of (fun i hi => by subst_vars; rw [st2_n hi, st2_n hi]; rfl) h17) rfl) hw dX9_lend_77
      · refine bi_ldc F (-1000000003) (by decide +kernel) rfl dX9_lend_39 ?_
        exact hret _ _ _ _ _ _ (by unfold xLendR; rw [if_pos (by omega), if_pos (by omega), if_neg (by omega)]) (xW_c (by unfold xLendI; rw [if_pos (by omega), if_pos (by omega), if_neg (by omega)]) (by unfold xLendA; rw [if_pos (by omega), if_pos (by omega), if_neg (by omega)]) rfl) hw dX9_lend_41
  · refine bi_if_ne (tgt := 14) F dX9_lend_8 (by decide) (by decide) (fun q => absurd q (by decide)) (fun _ => ?_)
    refine bi_ldc F (-1000000001) (by decide +kernel) rfl dX9_lend_11 ?_
    exact hret _ _ _ _ _ _ (by unfold xLendR; rw [if_neg (by omega)]) (xW_c (by unfold xLendI; rw [if_neg (by omega)]) (by unfold xLendA; rw [if_neg (by omega)]) rfl) hw dX9_lend_13
set_option maxRecDepth 100000 in
set_option maxHeartbeats 4000000 in
theorem x9_driftOneNight (l : Launch) (E : Ev) (I : Nat → Int) (A : Nat → Int → Int) (L : Nat → Int64) (hnv : 0 ≤ I 10 ∧ I 10 ≤ 4) (hnp : 0 ≤ I 11 ∧ I 11 ≤ 6) (hdr : ∀ k, 0 ≤ A 10 k ∧ A 10 k ≤ 40) (hff : ∀ k, 0 ≤ A 11 k ∧ A 11 k ≤ 80) (hh : ∀ t, 13 ≤ t ∧ t < 19 → 0 ≤ A 17 t ∧ A 17 t ≤ 1000) : MetG l yX9_driftOneNight wsX9_driftOneNight ({ frames := 3, cells := 0, slots := 0, locals := 67 } : Room) E [.ref (eO E 0)] (xW E I A L) (xW E (st1 I 15 (xDrS (A 11) (A 10) (I 10) (I 11) (I 15, A 17)).1) (stA A 17 (xDrS (A 11) (A 10) (I 10) (I 11) (I 15, A 17)).2) L) := by
  have hin7 : ∀ w ∈ wsX70, w ∈ wsX9_driftOneNight := by decide +kernel
  have hin9 : ∀ w ∈ wsX90, w ∈ wsX9_driftOneNight := by decide +kernel
  refine met_G (cc := cX9_driftOneNight) (nL := 1) (by decide) rfl (Nat.le_of_ble_eq_true rfl) ?_
  intro p e s m args below meth c Q H0 A0 H locs ls F hw hl hret
  have F : CallFix p m c cX9_driftOneNight 1 s args wsX9_driftOneNight RX9 := F
  have hl : lv_has ls 1 [(0, .ref (eO E 0))] := hl
  have hm1 := mNx_r (I 15)
  have hm2 := mNx_r (mNx (I 15))
  have hm3 := mNx_r (mNx (mNx (I 15)))
  refine lv_aload_n F.1 F.2.1 dX9_driftOneNight_0 rfl (lv_at hl 0 rfl) ?_
  refine x_get F hin9 hw 0 9 rfl rfl 4 (by decide) (by decide +kernel) rfl rfl dX9_driftOneNight_1 ?_
  refine lv_aload_n F.1 F.2.1 dX9_driftOneNight_4 rfl (lv_at hl 0 rfl) ?_
  refine x_get F hin9 hw 0 9 rfl rfl 3 (by decide) (by decide +kernel) rfl rfl dX9_driftOneNight_5 ?_
  refine lv_aload_n F.1 F.2.1 dX9_driftOneNight_8 rfl (lv_at hl 0 rfl) ?_
  refine x_get F hin9 hw 0 9 rfl rfl 7 (by decide) (by decide +kernel) rfl rfl dX9_driftOneNight_9 ?_
  refine bi_bipush F dX9_driftOneNight_12 (by decide) ?_
  refine call_F (As := [.int (iI 41)]) (rest := [.ref (eO E 3), .ref (eO E 4)]) F (x1_draw l E I A L 41 (by omega)) (cwV 1 F.2.2.2.2 gX9_driftOneNight_X1_draw rfl rfl rfl (by decide +kernel) ⟨(Nat.le_of_ble_eq_true rfl), (Nat.le_of_ble_eq_true rfl)⟩) hw (x_recv hw 7 1 rfl rfl) rfl hl.1 rfl (Nat.le_of_ble_eq_true rfl) dX9_driftOneNight_14 ⟨Nat.zero_le _, Nat.zero_le _⟩ (fun H locs hw => ?_)
  generalize eI1 : st1 I 15 (mNx (I 15)) = I1 at hw
  have hi10 : I1 10 = I 10 := by subst_vars; rfl
  have hi11 : I1 11 = I 11 := by subst_vars; rfl
  have h15a : I1 15 = mNx (I 15) := by subst_vars; rfl
  refine call_G (As := [.ref (eO E 3), .int (iI (mNx (I 15) / 65536 % 41))]) (rest := []) F (x6_snow l E I1 A L (mNx (I 15) / 65536 % 41) (by omega) (by omega) (by omega) hdr hff hh) (cwV 2 F.2.2.2.2 gX9_driftOneNight_X6_snow rfl rfl rfl (by decide +kernel) ⟨(Nat.le_of_ble_eq_true rfl), (Nat.le_of_ble_eq_true rfl)⟩) hw (x_recv hw 4 6 rfl rfl) rfl hl.1 rfl (Nat.le_of_ble_eq_true rfl) dX9_driftOneNight_17 ⟨Nat.zero_le _, Nat.zero_le _⟩ (fun H locs hw => ?_)
  generalize eA2 : stA A 17 (xSnow (A 11) (A 10) (I1 10) (I1 11) (mNx (I 15) / 65536 % 41) (A 17)) = A2 at hw
  refine lv_aload_n F.1 F.2.1 dX9_driftOneNight_20 rfl (lv_at hl 0 rfl) ?_
  refine x_get F hin9 hw 0 9 rfl rfl 3 (by decide) (by decide +kernel) rfl rfl dX9_driftOneNight_21 ?_
  refine x_get F hin7 hw 3 7 rfl rfl 9 (by decide) (by decide +kernel) rfl rfl dX9_driftOneNight_24 ?_
  refine bi_if_le (tgt := 63) F dX9_driftOneNight_27 (by decide) (by omega) (fun c_3 => ?_) (fun c_3 => ?_)
  · have hfin : (xDrS (A 11) (A 10) (I 10) (I 11) (I 15, A 17)) = (I1 15, A2 17) := by unfold xDrS; first | (rw [if_neg (show ¬ 0 < I 10 by omega)]; subst_vars; rfl) | (rw [if_pos (show 0 < I 10 by omega), if_neg (show ¬ mNx (mNx (I 15)) / 65536 % 4 = 0 by omega)]; subst_vars; rfl) | (rw [if_pos (show 0 < I 10 by omega), if_pos (show mNx (mNx (I 15)) / 65536 % 4 = 0 by omega)]; subst_vars; rfl)
    exact hret _ _ _ _ _ (xW_c (by rw [hfin]; subst_vars; first | rfl | (rw [st1_2]; rfl) | (rw [st1_2, st1_2]; rfl)) (by rw [hfin]; subst_vars; first | rfl | (unfold st2; rw [stA_2]; rfl)) rfl) hw dX9_driftOneNight_63
  · have hm4 := mNx_r (I1 15)
    refine lv_aload_n F.1 F.2.1 dX9_driftOneNight_30 rfl (lv_at hl 0 rfl) ?_
    refine x_get F hin9 hw 0 9 rfl rfl 7 (by decide) (by decide +kernel) rfl rfl dX9_driftOneNight_31 ?_
    refine bi_iconst F dX9_driftOneNight_34 ?_
    refine call_F (As := [.int (iI 4)]) (rest := []) F (x1_draw l E I1 A2 L 4 (by omega)) (cwV 1 F.2.2.2.2 gX9_driftOneNight_X1_draw rfl rfl rfl (by decide +kernel) ⟨(Nat.le_of_ble_eq_true rfl), (Nat.le_of_ble_eq_true rfl)⟩) hw (x_recv hw 7 1 rfl rfl) rfl hl.1 rfl (Nat.le_of_ble_eq_true rfl) dX9_driftOneNight_35 ⟨Nat.zero_le _, Nat.zero_le _⟩ (fun H locs hw => ?_)
    generalize eI4 : st1 I1 15 (mNx (I1 15)) = I4 at hw
    have hi10b : I4 10 = I 10 := by subst_vars; rfl
    have h15b : I4 15 = mNx (mNx (I 15)) := by subst_vars; rfl
    have h15c : mNx (I1 15) / 65536 % 4 = mNx (mNx (I 15)) / 65536 % 4 := by rw [h15a]
    refine bi_if_ne (tgt := 63) F dX9_driftOneNight_38 (by decide) (by omega) (fun c_5 => ?_) (fun c_5 => ?_)
    · have hfin : (xDrS (A 11) (A 10) (I 10) (I 11) (I 15, A 17)) = (I4 15, A2 17) := by unfold xDrS; first | (rw [if_neg (show ¬ 0 < I 10 by omega)]; subst_vars; rfl) | (rw [if_pos (show 0 < I 10 by omega), if_neg (show ¬ mNx (mNx (I 15)) / 65536 % 4 = 0 by omega)]; subst_vars; rfl) | (rw [if_pos (show 0 < I 10 by omega), if_pos (show mNx (mNx (I 15)) / 65536 % 4 = 0 by omega)]; subst_vars; rfl)
      exact hret _ _ _ _ _ (xW_c (by rw [hfin]; subst_vars; first | rfl | (rw [st1_2]; rfl) | (rw [st1_2, st1_2]; rfl)) (by rw [hfin]; subst_vars; first | rfl | (unfold st2; rw [stA_2]; rfl)) rfl) hw dX9_driftOneNight_63
    · refine lv_aload_n F.1 F.2.1 dX9_driftOneNight_41 rfl (lv_at hl 0 rfl) ?_
      refine x_get F hin9 hw 0 9 rfl rfl 4 (by decide) (by decide +kernel) rfl rfl dX9_driftOneNight_42 ?_
      refine lv_aload_n F.1 F.2.1 dX9_driftOneNight_45 rfl (lv_at hl 0 rfl) ?_
      refine x_get F hin9 hw 0 9 rfl rfl 7 (by decide) (by decide +kernel) rfl rfl dX9_driftOneNight_46 ?_
      refine lv_aload_n F.1 F.2.1 dX9_driftOneNight_49 rfl (lv_at hl 0 rfl) ?_
      refine x_get F hin9 hw 0 9 rfl rfl 3 (by decide) (by decide +kernel) rfl rfl dX9_driftOneNight_50 ?_
      refine x_get F hin7 hw 3 7 rfl rfl 9 (by decide) (by decide +kernel) rfl rfl dX9_driftOneNight_53 ?_
      have hm5 := mNx_r (I4 15)
      have e1 := Int.emod_nonneg (mNx (I4 15) / 65536) (show I4 10 ≠ 0 by omega)
      have e2 := Int.emod_lt_of_pos (mNx (I4 15) / 65536) (show 0 < I4 10 by omega)
      refine call_F (As := [.int (iI (I4 10))]) (rest := [.ref (eO E 4)]) F (x1_draw l E I4 A2 L (I4 10) (by omega)) (cwV 1 F.2.2.2.2 gX9_driftOneNight_X1_draw rfl rfl rfl (by decide +kernel) ⟨(Nat.le_of_ble_eq_true rfl), (Nat.le_of_ble_eq_true rfl)⟩) hw (x_recv hw 7 1 rfl rfl) rfl hl.1 rfl (Nat.le_of_ble_eq_true rfl) dX9_driftOneNight_56 ⟨Nat.zero_le _, Nat.zero_le _⟩ (fun H locs hw => ?_)
      generalize eI6 : st1 I4 15 (mNx (I4 15)) = I6 at hw
      refine bi_iconst F dX9_driftOneNight_59 ?_
      refine call_G (As := [.int (iI (mNx (I4 15) / 65536 % (I4 10))), .int (iI 1)]) (rest := []) F (x6_cutPole l E I6 A2 L (mNx (I4 15) / 65536 % (I4 10)) 1 (by omega)) (cwV 2 F.2.2.2.2 gX9_driftOneNight_X6_cutPole rfl rfl rfl (by decide +kernel) ⟨(Nat.le_of_ble_eq_true rfl), (Nat.le_of_ble_eq_true rfl)⟩) hw (x_recv hw 4 6 rfl rfl) rfl hl.1 rfl (Nat.le_of_ble_eq_true rfl) dX9_driftOneNight_60 ⟨Nat.zero_le _, Nat.zero_le _⟩ (fun H locs hw => ?_)
      generalize eA7 : st2 A2 17 (9 + (mNx (I4 15) / 65536 % (I4 10))) (A2 17 (9 + (mNx (I4 15) / 65536 % (I4 10))) + 1) = A7 at hw
      have hfin : (xDrS (A 11) (A 10) (I 10) (I 11) (I 15, A 17)) = (I6 15, A7 17) := by unfold xDrS; first | (rw [if_neg (show ¬ 0 < I 10 by omega)]; subst_vars; rfl) | (rw [if_pos (show 0 < I 10 by omega), if_neg (show ¬ mNx (mNx (I 15)) / 65536 % 4 = 0 by omega)]; subst_vars; rfl) | (rw [if_pos (show 0 < I 10 by omega), if_pos (show mNx (mNx (I 15)) / 65536 % 4 = 0 by omega)]; subst_vars; rfl)
      exact hret _ _ _ _ _ (xW_c (by rw [hfin]; subst_vars; first | rfl | (rw [st1_2]; rfl) | (rw [st1_2, st1_2]; rfl)) (by rw [hfin]; subst_vars; first | rfl | (unfold st2; rw [stA_2]; rfl)) rfl) hw dX9_driftOneNight_63
set_option maxRecDepth 100000 in
set_option maxHeartbeats 4000000 in
theorem x9_drift (l : Launch) (E : Ev) (I : Nat → Int) (A : Nat → Int → Int) (L : Nat → Int64) (n : Int) (b_n : -2147483648 ≤ n ∧ n ≤ 2147483647) (hx : xOk I A) : MetF l yX9_drift wsX9_drift ({ frames := 4, cells := 0, slots := 0, locals := 87 } : Room) E [.ref (eO E 0), .int (iI n)] (xW E I A L) (xW E (xDriftI I A n) (xDriftA I A n) L) (xDriftR I A n) := by
  have hin9 : ∀ w ∈ wsX90, w ∈ wsX9_drift := by decide +kernel
  refine met_F (cc := cX9_drift) (nL := 4) (by decide) rfl (Nat.le_of_ble_eq_true rfl) ?_
  intro p e s m args below meth c Q H0 A0 H locs ls F hw hl hret
  have F : CallFix p m c cX9_drift 4 s args wsX9_drift RX9 := F
  have hl : lv_has ls 4 [(0, .ref (eO E 0)), (1, .int (iI n))] := hl
  obtain ⟨ht, hl0, hnn, hnv, hnp, hnd, h00, hin9k, hdr, hff, hyr, hbn, hpl, hf5, hni, hhm, hcn3, hnx, hcn, hsp, hsa, hcn0, hb, hb2, hlk, hkp⟩ := id hx
  have hf : ∀ k, 0 ≤ A 17 k ∧ A 17 k ≤ 900000 := fun k => by have := hf5 k; omega
  have hh : ∀ t, 13 ≤ t ∧ t < 19 → 0 ≤ A 17 t ∧ A 17 t ≤ 1000 := fun t h => by have h1 := hhm t h; have h2 := hf t; omega
  have hho : ∀ q, 0 ≤ q ∧ q < I 11 → A 17 (13 + q) < 4 := fun q h => hhm (13 + q) (by omega)
  have hin0 := hin9k
  have hb0 := xBar_r I A n
  refine lv_aload_n F.1 F.2.1 dX9_drift_0 rfl (lv_at hl 0 rfl) ?_
  refine lv_iload_n F.1 F.2.1 dX9_drift_1 rfl (lv_at hl 1 rfl) ?_
  refine call_N (As := [.int (iI n)]) (rest := []) F (x9_refusedNights l E I A L n (by omega) (hx)) (cwV 1 F.2.2.2.2 gX9_drift_X9_refusedNights rfl rfl rfl (by decide +kernel) ⟨(Nat.le_of_ble_eq_true rfl), (Nat.le_of_ble_eq_true rfl)⟩) hw (x_recv hw 0 9 rfl rfl) rfl hl.1 rfl (Nat.le_of_ble_eq_true rfl) dX9_drift_2 ⟨Nat.zero_le _, Nat.zero_le _⟩ (fun H locs hw => ?_)
  refine lv_istore_n (lv' := [(2, .int (iI (xBar I A n))), (0, .ref (eO E 0)), (1, .int (iI n))]) F.1 F.2.1 dX9_drift_5 rfl hl (by decide) rfl (fun ls hl => ?_)
  refine lv_iload_n F.1 F.2.1 dX9_drift_6 rfl (lv_at hl 0 rfl) ?_
  refine bi_if_eq (tgt := 12) F dX9_drift_7 (by decide) (by omega) (fun c_1 => ?_) (fun c_1 => ?_)
  · have hb1 := xBar_0 (I := I) (A := A) (n := n) (by omega)
    refine lv_aload_n F.1 F.2.1 dX9_drift_12 rfl (lv_at hl 1 rfl) ?_
    refine x_get F hin9 hw 0 9 rfl rfl 5 (by decide) (by decide +kernel) rfl rfl dX9_drift_13 ?_
    refine lv_aload_n F.1 F.2.1 dX9_drift_16 rfl (lv_at hl 1 rfl) ?_
    refine x_get F hin9 hw 0 9 rfl rfl 4 (by decide) (by decide +kernel) rfl rfl dX9_drift_17 ?_
    refine call_G (As := [.ref (eO E 4)]) (rest := []) F (x3_add l E I A L  (by omega) (by omega)) (cwV 1 F.2.2.2.2 gX9_drift_X3_add rfl rfl rfl (by decide +kernel) ⟨(Nat.le_of_ble_eq_true rfl), (Nat.le_of_ble_eq_true rfl)⟩) hw (x_recv hw 5 3 rfl rfl) rfl hl.1 rfl (Nat.le_of_ble_eq_true rfl) dX9_drift_20 ⟨Nat.zero_le _, Nat.zero_le _⟩ (fun H locs hw => ?_)
    generalize eI2 : st1 (st1 I 14 ((I 14 + 1) % 20)) 13 (iMn 20 (I 13 + 1)) = I2 at hw
    generalize eA3 : stA A 18 (cpI (A 17) (A 18) 0 (I 14 * 35) 35) = A3 at hw
    have eI0 : st1 I2 15 (I 15) = I2 := by subst_vars; exact st1_id
    refine bi_iconst F dX9_drift_23 ?_
    refine lv_istore_n (lv' := [(3, .int (iI 0)), (2, .int (iI (xBar I A n))), (0, .ref (eO E 0)), (1, .int (iI n))]) F.1 F.2.1 dX9_drift_24 rfl hl (by decide) rfl (fun ls hl => ?_)
    have loop_25 : ∀ (nf : Nat) (k : Int) (I2 : Nat → Int) (A2 : Nat → Int → Int) (H : Heap) (locs : List Loc) (ls : Array Slot) (hk : 0 ≤ k ∧ k ≤ n) (hA2 : A2 = stA (xnA I A) 17 (xDrf I A k.toNat).2) (hI2 : I2 = st1 (xnI I) 15 (xDrf I A k.toNat).1) (hw : gH E A0 H0 s (xW E I2 A2 L) H locs) (hl : lv_has ls 4 [(3, .int (iI k)), (2, .int (iI (xBar I A n))), (0, .ref (eO E 0)), (1, .int (iI n))]) (hnf : (n - k).toNat < nf), W p l e ({ frames := 4, cells := 0, slots := 0, locals := 87 } : Room) s m args below meth c H locs 0 0 Q (F0 m 25 ls []) := by
      intro nf
      induction nf with
      | zero =>
        intro k I2 A2 H locs ls hk hA2 hI2 hw hl hnf
        exact absurd hnf (Nat.not_lt_zero _)
      | succ nf ih_25 =>
        intro k I2 A2 H locs ls hk hA2 hI2 hw hl hnf
        have h17 : A2 17 = (xDrf I A k.toNat).2 := by rw [hA2]; rfl
        have h10 : A2 10 = A 10 := by rw [hA2]; rfl
        have h11 : A2 11 = A 11 := by rw [hA2]; rfl
        have hi10 : I2 10 = I 10 := by rw [hI2]; rfl
        have hi11 : I2 11 = I 11 := by rw [hI2]; rfl
        have hi15 : I2 15 = (xDrf I A k.toNat).1 := by rw [hI2]; rfl
        have hds : xDrS (A2 11) (A2 10) (I2 10) (I2 11) (I2 15, A2 17) = xDrf I A (k + 1).toNat := by unfold xDrf; rw [xDr_s hk.1, h10, h11, hi10, hi11, hi15, h17]; rfl
        refine lv_iload_n F.1 F.2.1 dX9_drift_25 rfl (lv_at hl 0 rfl) ?_
        refine lv_iload_n F.1 F.2.1 dX9_drift_26 rfl (lv_at hl 3 rfl) ?_
        refine bi_icmp_ge (tgt := 40) F dX9_drift_27 (by decide) (by omega) (fun c_4 => ?_) (fun c_4 => ?_)
        · refine lv_aload_n F.1 F.2.1 dX9_drift_40 rfl (lv_at hl 2 rfl) ?_
          refine x_get F hin9 hw 0 9 rfl rfl 4 (by decide) (by decide +kernel) rfl rfl dX9_drift_41 ?_
          refine call_N (As := []) (rest := []) F (x6_nights l E I2 A2 L  ) (cwV 0 F.2.2.2.2 gX9_drift_X6_nights rfl rfl rfl (by decide +kernel) ⟨(Nat.le_of_ble_eq_true rfl), (Nat.le_of_ble_eq_true rfl)⟩) hw (x_recv hw 4 6 rfl rfl) rfl hl.1 rfl (Nat.le_of_ble_eq_true rfl) dX9_drift_44 ⟨Nat.zero_le _, Nat.zero_le _⟩ (fun H locs hw => ?_)
          exact hret _ _ _ _ _ _ (by unfold xDriftR; rw [if_pos (by omega), h17, show k = n by omega]) (xW_c (by unfold xDriftI; rw [if_pos (by omega), hI2, show k = n by omega]) (by unfold xDriftA; rw [if_pos (by omega), hA2, show k = n by omega]) rfl) hw dX9_drift_47
        · refine lv_aload_n F.1 F.2.1 dX9_drift_30 rfl (lv_at hl 2 rfl) ?_
          refine call_G (As := []) (rest := []) F (x9_driftOneNight l E I2 A2 L  (by omega) (by omega) (by rw [h10]; exact hdr) (by rw [h11]; exact hff) (fun t ht => by rw [h17]; unfold xDrf; rw [xDr_h hnv hnp ht]; exact hh t ht)) (cwV 0 F.2.2.2.2 gX9_drift_X9_driftOneNight rfl rfl rfl (by decide +kernel) ⟨(Nat.le_of_ble_eq_true rfl), (Nat.le_of_ble_eq_true rfl)⟩) hw (x_recv hw 0 9 rfl rfl) rfl hl.1 rfl (Nat.le_of_ble_eq_true rfl) dX9_drift_31 ⟨Nat.zero_le _, Nat.zero_le _⟩ (fun H locs hw => ?_)
          generalize eI5 : st1 I2 15 (xDrS (A2 11) (A2 10) (I2 10) (I2 11) (I2 15, A2 17)).1 = I5 at hw
          generalize eA6 : stA A2 17 (xDrS (A2 11) (A2 10) (I2 10) (I2 11) (I2 15, A2 17)).2 = A6 at hw
          refine lv_iinc (v := iI (k + 1)) (lv' := [(3, .int (iI (k + 1))), (2, .int (iI (xBar I A n))), (0, .ref (eO E 0)), (1, .int (iI n))]) F.1 F.2.1 dX9_drift_34 hl (k := 0) rfl (iI_add _ _).symm (by decide) rfl (fun ls hl => ?_)
          refine lv_goto (tgt := 25) F.1 F.2.1 dX9_drift_37 (by decide) ?_
          exact ih_25 (k + 1) I5 A6 H locs ls (by omega) (by rw [← eA6, hds, hA2, stA_2]) (by rw [← eI5, hds, hI2, st1_2]) hw (lv_sub hl [0, 1, 2, 3] rfl) (by omega)
    exact loop_25 ((n - 0 : Int).toNat + 1) 0 I2 A3 H locs ls (by omega) (by rw [← eA3]; exact stA_id.symm) (by rw [← eI2]; exact st1_id.symm) hw (lv_sub hl [0, 1, 2, 3] rfl) (by omega)
  · refine lv_iload_n F.1 F.2.1 dX9_drift_10 rfl (lv_at hl 0 rfl) ?_
    exact hret _ _ _ _ _ _ (by unfold xDriftR; rw [if_neg (by omega)]) (xW_c (by unfold xDriftI; rw [if_neg (by omega)]) (by unfold xDriftA; rw [if_neg (by omega)]) rfl) hw dX9_drift_11
