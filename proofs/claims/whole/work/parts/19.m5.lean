set_option maxRecDepth 100000 in
set_option maxHeartbeats 4000000 in
theorem c_lend (l : Launch) (E : Ev) (I : Nat → Int) (A : Nat → Int → Int) (d : Int) (x : Int) (hd : -2147483648 ≤ d ∧ d ≤ 2147483647) (hx : -2147483648 ≤ x ∧ x ≤ 2147483647) (h2 : 0 ≤ I 2 ∧ I 2 ≤ 20) (hok : mOk A) (hr : rOk (A 1 1) (A 1 2) (A 11) 500000) : MetF l yX10_lend wsX10_lend ({ frames := 2, cells := 0, slots := 0, locals := 46 } : Room) E [.ref (eO E 0), .int (iI d), .int (iI x)] (mW E I A) (mW E (mLendI I A d x) (mLendA I A d x)) (mLendR A d x) := by
  have hin : ∀ w ∈ wsX100, w ∈ wsX10_lend := fun w h => in_tail h
  refine met_F (cc := cX10_lend) (nL := 5) (by decide) rfl (Nat.le_of_ble_eq_true rfl) ?_
  intro p e s m args below meth c Q H0 A0 H locs ls F hw hl hret
  have F : CallFix p m c cX10_lend 5 s args wsX10_lend RX10 := F
  have hl : lv_has ls 5 [(0, .ref (eO E 0)), (1, .int (iI d)), (2, .int (iI x))] := hl
  obtain ⟨hV, hWn, hl0, hl1, hl2, hl3, hY, hPl, hPe⟩ := id hok
  have hA := hV
  have hf : ∀ k, 0 ≤ A 11 k ∧ A 11 k ≤ 900000 := (rOk_w hr (by decide)).1
  refine lv_aload_n F.1 F.2.1 dX10_lend_0 rfl (lv_at hl 0 rfl) ?_
  refine lv_iload_n F.1 F.2.1 dX10_lend_1 rfl (lv_at hl 1 rfl) ?_
  refine call_P (As := [.int (iI d)]) (rest := []) F (c_isDebt l E I A d (by omega) (by omega)) (cwV 1 F.2.2.2.2 gX10_lend_X10_isDebt rfl rfl rfl (by decide +kernel) ⟨Nat.le_of_ble_eq_true rfl, Nat.le_of_ble_eq_true rfl⟩) hw (m_recv hw) rfl hl.1 rfl (Nat.le_of_ble_eq_true rfl) dX10_lend_2 ⟨Nat.zero_le _, Nat.zero_le _⟩ (fun q_1 H locs hw => ?_) (fun q_1 H locs hw => ?_)
  · refine bi_if_ne (tgt := 11) F dX10_lend_5 (by decide) (by decide) (fun _ => ?_) (fun q => absurd q (by decide))
    have hp1 := hPl d (by omega)
    refine lv_iload_n F.1 F.2.1 dX10_lend_11 rfl (lv_at hl 2 rfl) ?_
    refine bi_iconst F dX10_lend_12 ?_
    refine bi_sipush F dX10_lend_13 (by decide) ?_
    refine calls_P0 (As := [.int (iI x), .int (iI 1), .int (iI 999)]) (rest := []) F (c_in l E x 1 999 (by omega) (by omega) (by omega)) (va_cwS 3 F.2.2.2.2 gX10_lend_X10_in rfl rfl rfl (by decide +kernel) ⟨Nat.le_of_ble_eq_true rfl, Nat.le_of_ble_eq_true rfl⟩) hw rfl hl.1 rfl (Nat.le_of_ble_eq_true rfl) dX10_lend_16 ⟨Nat.zero_le _, Nat.zero_le _⟩ (fun q_3 H locs hw => ?_) (fun q_3 H locs hw => ?_)
    · refine bi_if_ne (tgt := 25) F dX10_lend_19 (by decide) (by decide) (fun _ => ?_) (fun q => absurd q (by decide))
      refine lv_aload_n F.1 F.2.1 dX10_lend_25 rfl (lv_at hl 0 rfl) ?_
      refine m_get F hin hw 13 (by decide) (by decide +kernel) rfl dX10_lend_26 ?_
      refine bi_bipush F dX10_lend_29 (by decide) ?_
      refine bi_iconst F dX10_lend_31 ?_
      refine lv_iload_n F.1 F.2.1 dX10_lend_32 rfl (lv_at hl 1 rfl) ?_
      refine bi_imul F dX10_lend_33 ?_
      refine bi_iadd F dX10_lend_34 ?_
      refine m_ld F hw 11 35 rfl (by decide) (by omega) dX10_lend_35 ?_
      have f_5 := hf (25 + (2 * d))
      refine bi_if_eq (tgt := 42) F dX10_lend_36 (by decide) (by omega) (fun c_6 => ?_) (fun c_6 => ?_)
      · refine lv_aload_n F.1 F.2.1 dX10_lend_42 rfl (lv_at hl 0 rfl) ?_
        refine call_G (As := []) (rest := []) F (c_notes l E I A  (by omega)) (cwV 0 F.2.2.2.2 gX10_lend_X10_notes rfl rfl rfl (by decide +kernel) ⟨Nat.le_of_ble_eq_true rfl, Nat.le_of_ble_eq_true rfl⟩) hw (m_recv hw) rfl hl.1 rfl (Nat.le_of_ble_eq_true rfl) dX10_lend_43 ⟨Nat.zero_le _, Nat.zero_le _⟩ (fun H locs hw => ?_)
        generalize eI7 : ndI I = I7 at hw
        generalize eA8 : ndA I A = A8 at hw
        have hrow0 : A8 11 = A 11 := by subst_vars; rfl
        have h50 : A8 5 = A 5 := by subst_vars; rfl
        refine lv_aload_n F.1 F.2.1 dX10_lend_46 rfl (lv_at hl 0 rfl) ?_
        refine m_get F hin hw 13 (by decide) (by decide +kernel) rfl dX10_lend_47 ?_
        refine bi_bipush F dX10_lend_50 (by decide) ?_
        refine bi_iconst F dX10_lend_52 ?_
        refine lv_iload_n F.1 F.2.1 dX10_lend_53 rfl (lv_at hl 1 rfl) ?_
        refine bi_imul F dX10_lend_54 ?_
        refine bi_iadd F dX10_lend_55 ?_
        refine lv_iload_n F.1 F.2.1 dX10_lend_56 rfl (lv_at hl 2 rfl) ?_
        refine m_st F hw 11 35 rfl (by decide) (by omega) dX10_lend_57 (fun H locs hw => ?_)
        generalize eA9 : st2 A8 11 (25 + (2 * d)) x = A9 at hw
        refine lv_aload_n F.1 F.2.1 dX10_lend_58 rfl (lv_at hl 0 rfl) ?_
        refine m_get F hin hw 13 (by decide) (by decide +kernel) rfl dX10_lend_59 ?_
        refine bi_bipush F dX10_lend_62 (by decide) ?_
        refine bi_iconst F dX10_lend_64 ?_
        refine lv_iload_n F.1 F.2.1 dX10_lend_65 rfl (lv_at hl 1 rfl) ?_
        refine bi_imul F dX10_lend_66 ?_
        refine bi_iadd F dX10_lend_67 ?_
        refine bi_iconst F dX10_lend_68 ?_
        refine bi_iadd F dX10_lend_69 ?_
        refine lv_aload_n F.1 F.2.1 dX10_lend_70 rfl (lv_at hl 0 rfl) ?_
        refine m_get F hin hw 13 (by decide) (by decide +kernel) rfl dX10_lend_71 ?_
        refine bi_iconst F dX10_lend_74 ?_
        refine bi_iconst F dX10_lend_75 ?_
        refine lv_aload_n F.1 F.2.1 dX10_lend_76 rfl (lv_at hl 0 rfl) ?_
        refine m_get F hin hw 7 (by decide) (by decide +kernel) rfl dX10_lend_77 ?_
        refine bi_iconst F dX10_lend_80 ?_
        refine lv_iload_n F.1 F.2.1 dX10_lend_81 rfl (lv_at hl 1 rfl) ?_
        refine bi_imul F dX10_lend_82 ?_
        have h5 : A9 5 = A 5 := by subst_vars; rfl
        have h5d : A9 5 (2 * d) = A 5 (2 * d) := by rw [h5]
        refine m_ld F hw 5 10 rfl (by decide) (by omega) dX10_lend_83 ?_
        have f_10 : A9 5 (2 * d) = A8 5 (2 * d) := by rw [← eA9, st2_n (by decide)]
        refine bi_imul F dX10_lend_84 ?_
        refine bi_iadd F dX10_lend_85 ?_
        refine bi_iconst F dX10_lend_86 ?_
        refine bi_iadd F dX10_lend_87 ?_
        refine m_ld F hw 11 35 rfl (by decide) (by omega) dX10_lend_88 ?_
        have f_11 : A9 11 (1 + (3 * (A9 5 (2 * d))) + 2) = A8 11 (1 + (3 * (A9 5 (2 * d))) + 2) ∨ 1 + (3 * (A9 5 (2 * d))) + 2 = 25 + (2 * d) := by rw [← eA9]; exact st2_or
        refine m_st F hw 11 35 rfl (by decide) (by omega) dX10_lend_89 (fun H locs hw => ?_)
        generalize eA12 : st2 A9 11 (25 + (2 * d) + 1) (A9 11 (1 + (3 * (A9 5 (2 * d))) + 2)) = A12 at hw
        have hrow : A12 11 = mLendF A d x := by subst_vars; unfold mLendF; (show up1 (up1 (A 11) (25 + 2 * d) x) (25 + 2 * d + 1) (up1 (A 11) (25 + 2 * d) x (1 + 3 * A 5 (2 * d) + 2)) = _); rw [up1_n (show 1 + 3 * A 5 (2 * d) + 2 ≠ 25 + 2 * d by omega)]
        have hl13 : A12 1 = A 1 := by subst_vars; rfl
        have hAl : A12 = stA (ndA I A) 11 (mLendF A d x) := by rw [← hrow]; subst_vars; unfold st2; rw [stA_2]; rfl
        refine bi_iconst F dX10_lend_90 ?_
        refine lv_istore_n (lv' := [(3, .int (iI 0)), (0, .ref (eO E 0)), (1, .int (iI d)), (2, .int (iI x))]) F.1 F.2.1 dX10_lend_91 rfl hl (by decide) rfl (fun ls hl => ?_)
        refine bi_iconst F dX10_lend_92 ?_
        refine lv_istore (lv' := [(4, .int (iI 0)), (3, .int (iI 0)), (0, .ref (eO E 0)), (1, .int (iI d)), (2, .int (iI x))]) F.1 F.2.1 dX10_lend_93 hl (by decide) rfl (fun ls hl => ?_)
        have loop_95 : ∀ (nf : Nat) (a : Int) (k : Int) (H : Heap) (locs : List Loc) (ls : Array Slot) (hk : 0 ≤ k ∧ k ≤ A 1 3) (ha : a = mOpen (mLendF A d x) k.toNat) (hw : gH E A0 H0 s (mW E I7 A12) H locs) (hl : lv_has ls 5 [(4, .int (iI k)), (3, .int (iI a)), (0, .ref (eO E 0)), (1, .int (iI d)), (2, .int (iI x))]) (hnf : (A 1 3 - k).toNat < nf), W p l e ({ frames := 2, cells := 0, slots := 0, locals := 46 } : Room) s m args below meth c H locs 0 0 Q (F0 m 95 ls []) := by
          intro nf
          induction nf with
          | zero =>
            intro a k H locs ls hk ha hw hl hnf
            exact absurd hnf (Nat.not_lt_zero _)
          | succ nf ih_95 =>
            intro a k H locs ls hk ha hw hl hnf
            refine lv_iload F.1 F.2.1 dX10_lend_95 (lv_at hl 0 rfl) ?_
            refine lv_aload_n F.1 F.2.1 dX10_lend_97 rfl (lv_at hl 2 rfl) ?_
            refine m_get F hin hw 3 (by decide) (by decide +kernel) rfl dX10_lend_98 ?_
            refine bi_iconst F dX10_lend_101 ?_
            have hq3 : A12 1 3 = A 1 3 := by rw [hl13]
            refine m_ld F hw 1 4 rfl (by decide) (by omega) dX10_lend_102 ?_
            have f_13 : A12 1 3 = A9 1 3 := by rw [← eA12, st2_n (by decide)]
            have f_14 : A9 1 3 = A8 1 3 := by rw [← eA9, st2_n (by decide)]
            refine bi_icmp_ge (tgt := 138) F dX10_lend_103 (by decide) (by omega) (fun c_15 => ?_) (fun c_15 => ?_)
            · refine lv_iload_n F.1 F.2.1 dX10_lend_138 rfl (lv_at hl 1 rfl) ?_
              exact hret _ _ _ _ _ _ (by unfold mLendR; rw [if_pos (by omega), if_pos (by omega), if_pos (by omega), ha, show k = A 1 3 by omega]) (mW_c (by unfold mLendI; rw [if_pos (by omega), if_pos (by omega), if_pos (by omega)]; subst_vars; rfl) (by unfold mLendA; rw [if_pos (by omega), if_pos (by omega), if_pos (by omega)]; exact hAl)) hw dX10_lend_139
            · refine lv_iload_n F.1 F.2.1 dX10_lend_106 rfl (lv_at hl 1 rfl) ?_
              have join_130 : ∀ (y : Int) (hj_130 : y = if 0 < mLendF A d x (25 + 2 * k) then iShl 1 k else 0) (H : Heap) (locs : List Loc) (hw : gH E A0 H0 s (mW E I7 A12) H locs), W p l e ({ frames := 2, cells := 0, slots := 0, locals := 46 } : Room) s m args below meth c H locs 0 0 Q (F0 m 130 ls [.int (iI y), .int (iI a)]) := by
                intro y hj_130 H locs hw
                refine bi_ior F dX10_lend_130 ?_
                have f_16 := iOr_r a y
                refine lv_istore_n (lv' := [(3, .int (iI (iOr a y))), (4, .int (iI k)), (0, .ref (eO E 0)), (1, .int (iI d)), (2, .int (iI x))]) F.1 F.2.1 dX10_lend_131 rfl hl (by decide) rfl (fun ls hl => ?_)
                refine lv_iinc (v := iI (k + 1)) (lv' := [(4, .int (iI (k + 1))), (3, .int (iI (iOr a y))), (0, .ref (eO E 0)), (1, .int (iI d)), (2, .int (iI x))]) F.1 F.2.1 dX10_lend_132 hl (k := 1) rfl (iI_add _ _).symm (by decide) rfl (fun ls hl => ?_)
                refine lv_goto (tgt := 95) F.1 F.2.1 dX10_lend_135 (by decide) ?_
                exact ih_95 (iOr a y) (k + 1) H locs ls (by omega) (by rw [ha, hj_130]; exact (fld_s (g := fun a k => iOr a (if 0 < mLendF A d x (25 + 2 * k) then iShl 1 k else 0)) (z := 0) hk.1).symm) hw (lv_sub hl [0, 1, 2, 3, 4] rfl) (by omega)
              refine lv_aload_n F.1 F.2.1 dX10_lend_107 rfl (lv_at hl 2 rfl) ?_
              refine m_get F hin hw 13 (by decide) (by decide +kernel) rfl dX10_lend_108 ?_
              refine bi_bipush F dX10_lend_111 (by decide) ?_
              refine bi_iconst F dX10_lend_113 ?_
              refine lv_iload F.1 F.2.1 dX10_lend_114 (lv_at hl 0 rfl) ?_
              refine bi_imul F dX10_lend_116 ?_
              refine bi_iadd F dX10_lend_117 ?_
              have hg1 : 0 ≤ A12 11 (25 + 2 * k) ∧ A12 11 (25 + 2 * k) ≤ 900000 := by rw [hrow]; unfold mLendF up1; split; exact hf _; split; omega; exact hf _
              refine m_ld F hw 11 35 rfl (by decide) (by omega) dX10_lend_118 ?_
              have f_17 : A12 11 (25 + (2 * k)) = A9 11 (25 + (2 * k)) ∨ 25 + (2 * k) = 25 + (2 * d) + 1 := by rw [← eA12]; exact st2_or
              have f_18 : A9 11 (25 + (2 * k)) = A8 11 (25 + (2 * k)) ∨ 25 + (2 * k) = 25 + (2 * d) := by rw [← eA9]; exact st2_or
              refine bi_if_le (tgt := 129) F dX10_lend_119 (by decide) (by omega) (fun c_19 => ?_) (fun c_19 => ?_)
              · refine bi_iconst F dX10_lend_129 ?_
                exact join_130 0 (by rw [← hrow]; first | rw [if_pos (by omega)] | rw [if_neg (by omega)]) H locs hw
              · refine bi_iconst F dX10_lend_122 ?_
                refine lv_iload F.1 F.2.1 dX10_lend_123 (lv_at hl 0 rfl) ?_
                refine bi_ishl F dX10_lend_125 ?_
                have f_20 := iShl_r 1 k
                refine lv_goto (tgt := 130) F.1 F.2.1 dX10_lend_126 (by decide) ?_
                exact join_130 (iShl 1 k) (by rw [← hrow]; first | rw [if_pos (by omega)] | rw [if_neg (by omega)]) H locs hw
        exact loop_95 ((A 1 3 - 0 : Int).toNat + 1) 0 0 H locs ls (by omega) (rfl) hw (lv_sub hl [0, 1, 2, 3, 4] rfl) (by omega)
      · refine bi_ldc F (-1000000003) (by decide +kernel) rfl dX10_lend_39 ?_
        exact hret _ _ _ _ _ _ (by unfold mLendR; rw [if_pos (by omega), if_pos (by omega), if_neg (by omega)]) (mW_c (by unfold mLendI; rw [if_pos (by omega), if_pos (by omega), if_neg (by omega)]) (by unfold mLendA; rw [if_pos (by omega), if_pos (by omega), if_neg (by omega)])) hw dX10_lend_41
    · refine bi_if_ne (tgt := 25) F dX10_lend_19 (by decide) (by decide) (fun q => absurd q (by decide)) (fun _ => ?_)
      refine bi_ldc F (-1000000002) (by decide +kernel) rfl dX10_lend_22 ?_
      exact hret _ _ _ _ _ _ (by unfold mLendR; rw [if_pos (by omega), if_neg (by omega)]) (mW_c (by unfold mLendI; rw [if_pos (by omega), if_neg (by omega)]) (by unfold mLendA; rw [if_pos (by omega), if_neg (by omega)])) hw dX10_lend_24
  · refine bi_if_ne (tgt := 11) F dX10_lend_5 (by decide) (by decide) (fun q => absurd q (by decide)) (fun _ => ?_)
    refine bi_ldc F (-1000000001) (by decide +kernel) rfl dX10_lend_8 ?_
    exact hret _ _ _ _ _ _ (by unfold mLendR; rw [if_neg (by omega)]) (mW_c (by unfold mLendI; rw [if_neg (by omega)]) (by unfold mLendA; rw [if_neg (by omega)])) hw dX10_lend_10
set_option maxRecDepth 100000 in
set_option maxHeartbeats 4000000 in
theorem c_undo (l : Launch) (E : Ev) (I : Nat → Int) (A : Nat → Int → Int) (h2 : 0 ≤ I 2 ∧ I 2 ≤ 20) : MetF l yX10_undo wsX10_undo ({ frames := 1, cells := 0, slots := 0, locals := 25 } : Room) E [.ref (eO E 0)] (mW E I A) (mW E (if I 2 = 0 then I else st1 I 2 (I 2 - 1)) (if I 2 = 0 then A else stA A 11 (fun k => A 13 (35 * (I 2 - 1) + k)))) (if I 2 = 0 then -1000000003 else I 2 - 1) := by
  have hin : ∀ w ∈ wsX100, w ∈ wsX10_undo := fun w h => in_tail h
  refine met_F (cc := cX10_undo) (nL := 1) (by decide) rfl (Nat.le_of_ble_eq_true rfl) ?_
  intro p e s m args below meth c Q H0 A0 H locs ls F hw hl hret
  have F : CallFix p m c cX10_undo 1 s args wsX10_undo RX10 := F
  have hl : lv_has ls 1 [(0, .ref (eO E 0))] := hl
  refine lv_aload_n F.1 F.2.1 dX10_undo_0 rfl (lv_at hl 0 rfl) ?_
  refine m_get F hin hw 16 (by decide) (by decide +kernel) rfl dX10_undo_1 ?_
  refine bi_if_ne (tgt := 10) F dX10_undo_4 (by decide) (by omega) (fun c_1 => ?_) (fun c_1 => ?_)
  · refine lv_aload_n F.1 F.2.1 dX10_undo_10 rfl (lv_at hl 0 rfl) ?_
    refine lv_dup F.1 F.2.1 dX10_undo_11 rfl ?_
    refine m_get F hin hw 16 (by decide) (by decide +kernel) rfl dX10_undo_12 ?_
    refine bi_iconst F dX10_undo_15 ?_
    refine bi_isub F dX10_undo_16 ?_
    refine m_put F hin hw 16 2 (by decide) (by decide +kernel) rfl (by decide +kernel) rfl dX10_undo_17 (fun H locs hw => ?_)
    generalize eI2 : st1 I 2 (I 2 - 1) = I2 at hw
    refine lv_aload_n F.1 F.2.1 dX10_undo_20 rfl (lv_at hl 0 rfl) ?_
    refine m_get F hin hw 15 (by decide) (by decide +kernel) rfl dX10_undo_21 ?_
    refine bi_bipush F dX10_undo_24 (by decide) ?_
    refine lv_aload_n F.1 F.2.1 dX10_undo_26 rfl (lv_at hl 0 rfl) ?_
    refine m_get F hin hw 16 (by decide) (by decide +kernel) rfl dX10_undo_27 ?_
    have f_3 : I2 2 = I 2 - 1 := by rw [← eI2]; exact st1_s
    refine bi_imul F dX10_undo_30 ?_
    refine lv_aload_n F.1 F.2.1 dX10_undo_31 rfl (lv_at hl 0 rfl) ?_
    refine m_get F hin hw 13 (by decide) (by decide +kernel) rfl dX10_undo_32 ?_
    refine bi_iconst F dX10_undo_35 ?_
    refine bi_bipush F dX10_undo_36 (by decide) ?_
    have hI2 : I2 2 = I 2 - 1 := by subst_vars; exact st1_s
    refine calls_G (As := [.ref (eA E 13), .int (iI (35 * (I2 2))), .ref (eA E 11), .int (iI 0), .int (iI 35)]) (rest := []) F (c_copies l E I2 A 13 (35 * (I2 2)) 11 0 35 700 35 rfl rfl (by decide) (by decide) (by decide) (by omega) (by omega) (by omega) (by omega)) (va_cwS 5 F.2.2.2.2 gX10_undo_X10_copies rfl rfl rfl (by decide +kernel) ⟨Nat.le_of_ble_eq_true rfl, Nat.le_of_ble_eq_true rfl⟩) hw rfl hl.1 rfl (Nat.le_of_ble_eq_true rfl) dX10_undo_38 ⟨Nat.zero_le _, Nat.zero_le _⟩ (fun H locs hw => ?_)
    generalize eA4 : stA A 11 (cpI (A 13) (A 11) (35 * (I2 2)) 0 35) = A4 at hw
    have hw := m_norm hw 11 35 (by decide) rfl (fun k => A 13 (35 * (I 2 - 1) + k)) (fun k hk => by subst_vars; rw [stA_s]; unfold cpI; rw [if_pos (by omega)]; show A 13 _ = A 13 _; congr 1; rw [st1_s]; omega)
    generalize eA5 : stA A4 11 (fun k => A 13 (35 * (I 2 - 1) + k)) = A5 at hw
    refine lv_aload_n F.1 F.2.1 dX10_undo_41 rfl (lv_at hl 0 rfl) ?_
    refine m_get F hin hw 16 (by decide) (by decide +kernel) rfl dX10_undo_42 ?_
    have f_6 : I2 2 = I 2 - 1 := by rw [← eI2]; exact st1_s
    exact hret _ _ _ _ _ _ (by rw [if_neg (by omega)]; omega) (mW_c (by rw [if_neg (by omega)]; subst_vars; rfl) (by rw [if_neg (by omega)]; subst_vars; rw [stA_2])) hw dX10_undo_45
  · refine bi_ldc F (-1000000003) (by decide +kernel) rfl dX10_undo_7 ?_
    exact hret _ _ _ _ _ _ (by rw [if_pos (by omega)]) (mW_c (by rw [if_pos (by omega)]) (by rw [if_pos (by omega)])) hw dX10_undo_9
set_option maxRecDepth 100000 in
set_option maxHeartbeats 4000000 in
theorem c_keep (l : Launch) (E : Ev) (I : Nat → Int) (A : Nat → Int → Int) (i : Int) (hi : -2147483648 ≤ i ∧ i ≤ 2147483647) : MetF l yX10_keep wsX10_keep ({ frames := 1, cells := 0, slots := 0, locals := 25 } : Room) E [.ref (eO E 0), .int (iI i)] (mW E I A) (mW E (if 0 ≤ i ∧ i ≤ 1 then st1 I 2 0 else I) (if 0 ≤ i ∧ i ≤ 1 then st2 (st2 (stA A 14 (cpI (A 11) (A 14) 0 (35 * i) 35)) 15 i (I 3)) 21 i 1 else A)) (if 0 ≤ i ∧ i ≤ 1 then 1 else -1000000001) := by
  have hin : ∀ w ∈ wsX100, w ∈ wsX10_keep := fun w h => in_tail h
  refine met_F (cc := cX10_keep) (nL := 2) (by decide) rfl (Nat.le_of_ble_eq_true rfl) ?_
  intro p e s m args below meth c Q H0 A0 H locs ls F hw hl hret
  have F : CallFix p m c cX10_keep 2 s args wsX10_keep RX10 := F
  have hl : lv_has ls 2 [(0, .ref (eO E 0)), (1, .int (iI i))] := hl
  refine lv_iload_n F.1 F.2.1 dX10_keep_0 rfl (lv_at hl 1 rfl) ?_
  refine bi_iconst F dX10_keep_1 ?_
  refine bi_iconst F dX10_keep_2 ?_
  refine calls_P0 (As := [.int (iI i), .int (iI 0), .int (iI 1)]) (rest := []) F (c_in l E i 0 1 (by omega) (by omega) (by omega)) (va_cwS 3 F.2.2.2.2 gX10_keep_X10_in rfl rfl rfl (by decide +kernel) ⟨Nat.le_of_ble_eq_true rfl, Nat.le_of_ble_eq_true rfl⟩) hw rfl hl.1 rfl (Nat.le_of_ble_eq_true rfl) dX10_keep_3 ⟨Nat.zero_le _, Nat.zero_le _⟩ (fun q_1 H locs hw => ?_) (fun q_1 H locs hw => ?_)
  · refine bi_if_ne (tgt := 12) F dX10_keep_6 (by decide) (by decide) (fun _ => ?_) (fun q => absurd q (by decide))
    refine lv_aload_n F.1 F.2.1 dX10_keep_12 rfl (lv_at hl 0 rfl) ?_
    refine m_get F hin hw 13 (by decide) (by decide +kernel) rfl dX10_keep_13 ?_
    refine bi_iconst F dX10_keep_16 ?_
    refine lv_aload_n F.1 F.2.1 dX10_keep_17 rfl (lv_at hl 0 rfl) ?_
    refine m_get F hin hw 17 (by decide) (by decide +kernel) rfl dX10_keep_18 ?_
    refine bi_bipush F dX10_keep_21 (by decide) ?_
    refine lv_iload_n F.1 F.2.1 dX10_keep_23 rfl (lv_at hl 1 rfl) ?_
    refine bi_imul F dX10_keep_24 ?_
    refine bi_bipush F dX10_keep_25 (by decide) ?_
    refine calls_G (As := [.ref (eA E 11), .int (iI 0), .ref (eA E 14), .int (iI (35 * i)), .int (iI 35)]) (rest := []) F (c_copies l E I A 11 0 14 (35 * i) 35 35 70 rfl rfl (by decide) (by decide) (by decide) (by omega) (by omega) (by omega) (by omega)) (va_cwS 5 F.2.2.2.2 gX10_keep_X10_copies rfl rfl rfl (by decide +kernel) ⟨Nat.le_of_ble_eq_true rfl, Nat.le_of_ble_eq_true rfl⟩) hw rfl hl.1 rfl (Nat.le_of_ble_eq_true rfl) dX10_keep_27 ⟨Nat.zero_le _, Nat.zero_le _⟩ (fun H locs hw => ?_)
    generalize eA3 : stA A 14 (cpI (A 11) (A 14) 0 (35 * i) 35) = A3 at hw
    refine lv_aload_n F.1 F.2.1 dX10_keep_30 rfl (lv_at hl 0 rfl) ?_
    refine m_get F hin hw 18 (by decide) (by decide +kernel) rfl dX10_keep_31 ?_
    refine lv_iload_n F.1 F.2.1 dX10_keep_34 rfl (lv_at hl 1 rfl) ?_
    refine lv_aload_n F.1 F.2.1 dX10_keep_35 rfl (lv_at hl 0 rfl) ?_
    refine m_get F hin hw 20 (by decide) (by decide +kernel) rfl dX10_keep_36 ?_
    refine m_st F hw 15 2 rfl (by decide) (by omega) dX10_keep_39 (fun H locs hw => ?_)
    generalize eA4 : st2 A3 15 i (I 3) = A4 at hw
    refine lv_aload_n F.1 F.2.1 dX10_keep_40 rfl (lv_at hl 0 rfl) ?_
    refine m_get F hin hw 19 (by decide) (by decide +kernel) rfl dX10_keep_41 ?_
    refine lv_iload_n F.1 F.2.1 dX10_keep_44 rfl (lv_at hl 1 rfl) ?_
    refine bi_iconst F dX10_keep_45 ?_
    refine m_zst F hw (by omega) (by decide) dX10_keep_46 (fun H locs hw => ?_)
    generalize eA5 : st2 A4 21 i 1 = A5 at hw
    refine lv_aload_n F.1 F.2.1 dX10_keep_47 rfl (lv_at hl 0 rfl) ?_
    refine bi_iconst F dX10_keep_48 ?_
    refine m_put F hin hw 16 2 (by decide) (by decide +kernel) rfl (by decide +kernel) rfl dX10_keep_49 (fun H locs hw => ?_)
    generalize eI6 : st1 I 2 0 = I6 at hw
    refine bi_iconst F dX10_keep_52 ?_
    exact hret _ _ _ _ _ _ (by first | rw [if_pos (by omega)] | rw [if_neg (by omega)]) (mW_c (by rw [if_pos (by omega)]; subst_vars; rfl) (by rw [if_pos (by omega)]; subst_vars; rfl)) hw dX10_keep_53
  · refine bi_if_ne (tgt := 12) F dX10_keep_6 (by decide) (by decide) (fun q => absurd q (by decide)) (fun _ => ?_)
    refine bi_ldc F (-1000000001) (by decide +kernel) rfl dX10_keep_9 ?_
    exact hret _ _ _ _ _ _ (by first | rw [if_pos (by omega)] | rw [if_neg (by omega)]) (mW_c (by rw [if_neg (by omega)]) (by rw [if_neg (by omega)])) hw dX10_keep_11
set_option maxRecDepth 100000 in
set_option maxHeartbeats 4000000 in
theorem c_goBack (l : Launch) (E : Ev) (I : Nat → Int) (A : Nat → Int → Int) (i : Int) (hi : -2147483648 ≤ i ∧ i ≤ 2147483647) (hz : 0 ≤ A 21 i ∧ A 21 i ≤ 1) : MetF l yX10_goBack wsX10_goBack ({ frames := 1, cells := 0, slots := 0, locals := 25 } : Room) E [.ref (eO E 0), .int (iI i)] (mW E I A) (mW E (if 0 ≤ i ∧ i ≤ 1 then (if A 21 i = 0 then I else st1 (st1 I 3 (A 15 i)) 2 0) else I) (if 0 ≤ i ∧ i ≤ 1 then (if A 21 i = 0 then A else stA A 11 (fun k => A 14 (35 * i + k))) else A)) (if 0 ≤ i ∧ i ≤ 1 then (if A 21 i = 0 then -1000000003 else 1) else -1000000001) := by
  have hin : ∀ w ∈ wsX100, w ∈ wsX10_goBack := fun w h => in_tail h
  refine met_F (cc := cX10_goBack) (nL := 2) (by decide) rfl (Nat.le_of_ble_eq_true rfl) ?_
  intro p e s m args below meth c Q H0 A0 H locs ls F hw hl hret
  have F : CallFix p m c cX10_goBack 2 s args wsX10_goBack RX10 := F
  have hl : lv_has ls 2 [(0, .ref (eO E 0)), (1, .int (iI i))] := hl
  refine lv_iload_n F.1 F.2.1 dX10_goBack_0 rfl (lv_at hl 1 rfl) ?_
  refine bi_iconst F dX10_goBack_1 ?_
  refine bi_iconst F dX10_goBack_2 ?_
  refine calls_P0 (As := [.int (iI i), .int (iI 0), .int (iI 1)]) (rest := []) F (c_in l E i 0 1 (by omega) (by omega) (by omega)) (va_cwS 3 F.2.2.2.2 gX10_goBack_X10_in rfl rfl rfl (by decide +kernel) ⟨Nat.le_of_ble_eq_true rfl, Nat.le_of_ble_eq_true rfl⟩) hw rfl hl.1 rfl (Nat.le_of_ble_eq_true rfl) dX10_goBack_3 ⟨Nat.zero_le _, Nat.zero_le _⟩ (fun q_1 H locs hw => ?_) (fun q_1 H locs hw => ?_)
  · refine bi_if_ne (tgt := 12) F dX10_goBack_6 (by decide) (by decide) (fun _ => ?_) (fun q => absurd q (by decide))
    refine lv_aload_n F.1 F.2.1 dX10_goBack_12 rfl (lv_at hl 0 rfl) ?_
    refine m_get F hin hw 19 (by decide) (by decide +kernel) rfl dX10_goBack_13 ?_
    refine lv_iload_n F.1 F.2.1 dX10_goBack_16 rfl (lv_at hl 1 rfl) ?_
    refine m_zld F hw (by omega) dX10_goBack_17 ?_
    refine bi_if_ne (tgt := 24) F dX10_goBack_18 (by decide) (by omega) (fun c_3 => ?_) (fun c_3 => ?_)
    · refine lv_aload_n F.1 F.2.1 dX10_goBack_24 rfl (lv_at hl 0 rfl) ?_
      refine m_get F hin hw 17 (by decide) (by decide +kernel) rfl dX10_goBack_25 ?_
      refine bi_bipush F dX10_goBack_28 (by decide) ?_
      refine lv_iload_n F.1 F.2.1 dX10_goBack_30 rfl (lv_at hl 1 rfl) ?_
      refine bi_imul F dX10_goBack_31 ?_
      refine lv_aload_n F.1 F.2.1 dX10_goBack_32 rfl (lv_at hl 0 rfl) ?_
      refine m_get F hin hw 13 (by decide) (by decide +kernel) rfl dX10_goBack_33 ?_
      refine bi_iconst F dX10_goBack_36 ?_
      refine bi_bipush F dX10_goBack_37 (by decide) ?_
      refine calls_G (As := [.ref (eA E 14), .int (iI (35 * i)), .ref (eA E 11), .int (iI 0), .int (iI 35)]) (rest := []) F (c_copies l E I A 14 (35 * i) 11 0 35 70 35 rfl rfl (by decide) (by decide) (by decide) (by omega) (by omega) (by omega) (by omega)) (va_cwS 5 F.2.2.2.2 gX10_goBack_X10_copies rfl rfl rfl (by decide +kernel) ⟨Nat.le_of_ble_eq_true rfl, Nat.le_of_ble_eq_true rfl⟩) hw rfl hl.1 rfl (Nat.le_of_ble_eq_true rfl) dX10_goBack_39 ⟨Nat.zero_le _, Nat.zero_le _⟩ (fun H locs hw => ?_)
      generalize eA4 : stA A 11 (cpI (A 14) (A 11) (35 * i) 0 35) = A4 at hw
      have hw := m_norm hw 11 35 (by decide) rfl (fun k => A 14 (35 * i + k)) (fun k hk => by subst_vars; rw [stA_s]; unfold cpI; rw [if_pos (by omega)]; congr 1; omega)
      generalize eA5 : stA A4 11 (fun k => A 14 (35 * i + k)) = A5 at hw
      refine lv_aload_n F.1 F.2.1 dX10_goBack_42 rfl (lv_at hl 0 rfl) ?_
      refine lv_aload_n F.1 F.2.1 dX10_goBack_43 rfl (lv_at hl 0 rfl) ?_
      refine m_get F hin hw 18 (by decide) (by decide +kernel) rfl dX10_goBack_44 ?_
      refine lv_iload_n F.1 F.2.1 dX10_goBack_47 rfl (lv_at hl 1 rfl) ?_
      refine m_ld F hw 15 2 rfl (by decide) (by omega) dX10_goBack_48 ?_
      refine m_put F hin hw 20 3 (by decide) (by decide +kernel) rfl (by decide +kernel) rfl dX10_goBack_49 (fun H locs hw => ?_)
      generalize eI6 : st1 I 3 (A5 15 i) = I6 at hw
      refine lv_aload_n F.1 F.2.1 dX10_goBack_52 rfl (lv_at hl 0 rfl) ?_
      refine bi_iconst F dX10_goBack_53 ?_
      refine m_put F hin hw 16 2 (by decide) (by decide +kernel) rfl (by decide +kernel) rfl dX10_goBack_54 (fun H locs hw => ?_)
      generalize eI7 : st1 I6 2 0 = I7 at hw
      refine bi_iconst F dX10_goBack_57 ?_
      exact hret _ _ _ _ _ _ (by rw [if_pos (by omega), if_neg (by omega)]) (mW_c (by rw [if_pos (by omega), if_neg (by omega)]; subst_vars; rfl) (by rw [if_pos (by omega), if_neg (by omega)]; subst_vars; rw [stA_2])) hw dX10_goBack_58
    · refine bi_ldc F (-1000000003) (by decide +kernel) rfl dX10_goBack_21 ?_
      exact hret _ _ _ _ _ _ (by rw [if_pos (by omega), if_pos (by omega)]) (mW_c (by rw [if_pos (by omega), if_pos (by omega)]) (by rw [if_pos (by omega), if_pos (by omega)])) hw dX10_goBack_23
  · refine bi_if_ne (tgt := 12) F dX10_goBack_6 (by decide) (by decide) (fun q => absurd q (by decide)) (fun _ => ?_)
    refine bi_ldc F (-1000000001) (by decide +kernel) rfl dX10_goBack_9 ?_
    exact hret _ _ _ _ _ _ (by rw [if_neg (by omega)]) (mW_c (by rw [if_neg (by omega)]) (by rw [if_neg (by omega)])) hw dX10_goBack_11
set_option maxRecDepth 100000 in
set_option maxHeartbeats 4000000 in
theorem c_say (l : Launch) (E : Ev) (I : Nat → Int) (A : Nat → Int → Int) (q : Int) (x : Int) (hq : -2147483648 ≤ q ∧ q ≤ 2147483647) (hx : -2147483648 ≤ x ∧ x ≤ 2147483647) (hok : mOk A) (h4 : 0 ≤ I 4 ∧ I 4 ≤ 6) : MetF l yX10_say wsX10_say ({ frames := 2, cells := 0, slots := 0, locals := 43 } : Room) E [.ref (eO E 0), .int (iI q), .int (iI x)] (mW E I A) (mW E (mSayI I A q x) (mSayA I A q x)) (mSayR I A q x) := by
  have hin : ∀ w ∈ wsX100, w ∈ wsX10_say := fun w h => in_tail h
  refine met_F (cc := cX10_say) (nL := 3) (by decide) rfl (Nat.le_of_ble_eq_true rfl) ?_
  intro p e s m args below meth c Q H0 A0 H locs ls F hw hl hret
  have F : CallFix p m c cX10_say 3 s args wsX10_say RX10 := F
  have hl : lv_has ls 3 [(0, .ref (eO E 0)), (1, .int (iI q)), (2, .int (iI x))] := hl
  obtain ⟨hV, hWn, hl0, hl1, hl2, hl3, hY, hPl, hPe⟩ := id hok
  refine lv_aload_n F.1 F.2.1 dX10_say_0 rfl (lv_at hl 0 rfl) ?_
  refine lv_iload_n F.1 F.2.1 dX10_say_1 rfl (lv_at hl 1 rfl) ?_
  refine call_P (As := [.int (iI q)]) (rest := []) F (c_isPerson l E I A q (by omega) (by omega)) (cwV 1 F.2.2.2.2 gX10_say_X10_isPerson rfl rfl rfl (by decide +kernel) ⟨Nat.le_of_ble_eq_true rfl, Nat.le_of_ble_eq_true rfl⟩) hw (m_recv hw) rfl hl.1 rfl (Nat.le_of_ble_eq_true rfl) dX10_say_2 ⟨Nat.zero_le _, Nat.zero_le _⟩ (fun q_1 H locs hw => ?_) (fun q_1 H locs hw => ?_)
  · refine bi_if_ne (tgt := 11) F dX10_say_5 (by decide) (by decide) (fun _ => ?_) (fun q => absurd q (by decide))
    refine lv_iload_n F.1 F.2.1 dX10_say_11 rfl (lv_at hl 2 rfl) ?_
    refine bi_iconst F dX10_say_12 ?_
    refine bi_sipush F dX10_say_13 (by decide) ?_
    refine calls_P0 (As := [.int (iI x), .int (iI 0), .int (iI 9999)]) (rest := []) F (c_in l E x 0 9999 (by omega) (by omega) (by omega)) (va_cwS 3 F.2.2.2.2 gX10_say_X10_in rfl rfl rfl (by decide +kernel) ⟨Nat.le_of_ble_eq_true rfl, Nat.le_of_ble_eq_true rfl⟩) hw rfl hl.1 rfl (Nat.le_of_ble_eq_true rfl) dX10_say_16 ⟨Nat.zero_le _, Nat.zero_le _⟩ (fun q_3 H locs hw => ?_) (fun q_3 H locs hw => ?_)
    · refine bi_if_ne (tgt := 25) F dX10_say_19 (by decide) (by decide) (fun _ => ?_) (fun q => absurd q (by decide))
      refine lv_aload_n F.1 F.2.1 dX10_say_25 rfl (lv_at hl 0 rfl) ?_
      refine m_get F hin hw 22 (by decide) (by decide +kernel) rfl dX10_say_26 ?_
      refine bi_bipush F dX10_say_29 (by decide) ?_
      refine bi_icmp_ne (tgt := 37) F dX10_say_31 (by decide) (by omega) (fun c_5 => ?_) (fun c_5 => ?_)
      · refine lv_aload_n F.1 F.2.1 dX10_say_37 rfl (lv_at hl 0 rfl) ?_
        refine m_get F hin hw 21 (by decide) (by decide +kernel) rfl dX10_say_38 ?_
        refine bi_iconst F dX10_say_41 ?_
        refine lv_aload_n F.1 F.2.1 dX10_say_42 rfl (lv_at hl 0 rfl) ?_
        refine m_get F hin hw 22 (by decide) (by decide +kernel) rfl dX10_say_43 ?_
        refine bi_imul F dX10_say_46 ?_
        refine lv_iload_n F.1 F.2.1 dX10_say_47 rfl (lv_at hl 1 rfl) ?_
        refine m_st F hw 16 12 rfl (by decide) (by omega) dX10_say_48 (fun H locs hw => ?_)
        generalize eA6 : st2 A 16 (2 * (I 4)) q = A6 at hw
        refine lv_aload_n F.1 F.2.1 dX10_say_49 rfl (lv_at hl 0 rfl) ?_
        refine m_get F hin hw 21 (by decide) (by decide +kernel) rfl dX10_say_50 ?_
        refine bi_iconst F dX10_say_53 ?_
        refine lv_aload_n F.1 F.2.1 dX10_say_54 rfl (lv_at hl 0 rfl) ?_
        refine m_get F hin hw 22 (by decide) (by decide +kernel) rfl dX10_say_55 ?_
        refine bi_imul F dX10_say_58 ?_
        refine bi_iconst F dX10_say_59 ?_
        refine bi_iadd F dX10_say_60 ?_
        refine lv_iload_n F.1 F.2.1 dX10_say_61 rfl (lv_at hl 2 rfl) ?_
        refine m_st F hw 16 12 rfl (by decide) (by omega) dX10_say_62 (fun H locs hw => ?_)
        generalize eA7 : st2 A6 16 (2 * (I 4) + 1) x = A7 at hw
        refine lv_aload_n F.1 F.2.1 dX10_say_63 rfl (lv_at hl 0 rfl) ?_
        refine lv_dup F.1 F.2.1 dX10_say_64 rfl ?_
        refine m_get F hin hw 22 (by decide) (by decide +kernel) rfl dX10_say_65 ?_
        refine bi_iconst F dX10_say_68 ?_
        refine bi_iadd F dX10_say_69 ?_
        refine m_put F hin hw 22 4 (by decide) (by decide +kernel) rfl (by decide +kernel) rfl dX10_say_70 (fun H locs hw => ?_)
        generalize eI8 : st1 I 4 (I 4 + 1) = I8 at hw
        refine lv_aload_n F.1 F.2.1 dX10_say_73 rfl (lv_at hl 0 rfl) ?_
        refine m_get F hin hw 22 (by decide) (by decide +kernel) rfl dX10_say_74 ?_
        have f_9 : I8 4 = I 4 + 1 := by rw [← eI8]; exact st1_s
        exact hret _ _ _ _ _ _ (by unfold mSayR; rw [if_pos (by omega), if_pos (by omega), if_neg (by omega)]; omega) (mW_c (by unfold mSayI; rw [if_pos (by omega), if_pos (by omega), if_neg (by omega)]; subst_vars; rfl) (by unfold mSayA; rw [if_pos (by omega), if_pos (by omega), if_neg (by omega)]; subst_vars; rfl)) hw dX10_say_77
      · refine bi_ldc F (-1000000004) (by decide +kernel) rfl dX10_say_34 ?_
        exact hret _ _ _ _ _ _ (by unfold mSayR; rw [if_pos (by omega), if_pos (by omega), if_pos (by omega)]) (mW_c (by unfold mSayI; rw [if_pos (by omega), if_pos (by omega), if_pos (by omega)]) (by unfold mSayA; rw [if_pos (by omega), if_pos (by omega), if_pos (by omega)])) hw dX10_say_36
    · refine bi_if_ne (tgt := 25) F dX10_say_19 (by decide) (by decide) (fun q => absurd q (by decide)) (fun _ => ?_)
      refine bi_ldc F (-1000000002) (by decide +kernel) rfl dX10_say_22 ?_
      exact hret _ _ _ _ _ _ (by unfold mSayR; rw [if_pos (by omega), if_neg (by omega)]) (mW_c (by unfold mSayI; rw [if_pos (by omega), if_neg (by omega)]) (by unfold mSayA; rw [if_pos (by omega), if_neg (by omega)])) hw dX10_say_24
  · refine bi_if_ne (tgt := 11) F dX10_say_5 (by decide) (by decide) (fun q => absurd q (by decide)) (fun _ => ?_)
    refine bi_ldc F (-1000000001) (by decide +kernel) rfl dX10_say_8 ?_
    exact hret _ _ _ _ _ _ (by unfold mSayR; rw [if_neg (by omega)]) (mW_c (by unfold mSayI; rw [if_neg (by omega)]) (by unfold mSayA; rw [if_neg (by omega)])) hw dX10_say_10
set_option maxRecDepth 100000 in
set_option maxHeartbeats 4000000 in
theorem c_write (l : Launch) (E : Ev) (I : Nat → Int) (A : Nat → Int → Int) (q : Int) (x : Int) (hq : -2147483648 ≤ q ∧ q ≤ 2147483647) (hx : -2147483648 ≤ x ∧ x ≤ 2147483647) (hok : mOk A) (h4 : 0 ≤ I 5 ∧ I 5 ≤ 15) : MetF l yX10_write wsX10_write ({ frames := 2, cells := 0, slots := 0, locals := 43 } : Room) E [.ref (eO E 0), .int (iI q), .int (iI x)] (mW E I A) (mW E (mWrI I A q x) (mWrA I A q x)) (mWrR I A q x) := by
  have hin : ∀ w ∈ wsX100, w ∈ wsX10_write := fun w h => in_tail h
  refine met_F (cc := cX10_write) (nL := 3) (by decide) rfl (Nat.le_of_ble_eq_true rfl) ?_
  intro p e s m args below meth c Q H0 A0 H locs ls F hw hl hret
  have F : CallFix p m c cX10_write 3 s args wsX10_write RX10 := F
  have hl : lv_has ls 3 [(0, .ref (eO E 0)), (1, .int (iI q)), (2, .int (iI x))] := hl
  obtain ⟨hV, hWn, hl0, hl1, hl2, hl3, hY, hPl, hPe⟩ := id hok
  refine lv_aload_n F.1 F.2.1 dX10_write_0 rfl (lv_at hl 0 rfl) ?_
  refine lv_iload_n F.1 F.2.1 dX10_write_1 rfl (lv_at hl 1 rfl) ?_
  refine call_P (As := [.int (iI q)]) (rest := []) F (c_isVillage l E I A q (by omega) (by omega)) (cwV 1 F.2.2.2.2 gX10_write_X10_isVillage rfl rfl rfl (by decide +kernel) ⟨Nat.le_of_ble_eq_true rfl, Nat.le_of_ble_eq_true rfl⟩) hw (m_recv hw) rfl hl.1 rfl (Nat.le_of_ble_eq_true rfl) dX10_write_2 ⟨Nat.zero_le _, Nat.zero_le _⟩ (fun q_1 H locs hw => ?_) (fun q_1 H locs hw => ?_)
  · refine bi_if_ne (tgt := 11) F dX10_write_5 (by decide) (by decide) (fun _ => ?_) (fun q => absurd q (by decide))
    refine lv_iload_n F.1 F.2.1 dX10_write_11 rfl (lv_at hl 2 rfl) ?_
    refine bi_iconst F dX10_write_12 ?_
    refine bi_sipush F dX10_write_13 (by decide) ?_
    refine calls_P0 (As := [.int (iI x), .int (iI 0), .int (iI 9999)]) (rest := []) F (c_in l E x 0 9999 (by omega) (by omega) (by omega)) (va_cwS 3 F.2.2.2.2 gX10_write_X10_in rfl rfl rfl (by decide +kernel) ⟨Nat.le_of_ble_eq_true rfl, Nat.le_of_ble_eq_true rfl⟩) hw rfl hl.1 rfl (Nat.le_of_ble_eq_true rfl) dX10_write_16 ⟨Nat.zero_le _, Nat.zero_le _⟩ (fun q_3 H locs hw => ?_) (fun q_3 H locs hw => ?_)
    · refine bi_if_ne (tgt := 25) F dX10_write_19 (by decide) (by decide) (fun _ => ?_) (fun q => absurd q (by decide))
      refine lv_aload_n F.1 F.2.1 dX10_write_25 rfl (lv_at hl 0 rfl) ?_
      refine m_get F hin hw 24 (by decide) (by decide +kernel) rfl dX10_write_26 ?_
      refine bi_bipush F dX10_write_29 (by decide) ?_
      refine bi_icmp_ne (tgt := 37) F dX10_write_31 (by decide) (by omega) (fun c_5 => ?_) (fun c_5 => ?_)
      · refine lv_aload_n F.1 F.2.1 dX10_write_37 rfl (lv_at hl 0 rfl) ?_
        refine m_get F hin hw 23 (by decide) (by decide +kernel) rfl dX10_write_38 ?_
        refine bi_iconst F dX10_write_41 ?_
        refine lv_aload_n F.1 F.2.1 dX10_write_42 rfl (lv_at hl 0 rfl) ?_
        refine m_get F hin hw 24 (by decide) (by decide +kernel) rfl dX10_write_43 ?_
        refine bi_imul F dX10_write_46 ?_
        refine lv_iload_n F.1 F.2.1 dX10_write_47 rfl (lv_at hl 1 rfl) ?_
        refine m_st F hw 17 30 rfl (by decide) (by omega) dX10_write_48 (fun H locs hw => ?_)
        generalize eA6 : st2 A 17 (2 * (I 5)) q = A6 at hw
        refine lv_aload_n F.1 F.2.1 dX10_write_49 rfl (lv_at hl 0 rfl) ?_
        refine m_get F hin hw 23 (by decide) (by decide +kernel) rfl dX10_write_50 ?_
        refine bi_iconst F dX10_write_53 ?_
        refine lv_aload_n F.1 F.2.1 dX10_write_54 rfl (lv_at hl 0 rfl) ?_
        refine m_get F hin hw 24 (by decide) (by decide +kernel) rfl dX10_write_55 ?_
        refine bi_imul F dX10_write_58 ?_
        refine bi_iconst F dX10_write_59 ?_
        refine bi_iadd F dX10_write_60 ?_
        refine lv_iload_n F.1 F.2.1 dX10_write_61 rfl (lv_at hl 2 rfl) ?_
        refine m_st F hw 17 30 rfl (by decide) (by omega) dX10_write_62 (fun H locs hw => ?_)
        generalize eA7 : st2 A6 17 (2 * (I 5) + 1) x = A7 at hw
        refine lv_aload_n F.1 F.2.1 dX10_write_63 rfl (lv_at hl 0 rfl) ?_
        refine lv_dup F.1 F.2.1 dX10_write_64 rfl ?_
        refine m_get F hin hw 24 (by decide) (by decide +kernel) rfl dX10_write_65 ?_
        refine bi_iconst F dX10_write_68 ?_
        refine bi_iadd F dX10_write_69 ?_
        refine m_put F hin hw 24 5 (by decide) (by decide +kernel) rfl (by decide +kernel) rfl dX10_write_70 (fun H locs hw => ?_)
        generalize eI8 : st1 I 5 (I 5 + 1) = I8 at hw
        refine lv_aload_n F.1 F.2.1 dX10_write_73 rfl (lv_at hl 0 rfl) ?_
        refine m_get F hin hw 24 (by decide) (by decide +kernel) rfl dX10_write_74 ?_
        have f_9 : I8 5 = I 5 + 1 := by rw [← eI8]; exact st1_s
        exact hret _ _ _ _ _ _ (by unfold mWrR; rw [if_pos (by omega), if_pos (by omega), if_neg (by omega)]; omega) (mW_c (by unfold mWrI; rw [if_pos (by omega), if_pos (by omega), if_neg (by omega)]; subst_vars; rfl) (by unfold mWrA; rw [if_pos (by omega), if_pos (by omega), if_neg (by omega)]; subst_vars; rfl)) hw dX10_write_77
      · refine bi_ldc F (-1000000004) (by decide +kernel) rfl dX10_write_34 ?_
        exact hret _ _ _ _ _ _ (by unfold mWrR; rw [if_pos (by omega), if_pos (by omega), if_pos (by omega)]) (mW_c (by unfold mWrI; rw [if_pos (by omega), if_pos (by omega), if_pos (by omega)]) (by unfold mWrA; rw [if_pos (by omega), if_pos (by omega), if_pos (by omega)])) hw dX10_write_36
    · refine bi_if_ne (tgt := 25) F dX10_write_19 (by decide) (by decide) (fun q => absurd q (by decide)) (fun _ => ?_)
      refine bi_ldc F (-1000000002) (by decide +kernel) rfl dX10_write_22 ?_
      exact hret _ _ _ _ _ _ (by unfold mWrR; rw [if_pos (by omega), if_neg (by omega)]) (mW_c (by unfold mWrI; rw [if_pos (by omega), if_neg (by omega)]) (by unfold mWrA; rw [if_pos (by omega), if_neg (by omega)])) hw dX10_write_24
  · refine bi_if_ne (tgt := 11) F dX10_write_5 (by decide) (by decide) (fun q => absurd q (by decide)) (fun _ => ?_)
    refine bi_ldc F (-1000000001) (by decide +kernel) rfl dX10_write_8 ?_
    exact hret _ _ _ _ _ _ (by unfold mWrR; rw [if_neg (by omega)]) (mW_c (by unfold mWrI; rw [if_neg (by omega)]) (by unfold mWrA; rw [if_neg (by omega)])) hw dX10_write_10
set_option maxRecDepth 100000 in
set_option maxHeartbeats 4000000 in
theorem c_judge (l : Launch) (E : Ev) (I : Nat → Int) (A : Nat → Int → Int) (h5 : 0 ≤ I 5 ∧ I 5 ≤ 15) (hb : ∀ k, 0 ≤ k ∧ k < I 5 → 0 ≤ A 17 (2 * k) ∧ A 17 (2 * k) < 4) (hb2 : ∀ k, 0 ≤ A 17 k ∧ A 17 k ≤ 9999) (hok : mOk A) (hr : rOk (A 1 1) (A 1 2) (A 11) 500000) : MetN l yX10_judge wsX10_judge ({ frames := 1, cells := 0, slots := 0, locals := 23 } : Room) E [.ref (eO E 0)] (mW E I A) (mJud (A 11) (A 17) 0 (I 5).toNat) := by
  have hin : ∀ w ∈ wsX100, w ∈ wsX10_judge := fun w h => in_tail h
  refine met_N (cc := cX10_judge) (nL := 2) (by decide) rfl (Nat.le_of_ble_eq_true rfl) ?_
  intro p e s m args below meth c Q H0 A0 H locs ls F hw hl hret
  have F : CallFix p m c cX10_judge 2 s args wsX10_judge RX10 := F
  have hl : lv_has ls 2 [(0, .ref (eO E 0))] := hl
  obtain ⟨hV, hWn, hl0, hl1, hl2, hl3, hY, hPl, hPe⟩ := id hok
  have hA := hV
  have hf : ∀ k, 0 ≤ A 11 k ∧ A 11 k ≤ 900000 := (rOk_w hr (by decide)).1
  refine bi_iconst F dX10_judge_0 ?_
  refine lv_istore_n (lv' := [(1, .int (iI 0)), (0, .ref (eO E 0))]) F.1 F.2.1 dX10_judge_1 rfl hl (by decide) rfl (fun ls hl => ?_)
  have loop_2 : ∀ (nf : Nat) (k : Int) (H : Heap) (locs : List Loc) (ls : Array Slot) (hk : 0 ≤ k ∧ k ≤ I 5) (hj : mJud (A 11) (A 17) 0 (I 5).toNat = mJud (A 11) (A 17) k (I 5 - k).toNat) (hw : gH E A0 H0 s (mW E I A) H locs) (hl : lv_has ls 2 [(1, .int (iI k)), (0, .ref (eO E 0))]) (hnf : (I 5 - k).toNat < nf), W p l e ({ frames := 1, cells := 0, slots := 0, locals := 23 } : Room) s m args below meth c H locs 0 0 Q (F0 m 2 ls []) := by
    intro nf
    induction nf with
    | zero =>
      intro k H locs ls hk hj hw hl hnf
      exact absurd hnf (Nat.not_lt_zero _)
    | succ nf ih_2 =>
      intro k H locs ls hk hj hw hl hnf
      have hjs : k < I 5 → mJud (A 11) (A 17) k (I 5 - k).toNat = if mPole (A 11) (A 17 (2 * k)) = A 17 (2 * k + 1) then mJud (A 11) (A 17) (k + 1) (I 5 - (k + 1)).toNat else k := fun h => by rw [show (I 5 - k).toNat = (I 5 - (k + 1)).toNat + 1 by omega]; rfl
      refine lv_iload_n F.1 F.2.1 dX10_judge_2 rfl (lv_at hl 0 rfl) ?_
      refine lv_aload_n F.1 F.2.1 dX10_judge_3 rfl (lv_at hl 1 rfl) ?_
      refine m_get F hin hw 24 (by decide) (by decide +kernel) rfl dX10_judge_4 ?_
      refine bi_icmp_ge (tgt := 47) F dX10_judge_7 (by decide) (by omega) (fun c_1 => ?_) (fun c_1 => ?_)
      · refine bi_iconst F dX10_judge_47 ?_
        exact hret _ _ _ _ _ (by rw [hj, show (I 5 - k).toNat = 0 by omega]; rfl) hw dX10_judge_48
      · refine lv_aload_n F.1 F.2.1 dX10_judge_10 rfl (lv_at hl 1 rfl) ?_
        refine lv_aload_n F.1 F.2.1 dX10_judge_11 rfl (lv_at hl 1 rfl) ?_
        refine m_get F hin hw 13 (by decide) (by decide +kernel) rfl dX10_judge_12 ?_
        refine lv_aload_n F.1 F.2.1 dX10_judge_15 rfl (lv_at hl 1 rfl) ?_
        refine m_get F hin hw 23 (by decide) (by decide +kernel) rfl dX10_judge_16 ?_
        refine bi_iconst F dX10_judge_19 ?_
        refine lv_iload_n F.1 F.2.1 dX10_judge_20 rfl (lv_at hl 0 rfl) ?_
        refine bi_imul F dX10_judge_21 ?_
        have hb1 := hb k (by omega)
        refine m_ld F hw 17 30 rfl (by decide) (by omega) dX10_judge_22 ?_
        have f_2 := hb2 (2 * k)
        refine call_N (As := [.ref (eA E 11), .int (iI (A 17 (2 * k)))]) (rest := []) F (c_poleOf l E I A 11 (A 17 (2 * k)) rfl (by decide) (by omega) hf) (cwV 2 F.2.2.2.2 gX10_judge_X10_poleOf rfl rfl rfl (by decide +kernel) ⟨Nat.le_of_ble_eq_true rfl, Nat.le_of_ble_eq_true rfl⟩) hw (m_recv hw) rfl hl.1 rfl (Nat.le_of_ble_eq_true rfl) dX10_judge_23 ⟨Nat.zero_le _, Nat.zero_le _⟩ (fun H locs hw => ?_)
        have f_3 := mPole_r (f := A 11) (v := (A 17 (2 * k))) hf
        refine lv_aload_n F.1 F.2.1 dX10_judge_26 rfl (lv_at hl 1 rfl) ?_
        refine m_get F hin hw 23 (by decide) (by decide +kernel) rfl dX10_judge_27 ?_
        refine bi_iconst F dX10_judge_30 ?_
        refine lv_iload_n F.1 F.2.1 dX10_judge_31 rfl (lv_at hl 0 rfl) ?_
        refine bi_imul F dX10_judge_32 ?_
        refine bi_iconst F dX10_judge_33 ?_
        refine bi_iadd F dX10_judge_34 ?_
        refine m_ld F hw 17 30 rfl (by decide) (by omega) dX10_judge_35 ?_
        have f_4 := hb2 (2 * k + 1)
        refine bi_icmp_eq (tgt := 41) F dX10_judge_36 (by decide) (by omega) (fun c_5 => ?_) (fun c_5 => ?_)
        · refine lv_iinc (v := iI (k + 1)) (lv' := [(1, .int (iI (k + 1))), (0, .ref (eO E 0))]) F.1 F.2.1 dX10_judge_41 hl (k := 0) rfl (iI_add _ _).symm (by decide) rfl (fun ls hl => ?_)
          refine lv_goto (tgt := 2) F.1 F.2.1 dX10_judge_44 (by decide) ?_
          exact ih_2 (k + 1) H locs ls (by omega) (by rw [hj, hjs (by omega), if_pos (by omega)]) hw (lv_sub hl [0, 1] rfl) (by omega)
        · refine lv_iload_n F.1 F.2.1 dX10_judge_39 rfl (lv_at hl 0 rfl) ?_
          exact hret _ _ _ _ _ (by rw [hj, hjs (by omega), if_neg (by omega)]) hw dX10_judge_40
  exact loop_2 ((I 5 - 0 : Int).toNat + 1) 0 H locs ls (by omega) (by rw [Int.sub_zero]) hw (lv_sub hl [0, 1] rfl) (by omega)
set_option maxRecDepth 100000 in
set_option maxHeartbeats 4000000 in
theorem c_older (l : Launch) (E : Ev) (I : Nat → Int) (A : Nat → Int → Int) (q : Int) (v : Int) (hq : -2147483648 ≤ q ∧ q ≤ 2147483647) (hv : -2147483648 ≤ v ∧ v ≤ 2147483647) (hok : mOk A) (hr : rOk (A 1 1) (A 1 2) (A 11) 500000) : MetN l yX10_older wsX10_older ({ frames := 2, cells := 0, slots := 0, locals := 43 } : Room) E [.ref (eO E 0), .int (iI q), .int (iI v)] (mW E I A) (mOlderR A q v) := by
  have hin : ∀ w ∈ wsX100, w ∈ wsX10_older := fun w h => in_tail h
  refine met_N (cc := cX10_older) (nL := 3) (by decide) rfl (Nat.le_of_ble_eq_true rfl) ?_
  intro p e s m args below meth c Q H0 A0 H locs ls F hw hl hret
  have F : CallFix p m c cX10_older 3 s args wsX10_older RX10 := F
  have hl : lv_has ls 3 [(0, .ref (eO E 0)), (1, .int (iI q)), (2, .int (iI v))] := hl
  obtain ⟨hV, hWn, hl0, hl1, hl2, hl3, hY, hPl, hPe⟩ := id hok
  have hA := hV
  have hf : ∀ k, 0 ≤ A 11 k ∧ A 11 k ≤ 900000 := (rOk_w hr (by decide)).1
  refine lv_aload_n F.1 F.2.1 dX10_older_0 rfl (lv_at hl 0 rfl) ?_
  refine lv_iload_n F.1 F.2.1 dX10_older_1 rfl (lv_at hl 1 rfl) ?_
  refine call_P (As := [.int (iI q)]) (rest := []) F (c_isPerson l E I A q (by omega) (by omega)) (cwV 1 F.2.2.2.2 gX10_older_X10_isPerson rfl rfl rfl (by decide +kernel) ⟨Nat.le_of_ble_eq_true rfl, Nat.le_of_ble_eq_true rfl⟩) hw (m_recv hw) rfl hl.1 rfl (Nat.le_of_ble_eq_true rfl) dX10_older_2 ⟨Nat.zero_le _, Nat.zero_le _⟩ (fun q_1 H locs hw => ?_) (fun q_1 H locs hw => ?_)
  · refine bi_if_eq (tgt := 16) F dX10_older_5 (by decide) (by decide) (fun q => absurd q (by decide)) (fun _ => ?_)
    refine lv_aload_n F.1 F.2.1 dX10_older_8 rfl (lv_at hl 0 rfl) ?_
    refine lv_iload_n F.1 F.2.1 dX10_older_9 rfl (lv_at hl 2 rfl) ?_
    refine call_P (As := [.int (iI v)]) (rest := []) F (c_isVillage l E I A v (by omega) (by omega)) (cwV 1 F.2.2.2.2 gX10_older_X10_isVillage rfl rfl rfl (by decide +kernel) ⟨Nat.le_of_ble_eq_true rfl, Nat.le_of_ble_eq_true rfl⟩) hw (m_recv hw) rfl hl.1 rfl (Nat.le_of_ble_eq_true rfl) dX10_older_10 ⟨Nat.zero_le _, Nat.zero_le _⟩ (fun q_3 H locs hw => ?_) (fun q_3 H locs hw => ?_)
    · refine bi_if_ne (tgt := 19) F dX10_older_13 (by decide) (by decide) (fun _ => ?_) (fun q => absurd q (by decide))
      refine lv_aload_n F.1 F.2.1 dX10_older_19 rfl (lv_at hl 0 rfl) ?_
      refine m_get F hin hw 13 (by decide) (by decide +kernel) rfl dX10_older_20 ?_
      refine bi_bipush F dX10_older_23 (by decide) ?_
      refine bi_iconst F dX10_older_25 ?_
      refine lv_iload_n F.1 F.2.1 dX10_older_26 rfl (lv_at hl 1 rfl) ?_
      refine bi_imul F dX10_older_27 ?_
      refine bi_iadd F dX10_older_28 ?_
      refine bi_iconst F dX10_older_29 ?_
      refine bi_iadd F dX10_older_30 ?_
      refine m_ld F hw 11 35 rfl (by decide) (by omega) dX10_older_31 ?_
      have f_5 := hf (13 + (2 * q) + 1)
      refine lv_aload_n F.1 F.2.1 dX10_older_32 rfl (lv_at hl 0 rfl) ?_
      refine m_get F hin hw 5 (by decide) (by decide +kernel) rfl dX10_older_33 ?_
      refine bi_iconst F dX10_older_36 ?_
      refine lv_iload_n F.1 F.2.1 dX10_older_37 rfl (lv_at hl 2 rfl) ?_
      refine bi_imul F dX10_older_38 ?_
      refine bi_iconst F dX10_older_39 ?_
      refine bi_iadd F dX10_older_40 ?_
      refine m_ld F hw 3 20 rfl (by decide) (by omega) dX10_older_41 ?_
      have f_6 := hV (5 * v + 4)
      have hy2 := hY v (by omega)
      refine bi_idiv F dX10_older_42 (by omega) ?_
      refine lv_aload_n F.1 F.2.1 dX10_older_43 rfl (lv_at hl 0 rfl) ?_
      refine lv_aload_n F.1 F.2.1 dX10_older_44 rfl (lv_at hl 0 rfl) ?_
      refine m_get F hin hw 13 (by decide) (by decide +kernel) rfl dX10_older_45 ?_
      refine lv_iload_n F.1 F.2.1 dX10_older_48 rfl (lv_at hl 1 rfl) ?_
      have hh1 : A 11 (13 + 2 * q) < A 1 1 := hr.2 q (by omega)
      have hy1 := hY (A 11 (13 + 2 * q)) ⟨(hf _).1, hh1⟩
      refine call_N (As := [.ref (eA E 11), .int (iI q)]) (rest := [.int (iI ((A 11 (13 + (2 * q) + 1)) / (A 3 (5 * v + 4))))]) F (c_ageOf l E I A 11 q rfl (by decide) (by omega) hf hA (by omega) (by omega)) (cwV 2 F.2.2.2.2 gX10_older_X10_ageOf rfl rfl rfl (by decide +kernel) ⟨Nat.le_of_ble_eq_true rfl, Nat.le_of_ble_eq_true rfl⟩) hw (m_recv hw) rfl hl.1 rfl (Nat.le_of_ble_eq_true rfl) dX10_older_49 ⟨Nat.zero_le _, Nat.zero_le _⟩ (fun H locs hw => ?_)
      refine bi_isub F dX10_older_52 ?_
      refine bi_sipush F dX10_older_53 (by decide) ?_
      refine bi_iadd F dX10_older_56 ?_
      exact hret _ _ _ _ _ (by unfold mOlderR; rw [if_pos (by omega)]) hw dX10_older_57
    · refine bi_if_ne (tgt := 19) F dX10_older_13 (by decide) (by decide) (fun q => absurd q (by decide)) (fun _ => ?_)
      refine bi_ldc F (-1000000001) (by decide +kernel) rfl dX10_older_16 ?_
      exact hret _ _ _ _ _ (by unfold mOlderR; rw [if_neg (by omega)]) hw dX10_older_18
  · refine bi_if_eq (tgt := 16) F dX10_older_5 (by decide) (by decide) (fun _ => ?_) (fun q => absurd q (by decide))
    refine bi_ldc F (-1000000001) (by decide +kernel) rfl dX10_older_16 ?_
    exact hret _ _ _ _ _ (by unfold mOlderR; rw [if_neg (by omega)]) hw dX10_older_18
set_option maxRecDepth 100000 in
set_option maxHeartbeats 4000000 in
theorem c_old (l : Launch) (E : Ev) (I : Nat → Int) (A : Nat → Int → Int) (q : Int) (n : Int) (hq : -2147483648 ≤ q ∧ q ≤ 2147483647) (hn : -2147483648 ≤ n ∧ n ≤ 2147483647) (h00 : 0 < A 1 2 → 0 < A 1 0) (hok : mOk A) (hr : rOk (A 1 1) (A 1 2) (A 11) 500000) : MetS l yX10_old wsX10_old ({ frames := 5, cells := 0, slots := 0, locals := 119 } : Room) E [.ref (eO E 0), .int (iI q), .int (iI n)] I A (mOldR A q n) := by
  have hin : ∀ w ∈ wsX100, w ∈ wsX10_old := fun w h => in_tail h
  refine met_S (cc := cX10_old) (nL := 3) (by decide) rfl (Nat.le_of_ble_eq_true rfl) ?_
  intro p e s m args below meth c Q H0 A0 H locs ls F hw hl hret
  have F : CallFix p m c cX10_old 3 s args wsX10_old RX10 := F
  have hl : lv_has ls 3 [(0, .ref (eO E 0)), (1, .int (iI q)), (2, .int (iI n))] := hl
  obtain ⟨hV, hWn, hl0, hl1, hl2, hl3, hY, hPl, hPe⟩ := id hok
  have hA := hV
  have hf : ∀ k, 0 ≤ A 11 k ∧ A 11 k ≤ 900000 := (rOk_w hr (by decide)).1
  refine lv_aload_n F.1 F.2.1 dX10_old_0 rfl (lv_at hl 0 rfl) ?_
  refine lv_iload_n F.1 F.2.1 dX10_old_1 rfl (lv_at hl 1 rfl) ?_
  refine call_P (As := [.int (iI q)]) (rest := []) F (c_isPerson l E I A q (by omega) (by omega)) (cwV 1 F.2.2.2.2 gX10_old_X10_isPerson rfl rfl rfl (by decide +kernel) ⟨Nat.le_of_ble_eq_true rfl, Nat.le_of_ble_eq_true rfl⟩) hw (m_recv hw) rfl hl.1 rfl (Nat.le_of_ble_eq_true rfl) dX10_old_2 ⟨Nat.zero_le _, Nat.zero_le _⟩ (fun q_1 H locs hw => ?_) (fun q_1 H locs hw => ?_)
  · refine bi_if_ne (tgt := 11) F dX10_old_5 (by decide) (by decide) (fun _ => ?_) (fun q => absurd q (by decide))
    refine lv_iload_n F.1 F.2.1 dX10_old_11 rfl (lv_at hl 2 rfl) ?_
    refine bi_iconst F dX10_old_12 ?_
    refine bi_sipush F dX10_old_13 (by decide) ?_
    refine calls_P0 (As := [.int (iI n), .int (iI 0), .int (iI 200)]) (rest := []) F (c_in l E n 0 200 (by omega) (by omega) (by omega)) (va_cwS 3 F.2.2.2.2 gX10_old_X10_in rfl rfl rfl (by decide +kernel) ⟨Nat.le_of_ble_eq_true rfl, Nat.le_of_ble_eq_true rfl⟩) hw rfl hl.1 rfl (Nat.le_of_ble_eq_true rfl) dX10_old_16 ⟨Nat.zero_le _, Nat.zero_le _⟩ (fun q_3 H locs hw => ?_) (fun q_3 H locs hw => ?_)
    · refine bi_if_ne (tgt := 25) F dX10_old_19 (by decide) (by decide) (fun _ => ?_) (fun q => absurd q (by decide))
      refine lv_aload_n F.1 F.2.1 dX10_old_25 rfl (lv_at hl 0 rfl) ?_
      refine lv_iload_n F.1 F.2.1 dX10_old_26 rfl (lv_at hl 2 rfl) ?_
      refine bi_iconst F dX10_old_27 ?_
      refine call_G (As := [.int (iI n), .int (iI 0)]) (rest := []) F (c_tries l E I A n 0 (by omega) (by omega) (fun _ => h00 (by omega)) hok hr) (cwV 2 F.2.2.2.2 gX10_old_X10_tries rfl rfl rfl (by decide +kernel) ⟨Nat.le_of_ble_eq_true rfl, Nat.le_of_ble_eq_true rfl⟩) hw (m_recv hw) rfl hl.1 rfl (Nat.le_of_ble_eq_true rfl) dX10_old_28 ⟨Nat.zero_le _, Nat.zero_le _⟩ (fun H locs hw => ?_)
      generalize eA5 : stA A 12 (mTry A 0 n) = A5 at hw
      have h11 : A5 11 = A 11 := by subst_vars; rfl
      have h12 : A5 12 = mTry A 0 n := by subst_vars; rfl
      have h3 : A5 3 = A 3 := by subst_vars; rfl
      have htr := rOk_try (m := 0) (n := n) hok hr (by omega) (by omega)
      have hh1 := htr.2 q (by omega)
      have hh2 := htr.1 (13 + 2 * q)
      have hy1 := hY (mTry A 0 n (13 + 2 * q)) ⟨hh2.1, hh1⟩
      refine lv_aload_n F.1 F.2.1 dX10_old_31 rfl (lv_at hl 0 rfl) ?_
      refine lv_aload_n F.1 F.2.1 dX10_old_32 rfl (lv_at hl 0 rfl) ?_
      refine m_get F hin hw 14 (by decide) (by decide +kernel) rfl dX10_old_33 ?_
      refine lv_iload_n F.1 F.2.1 dX10_old_36 rfl (lv_at hl 1 rfl) ?_
      refine call_N (As := [.ref (eA E 12), .int (iI q)]) (rest := []) F (c_ageOf l E I A5 12 q rfl (by decide) (by omega) (by rw [h12]; exact htr.1) (by rw [h3]; exact hV) (by rw [h12]; omega) (by rw [h12, h3]; exact hy1)) (cwV 2 F.2.2.2.2 gX10_old_X10_ageOf rfl rfl rfl (by decide +kernel) ⟨Nat.le_of_ble_eq_true rfl, Nat.le_of_ble_eq_true rfl⟩) hw (m_recv hw) rfl hl.1 rfl (Nat.le_of_ble_eq_true rfl) dX10_old_37 ⟨Nat.zero_le _, Nat.zero_le _⟩ (fun H locs hw => ?_)
      exact hret _ _ _ _ _ _ (by unfold mOldR; rw [if_pos (by omega), if_pos (by omega), h12, h3]) (by subst_vars; exact mSame_st (by decide)) hw dX10_old_40
    · refine bi_if_ne (tgt := 25) F dX10_old_19 (by decide) (by decide) (fun q => absurd q (by decide)) (fun _ => ?_)
      refine bi_ldc F (-1000000002) (by decide +kernel) rfl dX10_old_22 ?_
      exact hret _ _ _ _ _ _ (by unfold mOldR; rw [if_pos (by omega), if_neg (by omega)]) (mSame_rf) hw dX10_old_24
  · refine bi_if_ne (tgt := 11) F dX10_old_5 (by decide) (by decide) (fun q => absurd q (by decide)) (fun _ => ?_)
    refine bi_ldc F (-1000000001) (by decide +kernel) rfl dX10_old_8 ?_
    exact hret _ _ _ _ _ _ (by unfold mOldR; rw [if_neg (by omega)]) (mSame_rf) hw dX10_old_10
set_option maxRecDepth 100000 in
set_option maxHeartbeats 4000000 in
theorem c_mild (l : Launch) (E : Ev) (I : Nat → Int) (A : Nat → Int → Int) (q : Int) (mm : Int) (n : Int) (hq : -2147483648 ≤ q ∧ q ≤ 2147483647) (hm : -2147483648 ≤ mm ∧ mm ≤ 2147483647) (hn : -2147483648 ≤ n ∧ n ≤ 2147483647) (h00 : 0 < A 1 2 → 0 < A 1 0) (hok : mOk A) (hr : rOk (A 1 1) (A 1 2) (A 11) 500000) : MetS l yX10_mild wsX10_mild ({ frames := 5, cells := 0, slots := 0, locals := 119 } : Room) E [.ref (eO E 0), .int (iI q), .int (iI mm), .int (iI n)] I A (mMildR A q mm n) := by
  have hin : ∀ w ∈ wsX100, w ∈ wsX10_mild := fun w h => in_tail h
  refine met_S (cc := cX10_mild) (nL := 5) (by decide) rfl (Nat.le_of_ble_eq_true rfl) ?_
  intro p e s m args below meth c Q H0 A0 H locs ls F hw hl hret
  have F : CallFix p m c cX10_mild 5 s args wsX10_mild RX10 := F
  have hl : lv_has ls 5 [(0, .ref (eO E 0)), (1, .int (iI q)), (2, .int (iI mm)), (3, .int (iI n))] := hl
  obtain ⟨hV, hWn, hl0, hl1, hl2, hl3, hY, hPl, hPe⟩ := id hok
  have hA := hV
  have hf : ∀ k, 0 ≤ A 11 k ∧ A 11 k ≤ 900000 := (rOk_w hr (by decide)).1
  refine lv_aload_n F.1 F.2.1 dX10_mild_0 rfl (lv_at hl 0 rfl) ?_
  refine lv_iload_n F.1 F.2.1 dX10_mild_1 rfl (lv_at hl 1 rfl) ?_
  refine call_P (As := [.int (iI q)]) (rest := []) F (c_isPerson l E I A q (by omega) (by omega)) (cwV 1 F.2.2.2.2 gX10_mild_X10_isPerson rfl rfl rfl (by decide +kernel) ⟨Nat.le_of_ble_eq_true rfl, Nat.le_of_ble_eq_true rfl⟩) hw (m_recv hw) rfl hl.1 rfl (Nat.le_of_ble_eq_true rfl) dX10_mild_2 ⟨Nat.zero_le _, Nat.zero_le _⟩ (fun q_1 H locs hw => ?_) (fun q_1 H locs hw => ?_)
  · refine bi_if_ne (tgt := 11) F dX10_mild_5 (by decide) (by decide) (fun _ => ?_) (fun q => absurd q (by decide))
    refine lv_iload_n F.1 F.2.1 dX10_mild_11 rfl (lv_at hl 2 rfl) ?_
    refine bi_iconst F dX10_mild_12 ?_
    refine bi_bipush F dX10_mild_13 (by decide) ?_
    refine calls_P0 (As := [.int (iI mm), .int (iI 0), .int (iI 40)]) (rest := []) F (c_in l E mm 0 40 (by omega) (by omega) (by omega)) (va_cwS 3 F.2.2.2.2 gX10_mild_X10_in rfl rfl rfl (by decide +kernel) ⟨Nat.le_of_ble_eq_true rfl, Nat.le_of_ble_eq_true rfl⟩) hw rfl hl.1 rfl (Nat.le_of_ble_eq_true rfl) dX10_mild_15 ⟨Nat.zero_le _, Nat.zero_le _⟩ (fun q_3 H locs hw => ?_) (fun q_3 H locs hw => ?_)
    · refine bi_if_eq (tgt := 32) F dX10_mild_18 (by decide) (by decide) (fun q => absurd q (by decide)) (fun _ => ?_)
      refine lv_iload_n F.1 F.2.1 dX10_mild_21 rfl (lv_at hl 3 rfl) ?_
      refine bi_iconst F dX10_mild_22 ?_
      refine bi_sipush F dX10_mild_23 (by decide) ?_
      refine calls_P0 (As := [.int (iI n), .int (iI 0), .int (iI 200)]) (rest := []) F (c_in l E n 0 200 (by omega) (by omega) (by omega)) (va_cwS 3 F.2.2.2.2 gX10_mild_X10_in rfl rfl rfl (by decide +kernel) ⟨Nat.le_of_ble_eq_true rfl, Nat.le_of_ble_eq_true rfl⟩) hw rfl hl.1 rfl (Nat.le_of_ble_eq_true rfl) dX10_mild_26 ⟨Nat.zero_le _, Nat.zero_le _⟩ (fun q_5 H locs hw => ?_) (fun q_5 H locs hw => ?_)
      · refine bi_if_ne (tgt := 35) F dX10_mild_29 (by decide) (by decide) (fun _ => ?_) (fun q => absurd q (by decide))
        refine lv_aload_n F.1 F.2.1 dX10_mild_35 rfl (lv_at hl 0 rfl) ?_
        refine lv_iload_n F.1 F.2.1 dX10_mild_36 rfl (lv_at hl 3 rfl) ?_
        refine bi_iconst F dX10_mild_37 ?_
        refine call_G (As := [.int (iI n), .int (iI 0)]) (rest := []) F (c_tries l E I A n 0 (by omega) (by omega) (fun _ => h00 (by omega)) hok hr) (cwV 2 F.2.2.2.2 gX10_mild_X10_tries rfl rfl rfl (by decide +kernel) ⟨Nat.le_of_ble_eq_true rfl, Nat.le_of_ble_eq_true rfl⟩) hw (m_recv hw) rfl hl.1 rfl (Nat.le_of_ble_eq_true rfl) dX10_mild_38 ⟨Nat.zero_le _, Nat.zero_le _⟩ (fun H locs hw => ?_)
        generalize eA7 : stA A 12 (mTry A 0 n) = A7 at hw
        have h11 : A7 11 = A 11 := by subst_vars; rfl
        have h12 : A7 12 = mTry A 0 n := by subst_vars; rfl
        have h3 : A7 3 = A 3 := by subst_vars; rfl
        have htr := rOk_try (m := 0) (n := n) hok hr (by omega) (by omega)
        have hh1 := htr.2 q (by omega)
        have hh2 := htr.1 (13 + 2 * q)
        have hy1 := hY (mTry A 0 n (13 + 2 * q)) ⟨hh2.1, hh1⟩
        refine lv_aload_n F.1 F.2.1 dX10_mild_41 rfl (lv_at hl 0 rfl) ?_
        refine lv_aload_n F.1 F.2.1 dX10_mild_42 rfl (lv_at hl 0 rfl) ?_
        refine m_get F hin hw 14 (by decide) (by decide +kernel) rfl dX10_mild_43 ?_
        refine lv_iload_n F.1 F.2.1 dX10_mild_46 rfl (lv_at hl 1 rfl) ?_
        refine call_N (As := [.ref (eA E 12), .int (iI q)]) (rest := []) F (c_ageOf l E I A7 12 q rfl (by decide) (by omega) (by rw [h12]; exact htr.1) (by rw [h3]; exact hV) (by rw [h12]; omega) (by rw [h12, h3]; exact hy1)) (cwV 2 F.2.2.2.2 gX10_mild_X10_ageOf rfl rfl rfl (by decide +kernel) ⟨Nat.le_of_ble_eq_true rfl, Nat.le_of_ble_eq_true rfl⟩) hw (m_recv hw) rfl hl.1 rfl (Nat.le_of_ble_eq_true rfl) dX10_mild_47 ⟨Nat.zero_le _, Nat.zero_le _⟩ (fun H locs hw => ?_)
        refine lv_istore (lv' := [(4, .int (iI (mAge (A7 3) (A7 12) q))), (0, .ref (eO E 0)), (1, .int (iI q)), (2, .int (iI mm)), (3, .int (iI n))]) F.1 F.2.1 dX10_mild_50 hl (by decide) rfl (fun ls hl => ?_)
        have hok2 : mOk A7 := by subst_vars; exact mOk_st (by decide) hok
        have hr2 : rOk (A7 1 1) (A7 1 2) (A7 11) 500000 := by subst_vars; exact hr
        have h10 : A7 1 = A 1 := by subst_vars; rfl
        refine lv_aload_n F.1 F.2.1 dX10_mild_52 rfl (lv_at hl 1 rfl) ?_
        refine lv_iload_n F.1 F.2.1 dX10_mild_53 rfl (lv_at hl 4 rfl) ?_
        refine lv_iload_n F.1 F.2.1 dX10_mild_54 rfl (lv_at hl 3 rfl) ?_
        refine call_G (As := [.int (iI n), .int (iI mm)]) (rest := []) F (c_tries l E I A7 n mm (by omega) (by omega) (fun _ => by rw [h10]; exact h00 (by omega)) (hok2) (hr2)) (cwV 2 F.2.2.2.2 gX10_mild_X10_tries rfl rfl rfl (by decide +kernel) ⟨Nat.le_of_ble_eq_true rfl, Nat.le_of_ble_eq_true rfl⟩) hw (m_recv hw) rfl hl.1 rfl (Nat.le_of_ble_eq_true rfl) dX10_mild_55 ⟨Nat.zero_le _, Nat.zero_le _⟩ (fun H locs hw => ?_)
        generalize eA8 : stA A7 12 (mTry A7 mm n) = A8 at hw
        have h12b : A8 12 = mTry A mm n := by subst_vars; rfl
        have h3b : A8 3 = A 3 := by subst_vars; rfl
        have htr2 := rOk_try (m := mm) (n := n) hok hr (by omega) (by omega)
        have hh12 := htr2.2 q (by omega)
        have hh22 := htr2.1 (13 + 2 * q)
        have hy12 := hY (mTry A mm n (13 + 2 * q)) ⟨hh22.1, hh12⟩
        refine lv_iload F.1 F.2.1 dX10_mild_58 (lv_at hl 0 rfl) ?_
        refine lv_aload_n F.1 F.2.1 dX10_mild_60 rfl (lv_at hl 1 rfl) ?_
        refine lv_aload_n F.1 F.2.1 dX10_mild_61 rfl (lv_at hl 1 rfl) ?_
        refine m_get F hin hw 14 (by decide) (by decide +kernel) rfl dX10_mild_62 ?_
        refine lv_iload_n F.1 F.2.1 dX10_mild_65 rfl (lv_at hl 2 rfl) ?_
        refine call_N (As := [.ref (eA E 12), .int (iI q)]) (rest := [.int (iI (mAge (A7 3) (A7 12) q))]) F (c_ageOf l E I A8 12 q rfl (by decide) (by omega) (by rw [h12b]; exact htr2.1) (by rw [h3b]; exact hV) (by rw [h12b]; omega) (by rw [h12b, h3b]; exact hy12)) (cwV 2 F.2.2.2.2 gX10_mild_X10_ageOf rfl rfl rfl (by decide +kernel) ⟨Nat.le_of_ble_eq_true rfl, Nat.le_of_ble_eq_true rfl⟩) hw (m_recv hw) rfl hl.1 rfl (Nat.le_of_ble_eq_true rfl) dX10_mild_66 ⟨Nat.zero_le _, Nat.zero_le _⟩ (fun H locs hw => ?_)
        refine bi_isub F dX10_mild_69 ?_
        exact hret _ _ _ _ _ _ (by unfold mMildR; rw [if_pos (by omega), if_pos (by omega), h12, h12b, h3, h3b]) (by subst_vars; rw [stA_2]; exact mSame_st (by decide)) hw dX10_mild_70
      · refine bi_if_ne (tgt := 35) F dX10_mild_29 (by decide) (by decide) (fun q => absurd q (by decide)) (fun _ => ?_)
        refine bi_ldc F (-1000000002) (by decide +kernel) rfl dX10_mild_32 ?_
        exact hret _ _ _ _ _ _ (by unfold mMildR; rw [if_pos (by omega), if_neg (by omega)]) (mSame_rf) hw dX10_mild_34
    · refine bi_if_eq (tgt := 32) F dX10_mild_18 (by decide) (by decide) (fun _ => ?_) (fun q => absurd q (by decide))
      refine bi_ldc F (-1000000002) (by decide +kernel) rfl dX10_mild_32 ?_
      exact hret _ _ _ _ _ _ (by unfold mMildR; rw [if_pos (by omega), if_neg (by omega)]) (mSame_rf) hw dX10_mild_34
  · refine bi_if_ne (tgt := 11) F dX10_mild_5 (by decide) (by decide) (fun q => absurd q (by decide)) (fun _ => ?_)
    refine bi_ldc F (-1000000001) (by decide +kernel) rfl dX10_mild_8 ?_
    exact hret _ _ _ _ _ _ (by unfold mMildR; rw [if_neg (by omega)]) (mSame_rf) hw dX10_mild_10
