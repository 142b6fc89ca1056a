set_option maxRecDepth 100000 in
set_option maxHeartbeats 4000000 in
theorem x7_become (l : Launch) (E : Ev) (I : Nat → Int) (A : Nat → Int → Int) (L : Nat → Int64) : MetG l yX7_become wsX7_become ({ frames := 1, cells := 0, slots := 0, locals := 40 } : Room) E [.ref (eO E 3), .ref (eO E 2)] (xW E I A L) (xW E (xBecI I) (xBecA A) L) := by
  have hin7 : ∀ w ∈ wsX70, w ∈ wsX7_become := by decide +kernel
  refine met_G (cc := cX7_become) (nL := 2) (by decide) rfl (Nat.le_of_ble_eq_true rfl) ?_
  intro p e s m args below meth c Q H0 A0 H locs ls F hw hl hret
  have F : CallFix p m c cX7_become 2 s args wsX7_become RX7 := F
  have hl : lv_has ls 2 [(0, .ref (eO E 3)), (1, .ref (eO E 2))] := hl
  refine lv_aload_n F.1 F.2.1 dX7_become_0 rfl (lv_at hl 1 rfl) ?_
  refine x_get F hin7 hw 2 7 rfl rfl 0 (by decide) (by decide +kernel) rfl rfl dX7_become_1 ?_
  refine bi_iconst F dX7_become_4 ?_
  refine lv_aload_n F.1 F.2.1 dX7_become_5 rfl (lv_at hl 0 rfl) ?_
  refine x_get F hin7 hw 3 7 rfl rfl 0 (by decide) (by decide +kernel) rfl rfl dX7_become_6 ?_
  refine bi_iconst F dX7_become_9 ?_
  refine bi_bipush F dX7_become_10 (by decide) ?_
  refine x_copy F hl.1 hw 1 9 20 20 (by decide) (by decide) rfl rfl (by decide +kernel) (by decide +kernel) (by decide +kernel) (by decide +kernel) (by omega) (by omega) (by omega) (by decide) (Nat.le_of_ble_eq_true rfl) (Nat.le_of_ble_eq_true rfl) dX7_become_12 (fun H locs hw => ?_)
  generalize eA1 : stA A 9 (cpI (A 1) (A 9) 0 0 20) = A1 at hw
  have hw := x_norm hw 9 20 (by decide) rfl (A 1) (fun k hk => by subst_vars; rw [stA_s]; unfold cpI; rw [if_pos (by omega), show (0 : Int) + (k - 0) = k by omega]; try rfl)
  generalize eA2 : stA A1 9 (A 1) = A2 at hw
  refine lv_aload_n F.1 F.2.1 dX7_become_15 rfl (lv_at hl 1 rfl) ?_
  refine x_get F hin7 hw 2 7 rfl rfl 1 (by decide) (by decide +kernel) rfl rfl dX7_become_16 ?_
  refine bi_iconst F dX7_become_19 ?_
  refine lv_aload_n F.1 F.2.1 dX7_become_20 rfl (lv_at hl 0 rfl) ?_
  refine x_get F hin7 hw 3 7 rfl rfl 1 (by decide) (by decide +kernel) rfl rfl dX7_become_21 ?_
  refine bi_iconst F dX7_become_24 ?_
  refine bi_iconst F dX7_become_25 ?_
  refine x_copy F hl.1 hw 2 10 4 4 (by decide) (by decide) rfl rfl (by decide +kernel) (by decide +kernel) (by decide +kernel) (by decide +kernel) (by omega) (by omega) (by omega) (by decide) (Nat.le_of_ble_eq_true rfl) (Nat.le_of_ble_eq_true rfl) dX7_become_26 (fun H locs hw => ?_)
  generalize eA3 : stA A2 10 (cpI (A2 2) (A2 10) 0 0 4) = A3 at hw
  have hw := x_norm hw 10 4 (by decide) rfl (A 2) (fun k hk => by subst_vars; rw [stA_s]; unfold cpI; rw [if_pos (by omega), show (0 : Int) + (k - 0) = k by omega]; try rfl)
  generalize eA4 : stA A3 10 (A 2) = A4 at hw
  refine lv_aload_n F.1 F.2.1 dX7_become_29 rfl (lv_at hl 1 rfl) ?_
  refine x_get F hin7 hw 2 7 rfl rfl 2 (by decide) (by decide +kernel) rfl rfl dX7_become_30 ?_
  refine bi_iconst F dX7_become_33 ?_
  refine lv_aload_n F.1 F.2.1 dX7_become_34 rfl (lv_at hl 0 rfl) ?_
  refine x_get F hin7 hw 3 7 rfl rfl 2 (by decide) (by decide +kernel) rfl rfl dX7_become_35 ?_
  refine bi_iconst F dX7_become_38 ?_
  refine bi_iconst F dX7_become_39 ?_
  refine x_copy F hl.1 hw 3 11 4 4 (by decide) (by decide) rfl rfl (by decide +kernel) (by decide +kernel) (by decide +kernel) (by decide +kernel) (by omega) (by omega) (by omega) (by decide) (Nat.le_of_ble_eq_true rfl) (Nat.le_of_ble_eq_true rfl) dX7_become_40 (fun H locs hw => ?_)
  generalize eA5 : stA A4 11 (cpI (A4 3) (A4 11) 0 0 4) = A5 at hw
  have hw := x_norm hw 11 4 (by decide) rfl (A 3) (fun k hk => by subst_vars; rw [stA_s]; unfold cpI; rw [if_pos (by omega), show (0 : Int) + (k - 0) = k by omega]; try rfl)
  generalize eA6 : stA A5 11 (A 3) = A6 at hw
  refine lv_aload_n F.1 F.2.1 dX7_become_43 rfl (lv_at hl 1 rfl) ?_
  refine x_get F hin7 hw 2 7 rfl rfl 3 (by decide) (by decide +kernel) rfl rfl dX7_become_44 ?_
  refine bi_iconst F dX7_become_47 ?_
  refine lv_aload_n F.1 F.2.1 dX7_become_48 rfl (lv_at hl 0 rfl) ?_
  refine x_get F hin7 hw 3 7 rfl rfl 3 (by decide) (by decide +kernel) rfl rfl dX7_become_49 ?_
  refine bi_iconst F dX7_become_52 ?_
  refine bi_iconst F dX7_become_53 ?_
  refine x_copy F hl.1 hw 4 12 4 4 (by decide) (by decide) rfl rfl (by decide +kernel) (by decide +kernel) (by decide +kernel) (by decide +kernel) (by omega) (by omega) (by omega) (by decide) (Nat.le_of_ble_eq_true rfl) (Nat.le_of_ble_eq_true rfl) dX7_become_54 (fun H locs hw => ?_)
  generalize eA7 : stA A6 12 (cpI (A6 4) (A6 12) 0 0 4) = A7 at hw
  have hw := x_norm hw 12 4 (by decide) rfl (A 4) (fun k hk => by subst_vars; rw [stA_s]; unfold cpI; rw [if_pos (by omega), show (0 : Int) + (k - 0) = k by omega]; try rfl)
  generalize eA8 : stA A7 12 (A 4) = A8 at hw
  refine lv_aload_n F.1 F.2.1 dX7_become_57 rfl (lv_at hl 1 rfl) ?_
  refine x_get F hin7 hw 2 7 rfl rfl 4 (by decide) (by decide +kernel) rfl rfl dX7_become_58 ?_
  refine bi_iconst F dX7_become_61 ?_
  refine lv_aload_n F.1 F.2.1 dX7_become_62 rfl (lv_at hl 0 rfl) ?_
  refine x_get F hin7 hw 3 7 rfl rfl 4 (by decide) (by decide +kernel) rfl rfl dX7_become_63 ?_
  refine bi_iconst F dX7_become_66 ?_
  refine bi_bipush F dX7_become_67 (by decide) ?_
  refine x_copy F hl.1 hw 5 13 6 6 (by decide) (by decide) rfl rfl (by decide +kernel) (by decide +kernel) (by decide +kernel) (by decide +kernel) (by omega) (by omega) (by omega) (by decide) (Nat.le_of_ble_eq_true rfl) (Nat.le_of_ble_eq_true rfl) dX7_become_69 (fun H locs hw => ?_)
  generalize eA9 : stA A8 13 (cpI (A8 5) (A8 13) 0 0 6) = A9 at hw
  have hw := x_norm hw 13 6 (by decide) rfl (A 5) (fun k hk => by subst_vars; rw [stA_s]; unfold cpI; rw [if_pos (by omega), show (0 : Int) + (k - 0) = k by omega]; try rfl)
  generalize eA10 : stA A9 13 (A 5) = A10 at hw
  refine lv_aload_n F.1 F.2.1 dX7_become_72 rfl (lv_at hl 1 rfl) ?_
  refine x_get F hin7 hw 2 7 rfl rfl 5 (by decide) (by decide +kernel) rfl rfl dX7_become_73 ?_
  refine bi_iconst F dX7_become_76 ?_
  refine lv_aload_n F.1 F.2.1 dX7_become_77 rfl (lv_at hl 0 rfl) ?_
  refine x_get F hin7 hw 3 7 rfl rfl 5 (by decide) (by decide +kernel) rfl rfl dX7_become_78 ?_
  refine bi_iconst F dX7_become_81 ?_
  refine bi_bipush F dX7_become_82 (by decide) ?_
  refine x_copy F hl.1 hw 6 14 6 6 (by decide) (by decide) rfl rfl (by decide +kernel) (by decide +kernel) (by decide +kernel) (by decide +kernel) (by omega) (by omega) (by omega) (by decide) (Nat.le_of_ble_eq_true rfl) (Nat.le_of_ble_eq_true rfl) dX7_become_84 (fun H locs hw => ?_)
  generalize eA11 : stA A10 14 (cpI (A10 6) (A10 14) 0 0 6) = A11 at hw
  have hw := x_norm hw 14 6 (by decide) rfl (A 6) (fun k hk => by subst_vars; rw [stA_s]; unfold cpI; rw [if_pos (by omega), show (0 : Int) + (k - 0) = k by omega]; try rfl)
  generalize eA12 : stA A11 14 (A 6) = A12 at hw
  refine lv_aload_n F.1 F.2.1 dX7_become_87 rfl (lv_at hl 1 rfl) ?_
  refine x_get F hin7 hw 2 7 rfl rfl 6 (by decide) (by decide +kernel) rfl rfl dX7_become_88 ?_
  refine bi_iconst F dX7_become_91 ?_
  refine lv_aload_n F.1 F.2.1 dX7_become_92 rfl (lv_at hl 0 rfl) ?_
  refine x_get F hin7 hw 3 7 rfl rfl 6 (by decide) (by decide +kernel) rfl rfl dX7_become_93 ?_
  refine bi_iconst F dX7_become_96 ?_
  refine bi_iconst F dX7_become_97 ?_
  refine x_copy F hl.1 hw 7 15 5 5 (by decide) (by decide) rfl rfl (by decide +kernel) (by decide +kernel) (by decide +kernel) (by decide +kernel) (by omega) (by omega) (by omega) (by decide) (Nat.le_of_ble_eq_true rfl) (Nat.le_of_ble_eq_true rfl) dX7_become_98 (fun H locs hw => ?_)
  generalize eA13 : stA A12 15 (cpI (A12 7) (A12 15) 0 0 5) = A13 at hw
  have hw := x_norm hw 15 5 (by decide) rfl (A 7) (fun k hk => by subst_vars; rw [stA_s]; unfold cpI; rw [if_pos (by omega), show (0 : Int) + (k - 0) = k by omega]; try rfl)
  generalize eA14 : stA A13 15 (A 7) = A14 at hw
  refine lv_aload_n F.1 F.2.1 dX7_become_101 rfl (lv_at hl 1 rfl) ?_
  refine x_get F hin7 hw 2 7 rfl rfl 7 (by decide) (by decide +kernel) rfl rfl dX7_become_102 ?_
  refine bi_iconst F dX7_become_105 ?_
  refine lv_aload_n F.1 F.2.1 dX7_become_106 rfl (lv_at hl 0 rfl) ?_
  refine x_get F hin7 hw 3 7 rfl rfl 7 (by decide) (by decide +kernel) rfl rfl dX7_become_107 ?_
  refine bi_iconst F dX7_become_110 ?_
  refine bi_iconst F dX7_become_111 ?_
  refine x_copy F hl.1 hw 8 16 5 5 (by decide) (by decide) rfl rfl (by decide +kernel) (by decide +kernel) (by decide +kernel) (by decide +kernel) (by omega) (by omega) (by omega) (by decide) (Nat.le_of_ble_eq_true rfl) (Nat.le_of_ble_eq_true rfl) dX7_become_112 (fun H locs hw => ?_)
  generalize eA15 : stA A14 16 (cpI (A14 8) (A14 16) 0 0 5) = A15 at hw
  have hw := x_norm hw 16 5 (by decide) rfl (A 8) (fun k hk => by subst_vars; rw [stA_s]; unfold cpI; rw [if_pos (by omega), show (0 : Int) + (k - 0) = k by omega]; try rfl)
  generalize eA16 : stA A15 16 (A 8) = A16 at hw
  refine lv_aload_n F.1 F.2.1 dX7_become_115 rfl (lv_at hl 0 rfl) ?_
  refine lv_aload_n F.1 F.2.1 dX7_become_116 rfl (lv_at hl 1 rfl) ?_
  refine x_get F hin7 hw 2 7 rfl rfl 8 (by decide) (by decide +kernel) rfl rfl dX7_become_117 ?_
  refine x_put (I2 := st1 I 9 (I 5)) F hin7 tyX7 tyX7_ok nmX7 hw 3 7 rfl rfl 8 (by decide) (by decide +kernel) rfl rfl (by decide +kernel) (Nat.le_of_ble_eq_true rfl) rfl (by decide) dX7_become_120 (fun H locs hw => ?_)
  generalize eI17 : st1 I 9 (I 5) = I17 at hw
  refine lv_aload_n F.1 F.2.1 dX7_become_123 rfl (lv_at hl 0 rfl) ?_
  refine lv_aload_n F.1 F.2.1 dX7_become_124 rfl (lv_at hl 1 rfl) ?_
  refine x_get F hin7 hw 2 7 rfl rfl 9 (by decide) (by decide +kernel) rfl rfl dX7_become_125 ?_
  have f_18 : I17 6 = I 6 := by rw [← eI17]; exact st1_n (by decide)
  refine x_put (I2 := st1 I17 10 (I17 6)) F hin7 tyX7 tyX7_ok nmX7 hw 3 7 rfl rfl 9 (by decide) (by decide +kernel) rfl rfl (by decide +kernel) (Nat.le_of_ble_eq_true rfl) rfl (by decide) dX7_become_128 (fun H locs hw => ?_)
  generalize eI19 : st1 I17 10 (I17 6) = I19 at hw
  refine lv_aload_n F.1 F.2.1 dX7_become_131 rfl (lv_at hl 0 rfl) ?_
  refine lv_aload_n F.1 F.2.1 dX7_become_132 rfl (lv_at hl 1 rfl) ?_
  refine x_get F hin7 hw 2 7 rfl rfl 10 (by decide) (by decide +kernel) rfl rfl dX7_become_133 ?_
  have f_20 : I19 7 = I17 7 := by rw [← eI19]; exact st1_n (by decide)
  have f_21 : I17 7 = I 7 := by rw [← eI17]; exact st1_n (by decide)
  refine x_put (I2 := st1 I19 11 (I19 7)) F hin7 tyX7 tyX7_ok nmX7 hw 3 7 rfl rfl 10 (by decide) (by decide +kernel) rfl rfl (by decide +kernel) (Nat.le_of_ble_eq_true rfl) rfl (by decide) dX7_become_136 (fun H locs hw => ?_)
  generalize eI22 : st1 I19 11 (I19 7) = I22 at hw
  refine lv_aload_n F.1 F.2.1 dX7_become_139 rfl (lv_at hl 0 rfl) ?_
  refine lv_aload_n F.1 F.2.1 dX7_become_140 rfl (lv_at hl 1 rfl) ?_
  refine x_get F hin7 hw 2 7 rfl rfl 11 (by decide) (by decide +kernel) rfl rfl dX7_become_141 ?_
  have f_23 : I22 8 = I19 8 := by rw [← eI22]; exact st1_n (by decide)
  have f_24 : I19 8 = I17 8 := by rw [← eI19]; exact st1_n (by decide)
  have f_25 : I17 8 = I 8 := by rw [← eI17]; exact st1_n (by decide)
  refine x_put (I2 := st1 I22 12 (I22 8)) F hin7 tyX7 tyX7_ok nmX7 hw 3 7 rfl rfl 11 (by decide) (by decide +kernel) rfl rfl (by decide +kernel) (Nat.le_of_ble_eq_true rfl) rfl (by decide) dX7_become_144 (fun H locs hw => ?_)
  generalize eI26 : st1 I22 12 (I22 8) = I26 at hw
  exact hret _ _ _ _ _ (xW_c (by subst_vars; rfl) (by subst_vars; unfold xBecA; simp only [stA_2]; try rfl) rfl) hw dX7_become_147
set_option maxRecDepth 100000 in
set_option maxHeartbeats 4000000 in
theorem x6_begin (l : Launch) (E : Ev) (I : Nat → Int) (A : Nat → Int → Int) (L : Nat → Int64) (hnp : 0 ≤ I 11 ∧ I 11 ≤ 6) (hnd : 0 ≤ I 12 ∧ I 12 ≤ 5) : MetG l yX6_begin wsX6_begin ({ frames := 1, cells := 0, slots := 0, locals := 23 } : Room) E [.ref (eO E 4), .ref (eO E 3)] (xW E I A L) (xW E (I) (stA A 17 (xBeg (A 13) (A 14) (A 16) (I 11).toNat (I 12).toNat)) L) := by
  have hin6 : ∀ w ∈ wsX60, w ∈ wsX6_begin := by decide +kernel
  have hin7 : ∀ w ∈ wsX70, w ∈ wsX6_begin := by decide +kernel
  refine met_G (cc := cX6_begin) (nL := 3) (by decide) rfl (Nat.le_of_ble_eq_true rfl) ?_
  intro p e s m args below meth c Q H0 A0 H locs ls F hw hl hret
  have F : CallFix p m c cX6_begin 3 s args wsX6_begin RX6 := F
  have hl : lv_has ls 3 [(0, .ref (eO E 4)), (1, .ref (eO E 3))] := hl
  refine lv_aload_n F.1 F.2.1 dX6_begin_0 rfl (lv_at hl 0 rfl) ?_
  refine x_get F hin6 hw 4 6 rfl rfl 0 (by decide) (by decide +kernel) rfl rfl dX6_begin_1 ?_
  refine bi_iconst F dX6_begin_4 ?_
  refine calls_G (As := [.ref (eA E 17), .int (iI 0)]) (rest := []) F (x7_fill l E I A L 17 0 35 rfl (by decide) (by omega)) (va_cwS 2 F.2.2.2.2 gX6_begin_J7_fill_53178 rfl rfl rfl (by decide +kernel) ⟨(Nat.le_of_ble_eq_true rfl), (Nat.le_of_ble_eq_true rfl)⟩) hw rfl hl.1 rfl (Nat.le_of_ble_eq_true rfl) dX6_begin_5 ⟨Nat.zero_le _, Nat.zero_le _⟩ (fun H locs hw => ?_)
  generalize eA1 : stA A 17 (zr (A 17) (fun _ => 0) ((35 : Nat) : Int)) = A1 at hw
  have hw := x_norm hw 17 35 (by decide) rfl (zZ) (fun t ht => by rw [← eA1, stA_s]; exact zr_in ht)
  generalize eA2 : stA A1 17 (zZ) = A2 at hw
  refine bi_iconst F dX6_begin_8 ?_
  refine lv_istore_n (lv' := [(2, .int (iI 0)), (0, .ref (eO E 4)), (1, .ref (eO E 3))]) F.1 F.2.1 dX6_begin_9 rfl hl (by decide) rfl (fun ls hl => ?_)
  have loop_10 : ∀ (nf : Nat) (k : Int) (A1 : Nat → Int → Int) (H : Heap) (locs : List Loc) (ls : Array Slot) (hk : 0 ≤ k ∧ k ≤ I 11) (hA1 : A1 = stA A 17 (fld (fun g q => up1 (up1 g (13 + q) (A 13 q)) (19 + q) (A 14 q)) zZ k.toNat)) (hw : gH E A0 H0 s (xW E I A1 L) H locs) (hl : lv_has ls 3 [(2, .int (iI k)), (0, .ref (eO E 4)), (1, .ref (eO E 3))]) (hnf : (I 11 - k).toNat < nf), W p l e ({ frames := 1, cells := 0, slots := 0, locals := 23 } : Room) s m args below meth c H locs 0 0 Q (F0 m 10 ls []) := by
    intro nf
    induction nf with
    | zero =>
      intro k A1 H locs ls hk hA1 hw hl hnf
      exact absurd hnf (Nat.not_lt_zero _)
    | succ nf ih_10 =>
      intro k A1 H locs ls hk hA1 hw hl hnf
      refine lv_iload_n F.1 F.2.1 dX6_begin_10 rfl (lv_at hl 0 rfl) ?_
      refine lv_aload_n F.1 F.2.1 dX6_begin_11 rfl (lv_at hl 2 rfl) ?_
      refine x_get F hin7 hw 3 7 rfl rfl 10 (by decide) (by decide +kernel) rfl rfl dX6_begin_12 ?_
      refine bi_icmp_ge (tgt := 54) F dX6_begin_15 (by decide) (by omega) (fun c_3 => ?_) (fun c_3 => ?_)
      · refine bi_iconst F dX6_begin_54 ?_
        refine lv_istore_n (lv' := [(2, .int (iI 0)), (0, .ref (eO E 4)), (1, .ref (eO E 3))]) F.1 F.2.1 dX6_begin_55 rfl hl (by decide) rfl (fun ls hl => ?_)
        have loop_56 : ∀ (nf : Nat) (k2 : Int) (A3 : Nat → Int → Int) (H : Heap) (locs : List Loc) (ls : Array Slot) (hk2 : 0 ≤ k2 ∧ k2 ≤ I 12) (hA3 : A3 = stA A 17 (fld (fun g d => up1 g (25 + d) (A 16 d)) (fld (fun g q => up1 (up1 g (13 + q) (A 13 q)) (19 + q) (A 14 q)) zZ (I 11).toNat) k2.toNat)) (hw : gH E A0 H0 s (xW E I A3 L) H locs) (hl : lv_has ls 3 [(2, .int (iI k2)), (0, .ref (eO E 4)), (1, .ref (eO E 3))]) (hnf : (I 12 - k2).toNat < nf), W p l e ({ frames := 1, cells := 0, slots := 0, locals := 23 } : Room) s m args below meth c H locs 0 0 Q (F0 m 56 ls []) := by
          intro nf
          induction nf with
          | zero =>
            intro k2 A3 H locs ls hk2 hA3 hw hl hnf
            exact absurd hnf (Nat.not_lt_zero _)
          | succ nf ih_56 =>
            intro k2 A3 H locs ls hk2 hA3 hw hl hnf
            refine lv_iload_n F.1 F.2.1 dX6_begin_56 rfl (lv_at hl 0 rfl) ?_
            refine lv_aload_n F.1 F.2.1 dX6_begin_57 rfl (lv_at hl 2 rfl) ?_
            refine x_get F hin7 hw 3 7 rfl rfl 11 (by decide) (by decide +kernel) rfl rfl dX6_begin_58 ?_
            refine bi_icmp_ge (tgt := 85) F dX6_begin_61 (by decide) (by omega) (fun c_4 => ?_) (fun c_4 => ?_)
            · exact hret _ _ _ _ _ (xW_c rfl (by rw [hA3, show k2 = I 12 by omega]; rfl) rfl) hw dX6_begin_85
            · refine lv_aload_n F.1 F.2.1 dX6_begin_64 rfl (lv_at hl 1 rfl) ?_
              refine x_get F hin6 hw 4 6 rfl rfl 0 (by decide) (by decide +kernel) rfl rfl dX6_begin_65 ?_
              refine bi_bipush F dX6_begin_68 (by decide) ?_
              refine lv_iload_n F.1 F.2.1 dX6_begin_70 rfl (lv_at hl 0 rfl) ?_
              refine bi_iadd F dX6_begin_71 ?_
              refine lv_aload_n F.1 F.2.1 dX6_begin_72 rfl (lv_at hl 2 rfl) ?_
              refine x_get F hin7 hw 3 7 rfl rfl 7 (by decide) (by decide +kernel) rfl rfl dX6_begin_73 ?_
              refine lv_iload_n F.1 F.2.1 dX6_begin_76 rfl (lv_at hl 0 rfl) ?_
              refine x_ld F hw 16 5 rfl (by decide) (by omega) dX6_begin_77 ?_
              refine x_st F hw 17 35 rfl (by decide) (by omega) dX6_begin_78 (fun H locs hw => ?_)
              generalize eA5 : st2 A3 17 (25 + k2) (A3 16 k2) = A5 at hw
              refine lv_iinc (v := iI (k2 + 1)) (lv' := [(2, .int (iI (k2 + 1))), (0, .ref (eO E 4)), (1, .ref (eO E 3))]) F.1 F.2.1 dX6_begin_79 hl (k := 0) rfl (iI_add _ _).symm (by decide) rfl (fun ls hl => ?_)
              refine lv_goto (tgt := 56) F.1 F.2.1 dX6_begin_82 (by decide) ?_
              exact ih_56 (k2 + 1) A5 H locs ls (by omega) (by rw [fld_s hk2.1, ← eA5, hA3, st2_A]; rfl) hw (lv_sub hl [0, 1, 2] rfl) (by omega)
        exact loop_56 ((I 12 - 0 : Int).toNat + 1) 0 A1 H locs ls (by omega) (by rw [hA1, show k = I 11 by omega]; rfl) hw (lv_sub hl [0, 1, 2] rfl) (by omega)
      · refine lv_aload_n F.1 F.2.1 dX6_begin_18 rfl (lv_at hl 1 rfl) ?_
        refine x_get F hin6 hw 4 6 rfl rfl 0 (by decide) (by decide +kernel) rfl rfl dX6_begin_19 ?_
        refine bi_bipush F dX6_begin_22 (by decide) ?_
        refine lv_iload_n F.1 F.2.1 dX6_begin_24 rfl (lv_at hl 0 rfl) ?_
        refine bi_iadd F dX6_begin_25 ?_
        refine lv_aload_n F.1 F.2.1 dX6_begin_26 rfl (lv_at hl 2 rfl) ?_
        refine x_get F hin7 hw 3 7 rfl rfl 4 (by decide) (by decide +kernel) rfl rfl dX6_begin_27 ?_
        refine lv_iload_n F.1 F.2.1 dX6_begin_30 rfl (lv_at hl 0 rfl) ?_
        refine x_ld F hw 13 6 rfl (by decide) (by omega) dX6_begin_31 ?_
        refine x_st F hw 17 35 rfl (by decide) (by omega) dX6_begin_32 (fun H locs hw => ?_)
        generalize eA6 : st2 A1 17 (13 + k) (A1 13 k) = A6 at hw
        refine lv_aload_n F.1 F.2.1 dX6_begin_33 rfl (lv_at hl 1 rfl) ?_
        refine x_get F hin6 hw 4 6 rfl rfl 0 (by decide) (by decide +kernel) rfl rfl dX6_begin_34 ?_
        refine bi_bipush F dX6_begin_37 (by decide) ?_
        refine lv_iload_n F.1 F.2.1 dX6_begin_39 rfl (lv_at hl 0 rfl) ?_
        refine bi_iadd F dX6_begin_40 ?_
        refine lv_aload_n F.1 F.2.1 dX6_begin_41 rfl (lv_at hl 2 rfl) ?_
        refine x_get F hin7 hw 3 7 rfl rfl 5 (by decide) (by decide +kernel) rfl rfl dX6_begin_42 ?_
        refine lv_iload_n F.1 F.2.1 dX6_begin_45 rfl (lv_at hl 0 rfl) ?_
        refine x_ld F hw 14 6 rfl (by decide) (by omega) dX6_begin_46 ?_
        have f_7 : A6 14 k = A1 14 k := by rw [← eA6, st2_n (by decide)]
        refine x_st F hw 17 35 rfl (by decide) (by omega) dX6_begin_47 (fun H locs hw => ?_)
        generalize eA8 : st2 A6 17 (19 + k) (A6 14 k) = A8 at hw
        refine lv_iinc (v := iI (k + 1)) (lv' := [(2, .int (iI (k + 1))), (0, .ref (eO E 4)), (1, .ref (eO E 3))]) F.1 F.2.1 dX6_begin_48 hl (k := 0) rfl (iI_add _ _).symm (by decide) rfl (fun ls hl => ?_)
        refine lv_goto (tgt := 10) F.1 F.2.1 dX6_begin_51 (by decide) ?_
        exact ih_10 (k + 1) A8 H locs ls (by omega) (by rw [fld_s hk.1]; subst_vars; rw [st2_A, st2_A]; rfl) hw (lv_sub hl [0, 1, 2] rfl) (by omega)
  exact loop_10 ((I 11 - 0 : Int).toNat + 1) 0 A2 H locs ls (by omega) (by subst_vars; rw [stA_2]; rfl) hw (lv_sub hl [0, 1, 2] rfl) (by omega)
set_option maxRecDepth 100000 in
set_option maxHeartbeats 4000000 in
theorem x8_nextFallNights (l : Launch) (E : Ev) (I : Nat → Int) (A : Nat → Int → Int) (L : Nat → Int64) (v : Int) (hv : 0 ≤ v ∧ v < 4) (hni : 0 ≤ A 17 0 ∧ A 17 0 ≤ 99000) (hnn : 0 ≤ I 9 ∧ I 9 ≤ 20) (hin0 : ∀ k, 0 ≤ A 9 k ∧ A 9 k ≤ 40) (hff : ∀ k, 0 ≤ A 11 k ∧ A 11 k ≤ 80) : MetW l yX8_nextFallNights wsX8_nextFallNights ({ frames := 3, cells := 0, slots := 0, locals := 66 } : Room) E [.ref (eO E 8), .int (iI v)] (xW E I A L) (xNf A (I 9) v 40) := by
  refine met_W (cc := cX8_nextFallNights) (nL := 5) (by decide) rfl (Nat.le_of_ble_eq_true rfl) ?_
  intro p e s m args below meth c Q H0 A0 H locs ls F hw hl hret
  have F : CallFix p m c cX8_nextFallNights 5 s args wsX8_nextFallNights RX8 := F
  have hl : lv_has ls 5 [(0, .ref (eO E 8)), (1, .int (iI v))] := hl
  refine lv_lconst (v := 0) F.1 F.2.1 dX8_nextFallNights_0 rfl ?_
  refine lv_lstore_n (lv' := [(2, .long 0), (0, .ref (eO E 8)), (1, .int (iI v))]) F.1 F.2.1 dX8_nextFallNights_1 rfl hl (by decide) rfl (fun ls hl => ?_)
  refine bi_iconst F dX8_nextFallNights_2 ?_
  refine lv_istore (lv' := [(4, .int (iI 0)), (2, .long 0), (0, .ref (eO E 8)), (1, .int (iI v))]) F.1 F.2.1 dX8_nextFallNights_3 hl (by decide) rfl (fun ls hl => ?_)
  have loop_5 : ∀ (nf : Nat) (k : Int) (z : Int64) (H : Heap) (locs : List Loc) (ls : Array Slot) (hk : 0 ≤ k ∧ k ≤ 40) (hz : z = xNf A (I 9) v k.toNat) (hw : gH E A0 H0 s (xW E I A L) H locs) (hl : lv_has ls 5 [(4, .int (iI k)), (2, .long z), (0, .ref (eO E 8)), (1, .int (iI v))]) (hnf : (40 - k).toNat < nf), W p l e ({ frames := 3, cells := 0, slots := 0, locals := 66 } : Room) s m args below meth c H locs 0 0 Q (F0 m 5 ls []) := by
    intro nf
    induction nf with
    | zero =>
      intro k z H locs ls hk hz hw hl hnf
      exact absurd hnf (Nat.not_lt_zero _)
    | succ nf ih_5 =>
      intro k z H locs ls hk hz hw hl hnf
      refine lv_iload F.1 F.2.1 dX8_nextFallNights_5 (lv_at hl 0 rfl) ?_
      refine bi_bipush F dX8_nextFallNights_7 (by decide) ?_
      refine bi_icmp_ge (tgt := 35) F dX8_nextFallNights_9 (by decide) (by omega) (fun c_1 => ?_) (fun c_1 => ?_)
      · refine lv_lload_n F.1 F.2.1 dX8_nextFallNights_35 rfl (lv_at hl 1 rfl) ?_
        exact hret _ _ _ _ _ (by rw [hz, show k = 40 by omega]; rfl) hw dX8_nextFallNights_36
      · refine lv_aload_n F.1 F.2.1 dX8_nextFallNights_12 rfl (lv_at hl 2 rfl) ?_
        refine lv_iload_n F.1 F.2.1 dX8_nextFallNights_13 rfl (lv_at hl 3 rfl) ?_
        refine lv_iload F.1 F.2.1 dX8_nextFallNights_14 (lv_at hl 0 rfl) ?_
        refine call_P (As := [.int (iI v), .int (iI k)]) (rest := []) F (x8_isFallBehind l E I A L v k (by omega) (by omega) (by omega) (by omega) hin0 hff) (cwV 2 F.2.2.2.2 gX8_nextFallNights_X8_isFallBehind rfl rfl rfl (by decide +kernel) ⟨(Nat.le_of_ble_eq_true rfl), (Nat.le_of_ble_eq_true rfl)⟩) hw (x_recv hw 8 8 rfl rfl) rfl hl.1 rfl (Nat.le_of_ble_eq_true rfl) dX8_nextFallNights_16 ⟨Nat.zero_le _, Nat.zero_le _⟩ (fun q_2 H locs hw => ?_) (fun q_2 H locs hw => ?_)
        · refine bi_if_eq (tgt := 29) F dX8_nextFallNights_19 (by decide) (by decide) (fun q => absurd q (by decide)) (fun _ => ?_)
          refine lv_lload_n F.1 F.2.1 dX8_nextFallNights_22 rfl (lv_at hl 1 rfl) ?_
          refine lv_lconst (v := 1) F.1 F.2.1 dX8_nextFallNights_23 rfl ?_
          refine lv_iload F.1 F.2.1 dX8_nextFallNights_24 (lv_at hl 0 rfl) ?_
          refine lv_lshl (v := xBit k) F.1 F.2.1 dX8_nextFallNights_26 rfl ?_
          refine lv_lor F.1 F.2.1 dX8_nextFallNights_27 ?_
          refine lv_lstore_n (lv' := [(2, .long (z ||| xBit k)), (4, .int (iI k)), (0, .ref (eO E 8)), (1, .int (iI v))]) F.1 F.2.1 dX8_nextFallNights_28 rfl hl (by decide) rfl (fun ls hl => ?_)
          refine lv_iinc (v := iI (k + 1)) (lv' := [(4, .int (iI (k + 1))), (2, .long (z ||| xBit k)), (0, .ref (eO E 8)), (1, .int (iI v))]) F.1 F.2.1 dX8_nextFallNights_29 hl (k := 1) rfl (iI_add _ _).symm (by decide) rfl (fun ls hl => ?_)
          refine lv_goto (tgt := 5) F.1 F.2.1 dX8_nextFallNights_32 (by decide) ?_
          exact ih_5 (k + 1) (z ||| xBit k) H locs ls (by omega) (by rw [xNf_s hk.1, ← hz]; first | (rw [if_pos (by assumption)]; done) | (rw [if_neg (by assumption)]; done)) hw (lv_sub hl [0, 1, 2, 3] rfl) (by omega)
        · refine bi_if_eq (tgt := 29) F dX8_nextFallNights_19 (by decide) (by decide) (fun _ => ?_) (fun q => absurd q (by decide))
          refine lv_iinc (v := iI (k + 1)) (lv' := [(4, .int (iI (k + 1))), (2, .long z), (0, .ref (eO E 8)), (1, .int (iI v))]) F.1 F.2.1 dX8_nextFallNights_29 hl (k := 0) rfl (iI_add _ _).symm (by decide) rfl (fun ls hl => ?_)
          refine lv_goto (tgt := 5) F.1 F.2.1 dX8_nextFallNights_32 (by decide) ?_
          exact ih_5 (k + 1) z H locs ls (by omega) (by rw [xNf_s hk.1, ← hz]; first | (rw [if_pos (by assumption)]; done) | (rw [if_neg (by assumption)]; done)) hw (lv_sub hl [0, 1, 2, 3] rfl) (by omega)
  exact loop_5 ((40 - 0 : Int).toNat + 1) 0 0 H locs ls (by omega) (rfl) hw (lv_sub hl [0, 1, 2, 3] rfl) (by omega)
set_option maxRecDepth 100000 in
set_option maxHeartbeats 4000000 in
theorem x8_isLikeOneBefore (l : Launch) (E : Ev) (I : Nat → Int) (A : Nat → Int → Int) (L : Nat → Int64) (v : Int) (hv : 0 ≤ v ∧ v < 4) : MetP l yX8_isLikeOneBefore wsX8_isLikeOneBefore ({ frames := 0, cells := 0, slots := 0, locals := 0 } : Room) E [.ref (eO E 8), .int (iI v)] (xW E I A L) (xLb L (L v.toNat) v.toNat = 1) := by
  have hin8 : ∀ w ∈ wsX80, w ∈ wsX8_isLikeOneBefore := by decide +kernel
  refine met_P (cc := cX8_isLikeOneBefore) (nL := 3) (by decide) rfl (Nat.le_of_ble_eq_true rfl) ?_
  intro p e s m args below meth c Q H0 A0 H locs ls F hw hl hret
  have F : CallFix p m c cX8_isLikeOneBefore 3 s args wsX8_isLikeOneBefore RX8 := F
  have hl : lv_has ls 3 [(0, .ref (eO E 8)), (1, .int (iI v))] := hl
  refine bi_iconst F dX8_isLikeOneBefore_0 ?_
  refine lv_istore_n (lv' := [(2, .int (iI 0)), (0, .ref (eO E 8)), (1, .int (iI v))]) F.1 F.2.1 dX8_isLikeOneBefore_1 rfl hl (by decide) rfl (fun ls hl => ?_)
  have loop_2 : ∀ (nf : Nat) (u : Int) (H : Heap) (locs : List Loc) (ls : Array Slot) (hu : 0 ≤ u ∧ u ≤ v) (hno : ∀ t : Nat, t < u.toNat → ¬ L t = L v.toNat) (hw : gH E A0 H0 s (xW E I A L) H locs) (hl : lv_has ls 3 [(2, .int (iI u)), (0, .ref (eO E 8)), (1, .int (iI v))]) (hnf : (v - u).toNat < nf), W p l e ({ frames := 0, cells := 0, slots := 0, locals := 0 } : Room) s m args below meth c H locs 0 0 Q (F0 m 2 ls []) := by
    intro nf
    induction nf with
    | zero =>
      intro u H locs ls hu hno hw hl hnf
      exact absurd hnf (Nat.not_lt_zero _)
    | succ nf ih_2 =>
      intro u H locs ls hu hno hw hl hnf
      refine lv_iload_n F.1 F.2.1 dX8_isLikeOneBefore_2 rfl (lv_at hl 0 rfl) ?_
      refine lv_iload_n F.1 F.2.1 dX8_isLikeOneBefore_3 rfl (lv_at hl 2 rfl) ?_
      refine bi_icmp_ge (tgt := 31) F dX8_isLikeOneBefore_4 (by decide) (by omega) (fun c_1 => ?_) (fun c_1 => ?_)
      · refine bi_iconst F dX8_isLikeOneBefore_31 ?_
        exact hret _ _ _ _ _ (Or.inr ⟨rfl, by rcases xLb_b (L := L) (z := L v.toNat) v.toNat with ⟨h1, h2⟩ | ⟨h1, t, h2, h3⟩; omega; exact absurd h3 (hno t (by omega))⟩) hw dX8_isLikeOneBefore_32
      · refine lv_aload_n F.1 F.2.1 dX8_isLikeOneBefore_7 rfl (lv_at hl 1 rfl) ?_
        refine x_get F hin8 hw 8 8 rfl rfl 3 (by decide) (by decide +kernel) rfl rfl dX8_isLikeOneBefore_8 ?_
        refine lv_iload_n F.1 F.2.1 dX8_isLikeOneBefore_11 rfl (lv_at hl 0 rfl) ?_
        refine x_lld F hw (by omega) dX8_isLikeOneBefore_12 ?_
        refine lv_aload_n F.1 F.2.1 dX8_isLikeOneBefore_13 rfl (lv_at hl 1 rfl) ?_
        refine x_get F hin8 hw 8 8 rfl rfl 3 (by decide) (by decide +kernel) rfl rfl dX8_isLikeOneBefore_14 ?_
        refine lv_iload_n F.1 F.2.1 dX8_isLikeOneBefore_17 rfl (lv_at hl 2 rfl) ?_
        refine x_lld F hw (by omega) dX8_isLikeOneBefore_18 ?_
        refine bi_lcmp F dX8_isLikeOneBefore_19 ?_
        have f_2 := iCl_r (L u.toNat) (L v.toNat)
        refine bi_if_ne (tgt := 25) F dX8_isLikeOneBefore_20 (by decide) (by omega) (fun c_3 => ?_) (fun c_3 => ?_)
        · have hne : ¬ L u.toNat = L v.toNat := fun h => absurd ((iCl_r _ _).2.mpr h) (by assumption)
          refine lv_iinc (v := iI (u + 1)) (lv' := [(2, .int (iI (u + 1))), (0, .ref (eO E 8)), (1, .int (iI v))]) F.1 F.2.1 dX8_isLikeOneBefore_25 hl (k := 0) rfl (iI_add _ _).symm (by decide) rfl (fun ls hl => ?_)
          refine lv_goto (tgt := 2) F.1 F.2.1 dX8_isLikeOneBefore_28 (by decide) ?_
          exact ih_2 (u + 1) H locs ls (by omega) (fun t ht => if h : t = u.toNat then by subst h; exact hne else hno t (by omega)) hw (lv_sub hl [0, 1, 2] rfl) (by omega)
        · have heq : L u.toNat = L v.toNat := (iCl_r _ _).2.mp (by assumption)
          refine bi_iconst F dX8_isLikeOneBefore_23 ?_
          exact hret _ _ _ _ _ (Or.inl ⟨rfl, by rcases xLb_b (L := L) (z := L v.toNat) v.toNat with ⟨h1, h2⟩ | ⟨h1, h2⟩; exact absurd heq (h2 u.toNat (by omega)); exact h1⟩) hw dX8_isLikeOneBefore_24
  exact loop_2 ((v - 0 : Int).toNat + 1) 0 H locs ls (by omega) (fun t ht => absurd ht (by simp)) hw (lv_sub hl [0, 1, 2] rfl) (by omega)
set_option maxRecDepth 100000 in
set_option maxHeartbeats 4000000 in
theorem x8_fewestPoles (l : Launch) (E : Ev) (I : Nat → Int) (A : Nat → Int → Int) (L : Nat → Int64) (hnv : 0 ≤ I 10 ∧ I 10 ≤ 4) (hni : 0 ≤ A 17 0 ∧ A 17 0 ≤ 99000) (hnn : 0 ≤ I 9 ∧ I 9 ≤ 20) (hin0 : ∀ k, 0 ≤ A 9 k ∧ A 9 k ≤ 40) (hff : ∀ k, 0 ≤ A 11 k ∧ A 11 k ≤ 80) : MetX l yX8_fewestPoles wsX8_fewestPoles ({ frames := 4, cells := 0, slots := 0, locals := 90 } : Room) E [.ref (eO E 8)] I A L (xPol A (I 9) (I 10).toNat) := by
  have hin7 : ∀ w ∈ wsX70, w ∈ wsX8_fewestPoles := by decide +kernel
  have hin8 : ∀ w ∈ wsX80, w ∈ wsX8_fewestPoles := by decide +kernel
  refine met_X (cc := cX8_fewestPoles) (nL := 3) (by decide) rfl (Nat.le_of_ble_eq_true rfl) ?_
  intro p e s m args below meth c Q H0 A0 H locs ls F hw hl hret
  have F : CallFix p m c cX8_fewestPoles 3 s args wsX8_fewestPoles RX8 := F
  have hl : lv_has ls 3 [(0, .ref (eO E 8))] := hl
  refine bi_iconst F dX8_fewestPoles_0 ?_
  refine lv_istore_n (lv' := [(1, .int (iI 0)), (0, .ref (eO E 8))]) F.1 F.2.1 dX8_fewestPoles_1 rfl hl (by decide) rfl (fun ls hl => ?_)
  refine bi_iconst F dX8_fewestPoles_2 ?_
  refine lv_istore_n (lv' := [(2, .int (iI 0)), (1, .int (iI 0)), (0, .ref (eO E 8))]) F.1 F.2.1 dX8_fewestPoles_3 rfl hl (by decide) rfl (fun ls hl => ?_)
  have loop_4 : ∀ (nf : Nat) (a : Int) (v : Int) (L : Nat → Int64) (H : Heap) (locs : List Loc) (ls : Array Slot) (hv : 0 ≤ v ∧ v ≤ I 10) (ha : a = xPol A (I 9) v.toNat) (hL : ∀ u : Nat, u < v.toNat → L u = xNf A (I 9) (u : Int) 40) (hw : gH E A0 H0 s (xW E I A L) H locs) (hl : lv_has ls 3 [(2, .int (iI v)), (1, .int (iI a)), (0, .ref (eO E 8))]) (hnf : (I 10 - v).toNat < nf), W p l e ({ frames := 4, cells := 0, slots := 0, locals := 90 } : Room) s m args below meth c H locs 0 0 Q (F0 m 4 ls []) := by
    intro nf
    induction nf with
    | zero =>
      intro a v L H locs ls hv ha hL hw hl hnf
      exact absurd hnf (Nat.not_lt_zero _)
    | succ nf ih_4 =>
      intro a v L H locs ls hv ha hL hw hl hnf
      refine lv_iload_n F.1 F.2.1 dX8_fewestPoles_4 rfl (lv_at hl 0 rfl) ?_
      refine lv_aload_n F.1 F.2.1 dX8_fewestPoles_5 rfl (lv_at hl 2 rfl) ?_
      refine x_get F hin8 hw 8 8 rfl rfl 0 (by decide) (by decide +kernel) rfl rfl dX8_fewestPoles_6 ?_
      refine x_get F hin7 hw 3 7 rfl rfl 9 (by decide) (by decide +kernel) rfl rfl dX8_fewestPoles_9 ?_
      refine bi_icmp_ge (tgt := 43) F dX8_fewestPoles_12 (by decide) (by omega) (fun c_1 => ?_) (fun c_1 => ?_)
      · refine lv_iload_n F.1 F.2.1 dX8_fewestPoles_43 rfl (lv_at hl 1 rfl) ?_
        exact hret _ _ _ _ _ _ _ (by rw [ha, show v = I 10 by omega]) (xSame_rf) hw dX8_fewestPoles_44
      · refine lv_aload_n F.1 F.2.1 dX8_fewestPoles_15 rfl (lv_at hl 2 rfl) ?_
        refine x_get F hin8 hw 8 8 rfl rfl 3 (by decide) (by decide +kernel) rfl rfl dX8_fewestPoles_16 ?_
        refine lv_iload_n F.1 F.2.1 dX8_fewestPoles_19 rfl (lv_at hl 0 rfl) ?_
        refine lv_aload_n F.1 F.2.1 dX8_fewestPoles_20 rfl (lv_at hl 2 rfl) ?_
        refine lv_iload_n F.1 F.2.1 dX8_fewestPoles_21 rfl (lv_at hl 0 rfl) ?_
        refine call_W (As := [.int (iI v)]) (rest := [.int (iI v), .ref (eO E 12)]) F (x8_nextFallNights l E I A L v (by omega) (by omega) (by omega) hin0 hff) (cwV 1 F.2.2.2.2 gX8_fewestPoles_X8_nextFallNights rfl rfl rfl (by decide +kernel) ⟨(Nat.le_of_ble_eq_true rfl), (Nat.le_of_ble_eq_true rfl)⟩) hw (x_recv hw 8 8 rfl rfl) rfl hl.1 rfl (Nat.le_of_ble_eq_true rfl) dX8_fewestPoles_22 ⟨Nat.zero_le _, Nat.zero_le _⟩ (fun H locs hw => ?_)
        refine x_lst F hw (by omega) dX8_fewestPoles_25 (fun H locs hw => ?_)
        generalize eL : vp_updL L v.toNat (xNf A (I 9) v 40) = L at hw
        have hLv : L v.toNat = xNf A (I 9) v 40 := by rw [← eL]; exact if_pos rfl
        have hL2 : ∀ u : Nat, u < (v + 1).toNat → L u = xNf A (I 9) (u : Int) 40 := fun u hu => by by_cases h : u = v.toNat; (subst h; rw [hLv, Int.toNat_of_nonneg hv.1]); exact (show L u = _ by rw [← eL]; exact (if_neg h).trans (hL u (by omega)))
        have hlb : xLb L (L v.toNat) v.toNat = xLb (fun u => xNf A (I 9) (u : Int) 40) (xNf A (I 9) v 40) v.toNat := by rw [hLv]; exact xLb_c _ (fun u hu => hL2 u (by omega))
        refine lv_aload_n F.1 F.2.1 dX8_fewestPoles_26 rfl (lv_at hl 2 rfl) ?_
        refine lv_iload_n F.1 F.2.1 dX8_fewestPoles_27 rfl (lv_at hl 0 rfl) ?_
        refine call_P (As := [.int (iI v)]) (rest := []) F (x8_isLikeOneBefore l E I A L v (by omega)) (cwV 1 F.2.2.2.2 gX8_fewestPoles_X8_isLikeOneBefore rfl rfl rfl (by decide +kernel) ⟨(Nat.le_of_ble_eq_true rfl), (Nat.le_of_ble_eq_true rfl)⟩) hw (x_recv hw 8 8 rfl rfl) rfl hl.1 rfl (Nat.le_of_ble_eq_true rfl) dX8_fewestPoles_28 ⟨Nat.zero_le _, Nat.zero_le _⟩ (fun q_2 H locs hw => ?_) (fun q_2 H locs hw => ?_)
        · refine bi_if_ne (tgt := 37) F dX8_fewestPoles_31 (by decide) (by decide) (fun _ => ?_) (fun q => absurd q (by decide))
          refine lv_iinc (v := iI (v + 1)) (lv' := [(2, .int (iI (v + 1))), (1, .int (iI a)), (0, .ref (eO E 8))]) F.1 F.2.1 dX8_fewestPoles_37 hl (k := 0) rfl (iI_add _ _).symm (by decide) rfl (fun ls hl => ?_)
          refine lv_goto (tgt := 4) F.1 F.2.1 dX8_fewestPoles_40 (by decide) ?_
          exact ih_4 a (v + 1) L H locs ls (by omega) (by rw [xPol_s hv.1, ← ha, ← hlb]; first | (rw [if_pos (by assumption)]; done) | (rw [if_neg (by assumption)]; done)) (hL2) hw (lv_sub hl [0, 1, 2] rfl) (by omega)
        · refine bi_if_ne (tgt := 37) F dX8_fewestPoles_31 (by decide) (by decide) (fun q => absurd q (by decide)) (fun _ => ?_)
          refine lv_iinc (v := iI (a + 1)) (lv' := [(1, .int (iI (a + 1))), (2, .int (iI v)), (0, .ref (eO E 8))]) F.1 F.2.1 dX8_fewestPoles_34 hl (k := 1) rfl (iI_add _ _).symm (by decide) rfl (fun ls hl => ?_)
          refine lv_iinc (v := iI (v + 1)) (lv' := [(2, .int (iI (v + 1))), (1, .int (iI (a + 1))), (0, .ref (eO E 8))]) F.1 F.2.1 dX8_fewestPoles_37 hl (k := 1) rfl (iI_add _ _).symm (by decide) rfl (fun ls hl => ?_)
          refine lv_goto (tgt := 4) F.1 F.2.1 dX8_fewestPoles_40 (by decide) ?_
          exact ih_4 (a + 1) (v + 1) L H locs ls (by omega) (by rw [xPol_s hv.1, ← ha, ← hlb]; first | (rw [if_pos (by assumption)]; done) | (rw [if_neg (by assumption)]; done)) (hL2) hw (lv_sub hl [0, 1, 2] rfl) (by omega)
  exact loop_4 ((I 10 - 0 : Int).toNat + 1) 0 0 L H locs ls (by omega) (rfl) (fun u hu => absurd hu (by simp)) hw (lv_sub hl [0, 1, 2] rfl) (by omega)
