set_option maxRecDepth 100000 in
set_option maxHeartbeats 4000000 in
theorem j_valley (l : Launch) (E : Ev) (I : Nat → Int) (A : Nat → Int → Int) (a : Int) (w : Int) (hT : 0 ≤ I 0 ∧ I 0 ≤ 240) (hl0 : ∀ k, 0 ≤ A 0 k ∧ A 0 k ≤ 255) (ha : 0 ≤ a ∧ a ≤ 240) (hw3 : 0 ≤ w ∧ w ≤ 3) : MetF l yX10_valley wsX10_valley ({ frames := 6, cells := 0, slots := 0, locals := 126 } : Room) E [.ref (eO E 0)] (mW E (jI I a w) A) (mW E (mValI I A) (mValA I A)) (mValR I A) := by
  have hin : ∀ w ∈ wsX100, w ∈ wsX10_valley := fun w h => in_tail h
  refine met_F (cc := cX10_valley) (nL := 2) (by decide) rfl (Nat.le_of_ble_eq_true rfl) ?_
  intro p e s m args below meth c Q H0 A0 H locs ls F hw hl hret
  have F : CallFix p m c cX10_valley 2 s args wsX10_valley RX10 := F
  have hl : lv_has ls 2 [(0, .ref (eO E 0))] := hl
  refine lv_aload_n F.1 F.2.1 dX10_valley_0 rfl (lv_at hl 0 rfl) ?_
  refine bi_iconst F dX10_valley_1 ?_
  refine m_putJ (I2 := jI I 0 w) F hin hw 25 (by decide) (by decide +kernel) rfl (by decide +kernel) rfl dX10_valley_2 (fun H locs hw => ?_)
  refine lv_aload_n F.1 F.2.1 dX10_valley_5 rfl (lv_at hl 0 rfl) ?_
  refine bi_iconst F dX10_valley_6 ?_
  refine m_putJ (I2 := jI I 0 0) F hin hw 26 (by decide) (by decide +kernel) rfl (by decide +kernel) rfl dX10_valley_7 (fun H locs hw => ?_)
  refine bi_iconst F dX10_valley_10 ?_
  refine lv_istore_n (lv' := [(1, .int (iI 0)), (0, .ref (eO E 0))]) F.1 F.2.1 dX10_valley_11 rfl hl (by decide) rfl (fun ls hl => ?_)
  have loop_12 : ∀ (nf : Nat) (k : Int) (A1 : Nat → Int → Int) (H : Heap) (locs : List Loc) (ls : Array Slot) (hk : 0 ≤ k ∧ k ≤ 20) (h6 : ∀ t, 0 ≤ t ∧ t < 4 ∧ t < k → A1 6 t = 0) (h7 : ∀ t, 0 ≤ t ∧ t < k → A1 7 t = 0) (h8 : ∀ t, 0 ≤ t ∧ t < k → A1 8 t = 0) (h9 : ∀ t, 0 ≤ t ∧ t < 12 ∧ t < k → A1 9 t = 0) (h10 : ∀ t, 0 ≤ t ∧ t < 10 ∧ t < k → A1 10 t = 0) (hot : ∀ j : Nat, j < 6 ∨ 10 < j → A1 j = A j) (hw : gH E A0 H0 s (mW E (jI I 0 0) A1) H locs) (hl : lv_has ls 2 [(1, .int (iI k)), (0, .ref (eO E 0))]) (hnf : (20 - k).toNat < nf), W p l e ({ frames := 6, cells := 0, slots := 0, locals := 126 } : Room) s m args below meth c H locs 0 0 Q (F0 m 12 ls []) := by
    intro nf
    induction nf with
    | zero =>
      intro k A1 H locs ls hk h6 h7 h8 h9 h10 hot hw hl hnf
      exact absurd hnf (Nat.not_lt_zero _)
    | succ nf ih_12 =>
      intro k A1 H locs ls hk h6 h7 h8 h9 h10 hot hw hl hnf
      refine lv_iload_n F.1 F.2.1 dX10_valley_12 rfl (lv_at hl 0 rfl) ?_
      refine bi_bipush F dX10_valley_13 (by decide) ?_
      refine bi_icmp_ge (tgt := 67) F dX10_valley_15 (by decide) (by omega) (fun c_1 => ?_) (fun c_1 => ?_)
      · have hw := m_norm hw 6 4 (by decide) rfl (zZ) (fun t ht => h6 t (by omega))
        generalize eA2 : stA A1 6 (zZ) = A2 at hw
        have hw := m_norm hw 7 20 (by decide) rfl (zZ) (fun t ht => by rw [← eA2]; exact h7 t (by omega))
        generalize eA3 : stA A2 7 (zZ) = A3 at hw
        have hw := m_norm hw 8 20 (by decide) rfl (zZ) (fun t ht => by subst_vars; exact h8 t (by omega))
        generalize eA4 : stA A3 8 (zZ) = A4 at hw
        have hw := m_norm hw 9 12 (by decide) rfl (zZ) (fun t ht => by subst_vars; exact h9 t (by omega))
        generalize eA5 : stA A4 9 (zZ) = A5 at hw
        have hw := m_norm hw 10 10 (by decide) rfl (zZ) (fun t ht => by subst_vars; exact h10 t (by omega))
        generalize eA6 : stA A5 10 (zZ) = A6 at hw
        have hz : A6 = zD A := by subst_vars; exact zD_eq hot
        rw [hz] at hw
        refine lv_aload_n F.1 F.2.1 dX10_valley_67 rfl (lv_at hl 1 rfl) ?_
        refine call_G (As := []) (rest := []) F (j_skips l E I (zD A) 0 0  (by omega) (hl0) (by omega) (by omega)) (cwV 0 F.2.2.2.2 gX10_valley_X10_skips rfl rfl rfl (by decide +kernel) ⟨Nat.le_of_ble_eq_true rfl, Nat.le_of_ble_eq_true rfl⟩) hw (m_recv hw) rfl hl.1 rfl (Nat.le_of_ble_eq_true rfl) dX10_valley_68 ⟨Nat.zero_le _, Nat.zero_le _⟩ (fun H locs hw => ?_)
        generalize ea7 : pSkW ((zD A) 0) (I 0) 0 0 = a7 at hw
        have f_9 := pSkW_r (T := (zD A) 0) (n := I 0) (a := 0) (w := 0) (by omega) (by omega)
        try rw [ea7] at f_9
        refine lv_aload_n F.1 F.2.1 dX10_valley_71 rfl (lv_at hl 1 rfl) ?_
        refine call_G (As := []) (rest := []) F (j_reads l E I (zD A) a7 0  (by omega) (hl0) (by omega) (by omega) (cOk_z)) (cwV 0 F.2.2.2.2 gX10_valley_X10_reads rfl rfl rfl (by decide +kernel) ⟨Nat.le_of_ble_eq_true rfl, Nat.le_of_ble_eq_true rfl⟩) hw (m_recv hw) rfl hl.1 rfl (Nat.le_of_ble_eq_true rfl) dX10_valley_72 ⟨Nat.zero_le _, Nat.zero_le _⟩ (fun H locs hw => ?_)
        generalize ea10 : (rLoop ((zD A) 0) (I 0) 241 (a7, 0, (zD A))).1 = a10 at hw
        generalize ew11 : (rLoop ((zD A) 0) (I 0) 241 (a7, 0, (zD A))).2.1 = w11 at hw
        generalize eA12 : (rLoop ((zD A) 0) (I 0) 241 (a7, 0, (zD A))).2.2 = A12 at hw
        have hP : rP I A = (a10, w11, A12) := by subst_vars; rfl
        obtain ⟨g1, g2, g3, g4, g5⟩ := rP_gd (I := I) (A := A) hT.2
        rw [hP] at g1 g2 g3 g4 g5
        dsimp only at g1 g2 g3 g4 g5
        refine lv_aload_n F.1 F.2.1 dX10_valley_75 rfl (lv_at hl 1 rfl) ?_
        refine bi_iconst F dX10_valley_76 ?_
        refine m_putJ (I2 := jI (st1 I 0 0) a10 w11) F hin hw 1 (by decide) (by decide +kernel) rfl (by decide +kernel) rfl dX10_valley_77 (fun H locs hw => ?_)
        refine lv_aload_n F.1 F.2.1 dX10_valley_80 rfl (lv_at hl 1 rfl) ?_
        refine lv_aload_n F.1 F.2.1 dX10_valley_81 rfl (lv_at hl 1 rfl) ?_
        refine m_get (v := .int (iI w11)) F hin hw 26 (by decide) (by decide +kernel) rfl dX10_valley_82 ?_
        refine bi_if_ne (tgt := 92) F dX10_valley_85 (by decide) (by omega) (fun c_13 => ?_) (fun c_13 => ?_)
        · refine lv_aload_n F.1 F.2.1 dX10_valley_92 rfl (lv_at hl 1 rfl) ?_
          refine m_get (v := .int (iI a10)) F hin hw 25 (by decide) (by decide +kernel) rfl dX10_valley_93 ?_
          refine m_putJ (I2 := jI (st1 (st1 I 0 0) 1 a10) a10 w11) F hin hw 2 (by decide) (by decide +kernel) rfl (by decide +kernel) rfl dX10_valley_96 (fun H locs hw => ?_)
          refine lv_aload_n F.1 F.2.1 dX10_valley_99 rfl (lv_at hl 1 rfl) ?_
          refine m_get (v := .int (iI w11)) F hin hw 26 (by decide) (by decide +kernel) rfl dX10_valley_100 ?_
          refine bi_if_eq (tgt := 114) F dX10_valley_103 (by decide) (by omega) (fun c_14 => ?_) (fun c_14 => ?_)
          · obtain ⟨B, eB⟩ : ∃ z, z = A12 := ⟨_, rfl⟩
            rw [← eB] at hw
            rw [← eB] at g4
            have hw00 : w11 = 0 := by omega
            obtain ⟨hd0, hd1, hd2, hd3⟩ := id g4
            refine lv_aload_n F.1 F.2.1 dX10_valley_114 rfl (lv_at hl 1 rfl) ?_
            refine m_get F hin hw 8 (by decide) (by decide +kernel) rfl dX10_valley_115 ?_
            refine bi_iconst F dX10_valley_118 ?_
            refine lv_aload_n F.1 F.2.1 dX10_valley_119 rfl (lv_at hl 1 rfl) ?_
            refine m_get F hin hw 3 (by decide) (by decide +kernel) rfl dX10_valley_120 ?_
            refine bi_iconst F dX10_valley_123 ?_
            refine bi_iconst F dX10_valley_124 ?_
            refine calls_G (As := [.ref (eA E 6), .int (iI 0), .ref (eA E 1), .int (iI 0), .int (iI 4)]) (rest := []) F (c_copies l E (jI (st1 (st1 I 0 0) 1 a10) a10 w11) B 6 0 1 0 4 4 4 rfl rfl (by decide) (by decide) (by decide) (by omega) (by omega) (by omega) (by omega)) (va_cwS 5 F.2.2.2.2 gX10_valley_X10_copies rfl rfl rfl (by decide +kernel) ⟨Nat.le_of_ble_eq_true rfl, Nat.le_of_ble_eq_true rfl⟩) hw rfl hl.1 rfl (Nat.le_of_ble_eq_true rfl) dX10_valley_125 ⟨Nat.zero_le _, Nat.zero_le _⟩ (fun H locs hw => ?_)
            generalize eA15 : stA B 1 (cpI (B 6) (B 1) 0 0 4) = A15 at hw
            have hw := m_norm hw 1 4 (by decide) rfl (A15 6) (fun k hk => by rw [← eA15, stA_s, stA_n (show (6 : Nat) ≠ 1 by decide)]; unfold cpI; rw [if_pos (by omega)]; congr 1; omega)
            generalize eA16 : stA A15 1 (A15 6) = A16 at hw
            have hB1 : A16 = stA B 1 (B 6) := by subst_vars; exact stA_2
            obtain ⟨B1, eB1⟩ : ∃ z, z = stA B 1 (B 6) := ⟨_, rfl⟩
            rw [hB1, ← eB1] at hw
            refine lv_aload_n F.1 F.2.1 dX10_valley_128 rfl (lv_at hl 1 rfl) ?_
            refine m_get F hin hw 9 (by decide) (by decide +kernel) rfl dX10_valley_129 ?_
            refine bi_iconst F dX10_valley_132 ?_
            refine lv_aload_n F.1 F.2.1 dX10_valley_133 rfl (lv_at hl 1 rfl) ?_
            refine m_get F hin hw 4 (by decide) (by decide +kernel) rfl dX10_valley_134 ?_
            refine bi_iconst F dX10_valley_137 ?_
            refine bi_bipush F dX10_valley_138 (by decide) ?_
            refine calls_G (As := [.ref (eA E 7), .int (iI 0), .ref (eA E 2), .int (iI 0), .int (iI 20)]) (rest := []) F (c_copies l E (jI (st1 (st1 I 0 0) 1 a10) a10 w11) B1 7 0 2 0 20 20 20 rfl rfl (by decide) (by decide) (by decide) (by omega) (by omega) (by omega) (by omega)) (va_cwS 5 F.2.2.2.2 gX10_valley_X10_copies rfl rfl rfl (by decide +kernel) ⟨Nat.le_of_ble_eq_true rfl, Nat.le_of_ble_eq_true rfl⟩) hw rfl hl.1 rfl (Nat.le_of_ble_eq_true rfl) dX10_valley_140 ⟨Nat.zero_le _, Nat.zero_le _⟩ (fun H locs hw => ?_)
            generalize eA17 : stA B1 2 (cpI (B1 7) (B1 2) 0 0 20) = A17 at hw
            have hw := m_norm hw 2 20 (by decide) rfl (A17 7) (fun k hk => by rw [← eA17, stA_s, stA_n (show (7 : Nat) ≠ 2 by decide)]; unfold cpI; rw [if_pos (by omega)]; congr 1; omega)
            generalize eA18 : stA A17 2 (A17 7) = A18 at hw
            have hB2 : A18 = stA B1 2 (B1 7) := by subst_vars; exact stA_2
            obtain ⟨B2, eB2⟩ : ∃ z, z = stA B1 2 (B1 7) := ⟨_, rfl⟩
            rw [hB2, ← eB2] at hw
            refine lv_aload_n F.1 F.2.1 dX10_valley_143 rfl (lv_at hl 1 rfl) ?_
            refine m_get F hin hw 10 (by decide) (by decide +kernel) rfl dX10_valley_144 ?_
            refine bi_iconst F dX10_valley_147 ?_
            refine lv_aload_n F.1 F.2.1 dX10_valley_148 rfl (lv_at hl 1 rfl) ?_
            refine m_get F hin hw 5 (by decide) (by decide +kernel) rfl dX10_valley_149 ?_
            refine bi_iconst F dX10_valley_152 ?_
            refine bi_bipush F dX10_valley_153 (by decide) ?_
            refine calls_G (As := [.ref (eA E 8), .int (iI 0), .ref (eA E 3), .int (iI 0), .int (iI 20)]) (rest := []) F (c_copies l E (jI (st1 (st1 I 0 0) 1 a10) a10 w11) B2 8 0 3 0 20 20 20 rfl rfl (by decide) (by decide) (by decide) (by omega) (by omega) (by omega) (by omega)) (va_cwS 5 F.2.2.2.2 gX10_valley_X10_copies rfl rfl rfl (by decide +kernel) ⟨Nat.le_of_ble_eq_true rfl, Nat.le_of_ble_eq_true rfl⟩) hw rfl hl.1 rfl (Nat.le_of_ble_eq_true rfl) dX10_valley_155 ⟨Nat.zero_le _, Nat.zero_le _⟩ (fun H locs hw => ?_)
            generalize eA19 : stA B2 3 (cpI (B2 8) (B2 3) 0 0 20) = A19 at hw
            have hw := m_norm hw 3 20 (by decide) rfl (A19 8) (fun k hk => by rw [← eA19, stA_s, stA_n (show (8 : Nat) ≠ 3 by decide)]; unfold cpI; rw [if_pos (by omega)]; congr 1; omega)
            generalize eA20 : stA A19 3 (A19 8) = A20 at hw
            have hB3 : A20 = stA B2 3 (B2 8) := by subst_vars; exact stA_2
            obtain ⟨B3, eB3⟩ : ∃ z, z = stA B2 3 (B2 8) := ⟨_, rfl⟩
            rw [hB3, ← eB3] at hw
            refine lv_aload_n F.1 F.2.1 dX10_valley_158 rfl (lv_at hl 1 rfl) ?_
            refine m_get F hin hw 11 (by decide) (by decide +kernel) rfl dX10_valley_159 ?_
            refine bi_iconst F dX10_valley_162 ?_
            refine lv_aload_n F.1 F.2.1 dX10_valley_163 rfl (lv_at hl 1 rfl) ?_
            refine m_get F hin hw 6 (by decide) (by decide +kernel) rfl dX10_valley_164 ?_
            refine bi_iconst F dX10_valley_167 ?_
            refine bi_bipush F dX10_valley_168 (by decide) ?_
            refine calls_G (As := [.ref (eA E 9), .int (iI 0), .ref (eA E 4), .int (iI 0), .int (iI 12)]) (rest := []) F (c_copies l E (jI (st1 (st1 I 0 0) 1 a10) a10 w11) B3 9 0 4 0 12 12 12 rfl rfl (by decide) (by decide) (by decide) (by omega) (by omega) (by omega) (by omega)) (va_cwS 5 F.2.2.2.2 gX10_valley_X10_copies rfl rfl rfl (by decide +kernel) ⟨Nat.le_of_ble_eq_true rfl, Nat.le_of_ble_eq_true rfl⟩) hw rfl hl.1 rfl (Nat.le_of_ble_eq_true rfl) dX10_valley_170 ⟨Nat.zero_le _, Nat.zero_le _⟩ (fun H locs hw => ?_)
            generalize eA21 : stA B3 4 (cpI (B3 9) (B3 4) 0 0 12) = A21 at hw
            have hw := m_norm hw 4 12 (by decide) rfl (A21 9) (fun k hk => by rw [← eA21, stA_s, stA_n (show (9 : Nat) ≠ 4 by decide)]; unfold cpI; rw [if_pos (by omega)]; congr 1; omega)
            generalize eA22 : stA A21 4 (A21 9) = A22 at hw
            have hB4 : A22 = stA B3 4 (B3 9) := by subst_vars; exact stA_2
            obtain ⟨B4, eB4⟩ : ∃ z, z = stA B3 4 (B3 9) := ⟨_, rfl⟩
            rw [hB4, ← eB4] at hw
            refine lv_aload_n F.1 F.2.1 dX10_valley_173 rfl (lv_at hl 1 rfl) ?_
            refine m_get F hin hw 12 (by decide) (by decide +kernel) rfl dX10_valley_174 ?_
            refine bi_iconst F dX10_valley_177 ?_
            refine lv_aload_n F.1 F.2.1 dX10_valley_178 rfl (lv_at hl 1 rfl) ?_
            refine m_get F hin hw 7 (by decide) (by decide +kernel) rfl dX10_valley_179 ?_
            refine bi_iconst F dX10_valley_182 ?_
            refine bi_bipush F dX10_valley_183 (by decide) ?_
            refine calls_G (As := [.ref (eA E 10), .int (iI 0), .ref (eA E 5), .int (iI 0), .int (iI 10)]) (rest := []) F (c_copies l E (jI (st1 (st1 I 0 0) 1 a10) a10 w11) B4 10 0 5 0 10 10 10 rfl rfl (by decide) (by decide) (by decide) (by omega) (by omega) (by omega) (by omega)) (va_cwS 5 F.2.2.2.2 gX10_valley_X10_copies rfl rfl rfl (by decide +kernel) ⟨Nat.le_of_ble_eq_true rfl, Nat.le_of_ble_eq_true rfl⟩) hw rfl hl.1 rfl (Nat.le_of_ble_eq_true rfl) dX10_valley_185 ⟨Nat.zero_le _, Nat.zero_le _⟩ (fun H locs hw => ?_)
            generalize eA23 : stA B4 5 (cpI (B4 10) (B4 5) 0 0 10) = A23 at hw
            have hw := m_norm hw 5 10 (by decide) rfl (A23 10) (fun k hk => by rw [← eA23, stA_s, stA_n (show (10 : Nat) ≠ 5 by decide)]; unfold cpI; rw [if_pos (by omega)]; congr 1; omega)
            generalize eA24 : stA A23 5 (A23 10) = A24 at hw
            have hB5 : A24 = stA B4 5 (B4 10) := by subst_vars; exact stA_2
            obtain ⟨B5, eB5⟩ : ∃ z, z = stA B4 5 (B4 10) := ⟨_, rfl⟩
            rw [hB5, ← eB5] at hw
            have hB53 : B5 1 3 = B 6 3 := by subst_vars; rfl
            refine bi_iconst F dX10_valley_188 ?_
            refine lv_istore_n (lv' := [(1, .int (iI 0)), (0, .ref (eO E 0))]) F.1 F.2.1 dX10_valley_189 rfl hl (by decide) rfl (fun ls hl => ?_)
            have loop_190 : ∀ (nf : Nat) (k : Int) (C1 : Nat → Int → Int) (H : Heap) (locs : List Loc) (ls : Array Slot) (hk : 0 ≤ k ∧ k ≤ 35) (hC1 : C1 = stA B5 11 (zr (B5 11) zZ k)) (hw : gH E A0 H0 s (mW E (jI (st1 (st1 I 0 0) 1 a10) a10 w11) C1) H locs) (hl : lv_has ls 2 [(1, .int (iI k)), (0, .ref (eO E 0))]) (hnf : (35 - k).toNat < nf), W p l e ({ frames := 6, cells := 0, slots := 0, locals := 126 } : Room) s m args below meth c H locs 0 0 Q (F0 m 190 ls []) := by
              intro nf
              induction nf with
              | zero =>
                intro k C1 H locs ls hk hC1 hw hl hnf
                exact absurd hnf (Nat.not_lt_zero _)
              | succ nf ih_190 =>
                intro k C1 H locs ls hk hC1 hw hl hnf
                refine lv_iload_n F.1 F.2.1 dX10_valley_190 rfl (lv_at hl 0 rfl) ?_
                refine bi_bipush F dX10_valley_191 (by decide) ?_
                refine bi_icmp_ge (tgt := 209) F dX10_valley_193 (by decide) (by omega) (fun c_25 => ?_) (fun c_25 => ?_)
                · have hw := m_norm hw 11 35 (by decide) rfl (zZ) (fun t ht => by rw [hC1, stA_s, show k = 35 by omega]; exact zr_in ht)
                  generalize eA26 : stA C1 11 (zZ) = A26 at hw
                  refine lv_aload_n F.1 F.2.1 dX10_valley_209 rfl (lv_at hl 1 rfl) ?_
                  refine m_get F hin hw 6 (by decide) (by decide +kernel) rfl dX10_valley_210 ?_
                  refine bi_iconst F dX10_valley_213 ?_
                  refine lv_aload_n F.1 F.2.1 dX10_valley_214 rfl (lv_at hl 1 rfl) ?_
                  refine m_get F hin hw 13 (by decide) (by decide +kernel) rfl dX10_valley_215 ?_
                  refine bi_bipush F dX10_valley_218 (by decide) ?_
                  refine bi_bipush F dX10_valley_220 (by decide) ?_
                  refine calls_G (As := [.ref (eA E 4), .int (iI 0), .ref (eA E 11), .int (iI 13), .int (iI 12)]) (rest := []) F (c_copies l E (jI (st1 (st1 I 0 0) 1 a10) a10 w11) A26 4 0 11 13 12 12 35 rfl rfl (by decide) (by decide) (by decide) (by omega) (by omega) (by omega) (by omega)) (va_cwS 5 F.2.2.2.2 gX10_valley_X10_copies rfl rfl rfl (by decide +kernel) ⟨Nat.le_of_ble_eq_true rfl, Nat.le_of_ble_eq_true rfl⟩) hw rfl hl.1 rfl (Nat.le_of_ble_eq_true rfl) dX10_valley_222 ⟨Nat.zero_le _, Nat.zero_le _⟩ (fun H locs hw => ?_)
                  generalize eA27 : stA A26 11 (cpI (A26 4) (A26 11) 0 13 12) = A27 at hw
                  refine bi_iconst F dX10_valley_225 ?_
                  refine lv_istore_n (lv' := [(1, .int (iI 0)), (0, .ref (eO E 0))]) F.1 F.2.1 dX10_valley_226 rfl hl (by decide) rfl (fun ls hl => ?_)
                  have loop_227 : ∀ (nf : Nat) (k : Int) (C2 : Nat → Int → Int) (H : Heap) (locs : List Loc) (ls : Array Slot) (hk2 : 0 ≤ k ∧ k ≤ B5 1 3) (hC2 : C2 = stA B5 11 (fld (fun g d => up1 g (25 + 2 * d) (B5 5 (2 * d + 1))) (cpI (B5 4) zZ 0 13 12) k.toNat)) (hw : gH E A0 H0 s (mW E (jI (st1 (st1 I 0 0) 1 a10) a10 w11) C2) H locs) (hl : lv_has ls 2 [(1, .int (iI k)), (0, .ref (eO E 0))]) (hnf : (B5 1 3 - k).toNat < nf), W p l e ({ frames := 6, cells := 0, slots := 0, locals := 126 } : Room) s m args below meth c H locs 0 0 Q (F0 m 227 ls []) := by
                    intro nf
                    induction nf with
                    | zero =>
                      intro k C2 H locs ls hk2 hC2 hw hl hnf
                      exact absurd hnf (Nat.not_lt_zero _)
                    | succ nf ih_227 =>
                      intro k C2 H locs ls hk2 hC2 hw hl hnf
                      have hx1 : C2 1 3 = B5 1 3 := by rw [hC2]; rfl
                      refine lv_iload_n F.1 F.2.1 dX10_valley_227 rfl (lv_at hl 0 rfl) ?_
                      refine lv_aload_n F.1 F.2.1 dX10_valley_228 rfl (lv_at hl 1 rfl) ?_
                      refine m_get F hin hw 3 (by decide) (by decide +kernel) rfl dX10_valley_229 ?_
                      refine bi_iconst F dX10_valley_232 ?_
                      refine m_ld F hw 1 4 rfl (by decide) (by omega) dX10_valley_233 ?_
                      refine bi_icmp_ge (tgt := 264) F dX10_valley_234 (by decide) (by omega) (fun c_28 => ?_) (fun c_28 => ?_)
                      · have hvT : B5 = vT B := by rw [eB5, eB4, eB3, eB2, eB1]; rfl
                        have hv5 : B5 5 = B 10 := by rw [hvT]; rfl
                        have hv4 : B5 4 = B 9 := by rw [hvT]; rfl
                        have hnow : stA B5 11 (fld (fun g d => up1 g (25 + 2 * d) (B5 5 (2 * d + 1))) (cpI (B5 4) zZ 0 13 12) k.toNat) = stA (vT B) 11 (nowF (B 9) (B 10) (B 6 3).toNat) := by unfold nowF; rw [show k = B 6 3 by omega, hv5, hv4, hvT]
                        refine lv_aload_n F.1 F.2.1 dX10_valley_264 rfl (lv_at hl 1 rfl) ?_
                        refine bi_iconst F dX10_valley_265 ?_
                        refine m_putJ (I2 := jI (st1 (st1 (st1 I 0 0) 1 a10) 2 0) a10 w11) F hin hw 16 (by decide) (by decide +kernel) rfl (by decide +kernel) rfl dX10_valley_266 (fun H locs hw => ?_)
                        refine lv_aload_n F.1 F.2.1 dX10_valley_269 rfl (lv_at hl 1 rfl) ?_
                        refine bi_iconst F dX10_valley_270 ?_
                        refine m_putJ (I2 := jI (st1 (st1 (st1 (st1 I 0 0) 1 a10) 2 0) 4 0) a10 w11) F hin hw 22 (by decide) (by decide +kernel) rfl (by decide +kernel) rfl dX10_valley_271 (fun H locs hw => ?_)
                        refine lv_aload_n F.1 F.2.1 dX10_valley_274 rfl (lv_at hl 1 rfl) ?_
                        refine bi_iconst F dX10_valley_275 ?_
                        refine m_putJ (I2 := jI (st1 (st1 (st1 (st1 (st1 I 0 0) 1 a10) 2 0) 4 0) 5 0) a10 w11) F hin hw 24 (by decide) (by decide +kernel) rfl (by decide +kernel) rfl dX10_valley_276 (fun H locs hw => ?_)
                        refine lv_aload_n F.1 F.2.1 dX10_valley_279 rfl (lv_at hl 1 rfl) ?_
                        refine m_get F hin hw 19 (by decide) (by decide +kernel) rfl dX10_valley_280 ?_
                        refine bi_iconst F dX10_valley_283 ?_
                        refine bi_iconst F dX10_valley_284 ?_
                        refine m_zst F hw (by omega) (by decide) dX10_valley_285 (fun H locs hw => ?_)
                        generalize eA29 : st2 C2 21 0 0 = A29 at hw
                        have eK := eA29
                        refine lv_aload_n F.1 F.2.1 dX10_valley_286 rfl (lv_at hl 1 rfl) ?_
                        refine m_get F hin hw 19 (by decide) (by decide +kernel) rfl dX10_valley_287 ?_
                        refine bi_iconst F dX10_valley_290 ?_
                        refine bi_iconst F dX10_valley_291 ?_
                        refine m_zst F hw (by omega) (by decide) dX10_valley_292 (fun H locs hw => ?_)
                        generalize eA30 : st2 A29 21 1 0 = A30 at hw
                        refine lv_aload_n F.1 F.2.1 dX10_valley_293 rfl (lv_at hl 1 rfl) ?_
                        refine m_get F hin hw 3 (by decide) (by decide +kernel) rfl dX10_valley_294 ?_
                        refine bi_iconst F dX10_valley_297 ?_
                        refine m_ld F hw 1 4 rfl (by decide) (by omega) dX10_valley_298 ?_
                        have f_31 : A30 1 1 = A29 1 1 := by rw [← eA30, st2_n (by decide)]
                        have f_32 : A29 1 1 = C2 1 1 := by rw [← eA29, st2_n (by decide)]
                        exact hret _ _ _ _ _ _ (by first | (exfalso; omega) | (unfold mValR; rw [hP, if_pos (by show w11 = 0; omega)]; rw [← eB, ← eA30, ← eK, hC2, hvT]; rfl)) (by first | (exfalso; omega) | (unfold mValI mValA; rw [hP, if_pos (by show w11 = 0; omega), if_pos (by show w11 = 0; omega)]; exact mW_I (by rw [hw00]; try rfl) (by rw [← eB, ← eA30, ← eK, hC2, hnow]; rfl))) hw dX10_valley_299
                      · refine lv_aload_n F.1 F.2.1 dX10_valley_237 rfl (lv_at hl 1 rfl) ?_
                        refine m_get F hin hw 13 (by decide) (by decide +kernel) rfl dX10_valley_238 ?_
                        refine bi_bipush F dX10_valley_241 (by decide) ?_
                        refine bi_iconst F dX10_valley_243 ?_
                        refine lv_iload_n F.1 F.2.1 dX10_valley_244 rfl (lv_at hl 0 rfl) ?_
                        refine bi_imul F dX10_valley_245 ?_
                        refine bi_iadd F dX10_valley_246 ?_
                        refine lv_aload_n F.1 F.2.1 dX10_valley_247 rfl (lv_at hl 1 rfl) ?_
                        refine m_get F hin hw 7 (by decide) (by decide +kernel) rfl dX10_valley_248 ?_
                        refine bi_iconst F dX10_valley_251 ?_
                        refine lv_iload_n F.1 F.2.1 dX10_valley_252 rfl (lv_at hl 0 rfl) ?_
                        refine bi_imul F dX10_valley_253 ?_
                        refine bi_iconst F dX10_valley_254 ?_
                        refine bi_iadd F dX10_valley_255 ?_
                        refine m_ld F hw 5 10 rfl (by decide) (by omega) dX10_valley_256 ?_
                        refine m_st F hw 11 35 rfl (by decide) (by omega) dX10_valley_257 (fun H locs hw => ?_)
                        generalize eA33 : st2 C2 11 (25 + (2 * k)) (C2 5 (2 * k + 1)) = A33 at hw
                        refine lv_iinc (v := iI (k + 1)) (lv' := [(1, .int (iI (k + 1))), (0, .ref (eO E 0))]) F.1 F.2.1 dX10_valley_258 hl (k := 0) rfl (iI_add _ _).symm (by decide) rfl (fun ls hl => ?_)
                        refine lv_goto (tgt := 227) F.1 F.2.1 dX10_valley_261 (by decide) ?_
                        exact ih_227 (k + 1) A33 H locs ls (by omega) (by rw [← eA33, hC2, st2_A, fld_s hk2.1]; rfl) hw (lv_sub hl [0, 1] rfl) (by omega)
                  exact loop_227 ((B5 1 3 - 0 : Int).toNat + 1) 0 A27 H locs ls (by omega) (by subst_vars; rw [stA_2, stA_2, stA_2]; rfl) hw (lv_sub hl [0, 1] rfl) (by omega)
                · refine lv_aload_n F.1 F.2.1 dX10_valley_196 rfl (lv_at hl 1 rfl) ?_
                  refine m_get F hin hw 13 (by decide) (by decide +kernel) rfl dX10_valley_197 ?_
                  refine lv_iload_n F.1 F.2.1 dX10_valley_200 rfl (lv_at hl 0 rfl) ?_
                  refine bi_iconst F dX10_valley_201 ?_
                  refine m_st F hw 11 35 rfl (by decide) (by omega) dX10_valley_202 (fun H locs hw => ?_)
                  generalize eA34 : st2 C1 11 k 0 = A34 at hw
                  refine lv_iinc (v := iI (k + 1)) (lv' := [(1, .int (iI (k + 1))), (0, .ref (eO E 0))]) F.1 F.2.1 dX10_valley_203 hl (k := 0) rfl (iI_add _ _).symm (by decide) rfl (fun ls hl => ?_)
                  refine lv_goto (tgt := 190) F.1 F.2.1 dX10_valley_206 (by decide) ?_
                  exact ih_190 (k + 1) A34 H locs ls (by omega) (by rw [← eA34, hC1, st2_A]; congr 1; exact zr_s hk.1) hw (lv_sub hl [0, 1] rfl) (by omega)
            exact loop_190 ((35 - 0 : Int).toNat + 1) 0 B5 H locs ls (by omega) (by rw [zr_0, stA_id]) hw (lv_sub hl [0, 1] rfl) (by omega)
          · refine bi_bipush F dX10_valley_106 (by decide) ?_
            refine lv_aload_n F.1 F.2.1 dX10_valley_108 rfl (lv_at hl 1 rfl) ?_
            refine m_get (v := .int (iI w11)) F hin hw 26 (by decide) (by decide +kernel) rfl dX10_valley_109 ?_
            refine bi_isub F dX10_valley_112 ?_
            exact hret _ _ _ _ _ _ (by first | (exfalso; omega) | (unfold mValR; rw [hP, if_neg (by show ¬ w11 = 0; omega)])) (by first | (exfalso; omega) | (unfold mValI mValA; rw [hP, if_neg (by show ¬ w11 = 0; omega), if_neg (by show ¬ w11 = 0; omega)])) hw dX10_valley_113
        · refine bi_iconst F dX10_valley_88 ?_
          refine lv_goto (tgt := 96) F.1 F.2.1 dX10_valley_89 (by decide) ?_
          refine m_putJ (I2 := jI (st1 (st1 I 0 0) 1 (-1)) a10 w11) F hin hw 2 (by decide) (by decide +kernel) rfl (by decide +kernel) rfl dX10_valley_96 (fun H locs hw => ?_)
          refine lv_aload_n F.1 F.2.1 dX10_valley_99 rfl (lv_at hl 1 rfl) ?_
          refine m_get (v := .int (iI w11)) F hin hw 26 (by decide) (by decide +kernel) rfl dX10_valley_100 ?_
          refine bi_if_eq (tgt := 114) F dX10_valley_103 (by decide) (by omega) (fun c_35 => ?_) (fun c_35 => ?_)
          · obtain ⟨B, eB⟩ : ∃ z, z = A12 := ⟨_, rfl⟩
            rw [← eB] at hw
            rw [← eB] at g4
            have hw00 : w11 = 0 := by omega
            obtain ⟨hd0, hd1, hd2, hd3⟩ := id g4
            refine lv_aload_n F.1 F.2.1 dX10_valley_114 rfl (lv_at hl 1 rfl) ?_
            refine m_get F hin hw 8 (by decide) (by decide +kernel) rfl dX10_valley_115 ?_
            refine bi_iconst F dX10_valley_118 ?_
            refine lv_aload_n F.1 F.2.1 dX10_valley_119 rfl (lv_at hl 1 rfl) ?_
            refine m_get F hin hw 3 (by decide) (by decide +kernel) rfl dX10_valley_120 ?_
            refine bi_iconst F dX10_valley_123 ?_
            refine bi_iconst F dX10_valley_124 ?_
            refine calls_G (As := [.ref (eA E 6), .int (iI 0), .ref (eA E 1), .int (iI 0), .int (iI 4)]) (rest := []) F (c_copies l E (jI (st1 (st1 I 0 0) 1 (-1)) a10 w11) B 6 0 1 0 4 4 4 rfl rfl (by decide) (by decide) (by decide) (by omega) (by omega) (by omega) (by omega)) (va_cwS 5 F.2.2.2.2 gX10_valley_X10_copies rfl rfl rfl (by decide +kernel) ⟨Nat.le_of_ble_eq_true rfl, Nat.le_of_ble_eq_true rfl⟩) hw rfl hl.1 rfl (Nat.le_of_ble_eq_true rfl) dX10_valley_125 ⟨Nat.zero_le _, Nat.zero_le _⟩ (fun H locs hw => ?_)
            generalize eA36 : stA B 1 (cpI (B 6) (B 1) 0 0 4) = A36 at hw
            have hw := m_norm hw 1 4 (by decide) rfl (A36 6) (fun k hk => by rw [← eA36, stA_s, stA_n (show (6 : Nat) ≠ 1 by decide)]; unfold cpI; rw [if_pos (by omega)]; congr 1; omega)
            generalize eA37 : stA A36 1 (A36 6) = A37 at hw
            have hB1 : A37 = stA B 1 (B 6) := by subst_vars; exact stA_2
            obtain ⟨B1, eB1⟩ : ∃ z, z = stA B 1 (B 6) := ⟨_, rfl⟩
            rw [hB1, ← eB1] at hw
            refine lv_aload_n F.1 F.2.1 dX10_valley_128 rfl (lv_at hl 1 rfl) ?_
            refine m_get F hin hw 9 (by decide) (by decide +kernel) rfl dX10_valley_129 ?_
            refine bi_iconst F dX10_valley_132 ?_
            refine lv_aload_n F.1 F.2.1 dX10_valley_133 rfl (lv_at hl 1 rfl) ?_
            refine m_get F hin hw 4 (by decide) (by decide +kernel) rfl dX10_valley_134 ?_
            refine bi_iconst F dX10_valley_137 ?_
            refine bi_bipush F dX10_valley_138 (by decide) ?_
            refine calls_G (As := [.ref (eA E 7), .int (iI 0), .ref (eA E 2), .int (iI 0), .int (iI 20)]) (rest := []) F (c_copies l E (jI (st1 (st1 I 0 0) 1 (-1)) a10 w11) B1 7 0 2 0 20 20 20 rfl rfl (by decide) (by decide) (by decide) (by omega) (by omega) (by omega) (by omega)) (va_cwS 5 F.2.2.2.2 gX10_valley_X10_copies rfl rfl rfl (by decide +kernel) ⟨Nat.le_of_ble_eq_true rfl, Nat.le_of_ble_eq_true rfl⟩) hw rfl hl.1 rfl (Nat.le_of_ble_eq_true rfl) dX10_valley_140 ⟨Nat.zero_le _, Nat.zero_le _⟩ (fun H locs hw => ?_)
            generalize eA38 : stA B1 2 (cpI (B1 7) (B1 2) 0 0 20) = A38 at hw
            have hw := m_norm hw 2 20 (by decide) rfl (A38 7) (fun k hk => by rw [← eA38, stA_s, stA_n (show (7 : Nat) ≠ 2 by decide)]; unfold cpI; rw [if_pos (by omega)]; congr 1; omega)
            generalize eA39 : stA A38 2 (A38 7) = A39 at hw
            have hB2 : A39 = stA B1 2 (B1 7) := by subst_vars; exact stA_2
            obtain ⟨B2, eB2⟩ : ∃ z, z = stA B1 2 (B1 7) := ⟨_, rfl⟩
            rw [hB2, ← eB2] at hw
            refine lv_aload_n F.1 F.2.1 dX10_valley_143 rfl (lv_at hl 1 rfl) ?_
            refine m_get F hin hw 10 (by decide) (by decide +kernel) rfl dX10_valley_144 ?_
            refine bi_iconst F dX10_valley_147 ?_
            refine lv_aload_n F.1 F.2.1 dX10_valley_148 rfl (lv_at hl 1 rfl) ?_
            refine m_get F hin hw 5 (by decide) (by decide +kernel) rfl dX10_valley_149 ?_
            refine bi_iconst F dX10_valley_152 ?_
            refine bi_bipush F dX10_valley_153 (by decide) ?_
            refine calls_G (As := [.ref (eA E 8), .int (iI 0), .ref (eA E 3), .int (iI 0), .int (iI 20)]) (rest := []) F (c_copies l E (jI (st1 (st1 I 0 0) 1 (-1)) a10 w11) B2 8 0 3 0 20 20 20 rfl rfl (by decide) (by decide) (by decide) (by omega) (by omega) (by omega) (by omega)) (va_cwS 5 F.2.2.2.2 gX10_valley_X10_copies rfl rfl rfl (by decide +kernel) ⟨Nat.le_of_ble_eq_true rfl, Nat.le_of_ble_eq_true rfl⟩) hw rfl hl.1 rfl (Nat.le_of_ble_eq_true rfl) dX10_valley_155 ⟨Nat.zero_le _, Nat.zero_le _⟩ (fun H locs hw => ?_)
            generalize eA40 : stA B2 3 (cpI (B2 8) (B2 3) 0 0 20) = A40 at hw
            have hw := m_norm hw 3 20 (by decide) rfl (A40 8) (fun k hk => by rw [← eA40, stA_s, stA_n (show (8 : Nat) ≠ 3 by decide)]; unfold cpI; rw [if_pos (by omega)]; congr 1; omega)
            generalize eA41 : stA A40 3 (A40 8) = A41 at hw
            have hB3 : A41 = stA B2 3 (B2 8) := by subst_vars; exact stA_2
            obtain ⟨B3, eB3⟩ : ∃ z, z = stA B2 3 (B2 8) := ⟨_, rfl⟩
            rw [hB3, ← eB3] at hw
            refine lv_aload_n F.1 F.2.1 dX10_valley_158 rfl (lv_at hl 1 rfl) ?_
            refine m_get F hin hw 11 (by decide) (by decide +kernel) rfl dX10_valley_159 ?_
            refine bi_iconst F dX10_valley_162 ?_
            refine lv_aload_n F.1 F.2.1 dX10_valley_163 rfl (lv_at hl 1 rfl) ?_
            refine m_get F hin hw 6 (by decide) (by decide +kernel) rfl dX10_valley_164 ?_
            refine bi_iconst F dX10_valley_167 ?_
            refine bi_bipush F dX10_valley_168 (by decide) ?_
            refine calls_G (As := [.ref (eA E 9), .int (iI 0), .ref (eA E 4), .int (iI 0), .int (iI 12)]) (rest := []) F (c_copies l E (jI (st1 (st1 I 0 0) 1 (-1)) a10 w11) B3 9 0 4 0 12 12 12 rfl rfl (by decide) (by decide) (by decide) (by omega) (by omega) (by omega) (by omega)) (va_cwS 5 F.2.2.2.2 gX10_valley_X10_copies rfl rfl rfl (by decide +kernel) ⟨Nat.le_of_ble_eq_true rfl, Nat.le_of_ble_eq_true rfl⟩) hw rfl hl.1 rfl (Nat.le_of_ble_eq_true rfl) dX10_valley_170 ⟨Nat.zero_le _, Nat.zero_le _⟩ (fun H locs hw => ?_)
            generalize eA42 : stA B3 4 (cpI (B3 9) (B3 4) 0 0 12) = A42 at hw
            have hw := m_norm hw 4 12 (by decide) rfl (A42 9) (fun k hk => by rw [← eA42, stA_s, stA_n (show (9 : Nat) ≠ 4 by decide)]; unfold cpI; rw [if_pos (by omega)]; congr 1; omega)
            generalize eA43 : stA A42 4 (A42 9) = A43 at hw
            have hB4 : A43 = stA B3 4 (B3 9) := by subst_vars; exact stA_2
            obtain ⟨B4, eB4⟩ : ∃ z, z = stA B3 4 (B3 9) := ⟨_, rfl⟩
            rw [hB4, ← eB4] at hw
            refine lv_aload_n F.1 F.2.1 dX10_valley_173 rfl (lv_at hl 1 rfl) ?_
            refine m_get F hin hw 12 (by decide) (by decide +kernel) rfl dX10_valley_174 ?_
            refine bi_iconst F dX10_valley_177 ?_
            refine lv_aload_n F.1 F.2.1 dX10_valley_178 rfl (lv_at hl 1 rfl) ?_
            refine m_get F hin hw 7 (by decide) (by decide +kernel) rfl dX10_valley_179 ?_
            refine bi_iconst F dX10_valley_182 ?_
            refine bi_bipush F dX10_valley_183 (by decide) ?_
            refine calls_G (As := [.ref (eA E 10), .int (iI 0), .ref (eA E 5), .int (iI 0), .int (iI 10)]) (rest := []) F (c_copies l E (jI (st1 (st1 I 0 0) 1 (-1)) a10 w11) B4 10 0 5 0 10 10 10 rfl rfl (by decide) (by decide) (by decide) (by omega) (by omega) (by omega) (by omega)) (va_cwS 5 F.2.2.2.2 gX10_valley_X10_copies rfl rfl rfl (by decide +kernel) ⟨Nat.le_of_ble_eq_true rfl, Nat.le_of_ble_eq_true rfl⟩) hw rfl hl.1 rfl (Nat.le_of_ble_eq_true rfl) dX10_valley_185 ⟨Nat.zero_le _, Nat.zero_le _⟩ (fun H locs hw => ?_)
            generalize eA44 : stA B4 5 (cpI (B4 10) (B4 5) 0 0 10) = A44 at hw
            have hw := m_norm hw 5 10 (by decide) rfl (A44 10) (fun k hk => by rw [← eA44, stA_s, stA_n (show (10 : Nat) ≠ 5 by decide)]; unfold cpI; rw [if_pos (by omega)]; congr 1; omega)
            generalize eA45 : stA A44 5 (A44 10) = A45 at hw
            have hB5 : A45 = stA B4 5 (B4 10) := by subst_vars; exact stA_2
            obtain ⟨B5, eB5⟩ : ∃ z, z = stA B4 5 (B4 10) := ⟨_, rfl⟩
            rw [hB5, ← eB5] at hw
            have hB53 : B5 1 3 = B 6 3 := by subst_vars; rfl
            refine bi_iconst F dX10_valley_188 ?_
            refine lv_istore_n (lv' := [(1, .int (iI 0)), (0, .ref (eO E 0))]) F.1 F.2.1 dX10_valley_189 rfl hl (by decide) rfl (fun ls hl => ?_)
            have loop_190 : ∀ (nf : Nat) (k : Int) (C1 : Nat → Int → Int) (H : Heap) (locs : List Loc) (ls : Array Slot) (hk : 0 ≤ k ∧ k ≤ 35) (hC1 : C1 = stA B5 11 (zr (B5 11) zZ k)) (hw : gH E A0 H0 s (mW E (jI (st1 (st1 I 0 0) 1 (-1)) a10 w11) C1) H locs) (hl : lv_has ls 2 [(1, .int (iI k)), (0, .ref (eO E 0))]) (hnf : (35 - k).toNat < nf), W p l e ({ frames := 6, cells := 0, slots := 0, locals := 126 } : Room) s m args below meth c H locs 0 0 Q (F0 m 190 ls []) := by
              intro nf
              induction nf with
              | zero =>
                intro k C1 H locs ls hk hC1 hw hl hnf
                exact absurd hnf (Nat.not_lt_zero _)
              | succ nf ih_190 =>
                intro k C1 H locs ls hk hC1 hw hl hnf
                refine lv_iload_n F.1 F.2.1 dX10_valley_190 rfl (lv_at hl 0 rfl) ?_
                refine bi_bipush F dX10_valley_191 (by decide) ?_
                refine bi_icmp_ge (tgt := 209) F dX10_valley_193 (by decide) (by omega) (fun c_46 => ?_) (fun c_46 => ?_)
                · have hw := m_norm hw 11 35 (by decide) rfl (zZ) (fun t ht => by rw [hC1, stA_s, show k = 35 by omega]; exact zr_in ht)
                  generalize eA47 : stA C1 11 (zZ) = A47 at hw
                  refine lv_aload_n F.1 F.2.1 dX10_valley_209 rfl (lv_at hl 1 rfl) ?_
                  refine m_get F hin hw 6 (by decide) (by decide +kernel) rfl dX10_valley_210 ?_
                  refine bi_iconst F dX10_valley_213 ?_
                  refine lv_aload_n F.1 F.2.1 dX10_valley_214 rfl (lv_at hl 1 rfl) ?_
                  refine m_get F hin hw 13 (by decide) (by decide +kernel) rfl dX10_valley_215 ?_
                  refine bi_bipush F dX10_valley_218 (by decide) ?_
                  refine bi_bipush F dX10_valley_220 (by decide) ?_
                  refine calls_G (As := [.ref (eA E 4), .int (iI 0), .ref (eA E 11), .int (iI 13), .int (iI 12)]) (rest := []) F (c_copies l E (jI (st1 (st1 I 0 0) 1 (-1)) a10 w11) A47 4 0 11 13 12 12 35 rfl rfl (by decide) (by decide) (by decide) (by omega) (by omega) (by omega) (by omega)) (va_cwS 5 F.2.2.2.2 gX10_valley_X10_copies rfl rfl rfl (by decide +kernel) ⟨Nat.le_of_ble_eq_true rfl, Nat.le_of_ble_eq_true rfl⟩) hw rfl hl.1 rfl (Nat.le_of_ble_eq_true rfl) dX10_valley_222 ⟨Nat.zero_le _, Nat.zero_le _⟩ (fun H locs hw => ?_)
                  generalize eA48 : stA A47 11 (cpI (A47 4) (A47 11) 0 13 12) = A48 at hw
                  refine bi_iconst F dX10_valley_225 ?_
                  refine lv_istore_n (lv' := [(1, .int (iI 0)), (0, .ref (eO E 0))]) F.1 F.2.1 dX10_valley_226 rfl hl (by decide) rfl (fun ls hl => ?_)
                  have loop_227 : ∀ (nf : Nat) (k : Int) (C2 : Nat → Int → Int) (H : Heap) (locs : List Loc) (ls : Array Slot) (hk2 : 0 ≤ k ∧ k ≤ B5 1 3) (hC2 : C2 = stA B5 11 (fld (fun g d => up1 g (25 + 2 * d) (B5 5 (2 * d + 1))) (cpI (B5 4) zZ 0 13 12) k.toNat)) (hw : gH E A0 H0 s (mW E (jI (st1 (st1 I 0 0) 1 (-1)) a10 w11) C2) H locs) (hl : lv_has ls 2 [(1, .int (iI k)), (0, .ref (eO E 0))]) (hnf : (B5 1 3 - k).toNat < nf), W p l e ({ frames := 6, cells := 0, slots := 0, locals := 126 } : Room) s m args below meth c H locs 0 0 Q (F0 m 227 ls []) := by
                    intro nf
                    induction nf with
                    | zero =>
                      intro k C2 H locs ls hk2 hC2 hw hl hnf
                      exact absurd hnf (Nat.not_lt_zero _)
                    | succ nf ih_227 =>
                      intro k C2 H locs ls hk2 hC2 hw hl hnf
                      have hx1 : C2 1 3 = B5 1 3 := by rw [hC2]; rfl
                      refine lv_iload_n F.1 F.2.1 dX10_valley_227 rfl (lv_at hl 0 rfl) ?_
                      refine lv_aload_n F.1 F.2.1 dX10_valley_228 rfl (lv_at hl 1 rfl) ?_
                      refine m_get F hin hw 3 (by decide) (by decide +kernel) rfl dX10_valley_229 ?_
                      refine bi_iconst F dX10_valley_232 ?_
                      refine m_ld F hw 1 4 rfl (by decide) (by omega) dX10_valley_233 ?_
                      refine bi_icmp_ge (tgt := 264) F dX10_valley_234 (by decide) (by omega) (fun c_49 => ?_) (fun c_49 => ?_)
                      · have hvT : B5 = vT B := by rw [eB5, eB4, eB3, eB2, eB1]; rfl
                        have hv5 : B5 5 = B 10 := by rw [hvT]; rfl
                        have hv4 : B5 4 = B 9 := by rw [hvT]; rfl
                        have hnow : stA B5 11 (fld (fun g d => up1 g (25 + 2 * d) (B5 5 (2 * d + 1))) (cpI (B5 4) zZ 0 13 12) k.toNat) = stA (vT B) 11 (nowF (B 9) (B 10) (B 6 3).toNat) := by unfold nowF; rw [show k = B 6 3 by omega, hv5, hv4, hvT]
                        refine lv_aload_n F.1 F.2.1 dX10_valley_264 rfl (lv_at hl 1 rfl) ?_
                        refine bi_iconst F dX10_valley_265 ?_
                        refine m_putJ (I2 := jI (st1 (st1 (st1 I 0 0) 1 (-1)) 2 0) a10 w11) F hin hw 16 (by decide) (by decide +kernel) rfl (by decide +kernel) rfl dX10_valley_266 (fun H locs hw => ?_)
                        refine lv_aload_n F.1 F.2.1 dX10_valley_269 rfl (lv_at hl 1 rfl) ?_
                        refine bi_iconst F dX10_valley_270 ?_
                        refine m_putJ (I2 := jI (st1 (st1 (st1 (st1 I 0 0) 1 (-1)) 2 0) 4 0) a10 w11) F hin hw 22 (by decide) (by decide +kernel) rfl (by decide +kernel) rfl dX10_valley_271 (fun H locs hw => ?_)
                        refine lv_aload_n F.1 F.2.1 dX10_valley_274 rfl (lv_at hl 1 rfl) ?_
                        refine bi_iconst F dX10_valley_275 ?_
                        refine m_putJ (I2 := jI (st1 (st1 (st1 (st1 (st1 I 0 0) 1 (-1)) 2 0) 4 0) 5 0) a10 w11) F hin hw 24 (by decide) (by decide +kernel) rfl (by decide +kernel) rfl dX10_valley_276 (fun H locs hw => ?_)
                        refine lv_aload_n F.1 F.2.1 dX10_valley_279 rfl (lv_at hl 1 rfl) ?_
                        refine m_get F hin hw 19 (by decide) (by decide +kernel) rfl dX10_valley_280 ?_
                        refine bi_iconst F dX10_valley_283 ?_
                        refine bi_iconst F dX10_valley_284 ?_
                        refine m_zst F hw (by omega) (by decide) dX10_valley_285 (fun H locs hw => ?_)
                        generalize eA50 : st2 C2 21 0 0 = A50 at hw
                        have eK := eA50
                        refine lv_aload_n F.1 F.2.1 dX10_valley_286 rfl (lv_at hl 1 rfl) ?_
                        refine m_get F hin hw 19 (by decide) (by decide +kernel) rfl dX10_valley_287 ?_
                        refine bi_iconst F dX10_valley_290 ?_
                        refine bi_iconst F dX10_valley_291 ?_
                        refine m_zst F hw (by omega) (by decide) dX10_valley_292 (fun H locs hw => ?_)
                        generalize eA51 : st2 A50 21 1 0 = A51 at hw
                        refine lv_aload_n F.1 F.2.1 dX10_valley_293 rfl (lv_at hl 1 rfl) ?_
                        refine m_get F hin hw 3 (by decide) (by decide +kernel) rfl dX10_valley_294 ?_
                        refine bi_iconst F dX10_valley_297 ?_
                        refine m_ld F hw 1 4 rfl (by decide) (by omega) dX10_valley_298 ?_
                        have f_52 : A51 1 1 = A50 1 1 := by rw [← eA51, st2_n (by decide)]
                        have f_53 : A50 1 1 = C2 1 1 := by rw [← eA50, st2_n (by decide)]
                        exact hret _ _ _ _ _ _ (by first | (exfalso; omega) | (unfold mValR; rw [hP, if_pos (by show w11 = 0; omega)]; rw [← eB, ← eA51, ← eK, hC2, hvT]; rfl)) (by first | (exfalso; omega) | (unfold mValI mValA; rw [hP, if_pos (by show w11 = 0; omega), if_pos (by show w11 = 0; omega)]; exact mW_I (by rw [hw00]; try rfl) (by rw [← eB, ← eA51, ← eK, hC2, hnow]; rfl))) hw dX10_valley_299
                      · refine lv_aload_n F.1 F.2.1 dX10_valley_237 rfl (lv_at hl 1 rfl) ?_
                        refine m_get F hin hw 13 (by decide) (by decide +kernel) rfl dX10_valley_238 ?_
                        refine bi_bipush F dX10_valley_241 (by decide) ?_
                        refine bi_iconst F dX10_valley_243 ?_
                        refine lv_iload_n F.1 F.2.1 dX10_valley_244 rfl (lv_at hl 0 rfl) ?_
                        refine bi_imul F dX10_valley_245 ?_
                        refine bi_iadd F dX10_valley_246 ?_
                        refine lv_aload_n F.1 F.2.1 dX10_valley_247 rfl (lv_at hl 1 rfl) ?_
                        refine m_get F hin hw 7 (by decide) (by decide +kernel) rfl dX10_valley_248 ?_
                        refine bi_iconst F dX10_valley_251 ?_
                        refine lv_iload_n F.1 F.2.1 dX10_valley_252 rfl (lv_at hl 0 rfl) ?_
                        refine bi_imul F dX10_valley_253 ?_
                        refine bi_iconst F dX10_valley_254 ?_
                        refine bi_iadd F dX10_valley_255 ?_
                        refine m_ld F hw 5 10 rfl (by decide) (by omega) dX10_valley_256 ?_
                        refine m_st F hw 11 35 rfl (by decide) (by omega) dX10_valley_257 (fun H locs hw => ?_)
                        generalize eA54 : st2 C2 11 (25 + (2 * k)) (C2 5 (2 * k + 1)) = A54 at hw
                        refine lv_iinc (v := iI (k + 1)) (lv' := [(1, .int (iI (k + 1))), (0, .ref (eO E 0))]) F.1 F.2.1 dX10_valley_258 hl (k := 0) rfl (iI_add _ _).symm (by decide) rfl (fun ls hl => ?_)
                        refine lv_goto (tgt := 227) F.1 F.2.1 dX10_valley_261 (by decide) ?_
                        exact ih_227 (k + 1) A54 H locs ls (by omega) (by rw [← eA54, hC2, st2_A, fld_s hk2.1]; rfl) hw (lv_sub hl [0, 1] rfl) (by omega)
                  exact loop_227 ((B5 1 3 - 0 : Int).toNat + 1) 0 A48 H locs ls (by omega) (by subst_vars; rw [stA_2, stA_2, stA_2]; rfl) hw (lv_sub hl [0, 1] rfl) (by omega)
                · refine lv_aload_n F.1 F.2.1 dX10_valley_196 rfl (lv_at hl 1 rfl) ?_
                  refine m_get F hin hw 13 (by decide) (by decide +kernel) rfl dX10_valley_197 ?_
                  refine lv_iload_n F.1 F.2.1 dX10_valley_200 rfl (lv_at hl 0 rfl) ?_
                  refine bi_iconst F dX10_valley_201 ?_
                  refine m_st F hw 11 35 rfl (by decide) (by omega) dX10_valley_202 (fun H locs hw => ?_)
                  generalize eA55 : st2 C1 11 k 0 = A55 at hw
                  refine lv_iinc (v := iI (k + 1)) (lv' := [(1, .int (iI (k + 1))), (0, .ref (eO E 0))]) F.1 F.2.1 dX10_valley_203 hl (k := 0) rfl (iI_add _ _).symm (by decide) rfl (fun ls hl => ?_)
                  refine lv_goto (tgt := 190) F.1 F.2.1 dX10_valley_206 (by decide) ?_
                  exact ih_190 (k + 1) A55 H locs ls (by omega) (by rw [← eA55, hC1, st2_A]; congr 1; exact zr_s hk.1) hw (lv_sub hl [0, 1] rfl) (by omega)
            exact loop_190 ((35 - 0 : Int).toNat + 1) 0 B5 H locs ls (by omega) (by rw [zr_0, stA_id]) hw (lv_sub hl [0, 1] rfl) (by omega)
          · refine bi_bipush F dX10_valley_106 (by decide) ?_
            refine lv_aload_n F.1 F.2.1 dX10_valley_108 rfl (lv_at hl 1 rfl) ?_
            refine m_get (v := .int (iI w11)) F hin hw 26 (by decide) (by decide +kernel) rfl dX10_valley_109 ?_
            refine bi_isub F dX10_valley_112 ?_
            exact hret _ _ _ _ _ _ (by first | (exfalso; omega) | (unfold mValR; rw [hP, if_neg (by show ¬ w11 = 0; omega)])) (by first | (exfalso; omega) | (unfold mValI mValA; rw [hP, if_neg (by show ¬ w11 = 0; omega), if_neg (by show ¬ w11 = 0; omega)])) hw dX10_valley_113
      · refine lv_aload_n F.1 F.2.1 dX10_valley_18 rfl (lv_at hl 1 rfl) ?_
        refine m_get F hin hw 8 (by decide) (by decide +kernel) rfl dX10_valley_19 ?_
        refine lv_iload_n F.1 F.2.1 dX10_valley_22 rfl (lv_at hl 0 rfl) ?_
        refine bi_iconst F dX10_valley_23 ?_
        refine bi_irem F dX10_valley_24 (by omega) ?_
        refine bi_iconst F dX10_valley_25 ?_
        refine m_st F hw 6 4 rfl (by decide) (by omega) dX10_valley_26 (fun H locs hw => ?_)
        generalize eA56 : st2 A1 6 (k % 4) 0 = A56 at hw
        refine lv_aload_n F.1 F.2.1 dX10_valley_27 rfl (lv_at hl 1 rfl) ?_
        refine m_get F hin hw 9 (by decide) (by decide +kernel) rfl dX10_valley_28 ?_
        refine lv_iload_n F.1 F.2.1 dX10_valley_31 rfl (lv_at hl 0 rfl) ?_
        refine bi_iconst F dX10_valley_32 ?_
        refine m_st F hw 7 20 rfl (by decide) (by omega) dX10_valley_33 (fun H locs hw => ?_)
        generalize eA57 : st2 A56 7 k 0 = A57 at hw
        refine lv_aload_n F.1 F.2.1 dX10_valley_34 rfl (lv_at hl 1 rfl) ?_
        refine m_get F hin hw 10 (by decide) (by decide +kernel) rfl dX10_valley_35 ?_
        refine lv_iload_n F.1 F.2.1 dX10_valley_38 rfl (lv_at hl 0 rfl) ?_
        refine bi_iconst F dX10_valley_39 ?_
        refine m_st F hw 8 20 rfl (by decide) (by omega) dX10_valley_40 (fun H locs hw => ?_)
        generalize eA58 : st2 A57 8 k 0 = A58 at hw
        refine lv_aload_n F.1 F.2.1 dX10_valley_41 rfl (lv_at hl 1 rfl) ?_
        refine m_get F hin hw 11 (by decide) (by decide +kernel) rfl dX10_valley_42 ?_
        refine lv_iload_n F.1 F.2.1 dX10_valley_45 rfl (lv_at hl 0 rfl) ?_
        refine bi_bipush F dX10_valley_46 (by decide) ?_
        refine bi_irem F dX10_valley_48 (by omega) ?_
        refine bi_iconst F dX10_valley_49 ?_
        refine m_st F hw 9 12 rfl (by decide) (by omega) dX10_valley_50 (fun H locs hw => ?_)
        generalize eA59 : st2 A58 9 (k % 12) 0 = A59 at hw
        refine lv_aload_n F.1 F.2.1 dX10_valley_51 rfl (lv_at hl 1 rfl) ?_
        refine m_get F hin hw 12 (by decide) (by decide +kernel) rfl dX10_valley_52 ?_
        refine lv_iload_n F.1 F.2.1 dX10_valley_55 rfl (lv_at hl 0 rfl) ?_
        refine bi_bipush F dX10_valley_56 (by decide) ?_
        refine bi_irem F dX10_valley_58 (by omega) ?_
        refine bi_iconst F dX10_valley_59 ?_
        refine m_st F hw 10 10 rfl (by decide) (by omega) dX10_valley_60 (fun H locs hw => ?_)
        generalize eA60 : st2 A59 10 (k % 10) 0 = A60 at hw
        refine lv_iinc (v := iI (k + 1)) (lv' := [(1, .int (iI (k + 1))), (0, .ref (eO E 0))]) F.1 F.2.1 dX10_valley_61 hl (k := 0) rfl (iI_add _ _).symm (by decide) rfl (fun ls hl => ?_)
        refine lv_goto (tgt := 12) F.1 F.2.1 dX10_valley_64 (by decide) ?_
        exact ih_12 (k + 1) A60 H locs ls (by omega) (fun t ht => by subst_vars; show up1 (A1 6) (k % 4) 0 t = 0; unfold up1; split; rfl; exact h6 t (by omega)) (fun t ht => by subst_vars; show up1 (A1 7) k 0 t = 0; unfold up1; split; rfl; exact h7 t (by omega)) (fun t ht => by subst_vars; show up1 (A1 8) k 0 t = 0; unfold up1; split; rfl; exact h8 t (by omega)) (fun t ht => by subst_vars; show up1 (A1 9) (k % 12) 0 t = 0; unfold up1; split; rfl; exact h9 t (by omega)) (fun t ht => by subst_vars; show up1 (A1 10) (k % 10) 0 t = 0; unfold up1; split; rfl; exact h10 t (by omega)) (fun j hj => by subst_vars; rw [st2_n (by omega), st2_n (by omega), st2_n (by omega), st2_n (by omega), st2_n (by omega)]; exact hot j hj) hw (lv_sub hl [0, 1] rfl) (by omega)
  exact loop_12 ((20 - 0 : Int).toNat + 1) 0 A H locs ls (by omega) (fun t ht => by omega) (fun t ht => by omega) (fun t ht => by omega) (fun t ht => by omega) (fun t ht => by omega) (fun j _ => rfl) hw (lv_sub hl [0, 1] rfl) (by omega)
