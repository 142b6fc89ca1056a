set_option maxRecDepth 100000 in
set_option maxHeartbeats 4000000 in
theorem c_chance (l : Launch) (E : Ev) (I : Nat → Int) (A : Nat → Int → Int) (d : Int) (n : Int) (hd : -2147483648 ≤ d ∧ d ≤ 2147483647) (hn : -2147483648 ≤ n ∧ n ≤ 2147483647) (h00 : 0 < A 1 3 → 0 < A 1 0) (hlk : ∀ d, 0 ≤ d ∧ d < A 1 3 → A 11 (25 + 2 * d) - mSince (A 5) (A 11) d ≤ 999) (hok : mOk A) (hr : rOk (A 1 1) (A 1 2) (A 11) 500000) : MetS l yX10_chance wsX10_chance ({ frames := 2, cells := 0, slots := 0, locals := 43 } : Room) E [.ref (eO E 0), .int (iI d), .int (iI n)] I A (mChaR A d n) := by
  have hin : ∀ w ∈ wsX100, w ∈ wsX10_chance := fun w h => in_tail h
  refine met_S (cc := cX10_chance) (nL := 9) (by decide) rfl (Nat.le_of_ble_eq_true rfl) ?_
  intro p e s m args below meth c Q H0 A0 H locs ls F hw hl hret
  have F : CallFix p m c cX10_chance 9 s args wsX10_chance RX10 := F
  have hl : lv_has ls 9 [(0, .ref (eO E 0)), (1, .int (iI d)), (2, .int (iI n))] := hl
  obtain ⟨hV, hWn, hl0, hl1, hl2, hl3, hY, hPl, hPe⟩ := id hok
  have hA := hV
  have hf : ∀ k, 0 ≤ A 11 k ∧ A 11 k ≤ 900000 := (rOk_w hr (by decide)).1
  refine lv_aload_n F.1 F.2.1 dX10_chance_0 rfl (lv_at hl 0 rfl) ?_
  refine lv_iload_n F.1 F.2.1 dX10_chance_1 rfl (lv_at hl 1 rfl) ?_
  refine call_P (As := [.int (iI d)]) (rest := []) F (c_isDebt l E I A d (by omega) (by omega)) (cwV 1 F.2.2.2.2 gX10_chance_X10_isDebt rfl rfl rfl (by decide +kernel) ⟨Nat.le_of_ble_eq_true rfl, Nat.le_of_ble_eq_true rfl⟩) hw (m_recv hw) rfl hl.1 rfl (Nat.le_of_ble_eq_true rfl) dX10_chance_2 ⟨Nat.zero_le _, Nat.zero_le _⟩ (fun q_1 H locs hw => ?_) (fun q_1 H locs hw => ?_)
  · refine bi_if_ne (tgt := 11) F dX10_chance_5 (by decide) (by decide) (fun _ => ?_) (fun q => absurd q (by decide))
    have hp1 := hPl d (by omega)
    have h01 := h00 (by omega)
    have hlk1 := hlk d (by omega)
    refine lv_iload_n F.1 F.2.1 dX10_chance_11 rfl (lv_at hl 2 rfl) ?_
    refine bi_iconst F dX10_chance_12 ?_
    refine bi_bipush F dX10_chance_13 (by decide) ?_
    refine calls_P0 (As := [.int (iI n), .int (iI 0), .int (iI 30)]) (rest := []) F (c_in l E n 0 30 (by omega) (by omega) (by omega)) (va_cwS 3 F.2.2.2.2 gX10_chance_X10_in rfl rfl rfl (by decide +kernel) ⟨Nat.le_of_ble_eq_true rfl, Nat.le_of_ble_eq_true rfl⟩) hw rfl hl.1 rfl (Nat.le_of_ble_eq_true rfl) dX10_chance_15 ⟨Nat.zero_le _, Nat.zero_le _⟩ (fun q_3 H locs hw => ?_) (fun q_3 H locs hw => ?_)
    · refine bi_if_ne (tgt := 24) F dX10_chance_18 (by decide) (by decide) (fun _ => ?_) (fun q => absurd q (by decide))
      refine lv_aload_n F.1 F.2.1 dX10_chance_24 rfl (lv_at hl 0 rfl) ?_
      refine m_get F hin hw 13 (by decide) (by decide +kernel) rfl dX10_chance_25 ?_
      refine bi_bipush F dX10_chance_28 (by decide) ?_
      refine bi_iconst F dX10_chance_30 ?_
      refine lv_iload_n F.1 F.2.1 dX10_chance_31 rfl (lv_at hl 1 rfl) ?_
      refine bi_imul F dX10_chance_32 ?_
      refine bi_iadd F dX10_chance_33 ?_
      refine m_ld F hw 11 35 rfl (by decide) (by omega) dX10_chance_34 ?_
      have f_5 := hf (25 + (2 * d))
      refine bi_if_ne (tgt := 41) F dX10_chance_35 (by decide) (by omega) (fun c_6 => ?_) (fun c_6 => ?_)
      · refine lv_aload_n F.1 F.2.1 dX10_chance_41 rfl (lv_at hl 0 rfl) ?_
        refine m_get F hin hw 13 (by decide) (by decide +kernel) rfl dX10_chance_42 ?_
        refine bi_bipush F dX10_chance_45 (by decide) ?_
        refine bi_iconst F dX10_chance_47 ?_
        refine lv_iload_n F.1 F.2.1 dX10_chance_48 rfl (lv_at hl 1 rfl) ?_
        refine bi_imul F dX10_chance_49 ?_
        refine bi_iadd F dX10_chance_50 ?_
        refine m_ld F hw 11 35 rfl (by decide) (by omega) dX10_chance_51 ?_
        have f_7 := hf (25 + (2 * d))
        refine lv_aload_n F.1 F.2.1 dX10_chance_52 rfl (lv_at hl 0 rfl) ?_
        refine lv_aload_n F.1 F.2.1 dX10_chance_53 rfl (lv_at hl 0 rfl) ?_
        refine m_get F hin hw 13 (by decide) (by decide +kernel) rfl dX10_chance_54 ?_
        refine lv_iload_n F.1 F.2.1 dX10_chance_57 rfl (lv_at hl 1 rfl) ?_
        refine call_N (As := [.ref (eA E 11), .int (iI d)]) (rest := [.int (iI (A 11 (25 + (2 * d))))]) F (c_sinceOf l E I A 11 d rfl (by decide) (by omega) hf (by omega)) (cwV 2 F.2.2.2.2 gX10_chance_X10_sinceOf rfl rfl rfl (by decide +kernel) ⟨Nat.le_of_ble_eq_true rfl, Nat.le_of_ble_eq_true rfl⟩) hw (m_recv hw) rfl hl.1 rfl (Nat.le_of_ble_eq_true rfl) dX10_chance_58 ⟨Nat.zero_le _, Nat.zero_le _⟩ (fun H locs hw => ?_)
        have f_8 := mSince_r (P := A 5) (f := A 11) (d := d) hf
        refine bi_isub F dX10_chance_61 ?_
        obtain ⟨lk, elk⟩ : ∃ z, z = A 11 (25 + 2 * d) - mSince (A 5) (A 11) d := ⟨_, rfl⟩
        rw [← elk]
        have hlk2 : -900000 ≤ lk ∧ lk ≤ 999 := by omega
        refine lv_istore_n (lv' := [(3, .int (iI lk)), (0, .ref (eO E 0)), (1, .int (iI d)), (2, .int (iI n))]) F.1 F.2.1 dX10_chance_62 rfl hl (by decide) rfl (fun ls hl => ?_)
        refine bi_iconst F dX10_chance_63 ?_
        refine lv_istore (lv' := [(4, .int (iI 0)), (3, .int (iI lk)), (0, .ref (eO E 0)), (1, .int (iI d)), (2, .int (iI n))]) F.1 F.2.1 dX10_chance_64 hl (by decide) rfl (fun ls hl => ?_)
        have loop_66 : ∀ (nf : Nat) (k : Int) (A1 : Nat → Int → Int) (H : Heap) (locs : List Loc) (ls : Array Slot) (hk : 0 ≤ k ∧ k ≤ 1000) (hA1 : A1 = stA A 18 (zr (A 18) (fun _ => 0) k)) (hw : gH E A0 H0 s (mW E I A1) H locs) (hl : lv_has ls 9 [(4, .int (iI k)), (3, .int (iI lk)), (0, .ref (eO E 0)), (1, .int (iI d)), (2, .int (iI n))]) (hnf : (1000 - k).toNat < nf), W p l e ({ frames := 2, cells := 0, slots := 0, locals := 43 } : Room) s m args below meth c H locs 0 0 Q (F0 m 66 ls []) := by
          intro nf
          induction nf with
          | zero =>
            intro k A1 H locs ls hk hA1 hw hl hnf
            exact absurd hnf (Nat.not_lt_zero _)
          | succ nf ih_66 =>
            intro k A1 H locs ls hk hA1 hw hl hnf
            refine lv_iload F.1 F.2.1 dX10_chance_66 (lv_at hl 0 rfl) ?_
            refine bi_sipush F dX10_chance_68 (by decide) ?_
            refine bi_icmp_ge (tgt := 88) F dX10_chance_71 (by decide) (by omega) (fun c_9 => ?_) (fun c_9 => ?_)
            · have hw := m_norm hw 18 1000 (by decide) rfl (fun _ => 0) (fun t ht => by rw [hA1, stA_s, show k = 1000 by omega]; exact zr_in ht)
              generalize eA10 : stA A1 18 (fun _ => 0) = A10 at hw
              refine lv_aload_n F.1 F.2.1 dX10_chance_88 rfl (lv_at hl 2 rfl) ?_
              refine m_get F hin hw 27 (by decide) (by decide +kernel) rfl dX10_chance_89 ?_
              refine lv_iload_n F.1 F.2.1 dX10_chance_92 rfl (lv_at hl 1 rfl) ?_
              refine bi_if_ge (tgt := 100) F dX10_chance_93 (by decide) (by omega) (fun c_11 => ?_) (fun c_11 => ?_)
              · refine lv_iload_n F.1 F.2.1 dX10_chance_100 rfl (lv_at hl 1 rfl) ?_
                refine bi_ldc F (1000000) (by decide +kernel) rfl dX10_chance_101 ?_
                refine m_st F hw 18 1000 rfl (by decide) (by omega) dX10_chance_103 (fun H locs hw => ?_)
                generalize eA12 : st2 A10 18 lk 1000000 = A12 at hw
                refine bi_iconst F dX10_chance_104 ?_
                refine lv_istore (lv' := [(4, .int (iI 0)), (3, .int (iI lk)), (0, .ref (eO E 0)), (1, .int (iI d)), (2, .int (iI n))]) F.1 F.2.1 dX10_chance_105 hl (by decide) rfl (fun ls hl => ?_)
                have loop_107 : ∀ (nf : Nat) (t : Int) (A1 : Nat → Int → Int) (H : Heap) (locs : List Loc) (ls : Array Slot) (ht : 0 ≤ t ∧ t ≤ n) (h18 : A1 18 = mHeap (A 3) (A 2) (A 5 (2 * d)) (A 1 0) lk t.toNat) (hsm : mSame A A1) (hw : gH E A0 H0 s (mW E I A1) H locs) (hl : lv_has ls 9 [(4, .int (iI t)), (3, .int (iI lk)), (0, .ref (eO E 0)), (1, .int (iI d)), (2, .int (iI n))]) (hnf : (n - t).toNat < nf), W p l e ({ frames := 2, cells := 0, slots := 0, locals := 43 } : Room) s m args below meth c H locs 0 0 Q (F0 m 107 ls []) := by
                  intro nf
                  induction nf with
                  | zero =>
                    intro t A1 H locs ls ht h18 hsm hw hl hnf
                    exact absurd hnf (Nat.not_lt_zero _)
                  | succ nf ih_107 =>
                    intro t A1 H locs ls ht h18 hsm hw hl hnf
                    have h1 : A1 1 = A 1 := hsm 1 (by decide) (by decide) (by decide) (by decide)
                    have h2 : A1 2 = A 2 := hsm 2 (by decide) (by decide) (by decide) (by decide)
                    have h3 : A1 3 = A 3 := hsm 3 (by decide) (by decide) (by decide) (by decide)
                    have h5 : A1 5 = A 5 := hsm 5 (by decide) (by decide) (by decide) (by decide)
                    have hl10 : A1 1 0 = A 1 0 := by rw [h1]
                    have k1 := h1
                    have k2 := h2
                    have k3 := h3
                    have k5 := h5
                    have k18 := h18
                    refine lv_iload F.1 F.2.1 dX10_chance_107 (lv_at hl 0 rfl) ?_
                    refine lv_iload_n F.1 F.2.1 dX10_chance_109 rfl (lv_at hl 4 rfl) ?_
                    refine bi_icmp_ge (tgt := 277) F dX10_chance_110 (by decide) (by omega) (fun c_13 => ?_) (fun c_13 => ?_)
                    · refine lv_aload_n F.1 F.2.1 dX10_chance_277 rfl (lv_at hl 2 rfl) ?_
                      refine m_get F hin hw 27 (by decide) (by decide +kernel) rfl dX10_chance_278 ?_
                      refine bi_iconst F dX10_chance_281 ?_
                      refine m_ld F hw 18 1000 rfl (by decide) (by omega) dX10_chance_282 ?_
                      exact hret _ _ _ _ _ _ (by unfold mChaR; rw [if_pos (by omega), if_pos (by omega), if_neg (by omega), h18, show t = n by omega, elk]) (hsm) hw dX10_chance_283
                    · refine bi_iconst F dX10_chance_113 ?_
                      refine lv_istore (lv' := [(5, .int (iI 0)), (4, .int (iI t)), (3, .int (iI lk)), (0, .ref (eO E 0)), (1, .int (iI d)), (2, .int (iI n))]) F.1 F.2.1 dX10_chance_114 hl (by decide) rfl (fun ls hl => ?_)
                      have loop_116 : ∀ (nf : Nat) (k : Int) (A2 : Nat → Int → Int) (H : Heap) (locs : List Loc) (ls : Array Slot) (hk : 0 ≤ k ∧ k ≤ 1000) (hA2 : A2 = stA A1 19 (zr (A1 19) (fun z => if z = 0 then mHeap (A 3) (A 2) (A 5 (2 * d)) (A 1 0) lk t.toNat 0 else 0) k)) (hw : gH E A0 H0 s (mW E I A2) H locs) (hl : lv_has ls 9 [(5, .int (iI k)), (4, .int (iI t)), (3, .int (iI lk)), (0, .ref (eO E 0)), (1, .int (iI d)), (2, .int (iI n))]) (hnf : (1000 - k).toNat < nf), W p l e ({ frames := 2, cells := 0, slots := 0, locals := 43 } : Room) s m args below meth c H locs 0 0 Q (F0 m 116 ls []) := by
                        intro nf
                        induction nf with
                        | zero =>
                          intro k A2 H locs ls hk hA2 hw hl hnf
                          exact absurd hnf (Nat.not_lt_zero _)
                        | succ nf ih_116 =>
                          intro k A2 H locs ls hk hA2 hw hl hnf
                          have h182 : A2 18 = mHeap (A 3) (A 2) (A 5 (2 * d)) (A 1 0) lk t.toNat := by rw [hA2]; exact h18
                          refine lv_iload F.1 F.2.1 dX10_chance_116 (lv_at hl 0 rfl) ?_
                          refine bi_sipush F dX10_chance_118 (by decide) ?_
                          refine bi_icmp_ge (tgt := 152) F dX10_chance_121 (by decide) (by omega) (fun c_14 => ?_) (fun c_14 => ?_)
                          · have hw := m_norm hw 19 1000 (by decide) rfl (fun z => if z = 0 then mHeap (A 3) (A 2) (A 5 (2 * d)) (A 1 0) lk t.toNat 0 else 0) (fun z hz => by rw [hA2, stA_s, show k = 1000 by omega]; exact zr_in hz)
                            generalize eA15 : stA A2 19 (fun z => if z = 0 then mHeap (A 3) (A 2) (A 5 (2 * d)) (A 1 0) lk t.toNat 0 else 0) = A15 at hw
                            refine bi_iconst F dX10_chance_152 ?_
                            refine lv_istore (lv' := [(5, .int (iI 1)), (4, .int (iI t)), (3, .int (iI lk)), (0, .ref (eO E 0)), (1, .int (iI d)), (2, .int (iI n))]) F.1 F.2.1 dX10_chance_153 hl (by decide) rfl (fun ls hl => ?_)
                            have loop_155 : ∀ (nf : Nat) (k : Int) (A3 : Nat → Int → Int) (H : Heap) (locs : List Loc) (ls : Array Slot) (hk : 1 ≤ k ∧ k ≤ 1000) (hA3 : A3 = stA A1 19 (mDepK (A 3) (A 2) (A 5 (2 * d)) (A 1 0) (mHeap (A 3) (A 2) (A 5 (2 * d)) (A 1 0) lk t.toNat) (k - 1).toNat)) (hw : gH E A0 H0 s (mW E I A3) H locs) (hl : lv_has ls 9 [(5, .int (iI k)), (4, .int (iI t)), (3, .int (iI lk)), (0, .ref (eO E 0)), (1, .int (iI d)), (2, .int (iI n))]) (hnf : (1000 - k).toNat < nf), W p l e ({ frames := 2, cells := 0, slots := 0, locals := 43 } : Room) s m args below meth c H locs 0 0 Q (F0 m 155 ls []) := by
                              intro nf
                              induction nf with
                              | zero =>
                                intro k A3 H locs ls hk hA3 hw hl hnf
                                exact absurd hnf (Nat.not_lt_zero _)
                              | succ nf ih_155 =>
                                intro k A3 H locs ls hk hA3 hw hl hnf
                                have h1 : A3 1 = A 1 := by rw [hA3]; exact k1
                                have h2 : A3 2 = A 2 := by rw [hA3]; exact k2
                                have h3 : A3 3 = A 3 := by rw [hA3]; exact k3
                                have h5 : A3 5 = A 5 := by rw [hA3]; exact k5
                                have h18 : A3 18 = mHeap (A 3) (A 2) (A 5 (2 * d)) (A 1 0) lk t.toNat := by rw [hA3]; exact k18
                                have hl10 : A3 1 0 = A 1 0 := by rw [h1]
                                refine lv_iload F.1 F.2.1 dX10_chance_155 (lv_at hl 0 rfl) ?_
                                refine bi_sipush F dX10_chance_157 (by decide) ?_
                                refine bi_icmp_ge (tgt := 255) F dX10_chance_160 (by decide) (by omega) (fun c_16 => ?_) (fun c_16 => ?_)
                                · refine lv_aload_n F.1 F.2.1 dX10_chance_255 rfl (lv_at hl 3 rfl) ?_
                                  refine m_get F hin hw 28 (by decide) (by decide +kernel) rfl dX10_chance_256 ?_
                                  refine bi_iconst F dX10_chance_259 ?_
                                  refine lv_aload_n F.1 F.2.1 dX10_chance_260 rfl (lv_at hl 3 rfl) ?_
                                  refine m_get F hin hw 27 (by decide) (by decide +kernel) rfl dX10_chance_261 ?_
                                  refine bi_iconst F dX10_chance_264 ?_
                                  refine bi_sipush F dX10_chance_265 (by decide) ?_
                                  refine calls_G (As := [.ref (eA E 19), .int (iI 0), .ref (eA E 18), .int (iI 0), .int (iI 1000)]) (rest := []) F (c_copies l E I A3 19 0 18 0 1000 1000 1000 rfl rfl (by decide) (by decide) (by decide) (by omega) (by omega) (by omega) (by omega)) (va_cwS 5 F.2.2.2.2 gX10_chance_X10_copies rfl rfl rfl (by decide +kernel) ⟨Nat.le_of_ble_eq_true rfl, Nat.le_of_ble_eq_true rfl⟩) hw rfl hl.1 rfl (Nat.le_of_ble_eq_true rfl) dX10_chance_268 ⟨Nat.zero_le _, Nat.zero_le _⟩ (fun H locs hw => ?_)
                                  generalize eA17 : stA A3 18 (cpI (A3 19) (A3 18) 0 0 1000) = A17 at hw
                                  have hw := m_norm hw 18 1000 (by decide) rfl (mDepK (A 3) (A 2) (A 5 (2 * d)) (A 1 0) (mHeap (A 3) (A 2) (A 5 (2 * d)) (A 1 0) lk t.toNat) 999) (fun z hz => by subst_vars; rw [stA_s]; unfold cpI; rw [if_pos (by omega)]; rw [show k = 1000 by omega]; show mDepK _ _ _ _ _ _ _ = _; congr 1; omega)
                                  generalize eA18 : stA A17 18 (mDepK (A 3) (A 2) (A 5 (2 * d)) (A 1 0) (mHeap (A 3) (A 2) (A 5 (2 * d)) (A 1 0) lk t.toNat) 999) = A18 at hw
                                  refine lv_iinc (v := iI (t + 1)) (lv' := [(4, .int (iI (t + 1))), (5, .int (iI k)), (3, .int (iI lk)), (0, .ref (eO E 0)), (1, .int (iI d)), (2, .int (iI n))]) F.1 F.2.1 dX10_chance_271 hl (k := 1) rfl (iI_add _ _).symm (by decide) rfl (fun ls hl => ?_)
                                  refine lv_goto (tgt := 107) F.1 F.2.1 dX10_chance_274 (by decide) ?_
                                  exact ih_107 (t + 1) A18 H locs ls (by omega) (by rw [← eA18, stA_s, mHeap_s ht.1]) (by subst_vars; exact mSame_tr hsm (mSame_tr (mSame_st (j := 19) (by decide)) (mSame_tr (mSame_st (j := 18) (by decide)) (mSame_st (j := 18) (by decide))))) hw (lv_sub hl [0, 2, 3, 4, 5] rfl) (by omega)
                                · refine lv_aload_n F.1 F.2.1 dX10_chance_163 rfl (lv_at hl 3 rfl) ?_
                                  refine m_get F hin hw 27 (by decide) (by decide +kernel) rfl dX10_chance_164 ?_
                                  refine lv_iload F.1 F.2.1 dX10_chance_167 (lv_at hl 0 rfl) ?_
                                  refine m_ld F hw 18 1000 rfl (by decide) (by omega) dX10_chance_169 ?_
                                  refine lv_aload_n F.1 F.2.1 dX10_chance_170 rfl (lv_at hl 3 rfl) ?_
                                  refine m_get F hin hw 3 (by decide) (by decide +kernel) rfl dX10_chance_171 ?_
                                  refine bi_iconst F dX10_chance_174 ?_
                                  refine m_ld F hw 1 4 rfl (by decide) (by omega) dX10_chance_175 ?_
                                  refine bi_idivX F dX10_chance_176 (by omega) ?_
                                  have f_19 := iDv_r (A3 18 k) (A3 1 0)
                                  rw [show iDv (A3 18 k) (A3 1 0) = iDv (mHeap (A 3) (A 2) (A 5 (2 * d)) (A 1 0) lk t.toNat k) (A 1 0) by rw [h18, hl10]]
                                  have hdr := iDv_r (mHeap (A 3) (A 2) (A 5 (2 * d)) (A 1 0) lk t.toNat k) (A 1 0)
                                  refine lv_istore (lv' := [(6, .int (iI (iDv (mHeap (A 3) (A 2) (A 5 (2 * d)) (A 1 0) lk t.toNat k) (A 1 0)))), (5, .int (iI k)), (4, .int (iI t)), (3, .int (iI lk)), (0, .ref (eO E 0)), (1, .int (iI d)), (2, .int (iI n))]) F.1 F.2.1 dX10_chance_177 hl (by decide) rfl (fun ls hl => ?_)
                                  refine bi_iconst F dX10_chance_179 ?_
                                  refine lv_istore (lv' := [(7, .int (iI 0)), (6, .int (iI (iDv (mHeap (A 3) (A 2) (A 5 (2 * d)) (A 1 0) lk t.toNat k) (A 1 0)))), (5, .int (iI k)), (4, .int (iI t)), (3, .int (iI lk)), (0, .ref (eO E 0)), (1, .int (iI d)), (2, .int (iI n))]) F.1 F.2.1 dX10_chance_180 hl (by decide) rfl (fun ls hl => ?_)
                                  have loop_182 : ∀ (nf : Nat) (j : Int) (A4 : Nat → Int → Int) (H : Heap) (locs : List Loc) (ls : Array Slot) (hj : 0 ≤ j ∧ j ≤ A 1 0) (hA4 : A4 = stA A1 19 (mDepJ (A 3) (A 2) (A 5 (2 * d)) (mDepK (A 3) (A 2) (A 5 (2 * d)) (A 1 0) (mHeap (A 3) (A 2) (A 5 (2 * d)) (A 1 0) lk t.toNat) (k - 1).toNat) k (iDv (mHeap (A 3) (A 2) (A 5 (2 * d)) (A 1 0) lk t.toNat k) (A 1 0)) j.toNat)) (hw : gH E A0 H0 s (mW E I A4) H locs) (hl : lv_has ls 9 [(7, .int (iI j)), (6, .int (iI (iDv (mHeap (A 3) (A 2) (A 5 (2 * d)) (A 1 0) lk t.toNat k) (A 1 0)))), (5, .int (iI k)), (4, .int (iI t)), (3, .int (iI lk)), (0, .ref (eO E 0)), (1, .int (iI d)), (2, .int (iI n))]) (hnf : (A 1 0 - j).toNat < nf), W p l e ({ frames := 2, cells := 0, slots := 0, locals := 43 } : Room) s m args below meth c H locs 0 0 Q (F0 m 182 ls []) := by
                                    intro nf
                                    induction nf with
                                    | zero =>
                                      intro j A4 H locs ls hj hA4 hw hl hnf
                                      exact absurd hnf (Nat.not_lt_zero _)
                                    | succ nf ih_182 =>
                                      intro j A4 H locs ls hj hA4 hw hl hnf
                                      have h1 : A4 1 = A 1 := by rw [hA4]; exact k1
                                      have h2 : A4 2 = A 2 := by rw [hA4]; exact k2
                                      have h3 : A4 3 = A 3 := by rw [hA4]; exact k3
                                      have h5 : A4 5 = A 5 := by rw [hA4]; exact k5
                                      have h18 : A4 18 = mHeap (A 3) (A 2) (A 5 (2 * d)) (A 1 0) lk t.toNat := by rw [hA4]; exact k18
                                      have hl10 : A4 1 0 = A 1 0 := by rw [h1]
                                      refine lv_iload F.1 F.2.1 dX10_chance_182 (lv_at hl 0 rfl) ?_
                                      refine lv_aload_n F.1 F.2.1 dX10_chance_184 rfl (lv_at hl 5 rfl) ?_
                                      refine m_get F hin hw 3 (by decide) (by decide +kernel) rfl dX10_chance_185 ?_
                                      refine bi_iconst F dX10_chance_188 ?_
                                      refine m_ld F hw 1 4 rfl (by decide) (by omega) dX10_chance_189 ?_
                                      refine bi_icmp_ge (tgt := 249) F dX10_chance_190 (by decide) (by omega) (fun c_20 => ?_) (fun c_20 => ?_)
                                      · have hfin : A4 = stA A1 19 (mDepJ (A 3) (A 2) (A 5 (2 * d)) (mDepK (A 3) (A 2) (A 5 (2 * d)) (A 1 0) (mHeap (A 3) (A 2) (A 5 (2 * d)) (A 1 0) lk t.toNat) (k - 1).toNat) k (iDv (mHeap (A 3) (A 2) (A 5 (2 * d)) (A 1 0) lk t.toNat k) (A 1 0)) (A 1 0).toNat) := by first | (rw [hA4, show j = A 1 0 by omega]; done) | (rw [hA4, mDepJ_0 _ (by omega), mDepJ_0 _ (by omega)]; done)
                                        refine lv_iinc (v := iI (k + 1)) (lv' := [(5, .int (iI (k + 1))), (7, .int (iI j)), (6, .int (iI (iDv (mHeap (A 3) (A 2) (A 5 (2 * d)) (A 1 0) lk t.toNat k) (A 1 0)))), (4, .int (iI t)), (3, .int (iI lk)), (0, .ref (eO E 0)), (1, .int (iI d)), (2, .int (iI n))]) F.1 F.2.1 dX10_chance_249 hl (k := 2) rfl (iI_add _ _).symm (by decide) rfl (fun ls hl => ?_)
                                        refine lv_goto (tgt := 155) F.1 F.2.1 dX10_chance_252 (by decide) ?_
                                        exact ih_155 (k + 1) A4 H locs ls (by omega) (by rw [mDepK_s hk.1]; exact hfin) hw (lv_sub hl [0, 3, 4, 5, 6, 7] rfl) (by omega)
                                      · refine lv_iload F.1 F.2.1 dX10_chance_193 (lv_at hl 1 rfl) ?_
                                        refine bi_if_le (tgt := 249) F dX10_chance_195 (by decide) (by omega) (fun c_21 => ?_) (fun c_21 => ?_)
                                        · have hfin : A4 = stA A1 19 (mDepJ (A 3) (A 2) (A 5 (2 * d)) (mDepK (A 3) (A 2) (A 5 (2 * d)) (A 1 0) (mHeap (A 3) (A 2) (A 5 (2 * d)) (A 1 0) lk t.toNat) (k - 1).toNat) k (iDv (mHeap (A 3) (A 2) (A 5 (2 * d)) (A 1 0) lk t.toNat k) (A 1 0)) (A 1 0).toNat) := by first | (rw [hA4, show j = A 1 0 by omega]; done) | (rw [hA4, mDepJ_0 _ (by omega), mDepJ_0 _ (by omega)]; done)
                                          refine lv_iinc (v := iI (k + 1)) (lv' := [(5, .int (iI (k + 1))), (7, .int (iI j)), (6, .int (iI (iDv (mHeap (A 3) (A 2) (A 5 (2 * d)) (A 1 0) lk t.toNat k) (A 1 0)))), (4, .int (iI t)), (3, .int (iI lk)), (0, .ref (eO E 0)), (1, .int (iI d)), (2, .int (iI n))]) F.1 F.2.1 dX10_chance_249 hl (k := 2) rfl (iI_add _ _).symm (by decide) rfl (fun ls hl => ?_)
                                          refine lv_goto (tgt := 155) F.1 F.2.1 dX10_chance_252 (by decide) ?_
                                          exact ih_155 (k + 1) A4 H locs ls (by omega) (by rw [mDepK_s hk.1]; exact hfin) hw (lv_sub hl [0, 3, 4, 5, 6, 7] rfl) (by omega)
                                        · refine lv_iload F.1 F.2.1 dX10_chance_198 (lv_at hl 2 rfl) ?_
                                          refine lv_aload_n F.1 F.2.1 dX10_chance_200 rfl (lv_at hl 5 rfl) ?_
                                          refine lv_aload_n F.1 F.2.1 dX10_chance_201 rfl (lv_at hl 5 rfl) ?_
                                          refine m_get F hin hw 4 (by decide) (by decide +kernel) rfl dX10_chance_202 ?_
                                          refine lv_iload F.1 F.2.1 dX10_chance_205 (lv_at hl 0 rfl) ?_
                                          refine m_ld F hw 2 20 rfl (by decide) (by omega) dX10_chance_207 ?_
                                          have f_22 := (show ∀ k, 0 ≤ A4 2 k ∧ A4 2 k ≤ 40 by rw [h2]; exact hWn) (j)
                                          refine lv_aload_n F.1 F.2.1 dX10_chance_208 rfl (lv_at hl 5 rfl) ?_
                                          refine m_get F hin hw 7 (by decide) (by decide +kernel) rfl dX10_chance_209 ?_
                                          refine bi_iconst F dX10_chance_212 ?_
                                          refine lv_iload_n F.1 F.2.1 dX10_chance_213 rfl (lv_at hl 6 rfl) ?_
                                          refine bi_imul F dX10_chance_214 ?_
                                          refine m_ld F hw 5 10 rfl (by decide) (by omega) dX10_chance_215 ?_
                                          have f_23 := congrFun h5 (2 * d)
                                          refine call_N (As := [.int (iI (A4 2 j)), .int (iI (A4 5 (2 * d)))]) (rest := [.int (iI k)]) F (c_fallsOf l E I A4 (A4 2 j) (A4 5 (2 * d)) (by omega) (by omega) (by rw [h3]; exact hV)) (cwV 2 F.2.2.2.2 gX10_chance_X10_fallsOf rfl rfl rfl (by decide +kernel) ⟨Nat.le_of_ble_eq_true rfl, Nat.le_of_ble_eq_true rfl⟩) hw (m_recv hw) rfl hl.1 rfl (Nat.le_of_ble_eq_true rfl) dX10_chance_216 ⟨Nat.zero_le _, Nat.zero_le _⟩ (fun H locs hw => ?_)
                                          have f_24 := mFo_r (V := A4 3) (x := (A4 2 j)) (v := (A4 5 (2 * d))) (by rw [h3]; exact hV) (by omega)
                                          refine bi_isub F dX10_chance_219 ?_
                                          refine lv_istore (lv' := [(8, .int (iI (k - (mFo (A4 3) (A4 2 j) (A4 5 (2 * d)))))), (7, .int (iI j)), (6, .int (iI (iDv (mHeap (A 3) (A 2) (A 5 (2 * d)) (A 1 0) lk t.toNat k) (A 1 0)))), (5, .int (iI k)), (4, .int (iI t)), (3, .int (iI lk)), (0, .ref (eO E 0)), (1, .int (iI d)), (2, .int (iI n))]) F.1 F.2.1 dX10_chance_220 hl (by decide) rfl (fun ls hl => ?_)
                                          have hto : k - mFo (A4 3) (A4 2 j) (A4 5 (2 * d)) = k - mFo (A 3) (A 2 j) (A 5 (2 * d)) := by rw [h3, h2, h5]
                                          refine lv_aload_n F.1 F.2.1 dX10_chance_222 rfl (lv_at hl 6 rfl) ?_
                                          refine m_get F hin hw 28 (by decide) (by decide +kernel) rfl dX10_chance_223 ?_
                                          have join_237 : ∀ (ix : Int) (hj_237 : ix = mx0 (k - mFo (A 3) (A 2 j) (A 5 (2 * d)))) (H : Heap) (locs : List Loc) (hw : gH E A0 H0 s (mW E I A4) H locs), W p l e ({ frames := 2, cells := 0, slots := 0, locals := 43 } : Room) s m args below meth c H locs 0 0 Q (F0 m 237 ls [.int (iI ix), .ref (eA E 19)]) := by
                                            intro ix hj_237 H locs hw
                                            have hix := mx0_r (k - mFo (A 3) (A 2 j) (A 5 (2 * d)))
                                            have hfo := mFo_r (V := A 3) (x := A 2 j) (v := A 5 (2 * d)) hV (by have := hWn j; omega)
                                            refine lv_dup2_11 F.1 F.2.1 dX10_chance_237 rfl rfl ?_
                                            refine m_ld F hw 19 1000 rfl (by decide) (by omega) dX10_chance_238 ?_
                                            refine lv_iload F.1 F.2.1 dX10_chance_239 (lv_at hl 2 rfl) ?_
                                            refine bi_iadd F dX10_chance_241 ?_
                                            refine m_st F hw 19 1000 rfl (by decide) (by omega) dX10_chance_242 (fun H locs hw => ?_)
                                            generalize eA25 : st2 A4 19 ix (A4 19 ix + (iDv (mHeap (A 3) (A 2) (A 5 (2 * d)) (A 1 0) lk t.toNat k) (A 1 0))) = A25 at hw
                                            refine lv_iinc (v := iI (j + 1)) (lv' := [(7, .int (iI (j + 1))), (8, .int (iI (k - (mFo (A4 3) (A4 2 j) (A4 5 (2 * d)))))), (6, .int (iI (iDv (mHeap (A 3) (A 2) (A 5 (2 * d)) (A 1 0) lk t.toNat k) (A 1 0)))), (5, .int (iI k)), (4, .int (iI t)), (3, .int (iI lk)), (0, .ref (eO E 0)), (1, .int (iI d)), (2, .int (iI n))]) F.1 F.2.1 dX10_chance_243 hl (k := 1) rfl (iI_add _ _).symm (by decide) rfl (fun ls hl => ?_)
                                            refine lv_goto (tgt := 182) F.1 F.2.1 dX10_chance_246 (by decide) ?_
                                            exact ih_182 (j + 1) A25 H locs ls (by omega) (by rw [mDepJ_s hj.1 (by omega), ← eA25, hj_237, hA4, st2_A, stA_s]) hw (lv_sub hl [0, 2, 3, 4, 5, 6, 7, 8] rfl) (by omega)
                                          refine lv_iload F.1 F.2.1 dX10_chance_226 (lv_at hl 0 rfl) ?_
                                          refine bi_if_ge (tgt := 235) F dX10_chance_228 (by decide) (by omega) (fun c_26 => ?_) (fun c_26 => ?_)
                                          · refine lv_iload F.1 F.2.1 dX10_chance_235 (lv_at hl 0 rfl) ?_
                                            exact join_237 (k - (mFo (A4 3) (A4 2 j) (A4 5 (2 * d)))) (by rw [← hto]; unfold mx0; first | (rw [if_pos (by omega)]; done) | (rw [if_neg (by omega)]; done)) H locs hw
                                          · refine bi_iconst F dX10_chance_231 ?_
                                            refine lv_goto (tgt := 237) F.1 F.2.1 dX10_chance_232 (by decide) ?_
                                            exact join_237 0 (by rw [← hto]; unfold mx0; first | (rw [if_pos (by omega)]; done) | (rw [if_neg (by omega)]; done)) H locs hw
                                  exact loop_182 ((A 1 0 - 0 : Int).toNat + 1) 0 A3 H locs ls (by omega) (hA3) hw (lv_sub hl [0, 1, 2, 3, 4, 5, 6, 7] rfl) (by omega)
                            exact loop_155 ((1000 - 1 : Int).toNat + 1) 1 A15 H locs ls (by omega) (by rw [← eA15, hA2, stA_2]; rfl) hw (lv_sub hl [0, 1, 2, 3, 4, 5] rfl) (by omega)
                          · refine lv_aload_n F.1 F.2.1 dX10_chance_124 rfl (lv_at hl 3 rfl) ?_
                            refine m_get F hin hw 28 (by decide) (by decide +kernel) rfl dX10_chance_125 ?_
                            refine lv_iload F.1 F.2.1 dX10_chance_128 (lv_at hl 0 rfl) ?_
                            refine lv_iload F.1 F.2.1 dX10_chance_130 (lv_at hl 0 rfl) ?_
                            refine bi_if_ne (tgt := 144) F dX10_chance_132 (by decide) (by omega) (fun c_27 => ?_) (fun c_27 => ?_)
                            · refine bi_iconst F dX10_chance_144 ?_
                              refine m_st F hw 19 1000 rfl (by decide) (by omega) dX10_chance_145 (fun H locs hw => ?_)
                              generalize eA28 : st2 A2 19 k 0 = A28 at hw
                              refine lv_iinc (v := iI (k + 1)) (lv' := [(5, .int (iI (k + 1))), (4, .int (iI t)), (3, .int (iI lk)), (0, .ref (eO E 0)), (1, .int (iI d)), (2, .int (iI n))]) F.1 F.2.1 dX10_chance_146 hl (k := 0) rfl (iI_add _ _).symm (by decide) rfl (fun ls hl => ?_)
                              refine lv_goto (tgt := 116) F.1 F.2.1 dX10_chance_149 (by decide) ?_
                              exact ih_116 (k + 1) A28 H locs ls (by omega) (by rw [← eA28]; (try rw [show A2 18 0 = mHeap (A 3) (A 2) (A 5 (2 * d)) (A 1 0) lk t.toNat 0 by rw [h182]]); rw [hA2, st2_A, ← zr_s hk.1]; congr 2; first | (rw [if_pos (by omega)]; done) | (rw [if_neg (by omega)]; done)) hw (lv_sub hl [0, 1, 2, 3, 4, 5] rfl) (by omega)
                            · refine lv_aload_n F.1 F.2.1 dX10_chance_135 rfl (lv_at hl 3 rfl) ?_
                              refine m_get F hin hw 27 (by decide) (by decide +kernel) rfl dX10_chance_136 ?_
                              refine bi_iconst F dX10_chance_139 ?_
                              refine m_ld F hw 18 1000 rfl (by decide) (by omega) dX10_chance_140 ?_
                              refine lv_goto (tgt := 145) F.1 F.2.1 dX10_chance_141 (by decide) ?_
                              refine m_st F hw 19 1000 rfl (by decide) (by omega) dX10_chance_145 (fun H locs hw => ?_)
                              generalize eA29 : st2 A2 19 k (A2 18 0) = A29 at hw
                              refine lv_iinc (v := iI (k + 1)) (lv' := [(5, .int (iI (k + 1))), (4, .int (iI t)), (3, .int (iI lk)), (0, .ref (eO E 0)), (1, .int (iI d)), (2, .int (iI n))]) F.1 F.2.1 dX10_chance_146 hl (k := 0) rfl (iI_add _ _).symm (by decide) rfl (fun ls hl => ?_)
                              refine lv_goto (tgt := 116) F.1 F.2.1 dX10_chance_149 (by decide) ?_
                              exact ih_116 (k + 1) A29 H locs ls (by omega) (by rw [← eA29]; (try rw [show A2 18 0 = mHeap (A 3) (A 2) (A 5 (2 * d)) (A 1 0) lk t.toNat 0 by rw [h182]]); rw [hA2, st2_A, ← zr_s hk.1]; congr 2; first | (rw [if_pos (by omega)]; done) | (rw [if_neg (by omega)]; done)) hw (lv_sub hl [0, 1, 2, 3, 4, 5] rfl) (by omega)
                      exact loop_116 ((1000 - 0 : Int).toNat + 1) 0 A1 H locs ls (by omega) (by rw [zr_0, stA_id]) hw (lv_sub hl [0, 1, 2, 3, 4, 5] rfl) (by omega)
                exact loop_107 ((n - 0 : Int).toNat + 1) 0 A12 H locs ls (by omega) (by subst_vars; rw [st2_a, stA_s]; first | rfl | (show up1 _ _ _ = up1 _ (mx0 _) _; unfold mx0; first | rw [if_pos (by omega)] | rw [if_neg (by omega)])) (by subst_vars; exact mSame_tr (mSame_tr (mSame_st (by decide)) (mSame_st (by decide))) (mSame_st (by decide))) hw (lv_sub hl [0, 1, 2, 3, 4] rfl) (by omega)
              · refine bi_iconst F dX10_chance_96 ?_
                refine lv_goto (tgt := 101) F.1 F.2.1 dX10_chance_97 (by decide) ?_
                refine bi_ldc F (1000000) (by decide +kernel) rfl dX10_chance_101 ?_
                refine m_st F hw 18 1000 rfl (by decide) (by omega) dX10_chance_103 (fun H locs hw => ?_)
                generalize eA30 : st2 A10 18 0 1000000 = A30 at hw
                refine bi_iconst F dX10_chance_104 ?_
                refine lv_istore (lv' := [(4, .int (iI 0)), (3, .int (iI lk)), (0, .ref (eO E 0)), (1, .int (iI d)), (2, .int (iI n))]) F.1 F.2.1 dX10_chance_105 hl (by decide) rfl (fun ls hl => ?_)
                have loop_107 : ∀ (nf : Nat) (t : Int) (A1 : Nat → Int → Int) (H : Heap) (locs : List Loc) (ls : Array Slot) (ht : 0 ≤ t ∧ t ≤ n) (h18 : A1 18 = mHeap (A 3) (A 2) (A 5 (2 * d)) (A 1 0) lk t.toNat) (hsm : mSame A A1) (hw : gH E A0 H0 s (mW E I A1) H locs) (hl : lv_has ls 9 [(4, .int (iI t)), (3, .int (iI lk)), (0, .ref (eO E 0)), (1, .int (iI d)), (2, .int (iI n))]) (hnf : (n - t).toNat < nf), W p l e ({ frames := 2, cells := 0, slots := 0, locals := 43 } : Room) s m args below meth c H locs 0 0 Q (F0 m 107 ls []) := by
                  intro nf
                  induction nf with
                  | zero =>
                    intro t A1 H locs ls ht h18 hsm hw hl hnf
                    exact absurd hnf (Nat.not_lt_zero _)
                  | succ nf ih_107 =>
                    intro t A1 H locs ls ht h18 hsm hw hl hnf
                    have h1 : A1 1 = A 1 := hsm 1 (by decide) (by decide) (by decide) (by decide)
                    have h2 : A1 2 = A 2 := hsm 2 (by decide) (by decide) (by decide) (by decide)
                    have h3 : A1 3 = A 3 := hsm 3 (by decide) (by decide) (by decide) (by decide)
                    have h5 : A1 5 = A 5 := hsm 5 (by decide) (by decide) (by decide) (by decide)
                    have hl10 : A1 1 0 = A 1 0 := by rw [h1]
                    have k1 := h1
                    have k2 := h2
                    have k3 := h3
                    have k5 := h5
                    have k18 := h18
                    refine lv_iload F.1 F.2.1 dX10_chance_107 (lv_at hl 0 rfl) ?_
                    refine lv_iload_n F.1 F.2.1 dX10_chance_109 rfl (lv_at hl 4 rfl) ?_
                    refine bi_icmp_ge (tgt := 277) F dX10_chance_110 (by decide) (by omega) (fun c_31 => ?_) (fun c_31 => ?_)
                    · refine lv_aload_n F.1 F.2.1 dX10_chance_277 rfl (lv_at hl 2 rfl) ?_
                      refine m_get F hin hw 27 (by decide) (by decide +kernel) rfl dX10_chance_278 ?_
                      refine bi_iconst F dX10_chance_281 ?_
                      refine m_ld F hw 18 1000 rfl (by decide) (by omega) dX10_chance_282 ?_
                      exact hret _ _ _ _ _ _ (by unfold mChaR; rw [if_pos (by omega), if_pos (by omega), if_neg (by omega), h18, show t = n by omega, elk]) (hsm) hw dX10_chance_283
                    · refine bi_iconst F dX10_chance_113 ?_
                      refine lv_istore (lv' := [(5, .int (iI 0)), (4, .int (iI t)), (3, .int (iI lk)), (0, .ref (eO E 0)), (1, .int (iI d)), (2, .int (iI n))]) F.1 F.2.1 dX10_chance_114 hl (by decide) rfl (fun ls hl => ?_)
                      have loop_116 : ∀ (nf : Nat) (k : Int) (A2 : Nat → Int → Int) (H : Heap) (locs : List Loc) (ls : Array Slot) (hk : 0 ≤ k ∧ k ≤ 1000) (hA2 : A2 = stA A1 19 (zr (A1 19) (fun z => if z = 0 then mHeap (A 3) (A 2) (A 5 (2 * d)) (A 1 0) lk t.toNat 0 else 0) k)) (hw : gH E A0 H0 s (mW E I A2) H locs) (hl : lv_has ls 9 [(5, .int (iI k)), (4, .int (iI t)), (3, .int (iI lk)), (0, .ref (eO E 0)), (1, .int (iI d)), (2, .int (iI n))]) (hnf : (1000 - k).toNat < nf), W p l e ({ frames := 2, cells := 0, slots := 0, locals := 43 } : Room) s m args below meth c H locs 0 0 Q (F0 m 116 ls []) := by
                        intro nf
                        induction nf with
                        | zero =>
                          intro k A2 H locs ls hk hA2 hw hl hnf
                          exact absurd hnf (Nat.not_lt_zero _)
                        | succ nf ih_116 =>
                          intro k A2 H locs ls hk hA2 hw hl hnf
                          have h182 : A2 18 = mHeap (A 3) (A 2) (A 5 (2 * d)) (A 1 0) lk t.toNat := by rw [hA2]; exact h18
                          refine lv_iload F.1 F.2.1 dX10_chance_116 (lv_at hl 0 rfl) ?_
                          refine bi_sipush F dX10_chance_118 (by decide) ?_
                          refine bi_icmp_ge (tgt := 152) F dX10_chance_121 (by decide) (by omega) (fun c_32 => ?_) (fun c_32 => ?_)
                          · have hw := m_norm hw 19 1000 (by decide) rfl (fun z => if z = 0 then mHeap (A 3) (A 2) (A 5 (2 * d)) (A 1 0) lk t.toNat 0 else 0) (fun z hz => by rw [hA2, stA_s, show k = 1000 by omega]; exact zr_in hz)
                            generalize eA33 : stA A2 19 (fun z => if z = 0 then mHeap (A 3) (A 2) (A 5 (2 * d)) (A 1 0) lk t.toNat 0 else 0) = A33 at hw
                            refine bi_iconst F dX10_chance_152 ?_
                            refine lv_istore (lv' := [(5, .int (iI 1)), (4, .int (iI t)), (3, .int (iI lk)), (0, .ref (eO E 0)), (1, .int (iI d)), (2, .int (iI n))]) F.1 F.2.1 dX10_chance_153 hl (by decide) rfl (fun ls hl => ?_)
                            have loop_155 : ∀ (nf : Nat) (k : Int) (A3 : Nat → Int → Int) (H : Heap) (locs : List Loc) (ls : Array Slot) (hk : 1 ≤ k ∧ k ≤ 1000) (hA3 : A3 = stA A1 19 (mDepK (A 3) (A 2) (A 5 (2 * d)) (A 1 0) (mHeap (A 3) (A 2) (A 5 (2 * d)) (A 1 0) lk t.toNat) (k - 1).toNat)) (hw : gH E A0 H0 s (mW E I A3) H locs) (hl : lv_has ls 9 [(5, .int (iI k)), (4, .int (iI t)), (3, .int (iI lk)), (0, .ref (eO E 0)), (1, .int (iI d)), (2, .int (iI n))]) (hnf : (1000 - k).toNat < nf), W p l e ({ frames := 2, cells := 0, slots := 0, locals := 43 } : Room) s m args below meth c H locs 0 0 Q (F0 m 155 ls []) := by
                              intro nf
                              induction nf with
                              | zero =>
                                intro k A3 H locs ls hk hA3 hw hl hnf
                                exact absurd hnf (Nat.not_lt_zero _)
                              | succ nf ih_155 =>
                                intro k A3 H locs ls hk hA3 hw hl hnf
                                have h1 : A3 1 = A 1 := by rw [hA3]; exact k1
                                have h2 : A3 2 = A 2 := by rw [hA3]; exact k2
                                have h3 : A3 3 = A 3 := by rw [hA3]; exact k3
                                have h5 : A3 5 = A 5 := by rw [hA3]; exact k5
                                have h18 : A3 18 = mHeap (A 3) (A 2) (A 5 (2 * d)) (A 1 0) lk t.toNat := by rw [hA3]; exact k18
                                have hl10 : A3 1 0 = A 1 0 := by rw [h1]
                                refine lv_iload F.1 F.2.1 dX10_chance_155 (lv_at hl 0 rfl) ?_
                                refine bi_sipush F dX10_chance_157 (by decide) ?_
                                refine bi_icmp_ge (tgt := 255) F dX10_chance_160 (by decide) (by omega) (fun c_34 => ?_) (fun c_34 => ?_)
                                · refine lv_aload_n F.1 F.2.1 dX10_chance_255 rfl (lv_at hl 3 rfl) ?_
                                  refine m_get F hin hw 28 (by decide) (by decide +kernel) rfl dX10_chance_256 ?_
                                  refine bi_iconst F dX10_chance_259 ?_
                                  refine lv_aload_n F.1 F.2.1 dX10_chance_260 rfl (lv_at hl 3 rfl) ?_
                                  refine m_get F hin hw 27 (by decide) (by decide +kernel) rfl dX10_chance_261 ?_
                                  refine bi_iconst F dX10_chance_264 ?_
                                  refine bi_sipush F dX10_chance_265 (by decide) ?_
                                  refine calls_G (As := [.ref (eA E 19), .int (iI 0), .ref (eA E 18), .int (iI 0), .int (iI 1000)]) (rest := []) F (c_copies l E I A3 19 0 18 0 1000 1000 1000 rfl rfl (by decide) (by decide) (by decide) (by omega) (by omega) (by omega) (by omega)) (va_cwS 5 F.2.2.2.2 gX10_chance_X10_copies rfl rfl rfl (by decide +kernel) ⟨Nat.le_of_ble_eq_true rfl, Nat.le_of_ble_eq_true rfl⟩) hw rfl hl.1 rfl (Nat.le_of_ble_eq_true rfl) dX10_chance_268 ⟨Nat.zero_le _, Nat.zero_le _⟩ (fun H locs hw => ?_)
                                  generalize eA35 : stA A3 18 (cpI (A3 19) (A3 18) 0 0 1000) = A35 at hw
                                  have hw := m_norm hw 18 1000 (by decide) rfl (mDepK (A 3) (A 2) (A 5 (2 * d)) (A 1 0) (mHeap (A 3) (A 2) (A 5 (2 * d)) (A 1 0) lk t.toNat) 999) (fun z hz => by subst_vars; rw [stA_s]; unfold cpI; rw [if_pos (by omega)]; rw [show k = 1000 by omega]; show mDepK _ _ _ _ _ _ _ = _; congr 1; omega)
                                  generalize eA36 : stA A35 18 (mDepK (A 3) (A 2) (A 5 (2 * d)) (A 1 0) (mHeap (A 3) (A 2) (A 5 (2 * d)) (A 1 0) lk t.toNat) 999) = A36 at hw
                                  refine lv_iinc (v := iI (t + 1)) (lv' := [(4, .int (iI (t + 1))), (5, .int (iI k)), (3, .int (iI lk)), (0, .ref (eO E 0)), (1, .int (iI d)), (2, .int (iI n))]) F.1 F.2.1 dX10_chance_271 hl (k := 1) rfl (iI_add _ _).symm (by decide) rfl (fun ls hl => ?_)
                                  refine lv_goto (tgt := 107) F.1 F.2.1 dX10_chance_274 (by decide) ?_
                                  exact ih_107 (t + 1) A36 H locs ls (by omega) (by rw [← eA36, stA_s, mHeap_s ht.1]) (by subst_vars; exact mSame_tr hsm (mSame_tr (mSame_st (j := 19) (by decide)) (mSame_tr (mSame_st (j := 18) (by decide)) (mSame_st (j := 18) (by decide))))) hw (lv_sub hl [0, 2, 3, 4, 5] rfl) (by omega)
                                · refine lv_aload_n F.1 F.2.1 dX10_chance_163 rfl (lv_at hl 3 rfl) ?_
                                  refine m_get F hin hw 27 (by decide) (by decide +kernel) rfl dX10_chance_164 ?_
                                  refine lv_iload F.1 F.2.1 dX10_chance_167 (lv_at hl 0 rfl) ?_
                                  refine m_ld F hw 18 1000 rfl (by decide) (by omega) dX10_chance_169 ?_
                                  refine lv_aload_n F.1 F.2.1 dX10_chance_170 rfl (lv_at hl 3 rfl) ?_
                                  refine m_get F hin hw 3 (by decide) (by decide +kernel) rfl dX10_chance_171 ?_
                                  refine bi_iconst F dX10_chance_174 ?_
                                  refine m_ld F hw 1 4 rfl (by decide) (by omega) dX10_chance_175 ?_
                                  refine bi_idivX F dX10_chance_176 (by omega) ?_
                                  have f_37 := iDv_r (A3 18 k) (A3 1 0)
                                  rw [show iDv (A3 18 k) (A3 1 0) = iDv (mHeap (A 3) (A 2) (A 5 (2 * d)) (A 1 0) lk t.toNat k) (A 1 0) by rw [h18, hl10]]
                                  have hdr := iDv_r (mHeap (A 3) (A 2) (A 5 (2 * d)) (A 1 0) lk t.toNat k) (A 1 0)
                                  refine lv_istore (lv' := [(6, .int (iI (iDv (mHeap (A 3) (A 2) (A 5 (2 * d)) (A 1 0) lk t.toNat k) (A 1 0)))), (5, .int (iI k)), (4, .int (iI t)), (3, .int (iI lk)), (0, .ref (eO E 0)), (1, .int (iI d)), (2, .int (iI n))]) F.1 F.2.1 dX10_chance_177 hl (by decide) rfl (fun ls hl => ?_)
                                  refine bi_iconst F dX10_chance_179 ?_
                                  refine lv_istore (lv' := [(7, .int (iI 0)), (6, .int (iI (iDv (mHeap (A 3) (A 2) (A 5 (2 * d)) (A 1 0) lk t.toNat k) (A 1 0)))), (5, .int (iI k)), (4, .int (iI t)), (3, .int (iI lk)), (0, .ref (eO E 0)), (1, .int (iI d)), (2, .int (iI n))]) F.1 F.2.1 dX10_chance_180 hl (by decide) rfl (fun ls hl => ?_)
                                  have loop_182 : ∀ (nf : Nat) (j : Int) (A4 : Nat → Int → Int) (H : Heap) (locs : List Loc) (ls : Array Slot) (hj : 0 ≤ j ∧ j ≤ A 1 0) (hA4 : A4 = stA A1 19 (mDepJ (A 3) (A 2) (A 5 (2 * d)) (mDepK (A 3) (A 2) (A 5 (2 * d)) (A 1 0) (mHeap (A 3) (A 2) (A 5 (2 * d)) (A 1 0) lk t.toNat) (k - 1).toNat) k (iDv (mHeap (A 3) (A 2) (A 5 (2 * d)) (A 1 0) lk t.toNat k) (A 1 0)) j.toNat)) (hw : gH E A0 H0 s (mW E I A4) H locs) (hl : lv_has ls 9 [(7, .int (iI j)), (6, .int (iI (iDv (mHeap (A 3) (A 2) (A 5 (2 * d)) (A 1 0) lk t.toNat k) (A 1 0)))), (5, .int (iI k)), (4, .int (iI t)), (3, .int (iI lk)), (0, .ref (eO E 0)), (1, .int (iI d)), (2, .int (iI n))]) (hnf : (A 1 0 - j).toNat < nf), W p l e ({ frames := 2, cells := 0, slots := 0, locals := 43 } : Room) s m args below meth c H locs 0 0 Q (F0 m 182 ls []) := by
                                    intro nf
                                    induction nf with
                                    | zero =>
                                      intro j A4 H locs ls hj hA4 hw hl hnf
                                      exact absurd hnf (Nat.not_lt_zero _)
                                    | succ nf ih_182 =>
                                      intro j A4 H locs ls hj hA4 hw hl hnf
                                      have h1 : A4 1 = A 1 := by rw [hA4]; exact k1
                                      have h2 : A4 2 = A 2 := by rw [hA4]; exact k2
                                      have h3 : A4 3 = A 3 := by rw [hA4]; exact k3
                                      have h5 : A4 5 = A 5 := by rw [hA4]; exact k5
                                      have h18 : A4 18 = mHeap (A 3) (A 2) (A 5 (2 * d)) (A 1 0) lk t.toNat := by rw [hA4]; exact k18
                                      have hl10 : A4 1 0 = A 1 0 := by rw [h1]
                                      refine lv_iload F.1 F.2.1 dX10_chance_182 (lv_at hl 0 rfl) ?_
                                      refine lv_aload_n F.1 F.2.1 dX10_chance_184 rfl (lv_at hl 5 rfl) ?_
                                      refine m_get F hin hw 3 (by decide) (by decide +kernel) rfl dX10_chance_185 ?_
                                      refine bi_iconst F dX10_chance_188 ?_
                                      refine m_ld F hw 1 4 rfl (by decide) (by omega) dX10_chance_189 ?_
                                      refine bi_icmp_ge (tgt := 249) F dX10_chance_190 (by decide) (by omega) (fun c_38 => ?_) (fun c_38 => ?_)
                                      · have hfin : A4 = stA A1 19 (mDepJ (A 3) (A 2) (A 5 (2 * d)) (mDepK (A 3) (A 2) (A 5 (2 * d)) (A 1 0) (mHeap (A 3) (A 2) (A 5 (2 * d)) (A 1 0) lk t.toNat) (k - 1).toNat) k (iDv (mHeap (A 3) (A 2) (A 5 (2 * d)) (A 1 0) lk t.toNat k) (A 1 0)) (A 1 0).toNat) := by first | (rw [hA4, show j = A 1 0 by omega]; done) | (rw [hA4, mDepJ_0 _ (by omega), mDepJ_0 _ (by omega)]; done)
                                        refine lv_iinc (v := iI (k + 1)) (lv' := [(5, .int (iI (k + 1))), (7, .int (iI j)), (6, .int (iI (iDv (mHeap (A 3) (A 2) (A 5 (2 * d)) (A 1 0) lk t.toNat k) (A 1 0)))), (4, .int (iI t)), (3, .int (iI lk)), (0, .ref (eO E 0)), (1, .int (iI d)), (2, .int (iI n))]) F.1 F.2.1 dX10_chance_249 hl (k := 2) rfl (iI_add _ _).symm (by decide) rfl (fun ls hl => ?_)
                                        refine lv_goto (tgt := 155) F.1 F.2.1 dX10_chance_252 (by decide) ?_
                                        exact ih_155 (k + 1) A4 H locs ls (by omega) (by rw [mDepK_s hk.1]; exact hfin) hw (lv_sub hl [0, 3, 4, 5, 6, 7] rfl) (by omega)
                                      · refine lv_iload F.1 F.2.1 dX10_chance_193 (lv_at hl 1 rfl) ?_
                                        refine bi_if_le (tgt := 249) F dX10_chance_195 (by decide) (by omega) (fun c_39 => ?_) (fun c_39 => ?_)
                                        · have hfin : A4 = stA A1 19 (mDepJ (A 3) (A 2) (A 5 (2 * d)) (mDepK (A 3) (A 2) (A 5 (2 * d)) (A 1 0) (mHeap (A 3) (A 2) (A 5 (2 * d)) (A 1 0) lk t.toNat) (k - 1).toNat) k (iDv (mHeap (A 3) (A 2) (A 5 (2 * d)) (A 1 0) lk t.toNat k) (A 1 0)) (A 1 0).toNat) := by first | (rw [hA4, show j = A 1 0 by omega]; done) | (rw [hA4, mDepJ_0 _ (by omega), mDepJ_0 _ (by omega)]; done)
                                          refine lv_iinc (v := iI (k + 1)) (lv' := [(5, .int (iI (k + 1))), (7, .int (iI j)), (6, .int (iI (iDv (mHeap (A 3) (A 2) (A 5 (2 * d)) (A 1 0) lk t.toNat k) (A 1 0)))), (4, .int (iI t)), (3, .int (iI lk)), (0, .ref (eO E 0)), (1, .int (iI d)), (2, .int (iI n))]) F.1 F.2.1 dX10_chance_249 hl (k := 2) rfl (iI_add _ _).symm (by decide) rfl (fun ls hl => ?_)
                                          refine lv_goto (tgt := 155) F.1 F.2.1 dX10_chance_252 (by decide) ?_
                                          exact ih_155 (k + 1) A4 H locs ls (by omega) (by rw [mDepK_s hk.1]; exact hfin) hw (lv_sub hl [0, 3, 4, 5, 6, 7] rfl) (by omega)
                                        · refine lv_iload F.1 F.2.1 dX10_chance_198 (lv_at hl 2 rfl) ?_
                                          refine lv_aload_n F.1 F.2.1 dX10_chance_200 rfl (lv_at hl 5 rfl) ?_
                                          refine lv_aload_n F.1 F.2.1 dX10_chance_201 rfl (lv_at hl 5 rfl) ?_
                                          refine m_get F hin hw 4 (by decide) (by decide +kernel) rfl dX10_chance_202 ?_
                                          refine lv_iload F.1 F.2.1 dX10_chance_205 (lv_at hl 0 rfl) ?_
                                          refine m_ld F hw 2 20 rfl (by decide) (by omega) dX10_chance_207 ?_
                                          have f_40 := (show ∀ k, 0 ≤ A4 2 k ∧ A4 2 k ≤ 40 by rw [h2]; exact hWn) (j)
                                          refine lv_aload_n F.1 F.2.1 dX10_chance_208 rfl (lv_at hl 5 rfl) ?_
                                          refine m_get F hin hw 7 (by decide) (by decide +kernel) rfl dX10_chance_209 ?_
                                          refine bi_iconst F dX10_chance_212 ?_
                                          refine lv_iload_n F.1 F.2.1 dX10_chance_213 rfl (lv_at hl 6 rfl) ?_
                                          refine bi_imul F dX10_chance_214 ?_
                                          refine m_ld F hw 5 10 rfl (by decide) (by omega) dX10_chance_215 ?_
                                          have f_41 := congrFun h5 (2 * d)
                                          refine call_N (As := [.int (iI (A4 2 j)), .int (iI (A4 5 (2 * d)))]) (rest := [.int (iI k)]) F (c_fallsOf l E I A4 (A4 2 j) (A4 5 (2 * d)) (by omega) (by omega) (by rw [h3]; exact hV)) (cwV 2 F.2.2.2.2 gX10_chance_X10_fallsOf rfl rfl rfl (by decide +kernel) ⟨Nat.le_of_ble_eq_true rfl, Nat.le_of_ble_eq_true rfl⟩) hw (m_recv hw) rfl hl.1 rfl (Nat.le_of_ble_eq_true rfl) dX10_chance_216 ⟨Nat.zero_le _, Nat.zero_le _⟩ (fun H locs hw => ?_)
                                          have f_42 := mFo_r (V := A4 3) (x := (A4 2 j)) (v := (A4 5 (2 * d))) (by rw [h3]; exact hV) (by omega)
                                          refine bi_isub F dX10_chance_219 ?_
                                          refine lv_istore (lv' := [(8, .int (iI (k - (mFo (A4 3) (A4 2 j) (A4 5 (2 * d)))))), (7, .int (iI j)), (6, .int (iI (iDv (mHeap (A 3) (A 2) (A 5 (2 * d)) (A 1 0) lk t.toNat k) (A 1 0)))), (5, .int (iI k)), (4, .int (iI t)), (3, .int (iI lk)), (0, .ref (eO E 0)), (1, .int (iI d)), (2, .int (iI n))]) F.1 F.2.1 dX10_chance_220 hl (by decide) rfl (fun ls hl => ?_)
                                          have hto : k - mFo (A4 3) (A4 2 j) (A4 5 (2 * d)) = k - mFo (A 3) (A 2 j) (A 5 (2 * d)) := by rw [h3, h2, h5]
                                          refine lv_aload_n F.1 F.2.1 dX10_chance_222 rfl (lv_at hl 6 rfl) ?_
                                          refine m_get F hin hw 28 (by decide) (by decide +kernel) rfl dX10_chance_223 ?_
                                          have join_237 : ∀ (ix : Int) (hj_237 : ix = mx0 (k - mFo (A 3) (A 2 j) (A 5 (2 * d)))) (H : Heap) (locs : List Loc) (hw : gH E A0 H0 s (mW E I A4) H locs), W p l e ({ frames := 2, cells := 0, slots := 0, locals := 43 } : Room) s m args below meth c H locs 0 0 Q (F0 m 237 ls [.int (iI ix), .ref (eA E 19)]) := by
                                            intro ix hj_237 H locs hw
                                            have hix := mx0_r (k - mFo (A 3) (A 2 j) (A 5 (2 * d)))
                                            have hfo := mFo_r (V := A 3) (x := A 2 j) (v := A 5 (2 * d)) hV (by have := hWn j; omega)
                                            refine lv_dup2_11 F.1 F.2.1 dX10_chance_237 rfl rfl ?_
                                            refine m_ld F hw 19 1000 rfl (by decide) (by omega) dX10_chance_238 ?_
                                            refine lv_iload F.1 F.2.1 dX10_chance_239 (lv_at hl 2 rfl) ?_
                                            refine bi_iadd F dX10_chance_241 ?_
                                            refine m_st F hw 19 1000 rfl (by decide) (by omega) dX10_chance_242 (fun H locs hw => ?_)
                                            generalize eA43 : st2 A4 19 ix (A4 19 ix + (iDv (mHeap (A 3) (A 2) (A 5 (2 * d)) (A 1 0) lk t.toNat k) (A 1 0))) = A43 at hw
                                            refine lv_iinc (v := iI (j + 1)) (lv' := [(7, .int (iI (j + 1))), (8, .int (iI (k - (mFo (A4 3) (A4 2 j) (A4 5 (2 * d)))))), (6, .int (iI (iDv (mHeap (A 3) (A 2) (A 5 (2 * d)) (A 1 0) lk t.toNat k) (A 1 0)))), (5, .int (iI k)), (4, .int (iI t)), (3, .int (iI lk)), (0, .ref (eO E 0)), (1, .int (iI d)), (2, .int (iI n))]) F.1 F.2.1 dX10_chance_243 hl (k := 1) rfl (iI_add _ _).symm (by decide) rfl (fun ls hl => ?_)
                                            refine lv_goto (tgt := 182) F.1 F.2.1 dX10_chance_246 (by decide) ?_
                                            exact ih_182 (j + 1) A43 H locs ls (by omega) (by rw [mDepJ_s hj.1 (by omega), ← eA43, hj_237, hA4, st2_A, stA_s]) hw (lv_sub hl [0, 2, 3, 4, 5, 6, 7, 8] rfl) (by omega)
                                          refine lv_iload F.1 F.2.1 dX10_chance_226 (lv_at hl 0 rfl) ?_
                                          refine bi_if_ge (tgt := 235) F dX10_chance_228 (by decide) (by omega) (fun c_44 => ?_) (fun c_44 => ?_)
                                          · refine lv_iload F.1 F.2.1 dX10_chance_235 (lv_at hl 0 rfl) ?_
                                            exact join_237 (k - (mFo (A4 3) (A4 2 j) (A4 5 (2 * d)))) (by rw [← hto]; unfold mx0; first | (rw [if_pos (by omega)]; done) | (rw [if_neg (by omega)]; done)) H locs hw
                                          · refine bi_iconst F dX10_chance_231 ?_
                                            refine lv_goto (tgt := 237) F.1 F.2.1 dX10_chance_232 (by decide) ?_
                                            exact join_237 0 (by rw [← hto]; unfold mx0; first | (rw [if_pos (by omega)]; done) | (rw [if_neg (by omega)]; done)) H locs hw
                                  exact loop_182 ((A 1 0 - 0 : Int).toNat + 1) 0 A3 H locs ls (by omega) (hA3) hw (lv_sub hl [0, 1, 2, 3, 4, 5, 6, 7] rfl) (by omega)
                            exact loop_155 ((1000 - 1 : Int).toNat + 1) 1 A33 H locs ls (by omega) (by rw [← eA33, hA2, stA_2]; rfl) hw (lv_sub hl [0, 1, 2, 3, 4, 5] rfl) (by omega)
                          · refine lv_aload_n F.1 F.2.1 dX10_chance_124 rfl (lv_at hl 3 rfl) ?_
                            refine m_get F hin hw 28 (by decide) (by decide +kernel) rfl dX10_chance_125 ?_
                            refine lv_iload F.1 F.2.1 dX10_chance_128 (lv_at hl 0 rfl) ?_
                            refine lv_iload F.1 F.2.1 dX10_chance_130 (lv_at hl 0 rfl) ?_
                            refine bi_if_ne (tgt := 144) F dX10_chance_132 (by decide) (by omega) (fun c_45 => ?_) (fun c_45 => ?_)
                            · refine bi_iconst F dX10_chance_144 ?_
                              refine m_st F hw 19 1000 rfl (by decide) (by omega) dX10_chance_145 (fun H locs hw => ?_)
                              generalize eA46 : st2 A2 19 k 0 = A46 at hw
                              refine lv_iinc (v := iI (k + 1)) (lv' := [(5, .int (iI (k + 1))), (4, .int (iI t)), (3, .int (iI lk)), (0, .ref (eO E 0)), (1, .int (iI d)), (2, .int (iI n))]) F.1 F.2.1 dX10_chance_146 hl (k := 0) rfl (iI_add _ _).symm (by decide) rfl (fun ls hl => ?_)
                              refine lv_goto (tgt := 116) F.1 F.2.1 dX10_chance_149 (by decide) ?_
                              exact ih_116 (k + 1) A46 H locs ls (by omega) (by rw [← eA46]; (try rw [show A2 18 0 = mHeap (A 3) (A 2) (A 5 (2 * d)) (A 1 0) lk t.toNat 0 by rw [h182]]); rw [hA2, st2_A, ← zr_s hk.1]; congr 2; first | (rw [if_pos (by omega)]; done) | (rw [if_neg (by omega)]; done)) hw (lv_sub hl [0, 1, 2, 3, 4, 5] rfl) (by omega)
                            · refine lv_aload_n F.1 F.2.1 dX10_chance_135 rfl (lv_at hl 3 rfl) ?_
                              refine m_get F hin hw 27 (by decide) (by decide +kernel) rfl dX10_chance_136 ?_
                              refine bi_iconst F dX10_chance_139 ?_
                              refine m_ld F hw 18 1000 rfl (by decide) (by omega) dX10_chance_140 ?_
                              refine lv_goto (tgt := 145) F.1 F.2.1 dX10_chance_141 (by decide) ?_
                              refine m_st F hw 19 1000 rfl (by decide) (by omega) dX10_chance_145 (fun H locs hw => ?_)
                              generalize eA47 : st2 A2 19 k (A2 18 0) = A47 at hw
                              refine lv_iinc (v := iI (k + 1)) (lv' := [(5, .int (iI (k + 1))), (4, .int (iI t)), (3, .int (iI lk)), (0, .ref (eO E 0)), (1, .int (iI d)), (2, .int (iI n))]) F.1 F.2.1 dX10_chance_146 hl (k := 0) rfl (iI_add _ _).symm (by decide) rfl (fun ls hl => ?_)
                              refine lv_goto (tgt := 116) F.1 F.2.1 dX10_chance_149 (by decide) ?_
                              exact ih_116 (k + 1) A47 H locs ls (by omega) (by rw [← eA47]; (try rw [show A2 18 0 = mHeap (A 3) (A 2) (A 5 (2 * d)) (A 1 0) lk t.toNat 0 by rw [h182]]); rw [hA2, st2_A, ← zr_s hk.1]; congr 2; first | (rw [if_pos (by omega)]; done) | (rw [if_neg (by omega)]; done)) hw (lv_sub hl [0, 1, 2, 3, 4, 5] rfl) (by omega)
                      exact loop_116 ((1000 - 0 : Int).toNat + 1) 0 A1 H locs ls (by omega) (by rw [zr_0, stA_id]) hw (lv_sub hl [0, 1, 2, 3, 4, 5] rfl) (by omega)
                exact loop_107 ((n - 0 : Int).toNat + 1) 0 A30 H locs ls (by omega) (by subst_vars; rw [st2_a, stA_s]; first | rfl | (show up1 _ _ _ = up1 _ (mx0 _) _; unfold mx0; first | rw [if_pos (by omega)] | rw [if_neg (by omega)])) (by subst_vars; exact mSame_tr (mSame_tr (mSame_st (by decide)) (mSame_st (by decide))) (mSame_st (by decide))) hw (lv_sub hl [0, 1, 2, 3, 4] rfl) (by omega)
            · refine lv_aload_n F.1 F.2.1 dX10_chance_74 rfl (lv_at hl 2 rfl) ?_
              refine m_get F hin hw 27 (by decide) (by decide +kernel) rfl dX10_chance_75 ?_
              refine lv_iload F.1 F.2.1 dX10_chance_78 (lv_at hl 0 rfl) ?_
              refine bi_iconst F dX10_chance_80 ?_
              refine m_st F hw 18 1000 rfl (by decide) (by omega) dX10_chance_81 (fun H locs hw => ?_)
              generalize eA48 : st2 A1 18 k 0 = A48 at hw
              refine lv_iinc (v := iI (k + 1)) (lv' := [(4, .int (iI (k + 1))), (3, .int (iI lk)), (0, .ref (eO E 0)), (1, .int (iI d)), (2, .int (iI n))]) F.1 F.2.1 dX10_chance_82 hl (k := 0) rfl (iI_add _ _).symm (by decide) rfl (fun ls hl => ?_)
              refine lv_goto (tgt := 66) F.1 F.2.1 dX10_chance_85 (by decide) ?_
              exact ih_66 (k + 1) A48 H locs ls (by omega) (by rw [← eA48, hA1, st2_A]; congr 1; exact zr_s hk.1) hw (lv_sub hl [0, 1, 2, 3, 4] rfl) (by omega)
        exact loop_66 ((1000 - 0 : Int).toNat + 1) 0 A H locs ls (by omega) (by rw [zr_0, stA_id]) hw (lv_sub hl [0, 1, 2, 3, 4] rfl) (by omega)
      · refine bi_ldc F (-1000000003) (by decide +kernel) rfl dX10_chance_38 ?_
        exact hret _ _ _ _ _ _ (by unfold mChaR; rw [if_pos (by omega), if_pos (by omega), if_pos (by omega)]) (mSame_rf) hw dX10_chance_40
    · refine bi_if_ne (tgt := 24) F dX10_chance_18 (by decide) (by decide) (fun q => absurd q (by decide)) (fun _ => ?_)
      refine bi_ldc F (-1000000002) (by decide +kernel) rfl dX10_chance_21 ?_
      exact hret _ _ _ _ _ _ (by unfold mChaR; rw [if_pos (by omega), if_neg (by omega)]) (mSame_rf) hw dX10_chance_23
  · refine bi_if_ne (tgt := 11) F dX10_chance_5 (by decide) (by decide) (fun q => absurd q (by decide)) (fun _ => ?_)
    refine bi_ldc F (-1000000001) (by decide +kernel) rfl dX10_chance_8 ?_
    exact hret _ _ _ _ _ _ (by unfold mChaR; rw [if_neg (by omega)]) (mSame_rf) hw dX10_chance_10
