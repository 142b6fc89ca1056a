set_option maxRecDepth 100000 in
set_option maxHeartbeats 4000000 in
theorem j_reads (l : Launch) (E : Ev) (I : Nat → Int) (A : Nat → Int → Int) (a : Int) (w : Int) (hT : 0 ≤ I 0 ∧ I 0 ≤ 240) (hl0 : ∀ k, 0 ≤ A 0 k ∧ A 0 k ≤ 255) (ha : 0 ≤ a ∧ a ≤ 240) (hw3 : 0 ≤ w ∧ w ≤ 3) (hc : cOk A) : MetG l yX10_reads wsX10_reads ({ frames := 5, cells := 0, slots := 0, locals := 106 } : Room) E [.ref (eO E 0)] (mW E (jI I a w) A) (mW E (jI I ((rLoop (A 0) (I 0) 241 (a, w, A)).1) ((rLoop (A 0) (I 0) 241 (a, w, A)).2.1)) ((rLoop (A 0) (I 0) 241 (a, w, A)).2.2)) := by
  have hin : ∀ w ∈ wsX100, w ∈ wsX10_reads := fun w h => in_tail h
  refine met_G (cc := cX10_reads) (nL := 1) (by decide) rfl (Nat.le_of_ble_eq_true rfl) ?_
  intro p e s m args below meth c Q H0 A0 H locs ls F hw hl hret
  have F : CallFix p m c cX10_reads 1 s args wsX10_reads RX10 := F
  have hl : lv_has ls 1 [(0, .ref (eO E 0))] := hl
  have loop_0 : ∀ (nf : Nat) (i : Int) (a1 : Int) (w1 : Int) (A1 : Nat → Int → Int) (H : Heap) (locs : List Loc) (ls : Array Slot) (hi : 0 ≤ i ∧ i ≤ 240) (hpr : w1 = 0 → i ≤ a1) (h0 : A1 0 = A 0) (hc : cOk A1) (ha1 : 0 ≤ a1 ∧ a1 ≤ 240) (hw1 : 0 ≤ w1 ∧ w1 ≤ 3) (hR : rLoop (A 0) (I 0) (241 - i).toNat (a1, w1, A1) = rLoop (A 0) (I 0) 241 (a, w, A)) (hw : gH E A0 H0 s (mW E (jI I a1 w1) A1) H locs) (hl : lv_has ls 1 [(0, .ref (eO E 0))]) (hnf : (241 - i).toNat < nf), W p l e ({ frames := 5, cells := 0, slots := 0, locals := 106 } : Room) s m args below meth c H locs 0 0 Q (F0 m 0 ls []) := by
    intro nf
    induction nf with
    | zero =>
      intro i a1 w1 A1 H locs ls hi hpr h0 hc ha1 hw1 hR hw hl hnf
      exact absurd hnf (Nat.not_lt_zero _)
    | succ nf ih_0 =>
      intro i a1 w1 A1 H locs ls hi hpr h0 hc ha1 hw1 hR hw hl hnf
      have hl0 : ∀ k, 0 ≤ A1 0 k ∧ A1 0 k ≤ 255 := by rw [h0]; exact hl0
      obtain ⟨hd0, hd1, hd2, hd3⟩ := id hc
      have hRs : rLoop (A 0) (I 0) (241 - i).toNat (a1, w1, A1) = if w1 = 0 ∧ pLook (A 0) (I 0) a1 ≠ -1 then rLoop (A 0) (I 0) (241 - (i + 1)).toNat (rSk (A 0) (I 0) (rCl (A 0) (I 0) (a1, w1, A1))) else (a1, w1, A1) := by rw [show (241 - i).toNat = (241 - (i + 1)).toNat + 1 by omega]; rfl
      refine lv_aload_n F.1 F.2.1 dX10_reads_0 rfl (lv_at hl 0 rfl) ?_
      refine m_get (v := .int (iI w1)) F hin hw 26 (by decide) (by decide +kernel) rfl dX10_reads_1 ?_
      refine bi_if_ne (tgt := 108) F dX10_reads_4 (by decide) (by omega) (fun c_1 => ?_) (fun c_1 => ?_)
      · have hfin : rLoop (A 0) (I 0) 241 (a, w, A) = (a1, w1, A1) := by rw [← hR, hRs, if_neg (fun hq => by rw [← h0] at hq; omega)]
        exact hret _ _ _ _ _ (mW_j (by rw [hfin]) (by rw [hfin]) (by rw [hfin])) hw dX10_reads_108
      · refine lv_aload_n F.1 F.2.1 dX10_reads_7 rfl (lv_at hl 0 rfl) ?_
        refine call_N (As := []) (rest := []) F (j_look l E I A1 a1 w1  (by omega) hl0 (by omega) (by omega)) (cwV 0 F.2.2.2.2 gX10_reads_X10_look rfl rfl rfl (by decide +kernel) ⟨Nat.le_of_ble_eq_true rfl, Nat.le_of_ble_eq_true rfl⟩) hw (m_recv hw) rfl hl.1 rfl (Nat.le_of_ble_eq_true rfl) dX10_reads_8 ⟨Nat.zero_le _, Nat.zero_le _⟩ (fun H locs hw => ?_)
        have f_2 := pLook_r (T := A1 0) (n := I 0) (a := a1) hl0
        refine bi_iconst F dX10_reads_11 ?_
        refine bi_icmp_eq (tgt := 108) F dX10_reads_12 (by decide) (by omega) (fun c_3 => ?_) (fun c_3 => ?_)
        · have hfin : rLoop (A 0) (I 0) 241 (a, w, A) = (a1, w1, A1) := by rw [← hR, hRs, if_neg (fun hq => by rw [← h0] at hq; omega)]
          exact hret _ _ _ _ _ (mW_j (by rw [hfin]) (by rw [hfin]) (by rw [hfin])) hw dX10_reads_108
        · have hlk : pLook (A 0) (I 0) a1 ≠ -1 := by rw [← h0]; assumption
          have hlt := pLook_ne hlk
          have hi2 := hpr (by omega)
          refine lv_aload_n F.1 F.2.1 dX10_reads_15 rfl (lv_at hl 0 rfl) ?_
          refine call_N (As := []) (rest := []) F (j_look l E I A1 a1 w1  (by omega) hl0 (by omega) (by omega)) (cwV 0 F.2.2.2.2 gX10_reads_X10_look rfl rfl rfl (by decide +kernel) ⟨Nat.le_of_ble_eq_true rfl, Nat.le_of_ble_eq_true rfl⟩) hw (m_recv hw) rfl hl.1 rfl (Nat.le_of_ble_eq_true rfl) dX10_reads_16 ⟨Nat.zero_le _, Nat.zero_le _⟩ (fun H locs hw => ?_)
          have f_4 := pLook_r (T := A1 0) (n := I 0) (a := a1) hl0
          refine bi_bipush F dX10_reads_19 (by decide) ?_
          refine bi_icmp_ne (tgt := 31) F dX10_reads_21 (by decide) (by omega) (fun c_5 => ?_) (fun c_5 => ?_)
          · refine lv_aload_n F.1 F.2.1 dX10_reads_31 rfl (lv_at hl 0 rfl) ?_
            refine m_get F hin hw 8 (by decide) (by decide +kernel) rfl dX10_reads_32 ?_
            refine bi_iconst F dX10_reads_35 ?_
            refine m_ld F hw 6 4 rfl (by decide) (by omega) dX10_reads_36 ?_
            refine bi_if_ne (tgt := 48) F dX10_reads_37 (by decide) (by omega) (fun c_6 => ?_) (fun c_6 => ?_)
            · refine lv_aload_n F.1 F.2.1 dX10_reads_48 rfl (lv_at hl 0 rfl) ?_
              refine call_N (As := []) (rest := []) F (j_look l E I A1 a1 w1  (by omega) hl0 (by omega) (by omega)) (cwV 0 F.2.2.2.2 gX10_reads_X10_look rfl rfl rfl (by decide +kernel) ⟨Nat.le_of_ble_eq_true rfl, Nat.le_of_ble_eq_true rfl⟩) hw (m_recv hw) rfl hl.1 rfl (Nat.le_of_ble_eq_true rfl) dX10_reads_49 ⟨Nat.zero_le _, Nat.zero_le _⟩ (fun H locs hw => ?_)
              have f_7 := pLook_r (T := A1 0) (n := I 0) (a := a1) hl0
              refine bi_bipush F dX10_reads_52 (by decide) ?_
              refine bi_icmp_ne (tgt := 64) F dX10_reads_54 (by decide) (by omega) (fun c_8 => ?_) (fun c_8 => ?_)
              · refine lv_aload_n F.1 F.2.1 dX10_reads_64 rfl (lv_at hl 0 rfl) ?_
                refine call_N (As := []) (rest := []) F (j_look l E I A1 a1 w1  (by omega) hl0 (by omega) (by omega)) (cwV 0 F.2.2.2.2 gX10_reads_X10_look rfl rfl rfl (by decide +kernel) ⟨Nat.le_of_ble_eq_true rfl, Nat.le_of_ble_eq_true rfl⟩) hw (m_recv hw) rfl hl.1 rfl (Nat.le_of_ble_eq_true rfl) dX10_reads_65 ⟨Nat.zero_le _, Nat.zero_le _⟩ (fun H locs hw => ?_)
                have f_9 := pLook_r (T := A1 0) (n := I 0) (a := a1) hl0
                refine bi_bipush F dX10_reads_68 (by decide) ?_
                refine bi_icmp_ne (tgt := 80) F dX10_reads_70 (by decide) (by omega) (fun c_10 => ?_) (fun c_10 => ?_)
                · refine lv_aload_n F.1 F.2.1 dX10_reads_80 rfl (lv_at hl 0 rfl) ?_
                  refine call_N (As := []) (rest := []) F (j_look l E I A1 a1 w1  (by omega) hl0 (by omega) (by omega)) (cwV 0 F.2.2.2.2 gX10_reads_X10_look rfl rfl rfl (by decide +kernel) ⟨Nat.le_of_ble_eq_true rfl, Nat.le_of_ble_eq_true rfl⟩) hw (m_recv hw) rfl hl.1 rfl (Nat.le_of_ble_eq_true rfl) dX10_reads_81 ⟨Nat.zero_le _, Nat.zero_le _⟩ (fun H locs hw => ?_)
                  have f_11 := pLook_r (T := A1 0) (n := I 0) (a := a1) hl0
                  refine bi_bipush F dX10_reads_84 (by decide) ?_
                  refine bi_icmp_ne (tgt := 96) F dX10_reads_86 (by decide) (by omega) (fun c_12 => ?_) (fun c_12 => ?_)
                  · refine lv_aload_n F.1 F.2.1 dX10_reads_96 rfl (lv_at hl 0 rfl) ?_
                    refine bi_iconst F dX10_reads_97 ?_
                    refine call_G (As := [.int (iI 1)]) (rest := []) F (j_fails l E I A1 a1 w1 1 (by omega) (by omega)) (cwV 1 F.2.2.2.2 gX10_reads_X10_fails rfl rfl rfl (by decide +kernel) ⟨Nat.le_of_ble_eq_true rfl, Nat.le_of_ble_eq_true rfl⟩) hw (m_recv hw) rfl hl.1 rfl (Nat.le_of_ble_eq_true rfl) dX10_reads_98 ⟨Nat.zero_le _, Nat.zero_le _⟩ (fun H locs hw => ?_)
                    generalize ew14 : pFail 1 w1 = w14 at hw
                    have f_15 := pFail_r (k := 1) (w := w1) (by omega) (by omega)
                    try rw [ew14] at f_15
                    have hcl : rCl (A 0) (I 0) (a1, w1, A1) = (a1, w14, A1) := by unfold rCl; rw [← h0]; show (if pLook (A1 0) (I 0) a1 = 110 then _ else if A1 6 0 = 0 then _ else if pLook (A1 0) (I 0) a1 = 118 then _ else if pLook (A1 0) (I 0) a1 = 112 then _ else if pLook (A1 0) (I 0) a1 = 100 then _ else _) = _; first | (rw [if_pos (by omega)]; subst_vars; rfl) | (rw [if_neg (by omega), if_pos (by omega)]; subst_vars; rfl) | (rw [if_neg (by omega), if_neg (by omega), if_pos (by omega)]; subst_vars; rfl) | (rw [if_neg (by omega), if_neg (by omega), if_neg (by omega), if_pos (by omega)]; subst_vars; rfl) | (rw [if_neg (by omega), if_neg (by omega), if_neg (by omega), if_neg (by omega), if_pos (by omega)]; subst_vars; rfl) | (rw [if_neg (by omega), if_neg (by omega), if_neg (by omega), if_neg (by omega), if_neg (by omega)]; subst_vars; rfl)
                    have hgo := rCl_go (T := A 0) (n := I 0) (a := a1) (w := w1) (A := A1) (by omega) (by omega) hc
                    rw [hcl] at hgo
                    obtain ⟨⟨g1, g2, g3, hcn, g5⟩, g6⟩ := hgo
                    dsimp only at g1 g2 g3 hcn g5 g6
                    have hA0 : A1 0 = A1 0 := g5 0 (by omega)
                    have hA0z : A1 0 = A 0 := by rw [hA0, h0]
                    have hl0 : ∀ k, 0 ≤ A1 0 k ∧ A1 0 k ≤ 255 := by rw [hA0]; exact hl0
                    refine lv_aload_n F.1 F.2.1 dX10_reads_101 rfl (lv_at hl 0 rfl) ?_
                    refine call_G (As := []) (rest := []) F (j_skips l E I A1 a1 w14  (by omega) hl0 (by omega) (by omega)) (cwV 0 F.2.2.2.2 gX10_reads_X10_skips rfl rfl rfl (by decide +kernel) ⟨Nat.le_of_ble_eq_true rfl, Nat.le_of_ble_eq_true rfl⟩) hw (m_recv hw) rfl hl.1 rfl (Nat.le_of_ble_eq_true rfl) dX10_reads_102 ⟨Nat.zero_le _, Nat.zero_le _⟩ (fun H locs hw => ?_)
                    generalize ea16 : pSkW (A1 0) (I 0) a1 w14 = a16 at hw
                    have f_18 := pSkW_r (T := A1 0) (n := I 0) (a := a1) (w := w14) (by omega) (by omega)
                    try rw [ea16] at f_18
                    refine lv_goto (tgt := 0) F.1 F.2.1 dX10_reads_105 (by decide) ?_
                    exact ih_0 (i + 1) a16 w14 A1 H locs ls (by omega) (by intro hq; have := hpr (by omega); omega) (hA0z) (hcn) (by omega) (by omega) (by rw [← hR, hRs, if_pos ⟨by omega, hlk⟩, hcl, ← hA0z]; subst_vars; rfl) hw (lv_sub hl [0] rfl) (by omega)
                  · refine lv_aload_n F.1 F.2.1 dX10_reads_89 rfl (lv_at hl 0 rfl) ?_
                    refine call_G (As := []) (rest := []) F (j_readsDebt l E I A1 a1 w1  (by omega) hl0 (by omega) (by omega) (by omega) (by omega) hc) (cwV 0 F.2.2.2.2 gX10_reads_X10_readsDebt rfl rfl rfl (by decide +kernel) ⟨Nat.le_of_ble_eq_true rfl, Nat.le_of_ble_eq_true rfl⟩) hw (m_recv hw) rfl hl.1 rfl (Nat.le_of_ble_eq_true rfl) dX10_reads_90 ⟨Nat.zero_le _, Nat.zero_le _⟩ (fun H locs hw => ?_)
                    generalize ea19 : (rDeb (A1 0) (I 0) (a1, w1, A1)).1 = a19 at hw
                    generalize ew20 : (rDeb (A1 0) (I 0) (a1, w1, A1)).2.1 = w20 at hw
                    generalize eA21 : (rDeb (A1 0) (I 0) (a1, w1, A1)).2.2 = A21 at hw
                    obtain ⟨⟨g1, g2, g3, g4, g5⟩, g6⟩ := rDeb_go (T := A1 0) (n := I 0) (a := a1) (w := w1) (A := A1) (by omega) (by omega) hc
                    rw [ea19] at g1 g3 g6
                    rw [ew20] at g2 g6
                    rw [eA21] at g4 g5
                    refine lv_goto (tgt := 101) F.1 F.2.1 dX10_reads_93 (by decide) ?_
                    have hcl : rCl (A 0) (I 0) (a1, w1, A1) = (a19, w20, A21) := by unfold rCl; rw [← h0]; show (if pLook (A1 0) (I 0) a1 = 110 then _ else if A1 6 0 = 0 then _ else if pLook (A1 0) (I 0) a1 = 118 then _ else if pLook (A1 0) (I 0) a1 = 112 then _ else if pLook (A1 0) (I 0) a1 = 100 then _ else _) = _; first | (rw [if_pos (by omega)]; subst_vars; rfl) | (rw [if_neg (by omega), if_pos (by omega)]; subst_vars; rfl) | (rw [if_neg (by omega), if_neg (by omega), if_pos (by omega)]; subst_vars; rfl) | (rw [if_neg (by omega), if_neg (by omega), if_neg (by omega), if_pos (by omega)]; subst_vars; rfl) | (rw [if_neg (by omega), if_neg (by omega), if_neg (by omega), if_neg (by omega), if_pos (by omega)]; subst_vars; rfl) | (rw [if_neg (by omega), if_neg (by omega), if_neg (by omega), if_neg (by omega), if_neg (by omega)]; subst_vars; rfl)
                    have hgo := rCl_go (T := A 0) (n := I 0) (a := a1) (w := w1) (A := A1) (by omega) (by omega) hc
                    rw [hcl] at hgo
                    obtain ⟨⟨g1, g2, g3, hcn, g5⟩, g6⟩ := hgo
                    dsimp only at g1 g2 g3 hcn g5 g6
                    have hA0 : A21 0 = A1 0 := g5 0 (by omega)
                    have hA0z : A21 0 = A 0 := by rw [hA0, h0]
                    have hl0 : ∀ k, 0 ≤ A21 0 k ∧ A21 0 k ≤ 255 := by rw [hA0]; exact hl0
                    refine lv_aload_n F.1 F.2.1 dX10_reads_101 rfl (lv_at hl 0 rfl) ?_
                    refine call_G (As := []) (rest := []) F (j_skips l E I A21 a19 w20  (by omega) hl0 (by omega) (by omega)) (cwV 0 F.2.2.2.2 gX10_reads_X10_skips rfl rfl rfl (by decide +kernel) ⟨Nat.le_of_ble_eq_true rfl, Nat.le_of_ble_eq_true rfl⟩) hw (m_recv hw) rfl hl.1 rfl (Nat.le_of_ble_eq_true rfl) dX10_reads_102 ⟨Nat.zero_le _, Nat.zero_le _⟩ (fun H locs hw => ?_)
                    generalize ea22 : pSkW (A21 0) (I 0) a19 w20 = a22 at hw
                    have f_24 := pSkW_r (T := A21 0) (n := I 0) (a := a19) (w := w20) (by omega) (by omega)
                    try rw [ea22] at f_24
                    refine lv_goto (tgt := 0) F.1 F.2.1 dX10_reads_105 (by decide) ?_
                    exact ih_0 (i + 1) a22 w20 A21 H locs ls (by omega) (by intro hq; have := hpr (by omega); omega) (hA0z) (hcn) (by omega) (by omega) (by rw [← hR, hRs, if_pos ⟨by omega, hlk⟩, hcl, ← hA0z]; subst_vars; rfl) hw (lv_sub hl [0] rfl) (by omega)
                · refine lv_aload_n F.1 F.2.1 dX10_reads_73 rfl (lv_at hl 0 rfl) ?_
                  refine call_G (As := []) (rest := []) F (j_readsPerson l E I A1 a1 w1  (by omega) hl0 (by omega) (by omega) (by omega) (by omega) hc) (cwV 0 F.2.2.2.2 gX10_reads_X10_readsPerson rfl rfl rfl (by decide +kernel) ⟨Nat.le_of_ble_eq_true rfl, Nat.le_of_ble_eq_true rfl⟩) hw (m_recv hw) rfl hl.1 rfl (Nat.le_of_ble_eq_true rfl) dX10_reads_74 ⟨Nat.zero_le _, Nat.zero_le _⟩ (fun H locs hw => ?_)
                  generalize ea25 : (rPer (A1 0) (I 0) (a1, w1, A1)).1 = a25 at hw
                  generalize ew26 : (rPer (A1 0) (I 0) (a1, w1, A1)).2.1 = w26 at hw
                  generalize eA27 : (rPer (A1 0) (I 0) (a1, w1, A1)).2.2 = A27 at hw
                  obtain ⟨⟨g1, g2, g3, g4, g5⟩, g6⟩ := rPer_go (T := A1 0) (n := I 0) (a := a1) (w := w1) (A := A1) (by omega) (by omega) hc
                  rw [ea25] at g1 g3 g6
                  rw [ew26] at g2 g6
                  rw [eA27] at g4 g5
                  refine lv_goto (tgt := 101) F.1 F.2.1 dX10_reads_77 (by decide) ?_
                  have hcl : rCl (A 0) (I 0) (a1, w1, A1) = (a25, w26, A27) := by unfold rCl; rw [← h0]; show (if pLook (A1 0) (I 0) a1 = 110 then _ else if A1 6 0 = 0 then _ else if pLook (A1 0) (I 0) a1 = 118 then _ else if pLook (A1 0) (I 0) a1 = 112 then _ else if pLook (A1 0) (I 0) a1 = 100 then _ else _) = _; first | (rw [if_pos (by omega)]; subst_vars; rfl) | (rw [if_neg (by omega), if_pos (by omega)]; subst_vars; rfl) | (rw [if_neg (by omega), if_neg (by omega), if_pos (by omega)]; subst_vars; rfl) | (rw [if_neg (by omega), if_neg (by omega), if_neg (by omega), if_pos (by omega)]; subst_vars; rfl) | (rw [if_neg (by omega), if_neg (by omega), if_neg (by omega), if_neg (by omega), if_pos (by omega)]; subst_vars; rfl) | (rw [if_neg (by omega), if_neg (by omega), if_neg (by omega), if_neg (by omega), if_neg (by omega)]; subst_vars; rfl)
                  have hgo := rCl_go (T := A 0) (n := I 0) (a := a1) (w := w1) (A := A1) (by omega) (by omega) hc
                  rw [hcl] at hgo
                  obtain ⟨⟨g1, g2, g3, hcn, g5⟩, g6⟩ := hgo
                  dsimp only at g1 g2 g3 hcn g5 g6
                  have hA0 : A27 0 = A1 0 := g5 0 (by omega)
                  have hA0z : A27 0 = A 0 := by rw [hA0, h0]
                  have hl0 : ∀ k, 0 ≤ A27 0 k ∧ A27 0 k ≤ 255 := by rw [hA0]; exact hl0
                  refine lv_aload_n F.1 F.2.1 dX10_reads_101 rfl (lv_at hl 0 rfl) ?_
                  refine call_G (As := []) (rest := []) F (j_skips l E I A27 a25 w26  (by omega) hl0 (by omega) (by omega)) (cwV 0 F.2.2.2.2 gX10_reads_X10_skips rfl rfl rfl (by decide +kernel) ⟨Nat.le_of_ble_eq_true rfl, Nat.le_of_ble_eq_true rfl⟩) hw (m_recv hw) rfl hl.1 rfl (Nat.le_of_ble_eq_true rfl) dX10_reads_102 ⟨Nat.zero_le _, Nat.zero_le _⟩ (fun H locs hw => ?_)
                  generalize ea28 : pSkW (A27 0) (I 0) a25 w26 = a28 at hw
                  have f_30 := pSkW_r (T := A27 0) (n := I 0) (a := a25) (w := w26) (by omega) (by omega)
                  try rw [ea28] at f_30
                  refine lv_goto (tgt := 0) F.1 F.2.1 dX10_reads_105 (by decide) ?_
                  exact ih_0 (i + 1) a28 w26 A27 H locs ls (by omega) (by intro hq; have := hpr (by omega); omega) (hA0z) (hcn) (by omega) (by omega) (by rw [← hR, hRs, if_pos ⟨by omega, hlk⟩, hcl, ← hA0z]; subst_vars; rfl) hw (lv_sub hl [0] rfl) (by omega)
              · refine lv_aload_n F.1 F.2.1 dX10_reads_57 rfl (lv_at hl 0 rfl) ?_
                refine call_G (As := []) (rest := []) F (j_readsVillage l E I A1 a1 w1  (by omega) hl0 (by omega) (by omega) (by omega) (by omega) hc) (cwV 0 F.2.2.2.2 gX10_reads_X10_readsVillage rfl rfl rfl (by decide +kernel) ⟨Nat.le_of_ble_eq_true rfl, Nat.le_of_ble_eq_true rfl⟩) hw (m_recv hw) rfl hl.1 rfl (Nat.le_of_ble_eq_true rfl) dX10_reads_58 ⟨Nat.zero_le _, Nat.zero_le _⟩ (fun H locs hw => ?_)
                generalize ea31 : (rVil (A1 0) (I 0) (a1, w1, A1)).1 = a31 at hw
                generalize ew32 : (rVil (A1 0) (I 0) (a1, w1, A1)).2.1 = w32 at hw
                generalize eA33 : (rVil (A1 0) (I 0) (a1, w1, A1)).2.2 = A33 at hw
                obtain ⟨⟨g1, g2, g3, g4, g5⟩, g6⟩ := rVil_go (T := A1 0) (n := I 0) (a := a1) (w := w1) (A := A1) (by omega) (by omega) hc
                rw [ea31] at g1 g3 g6
                rw [ew32] at g2 g6
                rw [eA33] at g4 g5
                refine lv_goto (tgt := 101) F.1 F.2.1 dX10_reads_61 (by decide) ?_
                have hcl : rCl (A 0) (I 0) (a1, w1, A1) = (a31, w32, A33) := by unfold rCl; rw [← h0]; show (if pLook (A1 0) (I 0) a1 = 110 then _ else if A1 6 0 = 0 then _ else if pLook (A1 0) (I 0) a1 = 118 then _ else if pLook (A1 0) (I 0) a1 = 112 then _ else if pLook (A1 0) (I 0) a1 = 100 then _ else _) = _; first | (rw [if_pos (by omega)]; subst_vars; rfl) | (rw [if_neg (by omega), if_pos (by omega)]; subst_vars; rfl) | (rw [if_neg (by omega), if_neg (by omega), if_pos (by omega)]; subst_vars; rfl) | (rw [if_neg (by omega), if_neg (by omega), if_neg (by omega), if_pos (by omega)]; subst_vars; rfl) | (rw [if_neg (by omega), if_neg (by omega), if_neg (by omega), if_neg (by omega), if_pos (by omega)]; subst_vars; rfl) | (rw [if_neg (by omega), if_neg (by omega), if_neg (by omega), if_neg (by omega), if_neg (by omega)]; subst_vars; rfl)
                have hgo := rCl_go (T := A 0) (n := I 0) (a := a1) (w := w1) (A := A1) (by omega) (by omega) hc
                rw [hcl] at hgo
                obtain ⟨⟨g1, g2, g3, hcn, g5⟩, g6⟩ := hgo
                dsimp only at g1 g2 g3 hcn g5 g6
                have hA0 : A33 0 = A1 0 := g5 0 (by omega)
                have hA0z : A33 0 = A 0 := by rw [hA0, h0]
                have hl0 : ∀ k, 0 ≤ A33 0 k ∧ A33 0 k ≤ 255 := by rw [hA0]; exact hl0
                refine lv_aload_n F.1 F.2.1 dX10_reads_101 rfl (lv_at hl 0 rfl) ?_
                refine call_G (As := []) (rest := []) F (j_skips l E I A33 a31 w32  (by omega) hl0 (by omega) (by omega)) (cwV 0 F.2.2.2.2 gX10_reads_X10_skips rfl rfl rfl (by decide +kernel) ⟨Nat.le_of_ble_eq_true rfl, Nat.le_of_ble_eq_true rfl⟩) hw (m_recv hw) rfl hl.1 rfl (Nat.le_of_ble_eq_true rfl) dX10_reads_102 ⟨Nat.zero_le _, Nat.zero_le _⟩ (fun H locs hw => ?_)
                generalize ea34 : pSkW (A33 0) (I 0) a31 w32 = a34 at hw
                have f_36 := pSkW_r (T := A33 0) (n := I 0) (a := a31) (w := w32) (by omega) (by omega)
                try rw [ea34] at f_36
                refine lv_goto (tgt := 0) F.1 F.2.1 dX10_reads_105 (by decide) ?_
                exact ih_0 (i + 1) a34 w32 A33 H locs ls (by omega) (by intro hq; have := hpr (by omega); omega) (hA0z) (hcn) (by omega) (by omega) (by rw [← hR, hRs, if_pos ⟨by omega, hlk⟩, hcl, ← hA0z]; subst_vars; rfl) hw (lv_sub hl [0] rfl) (by omega)
            · refine lv_aload_n F.1 F.2.1 dX10_reads_40 rfl (lv_at hl 0 rfl) ?_
              refine bi_iconst F dX10_reads_41 ?_
              refine call_G (As := [.int (iI 1)]) (rest := []) F (j_fails l E I A1 a1 w1 1 (by omega) (by omega)) (cwV 1 F.2.2.2.2 gX10_reads_X10_fails rfl rfl rfl (by decide +kernel) ⟨Nat.le_of_ble_eq_true rfl, Nat.le_of_ble_eq_true rfl⟩) hw (m_recv hw) rfl hl.1 rfl (Nat.le_of_ble_eq_true rfl) dX10_reads_42 ⟨Nat.zero_le _, Nat.zero_le _⟩ (fun H locs hw => ?_)
              generalize ew38 : pFail 1 w1 = w38 at hw
              have f_39 := pFail_r (k := 1) (w := w1) (by omega) (by omega)
              try rw [ew38] at f_39
              refine lv_goto (tgt := 101) F.1 F.2.1 dX10_reads_45 (by decide) ?_
              have hcl : rCl (A 0) (I 0) (a1, w1, A1) = (a1, w38, A1) := by unfold rCl; rw [← h0]; show (if pLook (A1 0) (I 0) a1 = 110 then _ else if A1 6 0 = 0 then _ else if pLook (A1 0) (I 0) a1 = 118 then _ else if pLook (A1 0) (I 0) a1 = 112 then _ else if pLook (A1 0) (I 0) a1 = 100 then _ else _) = _; first | (rw [if_pos (by omega)]; subst_vars; rfl) | (rw [if_neg (by omega), if_pos (by omega)]; subst_vars; rfl) | (rw [if_neg (by omega), if_neg (by omega), if_pos (by omega)]; subst_vars; rfl) | (rw [if_neg (by omega), if_neg (by omega), if_neg (by omega), if_pos (by omega)]; subst_vars; rfl) | (rw [if_neg (by omega), if_neg (by omega), if_neg (by omega), if_neg (by omega), if_pos (by omega)]; subst_vars; rfl) | (rw [if_neg (by omega), if_neg (by omega), if_neg (by omega), if_neg (by omega), if_neg (by omega)]; subst_vars; rfl)
              have hgo := rCl_go (T := A 0) (n := I 0) (a := a1) (w := w1) (A := A1) (by omega) (by omega) hc
              rw [hcl] at hgo
              obtain ⟨⟨g1, g2, g3, hcn, g5⟩, g6⟩ := hgo
              dsimp only at g1 g2 g3 hcn g5 g6
              have hA0 : A1 0 = A1 0 := g5 0 (by omega)
              have hA0z : A1 0 = A 0 := by rw [hA0, h0]
              have hl0 : ∀ k, 0 ≤ A1 0 k ∧ A1 0 k ≤ 255 := by rw [hA0]; exact hl0
              refine lv_aload_n F.1 F.2.1 dX10_reads_101 rfl (lv_at hl 0 rfl) ?_
              refine call_G (As := []) (rest := []) F (j_skips l E I A1 a1 w38  (by omega) hl0 (by omega) (by omega)) (cwV 0 F.2.2.2.2 gX10_reads_X10_skips rfl rfl rfl (by decide +kernel) ⟨Nat.le_of_ble_eq_true rfl, Nat.le_of_ble_eq_true rfl⟩) hw (m_recv hw) rfl hl.1 rfl (Nat.le_of_ble_eq_true rfl) dX10_reads_102 ⟨Nat.zero_le _, Nat.zero_le _⟩ (fun H locs hw => ?_)
              generalize ea40 : pSkW (A1 0) (I 0) a1 w38 = a40 at hw
              have f_42 := pSkW_r (T := A1 0) (n := I 0) (a := a1) (w := w38) (by omega) (by omega)
              try rw [ea40] at f_42
              refine lv_goto (tgt := 0) F.1 F.2.1 dX10_reads_105 (by decide) ?_
              exact ih_0 (i + 1) a40 w38 A1 H locs ls (by omega) (by intro hq; have := hpr (by omega); omega) (hA0z) (hcn) (by omega) (by omega) (by rw [← hR, hRs, if_pos ⟨by omega, hlk⟩, hcl, ← hA0z]; subst_vars; rfl) hw (lv_sub hl [0] rfl) (by omega)
          · refine lv_aload_n F.1 F.2.1 dX10_reads_24 rfl (lv_at hl 0 rfl) ?_
            refine call_G (As := []) (rest := []) F (j_readsWinter l E I A1 a1 w1  (by omega) hl0 (by omega) (by omega) (by omega) (by omega) hc) (cwV 0 F.2.2.2.2 gX10_reads_X10_readsWinter rfl rfl rfl (by decide +kernel) ⟨Nat.le_of_ble_eq_true rfl, Nat.le_of_ble_eq_true rfl⟩) hw (m_recv hw) rfl hl.1 rfl (Nat.le_of_ble_eq_true rfl) dX10_reads_25 ⟨Nat.zero_le _, Nat.zero_le _⟩ (fun H locs hw => ?_)
            generalize ea43 : (rWin (A1 0) (I 0) (a1, w1, A1)).1 = a43 at hw
            generalize ew44 : (rWin (A1 0) (I 0) (a1, w1, A1)).2.1 = w44 at hw
            generalize eA45 : (rWin (A1 0) (I 0) (a1, w1, A1)).2.2 = A45 at hw
            obtain ⟨⟨g1, g2, g3, g4, g5⟩, g6⟩ := rWin_go (T := A1 0) (n := I 0) (a := a1) (w := w1) (A := A1) (by omega) (by omega) hc
            rw [ea43] at g1 g3 g6
            rw [ew44] at g2 g6
            rw [eA45] at g4 g5
            refine lv_goto (tgt := 101) F.1 F.2.1 dX10_reads_28 (by decide) ?_
            have hcl : rCl (A 0) (I 0) (a1, w1, A1) = (a43, w44, A45) := by unfold rCl; rw [← h0]; show (if pLook (A1 0) (I 0) a1 = 110 then _ else if A1 6 0 = 0 then _ else if pLook (A1 0) (I 0) a1 = 118 then _ else if pLook (A1 0) (I 0) a1 = 112 then _ else if pLook (A1 0) (I 0) a1 = 100 then _ else _) = _; first | (rw [if_pos (by omega)]; subst_vars; rfl) | (rw [if_neg (by omega), if_pos (by omega)]; subst_vars; rfl) | (rw [if_neg (by omega), if_neg (by omega), if_pos (by omega)]; subst_vars; rfl) | (rw [if_neg (by omega), if_neg (by omega), if_neg (by omega), if_pos (by omega)]; subst_vars; rfl) | (rw [if_neg (by omega), if_neg (by omega), if_neg (by omega), if_neg (by omega), if_pos (by omega)]; subst_vars; rfl) | (rw [if_neg (by omega), if_neg (by omega), if_neg (by omega), if_neg (by omega), if_neg (by omega)]; subst_vars; rfl)
            have hgo := rCl_go (T := A 0) (n := I 0) (a := a1) (w := w1) (A := A1) (by omega) (by omega) hc
            rw [hcl] at hgo
            obtain ⟨⟨g1, g2, g3, hcn, g5⟩, g6⟩ := hgo
            dsimp only at g1 g2 g3 hcn g5 g6
            have hA0 : A45 0 = A1 0 := g5 0 (by omega)
            have hA0z : A45 0 = A 0 := by rw [hA0, h0]
            have hl0 : ∀ k, 0 ≤ A45 0 k ∧ A45 0 k ≤ 255 := by rw [hA0]; exact hl0
            refine lv_aload_n F.1 F.2.1 dX10_reads_101 rfl (lv_at hl 0 rfl) ?_
            refine call_G (As := []) (rest := []) F (j_skips l E I A45 a43 w44  (by omega) hl0 (by omega) (by omega)) (cwV 0 F.2.2.2.2 gX10_reads_X10_skips rfl rfl rfl (by decide +kernel) ⟨Nat.le_of_ble_eq_true rfl, Nat.le_of_ble_eq_true rfl⟩) hw (m_recv hw) rfl hl.1 rfl (Nat.le_of_ble_eq_true rfl) dX10_reads_102 ⟨Nat.zero_le _, Nat.zero_le _⟩ (fun H locs hw => ?_)
            generalize ea46 : pSkW (A45 0) (I 0) a43 w44 = a46 at hw
            have f_48 := pSkW_r (T := A45 0) (n := I 0) (a := a43) (w := w44) (by omega) (by omega)
            try rw [ea46] at f_48
            refine lv_goto (tgt := 0) F.1 F.2.1 dX10_reads_105 (by decide) ?_
            exact ih_0 (i + 1) a46 w44 A45 H locs ls (by omega) (by intro hq; have := hpr (by omega); omega) (hA0z) (hcn) (by omega) (by omega) (by rw [← hR, hRs, if_pos ⟨by omega, hlk⟩, hcl, ← hA0z]; subst_vars; rfl) hw (lv_sub hl [0] rfl) (by omega)
  exact loop_0 ((241 - 0 : Int).toNat + 1) 0 a w A H locs ls (by omega) (fun _ => by omega) (rfl) (hc) (by omega) (by omega) (rfl) hw (lv_sub hl [0] rfl) (by omega)
