set_option maxRecDepth 100000 in
set_option maxHeartbeats 4000000 in
theorem j_look (l : Launch) (E : Ev) (I : Nat → Int) (A : Nat → Int → Int) (a : Int) (w : Int) (hT : 0 ≤ I 0 ∧ I 0 ≤ 240) (hl0 : ∀ k, 0 ≤ A 0 k ∧ A 0 k ≤ 255) (ha : 0 ≤ a ∧ a ≤ 240) (hw3 : 0 ≤ w ∧ w ≤ 3) : MetN l yX10_look wsX10_look ({ frames := 0, cells := 0, slots := 0, locals := 0 } : Room) E [.ref (eO E 0)] (mW E (jI I a w) A) (pLook (A 0) (I 0) a) := by
  have hin : ∀ w ∈ wsX100, w ∈ wsX10_look := fun w h => in_tail h
  refine met_N (cc := cX10_look) (nL := 1) (by decide) rfl (Nat.le_of_ble_eq_true rfl) ?_
  intro p e s m args below meth c Q H0 A0 H locs ls F hw hl hret
  have F : CallFix p m c cX10_look 1 s args wsX10_look RX10 := F
  have hl : lv_has ls 1 [(0, .ref (eO E 0))] := hl
  refine lv_aload_n F.1 F.2.1 dX10_look_0 rfl (lv_at hl 0 rfl) ?_
  refine m_get (v := .int (iI a)) F hin hw 25 (by decide) (by decide +kernel) rfl dX10_look_1 ?_
  refine lv_aload_n F.1 F.2.1 dX10_look_4 rfl (lv_at hl 0 rfl) ?_
  refine m_get (v := .int (iI (I 0))) F hin hw 1 (by decide) (by decide +kernel) rfl dX10_look_5 ?_
  refine bi_icmp_ge (tgt := 23) F dX10_look_8 (by decide) (by omega) (fun c_1 => ?_) (fun c_1 => ?_)
  · refine bi_iconst F dX10_look_23 ?_
    exact hret _ _ _ _ _ (by unfold pLook; first | rw [if_pos (by omega)] | rw [if_neg (by omega)]) hw dX10_look_24
  · refine lv_aload_n F.1 F.2.1 dX10_look_11 rfl (lv_at hl 0 rfl) ?_
    refine m_get F hin hw 0 (by decide) (by decide +kernel) rfl dX10_look_12 ?_
    refine lv_aload_n F.1 F.2.1 dX10_look_15 rfl (lv_at hl 0 rfl) ?_
    refine m_get (v := .int (iI a)) F hin hw 25 (by decide) (by decide +kernel) rfl dX10_look_16 ?_
    refine m_ld F hw 0 240 rfl (by decide) (by omega) dX10_look_19 ?_
    refine lv_goto (tgt := 24) F.1 F.2.1 dX10_look_20 (by decide) ?_
    exact hret _ _ _ _ _ (by unfold pLook; first | rw [if_pos (by omega)] | rw [if_neg (by omega)]) hw dX10_look_24
set_option maxRecDepth 100000 in
set_option maxHeartbeats 4000000 in
theorem j_skips (l : Launch) (E : Ev) (I : Nat → Int) (A : Nat → Int → Int) (a : Int) (w : Int) (hT : 0 ≤ I 0 ∧ I 0 ≤ 240) (hl0 : ∀ k, 0 ≤ A 0 k ∧ A 0 k ≤ 255) (ha : 0 ≤ a ∧ a ≤ 240) (hw3 : 0 ≤ w ∧ w ≤ 3) : MetG l yX10_skips wsX10_skips ({ frames := 1, cells := 0, slots := 0, locals := 20 } : Room) E [.ref (eO E 0)] (mW E (jI I a w) A) (mW E (jI I (pSkW (A 0) (I 0) a w) (w)) (A)) := by
  have hin : ∀ w ∈ wsX100, w ∈ wsX10_skips := fun w h => in_tail h
  refine met_G (cc := cX10_skips) (nL := 1) (by decide) rfl (Nat.le_of_ble_eq_true rfl) ?_
  intro p e s m args below meth c Q H0 A0 H locs ls F hw hl hret
  have F : CallFix p m c cX10_skips 1 s args wsX10_skips RX10 := F
  have hl : lv_has ls 1 [(0, .ref (eO E 0))] := hl
  have loop_0 : ∀ (nf : Nat) (a1 : Int) (H : Heap) (locs : List Loc) (ls : Array Slot) (ha1 : 0 ≤ a1 ∧ a1 ≤ 240) (hsk : pSkW (A 0) (I 0) a1 w = pSkW (A 0) (I 0) a w) (hw : gH E A0 H0 s (mW E (jI I a1 w) A) H locs) (hl : lv_has ls 1 [(0, .ref (eO E 0))]) (hnf : (I 0 - a1).toNat < nf), W p l e ({ frames := 1, cells := 0, slots := 0, locals := 20 } : Room) s m args below meth c H locs 0 0 Q (F0 m 0 ls []) := by
    intro nf
    induction nf with
    | zero =>
      intro a1 H locs ls ha1 hsk hw hl hnf
      exact absurd hnf (Nat.not_lt_zero _)
    | succ nf ih_0 =>
      intro a1 H locs ls ha1 hsk hw hl hnf
      have hlk : ∀ h : pLook (A 0) (I 0) a1 = 32, a1 < I 0 ∧ A 0 a1 = 32 := fun h => by have h2 := pLook_c h (by decide); unfold pLook at h; rw [if_pos h2] at h; exact ⟨h2, h⟩
      refine lv_aload_n F.1 F.2.1 dX10_skips_0 rfl (lv_at hl 0 rfl) ?_
      refine m_get (v := .int (iI w)) F hin hw 26 (by decide) (by decide +kernel) rfl dX10_skips_1 ?_
      refine bi_if_ne (tgt := 29) F dX10_skips_4 (by decide) (by omega) (fun c_1 => ?_) (fun c_1 => ?_)
      · exact hret _ _ _ _ _ (mW_j (by rw [← hsk]; unfold pSkW; first | (rw [if_neg (by omega)]; done) | (rw [if_pos (by omega)]; exact (pSk_f (fun h => ‹pLook (A 0) (I 0) a1 ≠ 32› (by unfold pLook; rw [if_pos h.1]; exact h.2))).symm)) (rfl) (rfl)) hw dX10_skips_29
      · refine lv_aload_n F.1 F.2.1 dX10_skips_7 rfl (lv_at hl 0 rfl) ?_
        refine call_N (As := []) (rest := []) F (j_look l E I A a1 w  (by omega) hl0 (by omega) (by omega)) (cwV 0 F.2.2.2.2 gX10_skips_X10_look rfl rfl rfl (by decide +kernel) ⟨Nat.le_of_ble_eq_true rfl, Nat.le_of_ble_eq_true rfl⟩) hw (m_recv hw) rfl hl.1 rfl (Nat.le_of_ble_eq_true rfl) dX10_skips_8 ⟨Nat.zero_le _, Nat.zero_le _⟩ (fun H locs hw => ?_)
        have f_2 := pLook_r (T := A 0) (n := I 0) (a := a1) hl0
        refine bi_bipush F dX10_skips_11 (by decide) ?_
        refine bi_icmp_ne (tgt := 29) F dX10_skips_13 (by decide) (by omega) (fun c_3 => ?_) (fun c_3 => ?_)
        · exact hret _ _ _ _ _ (mW_j (by rw [← hsk]; unfold pSkW; first | (rw [if_neg (by omega)]; done) | (rw [if_pos (by omega)]; exact (pSk_f (fun h => ‹pLook (A 0) (I 0) a1 ≠ 32› (by unfold pLook; rw [if_pos h.1]; exact h.2))).symm)) (rfl) (rfl)) hw dX10_skips_29
        · refine lv_aload_n F.1 F.2.1 dX10_skips_16 rfl (lv_at hl 0 rfl) ?_
          refine lv_dup F.1 F.2.1 dX10_skips_17 rfl ?_
          refine m_get (v := .int (iI a1)) F hin hw 25 (by decide) (by decide +kernel) rfl dX10_skips_18 ?_
          refine bi_iconst F dX10_skips_21 ?_
          refine bi_iadd F dX10_skips_22 ?_
          refine m_putJ (I2 := jI I (a1 + 1) w) F hin hw 25 (by decide) (by decide +kernel) rfl (by decide +kernel) rfl dX10_skips_23 (fun H locs hw => ?_)
          refine lv_goto (tgt := 0) F.1 F.2.1 dX10_skips_26 (by decide) ?_
          have hq9 := hlk (by omega)
          exact ih_0 (a1 + 1) H locs ls (by have := hlk (by assumption); omega) (by rw [← hsk]; have h5 := hlk (by assumption); unfold pSkW; rw [if_pos (by omega), if_pos (by omega), ← pSk_t h5.1 h5.2]) hw (lv_sub hl [0] rfl) (by omega)
  exact loop_0 ((I 0 - a : Int).toNat + 1) a H locs ls (by omega) (rfl) hw (lv_sub hl [0] rfl) (by omega)
set_option maxRecDepth 100000 in
set_option maxHeartbeats 4000000 in
theorem j_fails (l : Launch) (E : Ev) (I : Nat → Int) (A : Nat → Int → Int) (a : Int) (w : Int) (k : Int) (hk : 0 ≤ k ∧ k ≤ 3) (hw3 : 0 ≤ w ∧ w ≤ 3) : MetG l yX10_fails wsX10_fails ({ frames := 0, cells := 0, slots := 0, locals := 0 } : Room) E [.ref (eO E 0), .int (iI k)] (mW E (jI I a w) A) (mW E (jI I (a) (pFail k w)) (A)) := by
  have hin : ∀ w ∈ wsX100, w ∈ wsX10_fails := fun w h => in_tail h
  refine met_G (cc := cX10_fails) (nL := 2) (by decide) rfl (Nat.le_of_ble_eq_true rfl) ?_
  intro p e s m args below meth c Q H0 A0 H locs ls F hw hl hret
  have F : CallFix p m c cX10_fails 2 s args wsX10_fails RX10 := F
  have hl : lv_has ls 2 [(0, .ref (eO E 0)), (1, .int (iI k))] := hl
  refine lv_aload_n F.1 F.2.1 dX10_fails_0 rfl (lv_at hl 0 rfl) ?_
  refine lv_aload_n F.1 F.2.1 dX10_fails_1 rfl (lv_at hl 0 rfl) ?_
  refine m_get (v := .int (iI w)) F hin hw 26 (by decide) (by decide +kernel) rfl dX10_fails_2 ?_
  refine bi_if_ne (tgt := 12) F dX10_fails_5 (by decide) (by omega) (fun c_1 => ?_) (fun c_1 => ?_)
  · refine lv_aload_n F.1 F.2.1 dX10_fails_12 rfl (lv_at hl 0 rfl) ?_
    refine m_get (v := .int (iI w)) F hin hw 26 (by decide) (by decide +kernel) rfl dX10_fails_13 ?_
    refine m_putJ (I2 := jI I a w) F hin hw 26 (by decide) (by decide +kernel) rfl (by decide +kernel) rfl dX10_fails_16 (fun H locs hw => ?_)
    exact hret _ _ _ _ _ (mW_j (rfl) (by unfold pFail; first | (rw [if_pos (by omega)]; done) | (rw [if_neg (by omega)]; done)) (rfl)) hw dX10_fails_19
  · refine lv_iload_n F.1 F.2.1 dX10_fails_8 rfl (lv_at hl 1 rfl) ?_
    refine lv_goto (tgt := 16) F.1 F.2.1 dX10_fails_9 (by decide) ?_
    refine m_putJ (I2 := jI I a k) F hin hw 26 (by decide) (by decide +kernel) rfl (by decide +kernel) rfl dX10_fails_16 (fun H locs hw => ?_)
    exact hret _ _ _ _ _ (mW_j (rfl) (by unfold pFail; first | (rw [if_pos (by omega)]; done) | (rw [if_neg (by omega)]; done)) (rfl)) hw dX10_fails_19
set_option maxRecDepth 100000 in
set_option maxHeartbeats 4000000 in
theorem j_word (l : Launch) (E : Ev) (I : Nat → Int) (A : Nat → Int → Int) (a : Int) (w : Int) (ch : Int) (hT : 0 ≤ I 0 ∧ I 0 ≤ 240) (hl0 : ∀ k, 0 ≤ A 0 k ∧ A 0 k ≤ 255) (ha : 0 ≤ a ∧ a ≤ 240) (hw3 : 0 ≤ w ∧ w ≤ 3) (hch : 0 ≤ ch ∧ ch ≤ 255) : MetG l yX10_word wsX10_word ({ frames := 2, cells := 0, slots := 0, locals := 40 } : Room) E [.ref (eO E 0), .int (iI ch)] (mW E (jI I a w) A) (mW E (jI I (pWordA (A 0) (I 0) ch a w) (pWordW (A 0) (I 0) ch a w)) (A)) := by
  have hin : ∀ w ∈ wsX100, w ∈ wsX10_word := fun w h => in_tail h
  refine met_G (cc := cX10_word) (nL := 2) (by decide) rfl (Nat.le_of_ble_eq_true rfl) ?_
  intro p e s m args below meth c Q H0 A0 H locs ls F hw hl hret
  have F : CallFix p m c cX10_word 2 s args wsX10_word RX10 := F
  have hl : lv_has ls 2 [(0, .ref (eO E 0)), (1, .int (iI ch))] := hl
  refine lv_aload_n F.1 F.2.1 dX10_word_0 rfl (lv_at hl 0 rfl) ?_
  refine call_G (As := []) (rest := []) F (j_skips l E I A a w  (by omega) hl0 (by omega) (by omega)) (cwV 0 F.2.2.2.2 gX10_word_X10_skips rfl rfl rfl (by decide +kernel) ⟨Nat.le_of_ble_eq_true rfl, Nat.le_of_ble_eq_true rfl⟩) hw (m_recv hw) rfl hl.1 rfl (Nat.le_of_ble_eq_true rfl) dX10_word_1 ⟨Nat.zero_le _, Nat.zero_le _⟩ (fun H locs hw => ?_)
  generalize ea1 : pSkW (A 0) (I 0) a w = a1 at hw
  have f_3 := pSkW_r (T := A 0) (n := I 0) (a := a) (w := w) (by omega) (by omega)
  try rw [ea1] at f_3
  refine lv_aload_n F.1 F.2.1 dX10_word_4 rfl (lv_at hl 0 rfl) ?_
  refine m_get (v := .int (iI w)) F hin hw 26 (by decide) (by decide +kernel) rfl dX10_word_5 ?_
  refine bi_if_ne (tgt := 37) F dX10_word_8 (by decide) (by omega) (fun c_4 => ?_) (fun c_4 => ?_)
  · exact hret _ _ _ _ _ (mW_j (by unfold pWordA; first | (rw [if_neg (by omega), ← ea1]; unfold pSkW; rw [if_neg (by omega)]; done) | (rw [if_pos (by omega), ← hs]; first | (rw [if_pos (by omega)]; done) | (rw [if_neg (by omega)]; done))) (by unfold pWordW; first | (rw [if_neg (by omega)]; done) | (rw [if_pos (by omega), ← hs]; first | (rw [if_pos (by omega)]; omega) | (rw [if_neg (by omega), ← ew]; unfold pFail; rw [if_pos (by omega)]; done))) (rfl)) hw dX10_word_37
  · have hs : a1 = pSk (A 0) (I 0) a := by rw [← ea1]; exact if_pos (by omega)
    refine lv_aload_n F.1 F.2.1 dX10_word_11 rfl (lv_at hl 0 rfl) ?_
    refine call_N (As := []) (rest := []) F (j_look l E I A a1 w  (by omega) hl0 (by omega) (by omega)) (cwV 0 F.2.2.2.2 gX10_word_X10_look rfl rfl rfl (by decide +kernel) ⟨Nat.le_of_ble_eq_true rfl, Nat.le_of_ble_eq_true rfl⟩) hw (m_recv hw) rfl hl.1 rfl (Nat.le_of_ble_eq_true rfl) dX10_word_12 ⟨Nat.zero_le _, Nat.zero_le _⟩ (fun H locs hw => ?_)
    have f_5 := pLook_r (T := A 0) (n := I 0) (a := a1) hl0
    refine lv_iload_n F.1 F.2.1 dX10_word_15 rfl (lv_at hl 1 rfl) ?_
    refine bi_icmp_ne (tgt := 32) F dX10_word_16 (by decide) (by omega) (fun c_6 => ?_) (fun c_6 => ?_)
    · refine lv_aload_n F.1 F.2.1 dX10_word_32 rfl (lv_at hl 0 rfl) ?_
      refine bi_iconst F dX10_word_33 ?_
      refine call_G (As := [.int (iI 1)]) (rest := []) F (j_fails l E I A a1 w 1 (by omega) (by omega)) (cwV 1 F.2.2.2.2 gX10_word_X10_fails rfl rfl rfl (by decide +kernel) ⟨Nat.le_of_ble_eq_true rfl, Nat.le_of_ble_eq_true rfl⟩) hw (m_recv hw) rfl hl.1 rfl (Nat.le_of_ble_eq_true rfl) dX10_word_34 ⟨Nat.zero_le _, Nat.zero_le _⟩ (fun H locs hw => ?_)
      generalize ew8 : pFail 1 w = w8 at hw
      have f_9 := pFail_r (k := 1) (w := w) (by omega) (by omega)
      try rw [ew8] at f_9
      exact hret _ _ _ _ _ (mW_j (by unfold pWordA; first | (rw [if_neg (by omega), ← ea1]; unfold pSkW; rw [if_neg (by omega)]; done) | (rw [if_pos (by omega), ← hs]; first | (rw [if_pos (by omega)]; done) | (rw [if_neg (by omega)]; done))) (by unfold pWordW; first | (rw [if_neg (by omega)]; done) | (rw [if_pos (by omega), ← hs]; first | (rw [if_pos (by omega)]; omega) | (rw [if_neg (by omega), ← ew8]; unfold pFail; rw [if_pos (by omega)]; done))) (rfl)) hw dX10_word_37
    · refine lv_aload_n F.1 F.2.1 dX10_word_19 rfl (lv_at hl 0 rfl) ?_
      refine lv_dup F.1 F.2.1 dX10_word_20 rfl ?_
      refine m_get (v := .int (iI a1)) F hin hw 25 (by decide) (by decide +kernel) rfl dX10_word_21 ?_
      refine bi_iconst F dX10_word_24 ?_
      refine bi_iadd F dX10_word_25 ?_
      refine m_putJ (I2 := jI I (a1 + 1) w) F hin hw 25 (by decide) (by decide +kernel) rfl (by decide +kernel) rfl dX10_word_26 (fun H locs hw => ?_)
      refine lv_goto (tgt := 37) F.1 F.2.1 dX10_word_29 (by decide) ?_
      exact hret _ _ _ _ _ (mW_j (by unfold pWordA; first | (rw [if_neg (by omega), ← ea1 + 1]; unfold pSkW; rw [if_neg (by omega)]; done) | (rw [if_pos (by omega), ← hs]; first | (rw [if_pos (by omega)]; done) | (rw [if_neg (by omega)]; done))) (by unfold pWordW; first | (rw [if_neg (by omega)]; done) | (rw [if_pos (by omega), ← hs]; first | (rw [if_pos (by omega)]; omega) | (rw [if_neg (by omega), ← ew]; unfold pFail; rw [if_pos (by omega)]; done))) (rfl)) hw dX10_word_37
set_option maxRecDepth 100000 in
set_option maxHeartbeats 4000000 in
theorem j_number (l : Launch) (E : Ev) (I : Nat → Int) (A : Nat → Int → Int) (a : Int) (w : Int) (lo : Int) (hi : Int) (hT : 0 ≤ I 0 ∧ I 0 ≤ 240) (hl0 : ∀ k, 0 ≤ A 0 k ∧ A 0 k ≤ 255) (ha : 0 ≤ a ∧ a ≤ 240) (hw3 : 0 ≤ w ∧ w ≤ 3) (hlo : 0 ≤ lo ∧ lo ≤ 1000) (hhi : -1 ≤ hi ∧ hi ≤ 1000) : MetF l yX10_number wsX10_number ({ frames := 2, cells := 0, slots := 0, locals := 40 } : Room) E [.ref (eO E 0), .int (iI lo), .int (iI hi)] (mW E (jI I a w) A) (mW E (jI I (pNumA (A 0) (I 0) lo hi a w) (pNumW (A 0) (I 0) lo hi a w)) (A)) (pNumV (A 0) (I 0) a w) := by
  have hin : ∀ w ∈ wsX100, w ∈ wsX10_number := fun w h => in_tail h
  refine met_F (cc := cX10_number) (nL := 5) (by decide) rfl (Nat.le_of_ble_eq_true rfl) ?_
  intro p e s m args below meth c Q H0 A0 H locs ls F hw hl hret
  have F : CallFix p m c cX10_number 5 s args wsX10_number RX10 := F
  have hl : lv_has ls 5 [(0, .ref (eO E 0)), (1, .int (iI lo)), (2, .int (iI hi))] := hl
  refine lv_aload_n F.1 F.2.1 dX10_number_0 rfl (lv_at hl 0 rfl) ?_
  refine call_G (As := []) (rest := []) F (j_skips l E I A a w  (by omega) hl0 (by omega) (by omega)) (cwV 0 F.2.2.2.2 gX10_number_X10_skips rfl rfl rfl (by decide +kernel) ⟨Nat.le_of_ble_eq_true rfl, Nat.le_of_ble_eq_true rfl⟩) hw (m_recv hw) rfl hl.1 rfl (Nat.le_of_ble_eq_true rfl) dX10_number_1 ⟨Nat.zero_le _, Nat.zero_le _⟩ (fun H locs hw => ?_)
  generalize ea1 : pSkW (A 0) (I 0) a w = a1 at hw
  have f_3 := pSkW_r (T := A 0) (n := I 0) (a := a) (w := w) (by omega) (by omega)
  try rw [ea1] at f_3
  refine lv_aload_n F.1 F.2.1 dX10_number_4 rfl (lv_at hl 0 rfl) ?_
  refine m_get (v := .int (iI w)) F hin hw 26 (by decide) (by decide +kernel) rfl dX10_number_5 ?_
  refine bi_if_eq (tgt := 13) F dX10_number_8 (by decide) (by omega) (fun c_4 => ?_) (fun c_4 => ?_)
  · obtain ⟨f, ef⟩ : ∃ z, z = a1 := ⟨_, rfl⟩
    rw [← ef] at hw
    have hs : f = pSk (A 0) (I 0) a := by rw [ef, ← ea1]; exact if_pos (by omega)
    have hf0 : 0 ≤ f ∧ f ≤ 240 := by omega
    refine lv_aload_n F.1 F.2.1 dX10_number_13 rfl (lv_at hl 0 rfl) ?_
    refine call_N (As := []) (rest := []) F (j_look l E I A f w  (by omega) hl0 (by omega) (by omega)) (cwV 0 F.2.2.2.2 gX10_number_X10_look rfl rfl rfl (by decide +kernel) ⟨Nat.le_of_ble_eq_true rfl, Nat.le_of_ble_eq_true rfl⟩) hw (m_recv hw) rfl hl.1 rfl (Nat.le_of_ble_eq_true rfl) dX10_number_14 ⟨Nat.zero_le _, Nat.zero_le _⟩ (fun H locs hw => ?_)
    have f_5 := pLook_r (T := A 0) (n := I 0) (a := f) hl0
    refine bi_bipush F dX10_number_17 (by decide) ?_
    refine bi_bipush F dX10_number_19 (by decide) ?_
    refine calls_P0 (As := [.int (iI (pLook (A 0) (I 0) f)), .int (iI 48), .int (iI 57)]) (rest := []) F (c_in l E (pLook (A 0) (I 0) f) 48 57 (by omega) (by omega) (by omega)) (va_cwS 3 F.2.2.2.2 gX10_number_X10_in rfl rfl rfl (by decide +kernel) ⟨Nat.le_of_ble_eq_true rfl, Nat.le_of_ble_eq_true rfl⟩) hw rfl hl.1 rfl (Nat.le_of_ble_eq_true rfl) dX10_number_21 ⟨Nat.zero_le _, Nat.zero_le _⟩ (fun q_6 H locs hw => ?_) (fun q_6 H locs hw => ?_)
    · refine bi_if_ne (tgt := 34) F dX10_number_24 (by decide) (by decide) (fun _ => ?_) (fun q => absurd q (by decide))
      have hdg : 48 ≤ pLook (A 0) (I 0) f ∧ pLook (A 0) (I 0) f ≤ 57 := by assumption
      refine lv_aload_n F.1 F.2.1 dX10_number_34 rfl (lv_at hl 0 rfl) ?_
      refine m_get (v := .int (iI f)) F hin hw 25 (by decide) (by decide +kernel) rfl dX10_number_35 ?_
      refine lv_istore_n (lv' := [(3, .int (iI f)), (0, .ref (eO E 0)), (1, .int (iI lo)), (2, .int (iI hi))]) F.1 F.2.1 dX10_number_38 rfl hl (by decide) rfl (fun ls hl => ?_)
      refine bi_iconst F dX10_number_39 ?_
      refine lv_istore (lv' := [(4, .int (iI 0)), (3, .int (iI f)), (0, .ref (eO E 0)), (1, .int (iI lo)), (2, .int (iI hi))]) F.1 F.2.1 dX10_number_40 hl (by decide) rfl (fun ls hl => ?_)
      have loop_42 : ∀ (nf : Nat) (v : Int) (a1 : Int) (H : Heap) (locs : List Loc) (ls : Array Slot) (ha1 : f ≤ a1 ∧ a1 ≤ 240) (hr : pRun (A 0) (I 0) f a1 v = pRun (A 0) (I 0) f f 0) (hv : (0 ≤ v ∧ v ≤ 999) ∧ (a1 - f ≤ 0 → v = 0) ∧ (a1 - f ≤ 1 → v ≤ 9) ∧ (a1 - f ≤ 2 → v ≤ 99)) (hw : gH E A0 H0 s (mW E (jI I a1 w) A) H locs) (hl : lv_has ls 5 [(4, .int (iI v)), (3, .int (iI f)), (0, .ref (eO E 0)), (1, .int (iI lo)), (2, .int (iI hi))]) (hnf : (I 0 - a1).toNat < nf), W p l e ({ frames := 2, cells := 0, slots := 0, locals := 40 } : Room) s m args below meth c H locs 0 0 Q (F0 m 42 ls []) := by
        intro nf
        induction nf with
        | zero =>
          intro v a1 H locs ls ha1 hr hv hw hl hnf
          exact absurd hnf (Nat.not_lt_zero _)
        | succ nf ih_42 =>
          intro v a1 H locs ls ha1 hr hv hw hl hnf
          refine lv_aload_n F.1 F.2.1 dX10_number_42 rfl (lv_at hl 2 rfl) ?_
          refine call_N (As := []) (rest := []) F (j_look l E I A a1 w  (by omega) hl0 (by omega) (by omega)) (cwV 0 F.2.2.2.2 gX10_number_X10_look rfl rfl rfl (by decide +kernel) ⟨Nat.le_of_ble_eq_true rfl, Nat.le_of_ble_eq_true rfl⟩) hw (m_recv hw) rfl hl.1 rfl (Nat.le_of_ble_eq_true rfl) dX10_number_43 ⟨Nat.zero_le _, Nat.zero_le _⟩ (fun H locs hw => ?_)
          have f_8 := pLook_r (T := A 0) (n := I 0) (a := a1) hl0
          refine bi_bipush F dX10_number_46 (by decide) ?_
          refine bi_bipush F dX10_number_48 (by decide) ?_
          refine calls_P0 (As := [.int (iI (pLook (A 0) (I 0) a1)), .int (iI 48), .int (iI 57)]) (rest := []) F (c_in l E (pLook (A 0) (I 0) a1) 48 57 (by omega) (by omega) (by omega)) (va_cwS 3 F.2.2.2.2 gX10_number_X10_in rfl rfl rfl (by decide +kernel) ⟨Nat.le_of_ble_eq_true rfl, Nat.le_of_ble_eq_true rfl⟩) hw rfl hl.1 rfl (Nat.le_of_ble_eq_true rfl) dX10_number_50 ⟨Nat.zero_le _, Nat.zero_le _⟩ (fun q_9 H locs hw => ?_) (fun q_9 H locs hw => ?_)
          · refine bi_if_eq (tgt := 99) F dX10_number_53 (by decide) (by decide) (fun q => absurd q (by decide)) (fun _ => ?_)
            have h7 : a1 < I 0 ∧ 48 ≤ A 0 a1 ∧ A 0 a1 ≤ 57 := pIn_i.mp (show pIn (A 0) (I 0) a1 from ‹48 ≤ pLook (A 0) (I 0) a1 ∧ pLook (A 0) (I 0) a1 ≤ 57›)
            have h8 : pLook (A 0) (I 0) a1 = A 0 a1 := if_pos h7.1
            refine lv_aload_n F.1 F.2.1 dX10_number_56 rfl (lv_at hl 2 rfl) ?_
            refine m_get (v := .int (iI a1)) F hin hw 25 (by decide) (by decide +kernel) rfl dX10_number_57 ?_
            refine lv_iload_n F.1 F.2.1 dX10_number_60 rfl (lv_at hl 1 rfl) ?_
            refine bi_isub F dX10_number_61 ?_
            refine bi_iconst F dX10_number_62 ?_
            refine bi_icmp_ge (tgt := 82) F dX10_number_63 (by decide) (by omega) (fun c_11 => ?_) (fun c_11 => ?_)
            · refine lv_iload F.1 F.2.1 dX10_number_82 (lv_at hl 0 rfl) ?_
              refine lv_istore (lv' := [(4, .int (iI v)), (3, .int (iI f)), (0, .ref (eO E 0)), (1, .int (iI lo)), (2, .int (iI hi))]) F.1 F.2.1 dX10_number_84 hl (by decide) rfl (fun ls hl => ?_)
              refine lv_aload_n F.1 F.2.1 dX10_number_86 rfl (lv_at hl 2 rfl) ?_
              refine lv_dup F.1 F.2.1 dX10_number_87 rfl ?_
              refine m_get (v := .int (iI a1)) F hin hw 25 (by decide) (by decide +kernel) rfl dX10_number_88 ?_
              refine bi_iconst F dX10_number_91 ?_
              refine bi_iadd F dX10_number_92 ?_
              refine m_putJ (I2 := jI I (a1 + 1) w) F hin hw 25 (by decide) (by decide +kernel) rfl (by decide +kernel) rfl dX10_number_93 (fun H locs hw => ?_)
              refine lv_goto (tgt := 42) F.1 F.2.1 dX10_number_96 (by decide) ?_
              exact ih_42 v (a1 + 1) H locs ls (by omega) (by rw [← hr, pRun_t h7.1 h7.2]; first | (rw [if_pos (by omega), h8]; done) | (rw [if_neg (by omega)]; done)) (by omega) hw (lv_sub hl [0, 1, 2, 3, 4] rfl) (by omega)
            · refine bi_bipush F dX10_number_66 (by decide) ?_
              refine lv_iload F.1 F.2.1 dX10_number_68 (lv_at hl 0 rfl) ?_
              refine bi_imul F dX10_number_70 ?_
              refine lv_aload_n F.1 F.2.1 dX10_number_71 rfl (lv_at hl 2 rfl) ?_
              refine call_N (As := []) (rest := [.int (iI (10 * v))]) F (j_look l E I A a1 w  (by omega) hl0 (by omega) (by omega)) (cwV 0 F.2.2.2.2 gX10_number_X10_look rfl rfl rfl (by decide +kernel) ⟨Nat.le_of_ble_eq_true rfl, Nat.le_of_ble_eq_true rfl⟩) hw (m_recv hw) rfl hl.1 rfl (Nat.le_of_ble_eq_true rfl) dX10_number_72 ⟨Nat.zero_le _, Nat.zero_le _⟩ (fun H locs hw => ?_)
              have f_12 := pLook_r (T := A 0) (n := I 0) (a := a1) hl0
              refine bi_iadd F dX10_number_75 ?_
              refine bi_bipush F dX10_number_76 (by decide) ?_
              refine bi_isub F dX10_number_78 ?_
              refine lv_goto (tgt := 84) F.1 F.2.1 dX10_number_79 (by decide) ?_
              refine lv_istore (lv' := [(4, .int (iI (10 * v + (pLook (A 0) (I 0) a1) - 48))), (3, .int (iI f)), (0, .ref (eO E 0)), (1, .int (iI lo)), (2, .int (iI hi))]) F.1 F.2.1 dX10_number_84 hl (by decide) rfl (fun ls hl => ?_)
              refine lv_aload_n F.1 F.2.1 dX10_number_86 rfl (lv_at hl 2 rfl) ?_
              refine lv_dup F.1 F.2.1 dX10_number_87 rfl ?_
              refine m_get (v := .int (iI a1)) F hin hw 25 (by decide) (by decide +kernel) rfl dX10_number_88 ?_
              refine bi_iconst F dX10_number_91 ?_
              refine bi_iadd F dX10_number_92 ?_
              refine m_putJ (I2 := jI I (a1 + 1) w) F hin hw 25 (by decide) (by decide +kernel) rfl (by decide +kernel) rfl dX10_number_93 (fun H locs hw => ?_)
              refine lv_goto (tgt := 42) F.1 F.2.1 dX10_number_96 (by decide) ?_
              exact ih_42 (10 * v + (pLook (A 0) (I 0) a1) - 48) (a1 + 1) H locs ls (by omega) (by rw [← hr, pRun_t h7.1 h7.2]; first | (rw [if_pos (by omega), h8]; done) | (rw [if_neg (by omega)]; done)) (by omega) hw (lv_sub hl [0, 1, 2, 3, 4] rfl) (by omega)
          · refine bi_if_eq (tgt := 99) F dX10_number_53 (by decide) (by decide) (fun _ => ?_) (fun q => absurd q (by decide))
            have hrun : pRun (A 0) (I 0) f f 0 = (a1, v) := by rw [← hr]; exact pRun_f (fun h => ‹¬ (48 ≤ pLook (A 0) (I 0) a1 ∧ pLook (A 0) (I 0) a1 ≤ 57)› (pIn_i.mpr h))
            refine lv_aload_n F.1 F.2.1 dX10_number_99 rfl (lv_at hl 2 rfl) ?_
            refine m_get (v := .int (iI a1)) F hin hw 25 (by decide) (by decide +kernel) rfl dX10_number_100 ?_
            refine lv_iload_n F.1 F.2.1 dX10_number_103 rfl (lv_at hl 1 rfl) ?_
            refine bi_isub F dX10_number_104 ?_
            refine bi_iconst F dX10_number_105 ?_
            refine bi_icmp_gt (tgt := 119) F dX10_number_106 (by decide) (by omega) (fun c_14 => ?_) (fun c_14 => ?_)
            · refine lv_aload_n F.1 F.2.1 dX10_number_119 rfl (lv_at hl 2 rfl) ?_
              refine lv_iload_n F.1 F.2.1 dX10_number_120 rfl (lv_at hl 1 rfl) ?_
              refine m_putJ (I2 := jI I f w) F hin hw 25 (by decide) (by decide +kernel) rfl (by decide +kernel) rfl dX10_number_121 (fun H locs hw => ?_)
              refine lv_aload_n F.1 F.2.1 dX10_number_124 rfl (lv_at hl 2 rfl) ?_
              refine bi_iconst F dX10_number_125 ?_
              refine call_G (As := [.int (iI 2)]) (rest := []) F (j_fails l E I A f w 2 (by omega) (by omega)) (cwV 1 F.2.2.2.2 gX10_number_X10_fails rfl rfl rfl (by decide +kernel) ⟨Nat.le_of_ble_eq_true rfl, Nat.le_of_ble_eq_true rfl⟩) hw (m_recv hw) rfl hl.1 rfl (Nat.le_of_ble_eq_true rfl) dX10_number_126 ⟨Nat.zero_le _, Nat.zero_le _⟩ (fun H locs hw => ?_)
              generalize ew16 : pFail 2 w = w16 at hw
              have f_17 := pFail_r (k := 2) (w := w) (by omega) (by omega)
              try rw [ew16] at f_17
              refine lv_iload F.1 F.2.1 dX10_number_129 (lv_at hl 0 rfl) ?_
              exact hret _ _ _ _ _ _ (by unfold pNumV; rw [if_pos (by omega), ← hs, if_pos hdg, hrun]) (mW_j (by unfold pNumA; rw [if_pos (by omega), ← hs, if_pos hdg, hrun]; show _ = if a1 - f ≤ 3 ∧ lo ≤ v ∧ v ≤ hi then a1 else f; first | (rw [if_pos (by omega)]; done) | (rw [if_neg (by omega)]; done)) (by unfold pNumW; rw [if_pos (by omega), ← hs, if_pos hdg, hrun]; show _ = if a1 - f ≤ 3 ∧ lo ≤ v ∧ v ≤ hi then 0 else 2; first | (rw [if_pos (by omega)]; omega) | (rw [if_neg (by omega), ← ew16]; unfold pFail; rw [if_pos (by omega)]; done)) (rfl)) hw dX10_number_131
            · refine lv_iload F.1 F.2.1 dX10_number_109 (lv_at hl 0 rfl) ?_
              refine lv_iload_n F.1 F.2.1 dX10_number_111 rfl (lv_at hl 3 rfl) ?_
              refine lv_iload_n F.1 F.2.1 dX10_number_112 rfl (lv_at hl 4 rfl) ?_
              refine calls_P0 (As := [.int (iI v), .int (iI lo), .int (iI hi)]) (rest := []) F (c_in l E v lo hi (by omega) (by omega) (by omega)) (va_cwS 3 F.2.2.2.2 gX10_number_X10_in rfl rfl rfl (by decide +kernel) ⟨Nat.le_of_ble_eq_true rfl, Nat.le_of_ble_eq_true rfl⟩) hw rfl hl.1 rfl (Nat.le_of_ble_eq_true rfl) dX10_number_113 ⟨Nat.zero_le _, Nat.zero_le _⟩ (fun q_18 H locs hw => ?_) (fun q_18 H locs hw => ?_)
              · refine bi_if_ne (tgt := 129) F dX10_number_116 (by decide) (by decide) (fun _ => ?_) (fun q => absurd q (by decide))
                refine lv_iload F.1 F.2.1 dX10_number_129 (lv_at hl 0 rfl) ?_
                exact hret _ _ _ _ _ _ (by unfold pNumV; rw [if_pos (by omega), ← hs, if_pos hdg, hrun]) (mW_j (by unfold pNumA; rw [if_pos (by omega), ← hs, if_pos hdg, hrun]; show _ = if a1 - f ≤ 3 ∧ lo ≤ v ∧ v ≤ hi then a1 else f; first | (rw [if_pos (by omega)]; done) | (rw [if_neg (by omega)]; done)) (by unfold pNumW; rw [if_pos (by omega), ← hs, if_pos hdg, hrun]; show _ = if a1 - f ≤ 3 ∧ lo ≤ v ∧ v ≤ hi then 0 else 2; first | (rw [if_pos (by omega)]; omega) | (rw [if_neg (by omega), ← ew]; unfold pFail; rw [if_pos (by omega)]; done)) (rfl)) hw dX10_number_131
              · refine bi_if_ne (tgt := 129) F dX10_number_116 (by decide) (by decide) (fun q => absurd q (by decide)) (fun _ => ?_)
                refine lv_aload_n F.1 F.2.1 dX10_number_119 rfl (lv_at hl 2 rfl) ?_
                refine lv_iload_n F.1 F.2.1 dX10_number_120 rfl (lv_at hl 1 rfl) ?_
                refine m_putJ (I2 := jI I f w) F hin hw 25 (by decide) (by decide +kernel) rfl (by decide +kernel) rfl dX10_number_121 (fun H locs hw => ?_)
                refine lv_aload_n F.1 F.2.1 dX10_number_124 rfl (lv_at hl 2 rfl) ?_
                refine bi_iconst F dX10_number_125 ?_
                refine call_G (As := [.int (iI 2)]) (rest := []) F (j_fails l E I A f w 2 (by omega) (by omega)) (cwV 1 F.2.2.2.2 gX10_number_X10_fails rfl rfl rfl (by decide +kernel) ⟨Nat.le_of_ble_eq_true rfl, Nat.le_of_ble_eq_true rfl⟩) hw (m_recv hw) rfl hl.1 rfl (Nat.le_of_ble_eq_true rfl) dX10_number_126 ⟨Nat.zero_le _, Nat.zero_le _⟩ (fun H locs hw => ?_)
                generalize ew22 : pFail 2 w = w22 at hw
                have f_23 := pFail_r (k := 2) (w := w) (by omega) (by omega)
                try rw [ew22] at f_23
                refine lv_iload F.1 F.2.1 dX10_number_129 (lv_at hl 0 rfl) ?_
                exact hret _ _ _ _ _ _ (by unfold pNumV; rw [if_pos (by omega), ← hs, if_pos hdg, hrun]) (mW_j (by unfold pNumA; rw [if_pos (by omega), ← hs, if_pos hdg, hrun]; show _ = if a1 - f ≤ 3 ∧ lo ≤ v ∧ v ≤ hi then a1 else f; first | (rw [if_pos (by omega)]; done) | (rw [if_neg (by omega)]; done)) (by unfold pNumW; rw [if_pos (by omega), ← hs, if_pos hdg, hrun]; show _ = if a1 - f ≤ 3 ∧ lo ≤ v ∧ v ≤ hi then 0 else 2; first | (rw [if_pos (by omega)]; omega) | (rw [if_neg (by omega), ← ew22]; unfold pFail; rw [if_pos (by omega)]; done)) (rfl)) hw dX10_number_131
      exact loop_42 ((I 0 - f : Int).toNat + 1) 0 f H locs ls (by omega) (rfl) (by omega) hw (lv_sub hl [0, 1, 2, 3, 4] rfl) (by omega)
    · refine bi_if_ne (tgt := 34) F dX10_number_24 (by decide) (by decide) (fun q => absurd q (by decide)) (fun _ => ?_)
      refine lv_aload_n F.1 F.2.1 dX10_number_27 rfl (lv_at hl 0 rfl) ?_
      refine bi_iconst F dX10_number_28 ?_
      refine call_G (As := [.int (iI 1)]) (rest := []) F (j_fails l E I A f w 1 (by omega) (by omega)) (cwV 1 F.2.2.2.2 gX10_number_X10_fails rfl rfl rfl (by decide +kernel) ⟨Nat.le_of_ble_eq_true rfl, Nat.le_of_ble_eq_true rfl⟩) hw (m_recv hw) rfl hl.1 rfl (Nat.le_of_ble_eq_true rfl) dX10_number_29 ⟨Nat.zero_le _, Nat.zero_le _⟩ (fun H locs hw => ?_)
      generalize ew26 : pFail 1 w = w26 at hw
      have f_27 := pFail_r (k := 1) (w := w) (by omega) (by omega)
      try rw [ew26] at f_27
      refine bi_iconst F dX10_number_32 ?_
      exact hret _ _ _ _ _ _ (by unfold pNumV; rw [if_pos (by omega), ← hs, if_neg (by omega)]) (mW_j (by unfold pNumA; rw [if_pos (by omega), ← hs, if_neg (by omega)]) (by unfold pNumW; rw [if_pos (by omega), ← hs, if_neg (by omega), ← ew26]; unfold pFail; rw [if_pos (by omega)]) (rfl)) hw dX10_number_33
  · refine bi_iconst F dX10_number_11 ?_
    exact hret _ _ _ _ _ _ (by unfold pNumV; rw [if_neg (by omega)]) (mW_j (by unfold pNumA; rw [if_neg (by omega), ← ea1]; unfold pSkW; rw [if_neg (by omega)]) (by unfold pNumW; rw [if_neg (by omega)]) (rfl)) hw dX10_number_12
set_option maxRecDepth 100000 in
set_option maxHeartbeats 4000000 in
theorem j_opens (l : Launch) (E : Ev) (I : Nat → Int) (A : Nat → Int → Int) (a : Int) (w : Int) (b : Int) (hb : b = 0 ∨ b = 1) (hw0 : w = 0) (ha : 0 ≤ a ∧ a ≤ 240) : MetB l yX10_opens wsX10_opens ({ frames := 1, cells := 0, slots := 0, locals := 21 } : Room) E [.ref (eO E 0), .int (iI b)] (mW E (jI I a w) A) (mW E (jI I (a + 1) (w)) A) (mW E (jI I (a) (3)) A) (b = 0) := by
  have hin : ∀ w ∈ wsX100, w ∈ wsX10_opens := fun w h => in_tail h
  refine met_B (cc := cX10_opens) (nL := 2) (by decide) rfl (Nat.le_of_ble_eq_true rfl) ?_
  intro p e s m args below meth c Q H0 A0 H locs ls F hw hl hret
  have F : CallFix p m c cX10_opens 2 s args wsX10_opens RX10 := F
  have hl : lv_has ls 2 [(0, .ref (eO E 0)), (1, .int (iI b))] := hl
  refine lv_iload_n F.1 F.2.1 dX10_opens_0 rfl (lv_at hl 1 rfl) ?_
  refine bi_if_eq (tgt := 9) F dX10_opens_1 (by decide) (by omega) (fun c_1 => ?_) (fun c_1 => ?_)
  · refine lv_aload_n F.1 F.2.1 dX10_opens_9 rfl (lv_at hl 0 rfl) ?_
    refine lv_dup F.1 F.2.1 dX10_opens_10 rfl ?_
    refine m_get (v := .int (iI a)) F hin hw 25 (by decide) (by decide +kernel) rfl dX10_opens_11 ?_
    refine lv_iload_n F.1 F.2.1 dX10_opens_14 rfl (lv_at hl 1 rfl) ?_
    refine bi_if_eq (tgt := 22) F dX10_opens_15 (by decide) (by omega) (fun c_2 => ?_) (fun c_2 => ?_)
    · refine bi_iconst F dX10_opens_22 ?_
      refine bi_iadd F dX10_opens_23 ?_
      refine m_putJ (I2 := jI I (a + 1) w) F hin hw 25 (by decide) (by decide +kernel) rfl (by decide +kernel) rfl dX10_opens_24 (fun H locs hw => ?_)
      refine lv_iload_n F.1 F.2.1 dX10_opens_27 rfl (lv_at hl 1 rfl) ?_
      refine bi_if_ne (tgt := 35) F dX10_opens_28 (by decide) (by omega) (fun c_3 => ?_) (fun c_3 => ?_)
      · refine bi_iconst F dX10_opens_35 ?_
        exact hret _ _ _ _ _ _ (Or.inr ⟨rfl, by omega, mW_j (by omega) (by first | rfl | (exfalso; omega) | (rw [← ew]; unfold pFail; rw [if_pos (by omega)]; done)) (rfl)⟩) hw dX10_opens_36
      · refine bi_iconst F dX10_opens_31 ?_
        refine lv_goto (tgt := 36) F.1 F.2.1 dX10_opens_32 (by decide) ?_
        exact hret _ _ _ _ _ _ (Or.inl ⟨rfl, by omega, mW_j (by omega) (by first | rfl | (exfalso; omega) | (rw [← ew]; unfold pFail; rw [if_pos (by omega)]; done)) (rfl)⟩) hw dX10_opens_36
    · refine bi_iconst F dX10_opens_18 ?_
      refine lv_goto (tgt := 23) F.1 F.2.1 dX10_opens_19 (by decide) ?_
      refine bi_iadd F dX10_opens_23 ?_
      refine m_putJ (I2 := jI I (a + 0) w) F hin hw 25 (by decide) (by decide +kernel) rfl (by decide +kernel) rfl dX10_opens_24 (fun H locs hw => ?_)
      refine lv_iload_n F.1 F.2.1 dX10_opens_27 rfl (lv_at hl 1 rfl) ?_
      refine bi_if_ne (tgt := 35) F dX10_opens_28 (by decide) (by omega) (fun c_4 => ?_) (fun c_4 => ?_)
      · refine bi_iconst F dX10_opens_35 ?_
        exact hret _ _ _ _ _ _ (Or.inr ⟨rfl, by omega, mW_j (by omega) (by first | rfl | (exfalso; omega) | (rw [← ew]; unfold pFail; rw [if_pos (by omega)]; done)) (rfl)⟩) hw dX10_opens_36
      · refine bi_iconst F dX10_opens_31 ?_
        refine lv_goto (tgt := 36) F.1 F.2.1 dX10_opens_32 (by decide) ?_
        exact hret _ _ _ _ _ _ (Or.inl ⟨rfl, by omega, mW_j (by omega) (by first | rfl | (exfalso; omega) | (rw [← ew]; unfold pFail; rw [if_pos (by omega)]; done)) (rfl)⟩) hw dX10_opens_36
  · refine lv_aload_n F.1 F.2.1 dX10_opens_4 rfl (lv_at hl 0 rfl) ?_
    refine bi_iconst F dX10_opens_5 ?_
    refine call_G (As := [.int (iI 3)]) (rest := []) F (j_fails l E I A a w 3 (by omega) (by omega)) (cwV 1 F.2.2.2.2 gX10_opens_X10_fails rfl rfl rfl (by decide +kernel) ⟨Nat.le_of_ble_eq_true rfl, Nat.le_of_ble_eq_true rfl⟩) hw (m_recv hw) rfl hl.1 rfl (Nat.le_of_ble_eq_true rfl) dX10_opens_6 ⟨Nat.zero_le _, Nat.zero_le _⟩ (fun H locs hw => ?_)
    generalize ew6 : pFail 3 w = w6 at hw
    have f_7 := pFail_r (k := 3) (w := w) (by omega) (by omega)
    try rw [ew6] at f_7
    refine lv_aload_n F.1 F.2.1 dX10_opens_9 rfl (lv_at hl 0 rfl) ?_
    refine lv_dup F.1 F.2.1 dX10_opens_10 rfl ?_
    refine m_get (v := .int (iI a)) F hin hw 25 (by decide) (by decide +kernel) rfl dX10_opens_11 ?_
    refine lv_iload_n F.1 F.2.1 dX10_opens_14 rfl (lv_at hl 1 rfl) ?_
    refine bi_if_eq (tgt := 22) F dX10_opens_15 (by decide) (by omega) (fun c_8 => ?_) (fun c_8 => ?_)
    · refine bi_iconst F dX10_opens_22 ?_
      refine bi_iadd F dX10_opens_23 ?_
      refine m_putJ (I2 := jI I (a + 1) w6) F hin hw 25 (by decide) (by decide +kernel) rfl (by decide +kernel) rfl dX10_opens_24 (fun H locs hw => ?_)
      refine lv_iload_n F.1 F.2.1 dX10_opens_27 rfl (lv_at hl 1 rfl) ?_
      refine bi_if_ne (tgt := 35) F dX10_opens_28 (by decide) (by omega) (fun c_9 => ?_) (fun c_9 => ?_)
      · refine bi_iconst F dX10_opens_35 ?_
        exact hret _ _ _ _ _ _ (Or.inr ⟨rfl, by omega, mW_j (by omega) (by first | rfl | (exfalso; omega) | (rw [← ew6]; unfold pFail; rw [if_pos (by omega)]; done)) (rfl)⟩) hw dX10_opens_36
      · refine bi_iconst F dX10_opens_31 ?_
        refine lv_goto (tgt := 36) F.1 F.2.1 dX10_opens_32 (by decide) ?_
        exact hret _ _ _ _ _ _ (Or.inl ⟨rfl, by omega, mW_j (by omega) (by first | rfl | (exfalso; omega) | (rw [← ew6]; unfold pFail; rw [if_pos (by omega)]; done)) (rfl)⟩) hw dX10_opens_36
    · refine bi_iconst F dX10_opens_18 ?_
      refine lv_goto (tgt := 23) F.1 F.2.1 dX10_opens_19 (by decide) ?_
      refine bi_iadd F dX10_opens_23 ?_
      refine m_putJ (I2 := jI I (a + 0) w6) F hin hw 25 (by decide) (by decide +kernel) rfl (by decide +kernel) rfl dX10_opens_24 (fun H locs hw => ?_)
      refine lv_iload_n F.1 F.2.1 dX10_opens_27 rfl (lv_at hl 1 rfl) ?_
      refine bi_if_ne (tgt := 35) F dX10_opens_28 (by decide) (by omega) (fun c_10 => ?_) (fun c_10 => ?_)
      · refine bi_iconst F dX10_opens_35 ?_
        exact hret _ _ _ _ _ _ (Or.inr ⟨rfl, by omega, mW_j (by omega) (by first | rfl | (exfalso; omega) | (rw [← ew6]; unfold pFail; rw [if_pos (by omega)]; done)) (rfl)⟩) hw dX10_opens_36
      · refine bi_iconst F dX10_opens_31 ?_
        refine lv_goto (tgt := 36) F.1 F.2.1 dX10_opens_32 (by decide) ?_
        exact hret _ _ _ _ _ _ (Or.inl ⟨rfl, by omega, mW_j (by omega) (by first | rfl | (exfalso; omega) | (rw [← ew6]; unfold pFail; rw [if_pos (by omega)]; done)) (rfl)⟩) hw dX10_opens_36
set_option maxRecDepth 100000 in
set_option maxHeartbeats 4000000 in
theorem j_toldAhead (l : Launch) (E : Ev) (I : Nat → Int) (A : Nat → Int → Int) (a : Int) (w : Int) (hT : 0 ≤ I 0 ∧ I 0 ≤ 240) (hl0 : ∀ k, 0 ≤ A 0 k ∧ A 0 k ≤ 255) (ha : 0 ≤ a ∧ a ≤ 240) (hw3 : 0 ≤ w ∧ w ≤ 3) (hc : cOk A) : MetF l yX10_toldAhead wsX10_toldAhead ({ frames := 3, cells := 0, slots := 0, locals := 64 } : Room) E [.ref (eO E 0)] (mW E (jI I a w) A) (mW E (jI I (tlA (A 0) (I 0) (A 6 1) a w) (tlW (A 0) (I 0) (A 6 1) a w)) (A)) (tlV (A 0) (I 0) a w) := by
  have hin : ∀ w ∈ wsX100, w ∈ wsX10_toldAhead := fun w h => in_tail h
  refine met_F (cc := cX10_toldAhead) (nL := 3) (by decide) rfl (Nat.le_of_ble_eq_true rfl) ?_
  intro p e s m args below meth c Q H0 A0 H locs ls F hw hl hret
  have F : CallFix p m c cX10_toldAhead 3 s args wsX10_toldAhead RX10 := F
  have hl : lv_has ls 3 [(0, .ref (eO E 0))] := hl
  obtain ⟨hc0, hc1, hc2, hc3⟩ := id hc
  refine lv_aload_n F.1 F.2.1 dX10_toldAhead_0 rfl (lv_at hl 0 rfl) ?_
  refine call_G (As := []) (rest := []) F (j_skips l E I A a w  (by omega) hl0 (by omega) (by omega)) (cwV 0 F.2.2.2.2 gX10_toldAhead_X10_skips rfl rfl rfl (by decide +kernel) ⟨Nat.le_of_ble_eq_true rfl, Nat.le_of_ble_eq_true rfl⟩) hw (m_recv hw) rfl hl.1 rfl (Nat.le_of_ble_eq_true rfl) dX10_toldAhead_1 ⟨Nat.zero_le _, Nat.zero_le _⟩ (fun H locs hw => ?_)
  generalize ea1 : pSkW (A 0) (I 0) a w = a1 at hw
  have f_3 := pSkW_r (T := A 0) (n := I 0) (a := a) (w := w) (by omega) (by omega)
  try rw [ea1] at f_3
  obtain ⟨f, ef⟩ : ∃ z, z = a1 := ⟨_, rfl⟩
  rw [← ef] at hw
  have hs : f = pSkW (A 0) (I 0) a w := by rw [ef, ← ea1]
  have hf0 : 0 ≤ f ∧ f ≤ 240 := by omega
  refine lv_aload_n F.1 F.2.1 dX10_toldAhead_4 rfl (lv_at hl 0 rfl) ?_
  refine m_get (v := .int (iI f)) F hin hw 25 (by decide) (by decide +kernel) rfl dX10_toldAhead_5 ?_
  refine lv_istore_n (lv' := [(1, .int (iI f)), (0, .ref (eO E 0))]) F.1 F.2.1 dX10_toldAhead_8 rfl hl (by decide) rfl (fun ls hl => ?_)
  refine lv_aload_n F.1 F.2.1 dX10_toldAhead_9 rfl (lv_at hl 1 rfl) ?_
  refine bi_iconst F dX10_toldAhead_10 ?_
  refine bi_sipush F dX10_toldAhead_11 (by decide) ?_
  refine call_F (As := [.int (iI 0), .int (iI 999)]) (rest := []) F (j_number l E I A f w 0 999 (by omega) hl0 (by omega) (by omega) (by omega) (by omega)) (cwV 2 F.2.2.2.2 gX10_toldAhead_X10_number rfl rfl rfl (by decide +kernel) ⟨Nat.le_of_ble_eq_true rfl, Nat.le_of_ble_eq_true rfl⟩) hw (m_recv hw) rfl hl.1 rfl (Nat.le_of_ble_eq_true rfl) dX10_toldAhead_14 ⟨Nat.zero_le _, Nat.zero_le _⟩ (fun H locs hw => ?_)
  generalize ea4 : pNumA (A 0) (I 0) 0 999 f w = a4 at hw
  generalize ew5 : pNumW (A 0) (I 0) 0 999 f w = w5 at hw
  have f_6 := pNumA_r (T := A 0) (n := I 0) (lo := 0) (hi := 999) (a := f) (w := w) (by omega) (by omega)
  try rw [ea4] at f_6
  try rw [ew5] at f_6
  have f_7 := pNumW_r (T := A 0) (n := I 0) (lo := 0) (hi := 999) (a := f) (w := w) (by omega)
  try rw [ea4] at f_7
  try rw [ew5] at f_7
  generalize ev8 : pNumV (A 0) (I 0) f w = v8
  have f_9 : 0 ≤ v8 ∧ v8 ≤ 999 := by rw [← ev8]; exact pNumV_r
  refine lv_istore_n (lv' := [(2, .int (iI v8)), (1, .int (iI f)), (0, .ref (eO E 0))]) F.1 F.2.1 dX10_toldAhead_17 rfl hl (by decide) rfl (fun ls hl => ?_)
  have hn1 : a4 = pNumA (A 0) (I 0) 0 999 (pSkW (A 0) (I 0) a w) w := by rw [← hs]; exact ea4.symm
  have hn2 : w5 = pNumW (A 0) (I 0) 0 999 (pSkW (A 0) (I 0) a w) w := by rw [← hs]; exact ew5.symm
  have hn3 : pNumV (A 0) (I 0) f w = tlV (A 0) (I 0) a w := by unfold tlV; rw [← hs]
  refine lv_aload_n F.1 F.2.1 dX10_toldAhead_18 rfl (lv_at hl 2 rfl) ?_
  refine m_get (v := .int (iI w5)) F hin hw 26 (by decide) (by decide +kernel) rfl dX10_toldAhead_19 ?_
  refine bi_if_ne (tgt := 45) F dX10_toldAhead_22 (by decide) (by omega) (fun c_10 => ?_) (fun c_10 => ?_)
  · refine lv_iload_n F.1 F.2.1 dX10_toldAhead_45 rfl (lv_at hl 0 rfl) ?_
    exact hret _ _ _ _ _ _ (by subst_vars; rfl) (mW_j (by unfold tlA; first | (rw [if_pos (by omega)]; exact hs) | (rw [if_neg (by omega)]; exact hn1)) (by unfold tlW; first | (rw [if_pos (by omega), ← ew5]; unfold pFail; rw [if_pos (by omega)]; done) | (rw [if_neg (by omega)]; exact hn2)) (rfl)) hw dX10_toldAhead_46
  · refine lv_iload_n F.1 F.2.1 dX10_toldAhead_25 rfl (lv_at hl 0 rfl) ?_
    refine lv_aload_n F.1 F.2.1 dX10_toldAhead_26 rfl (lv_at hl 2 rfl) ?_
    refine m_get F hin hw 8 (by decide) (by decide +kernel) rfl dX10_toldAhead_27 ?_
    refine bi_iconst F dX10_toldAhead_30 ?_
    refine m_ld F hw 6 4 rfl (by decide) (by omega) dX10_toldAhead_31 ?_
    refine bi_icmp_lt (tgt := 45) F dX10_toldAhead_32 (by decide) (by omega) (fun c_11 => ?_) (fun c_11 => ?_)
    · refine lv_iload_n F.1 F.2.1 dX10_toldAhead_45 rfl (lv_at hl 0 rfl) ?_
      exact hret _ _ _ _ _ _ (by subst_vars; rfl) (mW_j (by unfold tlA; first | (rw [if_pos (by omega)]; exact hs) | (rw [if_neg (by omega)]; exact hn1)) (by unfold tlW; first | (rw [if_pos (by omega), ← ew5]; unfold pFail; rw [if_pos (by omega)]; done) | (rw [if_neg (by omega)]; exact hn2)) (rfl)) hw dX10_toldAhead_46
    · refine lv_aload_n F.1 F.2.1 dX10_toldAhead_35 rfl (lv_at hl 2 rfl) ?_
      refine lv_iload_n F.1 F.2.1 dX10_toldAhead_36 rfl (lv_at hl 1 rfl) ?_
      refine m_putJ (I2 := jI I f w5) F hin hw 25 (by decide) (by decide +kernel) rfl (by decide +kernel) rfl dX10_toldAhead_37 (fun H locs hw => ?_)
      refine lv_aload_n F.1 F.2.1 dX10_toldAhead_40 rfl (lv_at hl 2 rfl) ?_
      refine bi_iconst F dX10_toldAhead_41 ?_
      refine call_G (As := [.int (iI 2)]) (rest := []) F (j_fails l E I A f w5 2 (by omega) (by omega)) (cwV 1 F.2.2.2.2 gX10_toldAhead_X10_fails rfl rfl rfl (by decide +kernel) ⟨Nat.le_of_ble_eq_true rfl, Nat.le_of_ble_eq_true rfl⟩) hw (m_recv hw) rfl hl.1 rfl (Nat.le_of_ble_eq_true rfl) dX10_toldAhead_42 ⟨Nat.zero_le _, Nat.zero_le _⟩ (fun H locs hw => ?_)
      generalize ew13 : pFail 2 w5 = w13 at hw
      have f_14 := pFail_r (k := 2) (w := w5) (by omega) (by omega)
      try rw [ew13] at f_14
      refine lv_iload_n F.1 F.2.1 dX10_toldAhead_45 rfl (lv_at hl 0 rfl) ?_
      exact hret _ _ _ _ _ _ (by subst_vars; rfl) (mW_j (by unfold tlA; first | (rw [if_pos (by omega)]; exact hs) | (rw [if_neg (by omega)]; exact hn1)) (by unfold tlW; first | (rw [if_pos (by omega), ← ew13]; unfold pFail; rw [if_pos (by omega)]; done) | (rw [if_neg (by omega)]; exact hn2)) (rfl)) hw dX10_toldAhead_46
