set_option maxRecDepth 100000 in
set_option maxHeartbeats 4000000 in
theorem c_notes (l : Launch) (E : Ev) (I : Nat → Int) (A : Nat → Int → Int) (h2 : 0 ≤ I 2 ∧ I 2 ≤ 20) : MetG l yX10_notes wsX10_notes ({ frames := 1, cells := 0, slots := 0, locals := 25 } : Room) E [.ref (eO E 0)] (mW E I A) (mW E (ndI I) (ndA I A)) := by
  have hin : ∀ w ∈ wsX100, w ∈ wsX10_notes := fun w h => in_tail h
  refine met_G (cc := cX10_notes) (nL := 2) (by decide) rfl (Nat.le_of_ble_eq_true rfl) ?_
  intro p e s m args below meth c Q H0 A0 H locs ls F hw hl hret
  have F : CallFix p m c cX10_notes 2 s args wsX10_notes RX10 := F
  have hl : lv_has ls 2 [(0, .ref (eO E 0))] := hl
  refine lv_aload_n F.1 F.2.1 dX10_notes_0 rfl (lv_at hl 0 rfl) ?_
  refine m_get F hin hw 16 (by decide) (by decide +kernel) rfl dX10_notes_1 ?_
  refine bi_bipush F dX10_notes_4 (by decide) ?_
  refine bi_icmp_ne (tgt := 49) F dX10_notes_6 (by decide) (by omega) (fun c_1 => ?_) (fun c_1 => ?_)
  · refine lv_aload_n F.1 F.2.1 dX10_notes_49 rfl (lv_at hl 0 rfl) ?_
    refine m_get F hin hw 13 (by decide) (by decide +kernel) rfl dX10_notes_50 ?_
    refine bi_iconst F dX10_notes_53 ?_
    refine lv_aload_n F.1 F.2.1 dX10_notes_54 rfl (lv_at hl 0 rfl) ?_
    refine m_get F hin hw 15 (by decide) (by decide +kernel) rfl dX10_notes_55 ?_
    refine bi_bipush F dX10_notes_58 (by decide) ?_
    refine lv_aload_n F.1 F.2.1 dX10_notes_60 rfl (lv_at hl 0 rfl) ?_
    refine m_get F hin hw 16 (by decide) (by decide +kernel) rfl dX10_notes_61 ?_
    refine bi_imul F dX10_notes_64 ?_
    refine bi_bipush F dX10_notes_65 (by decide) ?_
    have hI2 : 0 ≤ I 2 ∧ I 2 ≤ 19 := by omega
    refine calls_G (As := [.ref (eA E 11), .int (iI 0), .ref (eA E 13), .int (iI (35 * (I 2))), .int (iI 35)]) (rest := []) F (c_copies l E I A 11 0 13 (35 * (I 2)) 35 35 700 rfl rfl (by decide) (by decide) (by decide) (by omega) (by omega) (by omega) (by omega)) (va_cwS 5 F.2.2.2.2 gX10_notes_X10_copies rfl rfl rfl (by decide +kernel) ⟨Nat.le_of_ble_eq_true rfl, Nat.le_of_ble_eq_true rfl⟩) hw rfl hl.1 rfl (Nat.le_of_ble_eq_true rfl) dX10_notes_67 ⟨Nat.zero_le _, Nat.zero_le _⟩ (fun H locs hw => ?_)
    generalize eA2 : stA A 13 (cpI (A 11) (A 13) 0 (35 * (I 2)) 35) = A2 at hw
    refine lv_aload_n F.1 F.2.1 dX10_notes_70 rfl (lv_at hl 0 rfl) ?_
    refine lv_dup F.1 F.2.1 dX10_notes_71 rfl ?_
    refine m_get F hin hw 16 (by decide) (by decide +kernel) rfl dX10_notes_72 ?_
    refine bi_iconst F dX10_notes_75 ?_
    refine bi_iadd F dX10_notes_76 ?_
    refine m_put F hin hw 16 2 (by decide) (by decide +kernel) rfl (by decide +kernel) rfl dX10_notes_77 (fun H locs hw => ?_)
    generalize eI3 : st1 I 2 (I 2 + 1) = I3 at hw
    exact hret _ _ _ _ _ (mW_c (by unfold ndI; (first | rw [if_pos (by omega)] | rw [if_neg (by omega)]); subst_vars; (try simp only [st1_2, st1_s]); (first | done | rfl | (congr 1; omega))) (by unfold ndA mNote; first | (rw [if_pos (by omega)]; subst_vars; rw [show k = 665 by omega, stA_2, stA_s]; show stA A 13 (cpI (A 11) (cpI (A 13) (A 13) 35 0 665) 0 (35 * (I 2 - 1)) 35) = _; rw [show I 2 - 1 = 19 by omega]) | (rw [if_neg (by omega)]; subst_vars; rfl))) hw dX10_notes_80
  · refine bi_iconst F dX10_notes_9 ?_
    refine lv_istore_n (lv' := [(1, .int (iI 0)), (0, .ref (eO E 0))]) F.1 F.2.1 dX10_notes_10 rfl hl (by decide) rfl (fun ls hl => ?_)
    have loop_11 : ∀ (nf : Nat) (k : Int) (A1 : Nat → Int → Int) (H : Heap) (locs : List Loc) (ls : Array Slot) (hk : 0 ≤ k ∧ k ≤ 665) (hA1 : A1 = stA A 13 (cpI (A 13) (A 13) 35 0 k)) (hw : gH E A0 H0 s (mW E I A1) H locs) (hl : lv_has ls 2 [(1, .int (iI k)), (0, .ref (eO E 0))]) (hnf : (665 - k).toNat < nf), W p l e ({ frames := 1, cells := 0, slots := 0, locals := 25 } : Room) s m args below meth c H locs 0 0 Q (F0 m 11 ls []) := by
      intro nf
      induction nf with
      | zero =>
        intro k A1 H locs ls hk hA1 hw hl hnf
        exact absurd hnf (Nat.not_lt_zero _)
      | succ nf ih_11 =>
        intro k A1 H locs ls hk hA1 hw hl hnf
        have h11 : A1 11 = A 11 := by rw [hA1]; rfl
        refine lv_iload_n F.1 F.2.1 dX10_notes_11 rfl (lv_at hl 0 rfl) ?_
        refine bi_sipush F dX10_notes_12 (by decide) ?_
        refine bi_icmp_ge (tgt := 39) F dX10_notes_15 (by decide) (by omega) (fun c_4 => ?_) (fun c_4 => ?_)
        · refine lv_aload_n F.1 F.2.1 dX10_notes_39 rfl (lv_at hl 1 rfl) ?_
          refine lv_dup F.1 F.2.1 dX10_notes_40 rfl ?_
          refine m_get F hin hw 16 (by decide) (by decide +kernel) rfl dX10_notes_41 ?_
          refine bi_iconst F dX10_notes_44 ?_
          refine bi_isub F dX10_notes_45 ?_
          refine m_put F hin hw 16 2 (by decide) (by decide +kernel) rfl (by decide +kernel) rfl dX10_notes_46 (fun H locs hw => ?_)
          generalize eI5 : st1 I 2 (I 2 - 1) = I5 at hw
          refine lv_aload_n F.1 F.2.1 dX10_notes_49 rfl (lv_at hl 1 rfl) ?_
          refine m_get F hin hw 13 (by decide) (by decide +kernel) rfl dX10_notes_50 ?_
          refine bi_iconst F dX10_notes_53 ?_
          refine lv_aload_n F.1 F.2.1 dX10_notes_54 rfl (lv_at hl 1 rfl) ?_
          refine m_get F hin hw 15 (by decide) (by decide +kernel) rfl dX10_notes_55 ?_
          refine bi_bipush F dX10_notes_58 (by decide) ?_
          refine lv_aload_n F.1 F.2.1 dX10_notes_60 rfl (lv_at hl 1 rfl) ?_
          refine m_get F hin hw 16 (by decide) (by decide +kernel) rfl dX10_notes_61 ?_
          have f_6 : I5 2 = I 2 - 1 := by rw [← eI5]; exact st1_s
          refine bi_imul F dX10_notes_64 ?_
          refine bi_bipush F dX10_notes_65 (by decide) ?_
          have hI2 : 0 ≤ I5 2 ∧ I5 2 ≤ 19 := by omega
          refine calls_G (As := [.ref (eA E 11), .int (iI 0), .ref (eA E 13), .int (iI (35 * (I5 2))), .int (iI 35)]) (rest := []) F (c_copies l E I5 A1 11 0 13 (35 * (I5 2)) 35 35 700 rfl rfl (by decide) (by decide) (by decide) (by omega) (by omega) (by omega) (by omega)) (va_cwS 5 F.2.2.2.2 gX10_notes_X10_copies rfl rfl rfl (by decide +kernel) ⟨Nat.le_of_ble_eq_true rfl, Nat.le_of_ble_eq_true rfl⟩) hw rfl hl.1 rfl (Nat.le_of_ble_eq_true rfl) dX10_notes_67 ⟨Nat.zero_le _, Nat.zero_le _⟩ (fun H locs hw => ?_)
          generalize eA7 : stA A1 13 (cpI (A1 11) (A1 13) 0 (35 * (I5 2)) 35) = A7 at hw
          refine lv_aload_n F.1 F.2.1 dX10_notes_70 rfl (lv_at hl 1 rfl) ?_
          refine lv_dup F.1 F.2.1 dX10_notes_71 rfl ?_
          refine m_get F hin hw 16 (by decide) (by decide +kernel) rfl dX10_notes_72 ?_
          have f_8 : I5 2 = I 2 - 1 := by rw [← eI5]; exact st1_s
          refine bi_iconst F dX10_notes_75 ?_
          refine bi_iadd F dX10_notes_76 ?_
          refine m_put F hin hw 16 2 (by decide) (by decide +kernel) rfl (by decide +kernel) rfl dX10_notes_77 (fun H locs hw => ?_)
          generalize eI9 : st1 I5 2 (I5 2 + 1) = I9 at hw
          exact hret _ _ _ _ _ (mW_c (by unfold ndI; (first | rw [if_pos (by omega)] | rw [if_neg (by omega)]); subst_vars; (try simp only [st1_2, st1_s]); (first | done | rfl | (congr 1; omega))) (by unfold ndA mNote; first | (rw [if_pos (by omega)]; subst_vars; rw [show k = 665 by omega, stA_2, stA_s]; show stA A 13 (cpI (A 11) (cpI (A 13) (A 13) 35 0 665) 0 (35 * (I 2 - 1)) 35) = _; rw [show I 2 - 1 = 19 by omega]) | (rw [if_neg (by omega)]; subst_vars; rfl))) hw dX10_notes_80
        · refine lv_aload_n F.1 F.2.1 dX10_notes_18 rfl (lv_at hl 1 rfl) ?_
          refine m_get F hin hw 15 (by decide) (by decide +kernel) rfl dX10_notes_19 ?_
          refine lv_iload_n F.1 F.2.1 dX10_notes_22 rfl (lv_at hl 0 rfl) ?_
          refine lv_aload_n F.1 F.2.1 dX10_notes_23 rfl (lv_at hl 1 rfl) ?_
          refine m_get F hin hw 15 (by decide) (by decide +kernel) rfl dX10_notes_24 ?_
          refine lv_iload_n F.1 F.2.1 dX10_notes_27 rfl (lv_at hl 0 rfl) ?_
          refine bi_bipush F dX10_notes_28 (by decide) ?_
          refine bi_iadd F dX10_notes_30 ?_
          refine m_ld F hw 13 700 rfl (by decide) (by omega) dX10_notes_31 ?_
          refine m_st F hw 13 700 rfl (by decide) (by omega) dX10_notes_32 (fun H locs hw => ?_)
          generalize eA10 : st2 A1 13 k (A1 13 (k + 35)) = A10 at hw
          refine lv_iinc (v := iI (k + 1)) (lv' := [(1, .int (iI (k + 1))), (0, .ref (eO E 0))]) F.1 F.2.1 dX10_notes_33 hl (k := 0) rfl (iI_add _ _).symm (by decide) rfl (fun ls hl => ?_)
          refine lv_goto (tgt := 11) F.1 F.2.1 dX10_notes_36 (by decide) ?_
          exact ih_11 (k + 1) A10 H locs ls (by omega) (by rw [← eA10, hA1, st2_A, stA_s, show cpI (A 13) (A 13) 35 0 k (k + 35) = A 13 (35 + k) by (unfold cpI; rw [if_neg (by omega), Int.add_comm])]; have := cpI_s (f := A 13) (g := A 13) (x := 35) (y := 0) hk.1; rw [Int.zero_add] at this; rw [this]) hw (lv_sub hl [0, 1] rfl) (by omega)
    exact loop_11 ((665 - 0 : Int).toNat + 1) 0 A H locs ls (by omega) (by rw [cpI_0, stA_id]) hw (lv_sub hl [0, 1] rfl) (by omega)
set_option maxRecDepth 100000 in
set_option maxHeartbeats 4000000 in
theorem c_passes (l : Launch) (E : Ev) (I : Nat → Int) (A : Nat → Int → Int) (j : Nat) (x : Int) (hj : mLen j = 35) (hj2 : j < 21) (hj3 : j = 11 ∨ j = 12) (hx : 0 ≤ x ∧ x ≤ 40) (hok : mOk A) (hr : rOk (A 1 1) (A 1 2) (A j) 900000) : MetG l yX10_passes wsX10_passes ({ frames := 2, cells := 0, slots := 0, locals := 49 } : Room) E [.ref (eO E 0), .ref (eA E j), .int (iI x)] (mW E I A) (mW E (I) (stA A j (mPass (A 3) (A j) x (A 1 1) (A 1 2)))) := by
  have hin : ∀ w ∈ wsX100, w ∈ wsX10_passes := fun w h => in_tail h
  refine met_G (cc := cX10_passes) (nL := 5) (by decide) rfl (Nat.le_of_ble_eq_true rfl) ?_
  intro p e s m args below meth c Q H0 A0 H locs ls F hw hl hret
  have F : CallFix p m c cX10_passes 5 s args wsX10_passes RX10 := F
  have hl : lv_has ls 5 [(0, .ref (eO E 0)), (1, .ref (eA E j)), (2, .int (iI x))] := hl
  obtain ⟨hV, hWn, hl0, hl1, hl2, hl3, hY, hPl, hPe⟩ := id hok
  refine bi_iconst F dX10_passes_0 ?_
  refine lv_istore_n (lv' := [(3, .int (iI 0)), (0, .ref (eO E 0)), (1, .ref (eA E j)), (2, .int (iI x))]) F.1 F.2.1 dX10_passes_1 rfl hl (by decide) rfl (fun ls hl => ?_)
  have loop_2 : ∀ (nf : Nat) (q : Int) (A1 : Nat → Int → Int) (H : Heap) (locs : List Loc) (ls : Array Slot) (hq : 0 ≤ q ∧ q ≤ A 1 2) (hA1 : A1 = stA A j (mPsP (A 3) (A j) x q)) (hw : gH E A0 H0 s (mW E I A1) H locs) (hl : lv_has ls 5 [(3, .int (iI q)), (0, .ref (eO E 0)), (1, .ref (eA E j)), (2, .int (iI x))]) (hnf : (A 1 2 - q).toNat < nf), W p l e ({ frames := 2, cells := 0, slots := 0, locals := 49 } : Room) s m args below meth c H locs 0 0 Q (F0 m 2 ls []) := by
    intro nf
    induction nf with
    | zero =>
      intro q A1 H locs ls hq hA1 hw hl hnf
      exact absurd hnf (Nat.not_lt_zero _)
    | succ nf ih_2 =>
      intro q A1 H locs ls hq hA1 hw hl hnf
      have h1 : A1 1 = A 1 := by rw [hA1]; exact stA_n (by omega)
      have h3 : A1 3 = A 3 := by rw [hA1]; exact stA_n (by omega)
      have hrw : A1 j = mPsP (A 3) (A j) x q := by rw [hA1]; exact stA_s
      have hA : ∀ k, 0 ≤ A1 3 k ∧ A1 3 k ≤ 40 := by rw [h3]; exact hV
      refine lv_iload_n F.1 F.2.1 dX10_passes_2 rfl (lv_at hl 0 rfl) ?_
      refine lv_aload_n F.1 F.2.1 dX10_passes_3 rfl (lv_at hl 1 rfl) ?_
      refine m_get F hin hw 3 (by decide) (by decide +kernel) rfl dX10_passes_4 ?_
      refine bi_iconst F dX10_passes_7 ?_
      refine m_ld F hw 1 4 rfl (by decide) (by omega) dX10_passes_8 ?_
      have f_1 := congrFun h1 (2)
      refine bi_icmp_ge (tgt := 52) F dX10_passes_9 (by decide) (by omega) (fun c_2 => ?_) (fun c_2 => ?_)
      · refine bi_iconst F dX10_passes_52 ?_
        refine lv_istore_n (lv' := [(3, .int (iI 0)), (0, .ref (eO E 0)), (1, .ref (eA E j)), (2, .int (iI x))]) F.1 F.2.1 dX10_passes_53 rfl hl (by decide) rfl (fun ls hl => ?_)
        have loop_54 : ∀ (nf : Nat) (v : Int) (A1 : Nat → Int → Int) (H : Heap) (locs : List Loc) (ls : Array Slot) (hv : 0 ≤ v ∧ v ≤ A 1 1) (hA1 : A1 = stA A j (mPsV (A 3) (A j) x (A 1 2) v)) (hw : gH E A0 H0 s (mW E I A1) H locs) (hl : lv_has ls 5 [(3, .int (iI v)), (0, .ref (eO E 0)), (1, .ref (eA E j)), (2, .int (iI x))]) (hnf : (A 1 1 - v).toNat < nf), W p l e ({ frames := 2, cells := 0, slots := 0, locals := 49 } : Room) s m args below meth c H locs 0 0 Q (F0 m 54 ls []) := by
          intro nf
          induction nf with
          | zero =>
            intro v A1 H locs ls hv hA1 hw hl hnf
            exact absurd hnf (Nat.not_lt_zero _)
          | succ nf ih_54 =>
            intro v A1 H locs ls hv hA1 hw hl hnf
            have h1 : A1 1 = A 1 := by rw [hA1]; exact stA_n (by omega)
            have h3 : A1 3 = A 3 := by rw [hA1]; exact stA_n (by omega)
            have hrw : A1 j = mPsV (A 3) (A j) x (A 1 2) v := by rw [hA1]; exact stA_s
            have hA : ∀ k, 0 ≤ A1 3 k ∧ A1 3 k ≤ 40 := by rw [h3]; exact hV
            refine lv_iload_n F.1 F.2.1 dX10_passes_54 rfl (lv_at hl 0 rfl) ?_
            refine lv_aload_n F.1 F.2.1 dX10_passes_55 rfl (lv_at hl 1 rfl) ?_
            refine m_get F hin hw 3 (by decide) (by decide +kernel) rfl dX10_passes_56 ?_
            refine bi_iconst F dX10_passes_59 ?_
            refine m_ld F hw 1 4 rfl (by decide) (by omega) dX10_passes_60 ?_
            have f_3 := congrFun h1 (1)
            refine bi_icmp_ge (tgt := 135) F dX10_passes_61 (by decide) (by omega) (fun c_4 => ?_) (fun c_4 => ?_)
            · refine lv_aload_n F.1 F.2.1 dX10_passes_135 rfl (lv_at hl 2 rfl) ?_
              refine bi_iconst F dX10_passes_136 ?_
              have hh7 : A1 j 0 = A j 0 := by rw [hrw]; exact mPsV_old (by omega) (by omega)
              refine lv_dup2_11 F.1 F.2.1 dX10_passes_137 rfl rfl ?_
              refine m_ld F hw j 35 hj hj2 (by omega) dX10_passes_138 ?_
              refine bi_iconst F dX10_passes_139 ?_
              refine bi_iadd F dX10_passes_140 ?_
              refine m_st F hw j 35 hj hj2 (by omega) dX10_passes_141 (fun H locs hw => ?_)
              generalize eA5 : st2 A1 j 0 (A1 j 0 + 1) = A5 at hw
              exact hret _ _ _ _ _ (mW_c rfl (by rw [← eA5, hh7, hA1, st2_A, show v = A 1 1 by omega]; rfl)) hw dX10_passes_142
            · have hh5 : A1 j (1 + 3 * v + 2) = A j (1 + 3 * v + 2) := by rw [hrw]; exact mPsV_old (by omega) (by omega)
              have hh6 := hr.1 (1 + 3 * v + 2)
              refine lv_aload_n F.1 F.2.1 dX10_passes_64 rfl (lv_at hl 2 rfl) ?_
              refine bi_iconst F dX10_passes_65 ?_
              refine bi_iconst F dX10_passes_66 ?_
              refine lv_iload_n F.1 F.2.1 dX10_passes_67 rfl (lv_at hl 0 rfl) ?_
              refine bi_imul F dX10_passes_68 ?_
              refine bi_iadd F dX10_passes_69 ?_
              refine bi_iconst F dX10_passes_70 ?_
              refine bi_iadd F dX10_passes_71 ?_
              refine m_ld F hw j 35 hj hj2 (by omega) dX10_passes_72 ?_
              refine lv_aload_n F.1 F.2.1 dX10_passes_73 rfl (lv_at hl 1 rfl) ?_
              refine lv_iload_n F.1 F.2.1 dX10_passes_74 rfl (lv_at hl 3 rfl) ?_
              refine lv_iload_n F.1 F.2.1 dX10_passes_75 rfl (lv_at hl 0 rfl) ?_
              refine call_N (As := [.int (iI x), .int (iI v)]) (rest := [.int (iI (A1 j (1 + (3 * v) + 2)))]) F (c_fallsOf l E I A1 x v (by omega) (by omega) hA) (cwV 2 F.2.2.2.2 gX10_passes_X10_fallsOf rfl rfl rfl (by decide +kernel) ⟨Nat.le_of_ble_eq_true rfl, Nat.le_of_ble_eq_true rfl⟩) hw (m_recv hw) rfl hl.1 rfl (Nat.le_of_ble_eq_true rfl) dX10_passes_76 ⟨Nat.zero_le _, Nat.zero_le _⟩ (fun H locs hw => ?_)
              have f_6 := mFo_r (V := A1 3) (x := x) (v := v) hA (by omega)
              refine bi_iadd F dX10_passes_79 ?_
              refine lv_istore (lv' := [(4, .int (iI (A1 j (1 + (3 * v) + 2) + (mFo (A1 3) x v)))), (3, .int (iI v)), (0, .ref (eO E 0)), (1, .ref (eA E j)), (2, .int (iI x))]) F.1 F.2.1 dX10_passes_80 hl (by decide) rfl (fun ls hl => ?_)
              refine lv_aload_n F.1 F.2.1 dX10_passes_82 rfl (lv_at hl 3 rfl) ?_
              refine bi_iconst F dX10_passes_83 ?_
              refine bi_iconst F dX10_passes_84 ?_
              refine lv_iload_n F.1 F.2.1 dX10_passes_85 rfl (lv_at hl 1 rfl) ?_
              refine bi_imul F dX10_passes_86 ?_
              refine bi_iadd F dX10_passes_87 ?_
              refine lv_dup2_11 F.1 F.2.1 dX10_passes_88 rfl rfl ?_
              refine m_ld F hw j 35 hj hj2 (by omega) dX10_passes_89 ?_
              have join_104 : ∀ (y : Int) (hj_104 : y = mFallI (A1 3) x v) (H : Heap) (locs : List Loc) (hw : gH E A0 H0 s (mW E I A1) H locs), W p l e ({ frames := 2, cells := 0, slots := 0, locals := 49 } : Room) s m args below meth c H locs 0 0 Q (F0 m 104 ls [.int (iI y), .int (iI (A1 j (1 + (3 * v)))), .int (iI (1 + (3 * v))), .ref (eA E j)]) := by
                intro y hj_104 H locs hw
                refine bi_iadd F dX10_passes_104 ?_
                refine m_st F hw j 35 hj hj2 (by omega) dX10_passes_105 (fun H locs hw => ?_)
                generalize eA7 : st2 A1 j (1 + (3 * v)) (A1 j (1 + (3 * v)) + y) = A7 at hw
                have eA1x := eA7
                refine lv_aload_n F.1 F.2.1 dX10_passes_106 rfl (lv_at hl 3 rfl) ?_
                refine bi_iconst F dX10_passes_107 ?_
                refine bi_iconst F dX10_passes_108 ?_
                refine lv_iload_n F.1 F.2.1 dX10_passes_109 rfl (lv_at hl 1 rfl) ?_
                refine bi_imul F dX10_passes_110 ?_
                refine bi_iadd F dX10_passes_111 ?_
                refine bi_iconst F dX10_passes_112 ?_
                refine bi_iadd F dX10_passes_113 ?_
                have join_128 : ∀ (y2 : Int) (hj_128 : y2 = if 999999 < A1 j (1 + 3 * v + 2) + mFo (A1 3) x v then 999999 else A1 j (1 + 3 * v + 2) + mFo (A1 3) x v) (H : Heap) (locs : List Loc) (hw : gH E A0 H0 s (mW E I A7) H locs), W p l e ({ frames := 2, cells := 0, slots := 0, locals := 49 } : Room) s m args below meth c H locs 0 0 Q (F0 m 128 ls [.int (iI y2), .int (iI (1 + (3 * v) + 2)), .ref (eA E j)]) := by
                  intro y2 hj_128 H locs hw
                  refine m_st F hw j 35 hj hj2 (by omega) dX10_passes_128 (fun H locs hw => ?_)
                  generalize eA8 : st2 A7 j (1 + (3 * v) + 2) y2 = A8 at hw
                  refine lv_iinc (v := iI (v + 1)) (lv' := [(3, .int (iI (v + 1))), (4, .int (iI (A1 j (1 + (3 * v) + 2) + (mFo (A1 3) x v)))), (0, .ref (eO E 0)), (1, .ref (eA E j)), (2, .int (iI x))]) F.1 F.2.1 dX10_passes_129 hl (k := 1) rfl (iI_add _ _).symm (by decide) rfl (fun ls hl => ?_)
                  refine lv_goto (tgt := 54) F.1 F.2.1 dX10_passes_132 (by decide) ?_
                  exact ih_54 (v + 1) A8 H locs ls (by omega) (by rw [← eA8, hj_128]; rw [← eA1x, hj_104, h3, hrw, mPsV_old (by omega) (by omega), hA1, st2_A, st2_A, mPsV_old (by omega) (by omega), mPsV_s hv.1 (by omega)]) hw (lv_sub hl [0, 2, 3, 4] rfl) (by omega)
                refine lv_iload F.1 F.2.1 dX10_passes_114 (lv_at hl 0 rfl) ?_
                refine bi_ldc F (999999) (by decide +kernel) rfl dX10_passes_116 ?_
                refine bi_icmp_le (tgt := 126) F dX10_passes_118 (by decide) (by omega) (fun c_9 => ?_) (fun c_9 => ?_)
                · refine lv_iload F.1 F.2.1 dX10_passes_126 (lv_at hl 0 rfl) ?_
                  exact join_128 (A1 j (1 + (3 * v) + 2) + (mFo (A1 3) x v)) (by first | rw [if_pos (by omega)] | rw [if_neg (by omega)]) H locs hw
                · refine bi_ldc F (999999) (by decide +kernel) rfl dX10_passes_121 ?_
                  refine lv_goto (tgt := 128) F.1 F.2.1 dX10_passes_123 (by decide) ?_
                  exact join_128 999999 (by first | rw [if_pos (by omega)] | rw [if_neg (by omega)]) H locs hw
              refine lv_aload_n F.1 F.2.1 dX10_passes_90 rfl (lv_at hl 2 rfl) ?_
              refine lv_iload_n F.1 F.2.1 dX10_passes_91 rfl (lv_at hl 4 rfl) ?_
              refine lv_iload_n F.1 F.2.1 dX10_passes_92 rfl (lv_at hl 1 rfl) ?_
              refine call_P (As := [.int (iI x), .int (iI v)]) (rest := [.int (iI (A1 j (1 + (3 * v)))), .int (iI (1 + (3 * v))), .ref (eA E j)]) F (c_isFall l E I A1 x v (by omega) (by omega) hA) (cwV 2 F.2.2.2.2 gX10_passes_X10_isFall rfl rfl rfl (by decide +kernel) ⟨Nat.le_of_ble_eq_true rfl, Nat.le_of_ble_eq_true rfl⟩) hw (m_recv hw) rfl hl.1 rfl (Nat.le_of_ble_eq_true rfl) dX10_passes_93 ⟨Nat.zero_le _, Nat.zero_le _⟩ (fun q_10 H locs hw => ?_) (fun q_10 H locs hw => ?_)
              · refine bi_if_eq (tgt := 103) F dX10_passes_96 (by decide) (by decide) (fun q => absurd q (by decide)) (fun _ => ?_)
                refine bi_iconst F dX10_passes_99 ?_
                refine lv_goto (tgt := 104) F.1 F.2.1 dX10_passes_100 (by decide) ?_
                exact join_104 1 (by first | exact (mFallI_t (by assumption)).symm | exact (mFallI_f (by assumption)).symm) H locs hw
              · refine bi_if_eq (tgt := 103) F dX10_passes_96 (by decide) (by decide) (fun _ => ?_) (fun q => absurd q (by decide))
                refine bi_iconst F dX10_passes_103 ?_
                exact join_104 0 (by first | exact (mFallI_t (by assumption)).symm | exact (mFallI_f (by assumption)).symm) H locs hw
        exact loop_54 ((A 1 1 - 0 : Int).toNat + 1) 0 A1 H locs ls (by omega) (by rw [mPsV_0, hA1, show q = A 1 2 by omega]) hw (lv_sub hl [0, 1, 2, 3] rfl) (by omega)
      · refine lv_aload_n F.1 F.2.1 dX10_passes_12 rfl (lv_at hl 2 rfl) ?_
        refine bi_bipush F dX10_passes_13 (by decide) ?_
        refine bi_iconst F dX10_passes_15 ?_
        refine lv_iload_n F.1 F.2.1 dX10_passes_16 rfl (lv_at hl 0 rfl) ?_
        refine bi_imul F dX10_passes_17 ?_
        refine bi_iadd F dX10_passes_18 ?_
        refine bi_iconst F dX10_passes_19 ?_
        refine bi_iadd F dX10_passes_20 ?_
        refine lv_dup2_11 F.1 F.2.1 dX10_passes_21 rfl rfl ?_
        refine m_ld F hw j 35 hj hj2 (by omega) dX10_passes_22 ?_
        have join_44 : ∀ (y : Int) (hj_44 : y = mFallI (A1 3) x (A1 j (13 + 2 * q))) (H : Heap) (locs : List Loc) (hw : gH E A0 H0 s (mW E I A1) H locs), W p l e ({ frames := 2, cells := 0, slots := 0, locals := 49 } : Room) s m args below meth c H locs 0 0 Q (F0 m 44 ls [.int (iI y), .int (iI (A1 j (13 + (2 * q) + 1))), .int (iI (13 + (2 * q) + 1)), .ref (eA E j)]) := by
          intro y hj_44 H locs hw
          refine bi_iadd F dX10_passes_44 ?_
          refine m_st F hw j 35 hj hj2 (by omega) dX10_passes_45 (fun H locs hw => ?_)
          generalize eA13 : st2 A1 j (13 + (2 * q) + 1) (A1 j (13 + (2 * q) + 1) + y) = A13 at hw
          refine lv_iinc (v := iI (q + 1)) (lv' := [(3, .int (iI (q + 1))), (0, .ref (eO E 0)), (1, .ref (eA E j)), (2, .int (iI x))]) F.1 F.2.1 dX10_passes_46 hl (k := 0) rfl (iI_add _ _).symm (by decide) rfl (fun ls hl => ?_)
          refine lv_goto (tgt := 2) F.1 F.2.1 dX10_passes_49 (by decide) ?_
          exact ih_2 (q + 1) A13 H locs ls (by omega) (by rw [← eA13, hj_44, h3, hrw, mPsP_old (by omega), mPsP_old (by omega), hA1, st2_A, mPsP_s hq.1]) hw (lv_sub hl [0, 1, 2, 3] rfl) (by omega)
        have hh1 : A1 j (13 + 2 * q) = A j (13 + 2 * q) := by rw [hrw]; exact mPsP_old (by omega)
        have hh2 := hr.2 q (by omega)
        have hh3 := hr.1 (13 + 2 * q)
        have hh4 := hr.1 (13 + 2 * q + 1)
        refine lv_aload_n F.1 F.2.1 dX10_passes_23 rfl (lv_at hl 1 rfl) ?_
        refine lv_iload_n F.1 F.2.1 dX10_passes_24 rfl (lv_at hl 3 rfl) ?_
        refine lv_aload_n F.1 F.2.1 dX10_passes_25 rfl (lv_at hl 2 rfl) ?_
        refine bi_bipush F dX10_passes_26 (by decide) ?_
        refine bi_iconst F dX10_passes_28 ?_
        refine lv_iload_n F.1 F.2.1 dX10_passes_29 rfl (lv_at hl 0 rfl) ?_
        refine bi_imul F dX10_passes_30 ?_
        refine bi_iadd F dX10_passes_31 ?_
        refine m_ld F hw j 35 hj hj2 (by omega) dX10_passes_32 ?_
        refine call_P (As := [.int (iI x), .int (iI (A1 j (13 + (2 * q))))]) (rest := [.int (iI (A1 j (13 + (2 * q) + 1))), .int (iI (13 + (2 * q) + 1)), .ref (eA E j)]) F (c_isFall l E I A1 x (A1 j (13 + (2 * q))) (by omega) (by omega) hA) (cwV 2 F.2.2.2.2 gX10_passes_X10_isFall rfl rfl rfl (by decide +kernel) ⟨Nat.le_of_ble_eq_true rfl, Nat.le_of_ble_eq_true rfl⟩) hw (m_recv hw) rfl hl.1 rfl (Nat.le_of_ble_eq_true rfl) dX10_passes_33 ⟨Nat.zero_le _, Nat.zero_le _⟩ (fun q_14 H locs hw => ?_) (fun q_14 H locs hw => ?_)
        · refine bi_if_eq (tgt := 43) F dX10_passes_36 (by decide) (by decide) (fun q => absurd q (by decide)) (fun _ => ?_)
          refine bi_iconst F dX10_passes_39 ?_
          refine lv_goto (tgt := 44) F.1 F.2.1 dX10_passes_40 (by decide) ?_
          exact join_44 1 (by first | exact (mFallI_t (by assumption)).symm | exact (mFallI_f (by assumption)).symm) H locs hw
        · refine bi_if_eq (tgt := 43) F dX10_passes_36 (by decide) (by decide) (fun _ => ?_) (fun q => absurd q (by decide))
          refine bi_iconst F dX10_passes_43 ?_
          exact join_44 0 (by first | exact (mFallI_t (by assumption)).symm | exact (mFallI_f (by assumption)).symm) H locs hw
  exact loop_2 ((A 1 2 - 0 : Int).toNat + 1) 0 A H locs ls (by omega) (by rw [mPsP_0, stA_id]) hw (lv_sub hl [0, 1, 2, 3] rfl) (by omega)
set_option maxRecDepth 100000 in
set_option maxHeartbeats 4000000 in
theorem c_comes (l : Launch) (E : Ev) (I : Nat → Int) (A : Nat → Int → Int) (j : Nat) (mm : Int) (hj : mLen j = 35) (hj2 : j < 21) (hj3 : j = 11 ∨ j = 12) (hm : 0 ≤ mm ∧ mm ≤ 40) (h0 : 0 < A 1 0) (hok : mOk A) (hr : rOk (A 1 1) (A 1 2) (A j) 900000) : MetG l yX10_comes wsX10_comes ({ frames := 3, cells := 0, slots := 0, locals := 73 } : Room) E [.ref (eO E 0), .ref (eA E j), .int (iI mm)] (mW E I A) (mW E (I) (stA A j (mPass (A 3) (A j) (mIn (A 2) (A j 0) (A 1 0) mm) (A 1 1) (A 1 2)))) := by
  have hin : ∀ w ∈ wsX100, w ∈ wsX10_comes := fun w h => in_tail h
  refine met_G (cc := cX10_comes) (nL := 4) (by decide) rfl (Nat.le_of_ble_eq_true rfl) ?_
  intro p e s m args below meth c Q H0 A0 H locs ls F hw hl hret
  have F : CallFix p m c cX10_comes 4 s args wsX10_comes RX10 := F
  have hl : lv_has ls 4 [(0, .ref (eO E 0)), (1, .ref (eA E j)), (2, .int (iI mm))] := hl
  obtain ⟨hV, hWn, hl0, hl1, hl2, hl3, hY, hPl, hPe⟩ := id hok
  have hz := hr.1 0
  refine lv_aload_n F.1 F.2.1 dX10_comes_0 rfl (lv_at hl 0 rfl) ?_
  refine m_get F hin hw 4 (by decide) (by decide +kernel) rfl dX10_comes_1 ?_
  refine lv_aload_n F.1 F.2.1 dX10_comes_4 rfl (lv_at hl 1 rfl) ?_
  refine bi_iconst F dX10_comes_5 ?_
  refine m_ld F hw j 35 hj hj2 (by omega) dX10_comes_6 ?_
  refine lv_aload_n F.1 F.2.1 dX10_comes_7 rfl (lv_at hl 0 rfl) ?_
  refine m_get F hin hw 3 (by decide) (by decide +kernel) rfl dX10_comes_8 ?_
  refine bi_iconst F dX10_comes_11 ?_
  refine m_ld F hw 1 4 rfl (by decide) (by omega) dX10_comes_12 ?_
  refine bi_irem F dX10_comes_13 (by omega) ?_
  have e1 := Int.emod_nonneg (A j 0) (show A 1 0 ≠ 0 by omega)
  have e2 := Int.emod_lt_of_pos (A j 0) (show 0 < A 1 0 by omega)
  refine m_ld F hw 2 20 rfl (by decide) (by omega) dX10_comes_14 ?_
  have f_1 := hWn ((A j 0) % (A 1 0))
  refine lv_iload_n F.1 F.2.1 dX10_comes_15 rfl (lv_at hl 2 rfl) ?_
  refine bi_isub F dX10_comes_16 ?_
  refine lv_istore_n (lv' := [(3, .int (iI (A 2 ((A j 0) % (A 1 0)) - mm))), (0, .ref (eO E 0)), (1, .ref (eA E j)), (2, .int (iI mm))]) F.1 F.2.1 dX10_comes_17 rfl hl (by decide) rfl (fun ls hl => ?_)
  refine lv_aload_n F.1 F.2.1 dX10_comes_18 rfl (lv_at hl 1 rfl) ?_
  refine lv_aload_n F.1 F.2.1 dX10_comes_19 rfl (lv_at hl 2 rfl) ?_
  refine lv_iload_n F.1 F.2.1 dX10_comes_20 rfl (lv_at hl 0 rfl) ?_
  refine bi_if_ge (tgt := 28) F dX10_comes_21 (by decide) (by omega) (fun c_2 => ?_) (fun c_2 => ?_)
  · refine lv_iload_n F.1 F.2.1 dX10_comes_28 rfl (lv_at hl 0 rfl) ?_
    refine call_G (As := [.ref (eA E j), .int (iI (A 2 ((A j 0) % (A 1 0)) - mm))]) (rest := []) F (c_passes l E I A j (A 2 ((A j 0) % (A 1 0)) - mm) hj hj2 (by omega) (by omega) hok hr) (cwV 2 F.2.2.2.2 gX10_comes_X10_passes rfl rfl rfl (by decide +kernel) ⟨Nat.le_of_ble_eq_true rfl, Nat.le_of_ble_eq_true rfl⟩) hw (m_recv hw) rfl hl.1 rfl (Nat.le_of_ble_eq_true rfl) dX10_comes_29 ⟨Nat.zero_le _, Nat.zero_le _⟩ (fun H locs hw => ?_)
    generalize eA3 : stA A j (mPass (A 3) (A j) (A 2 ((A j 0) % (A 1 0)) - mm) (A 1 1) (A 1 2)) = A3 at hw
    exact hret _ _ _ _ _ (mW_c rfl (by rw [← eA3]; unfold mIn; first | rw [if_pos (by omega)] | rw [if_neg (by omega)])) hw dX10_comes_32
  · refine bi_iconst F dX10_comes_24 ?_
    refine lv_goto (tgt := 29) F.1 F.2.1 dX10_comes_25 (by decide) ?_
    refine call_G (As := [.ref (eA E j), .int (iI 0)]) (rest := []) F (c_passes l E I A j 0 hj hj2 (by omega) (by omega) hok hr) (cwV 2 F.2.2.2.2 gX10_comes_X10_passes rfl rfl rfl (by decide +kernel) ⟨Nat.le_of_ble_eq_true rfl, Nat.le_of_ble_eq_true rfl⟩) hw (m_recv hw) rfl hl.1 rfl (Nat.le_of_ble_eq_true rfl) dX10_comes_29 ⟨Nat.zero_le _, Nat.zero_le _⟩ (fun H locs hw => ?_)
    generalize eA4 : stA A j (mPass (A 3) (A j) 0 (A 1 1) (A 1 2)) = A4 at hw
    exact hret _ _ _ _ _ (mW_c rfl (by rw [← eA4]; unfold mIn; first | rw [if_pos (by omega)] | rw [if_neg (by omega)])) hw dX10_comes_32
