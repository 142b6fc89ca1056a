set_option maxRecDepth 100000 in
set_option maxHeartbeats 4000000 in
theorem c_toldBy (l : Launch) (E : Ev) (I : Nat → Int) (A : Nat → Int → Int) (q : Int) (w : Int) (hq : 0 ≤ q ∧ q < A 1 2) (hq6 : q < 6) (hw1 : 0 ≤ w ∧ w < 40) (hf : ∀ k, 0 ≤ A 11 k ∧ A 11 k ≤ 900000) (hA : ∀ k, 0 ≤ A 3 k ∧ A 3 k ≤ 40) (hP : ∀ k, 0 ≤ A 4 k ∧ A 4 k ≤ 999) (hh : A 11 (13 + 2 * q) < 4) (hy : 0 < A 3 (5 * A 11 (13 + 2 * q) + 4)) : MetN l yX10_toldBy wsX10_toldBy ({ frames := 0, cells := 0, slots := 0, locals := 0 } : Room) E [.ref (eO E 0), .int (iI q), .int (iI w)] (mW E I A) (mTB A q w) := by
  have hin : ∀ w ∈ wsX100, w ∈ wsX10_toldBy := fun w h => in_tail h
  refine met_N (cc := cX10_toldBy) (nL := 6) (by decide) rfl (Nat.le_of_ble_eq_true rfl) ?_
  intro p e s m args below meth c Q H0 A0 H locs ls F hw hl hret
  have F : CallFix p m c cX10_toldBy 6 s args wsX10_toldBy RX10 := F
  have hl : lv_has ls 6 [(0, .ref (eO E 0)), (1, .int (iI q)), (2, .int (iI w))] := hl
  refine lv_aload_n F.1 F.2.1 dX10_toldBy_0 rfl (lv_at hl 0 rfl) ?_
  refine m_get F hin hw 13 (by decide) (by decide +kernel) rfl dX10_toldBy_1 ?_
  refine bi_bipush F dX10_toldBy_4 (by decide) ?_
  refine bi_iconst F dX10_toldBy_6 ?_
  refine lv_iload_n F.1 F.2.1 dX10_toldBy_7 rfl (lv_at hl 1 rfl) ?_
  refine bi_imul F dX10_toldBy_8 ?_
  refine bi_iadd F dX10_toldBy_9 ?_
  refine m_ld F hw 11 35 rfl (by decide) (by omega) dX10_toldBy_10 ?_
  have f_1 := hf (13 + (2 * q))
  refine lv_istore_n (lv' := [(3, .int (iI (A 11 (13 + (2 * q))))), (0, .ref (eO E 0)), (1, .int (iI q)), (2, .int (iI w))]) F.1 F.2.1 dX10_toldBy_11 rfl hl (by decide) rfl (fun ls hl => ?_)
  refine lv_iload_n F.1 F.2.1 dX10_toldBy_12 rfl (lv_at hl 0 rfl) ?_
  refine lv_iload_n F.1 F.2.1 dX10_toldBy_13 rfl (lv_at hl 3 rfl) ?_
  refine bi_bipush F dX10_toldBy_14 (by decide) ?_
  refine bi_idiv F dX10_toldBy_16 (by omega) ?_
  refine bi_icmp_ne (tgt := 27) F dX10_toldBy_17 (by decide) (by omega) (fun c_2 => ?_) (fun c_2 => ?_)
  · refine lv_aload_n F.1 F.2.1 dX10_toldBy_27 rfl (lv_at hl 1 rfl) ?_
    refine m_get F hin hw 13 (by decide) (by decide +kernel) rfl dX10_toldBy_28 ?_
    refine bi_iconst F dX10_toldBy_31 ?_
    refine bi_iconst F dX10_toldBy_32 ?_
    refine lv_iload_n F.1 F.2.1 dX10_toldBy_33 rfl (lv_at hl 0 rfl) ?_
    refine bi_imul F dX10_toldBy_34 ?_
    refine bi_iadd F dX10_toldBy_35 ?_
    refine bi_iconst F dX10_toldBy_36 ?_
    refine bi_iadd F dX10_toldBy_37 ?_
    refine m_ld F hw 11 35 rfl (by decide) (by omega) dX10_toldBy_38 ?_
    have f_3 := hf (1 + (3 * (A 11 (13 + (2 * q)))) + 1)
    refine lv_istore (lv' := [(4, .int (iI (A 11 (1 + (3 * (A 11 (13 + (2 * q)))) + 1)))), (3, .int (iI (A 11 (13 + (2 * q))))), (0, .ref (eO E 0)), (1, .int (iI q)), (2, .int (iI w))]) F.1 F.2.1 dX10_toldBy_39 hl (by decide) rfl (fun ls hl => ?_)
    refine lv_aload_n F.1 F.2.1 dX10_toldBy_41 rfl (lv_at hl 2 rfl) ?_
    refine m_get F hin hw 13 (by decide) (by decide +kernel) rfl dX10_toldBy_42 ?_
    refine bi_iconst F dX10_toldBy_45 ?_
    refine bi_iconst F dX10_toldBy_46 ?_
    refine lv_iload_n F.1 F.2.1 dX10_toldBy_47 rfl (lv_at hl 1 rfl) ?_
    refine bi_imul F dX10_toldBy_48 ?_
    refine bi_iadd F dX10_toldBy_49 ?_
    refine m_ld F hw 11 35 rfl (by decide) (by omega) dX10_toldBy_50 ?_
    have f_4 := hf (1 + (3 * (A 11 (13 + (2 * q)))))
    refine lv_iload F.1 F.2.1 dX10_toldBy_51 (lv_at hl 0 rfl) ?_
    refine bi_isub F dX10_toldBy_53 ?_
    refine lv_istore (lv' := [(5, .int (iI (A 11 (1 + (3 * (A 11 (13 + (2 * q))))) - (A 11 (1 + (3 * (A 11 (13 + (2 * q)))) + 1))))), (4, .int (iI (A 11 (1 + (3 * (A 11 (13 + (2 * q)))) + 1)))), (3, .int (iI (A 11 (13 + (2 * q))))), (0, .ref (eO E 0)), (1, .int (iI q)), (2, .int (iI w))]) F.1 F.2.1 dX10_toldBy_54 hl (by decide) rfl (fun ls hl => ?_)
    refine lv_aload_n F.1 F.2.1 dX10_toldBy_56 rfl (lv_at hl 3 rfl) ?_
    refine m_get F hin hw 6 (by decide) (by decide +kernel) rfl dX10_toldBy_57 ?_
    refine bi_iconst F dX10_toldBy_60 ?_
    refine lv_iload_n F.1 F.2.1 dX10_toldBy_61 rfl (lv_at hl 4 rfl) ?_
    refine bi_imul F dX10_toldBy_62 ?_
    refine bi_iconst F dX10_toldBy_63 ?_
    refine bi_iadd F dX10_toldBy_64 ?_
    refine m_ld F hw 4 12 rfl (by decide) (by omega) dX10_toldBy_65 ?_
    have f_5 := hP (2 * q + 1)
    refine lv_iload F.1 F.2.1 dX10_toldBy_66 (lv_at hl 0 rfl) ?_
    refine bi_if_ge (tgt := 75) F dX10_toldBy_68 (by decide) (by omega) (fun c_6 => ?_) (fun c_6 => ?_)
    · refine lv_iload F.1 F.2.1 dX10_toldBy_75 (lv_at hl 0 rfl) ?_
      refine bi_iadd F dX10_toldBy_77 ?_
      refine lv_aload_n F.1 F.2.1 dX10_toldBy_78 rfl (lv_at hl 3 rfl) ?_
      refine m_get F hin hw 5 (by decide) (by decide +kernel) rfl dX10_toldBy_79 ?_
      refine bi_iconst F dX10_toldBy_82 ?_
      refine lv_iload_n F.1 F.2.1 dX10_toldBy_83 rfl (lv_at hl 2 rfl) ?_
      refine bi_imul F dX10_toldBy_84 ?_
      refine bi_iconst F dX10_toldBy_85 ?_
      refine bi_iadd F dX10_toldBy_86 ?_
      refine m_ld F hw 3 20 rfl (by decide) (by omega) dX10_toldBy_87 ?_
      have f_7 := hA (5 * (A 11 (13 + (2 * q))) + 4)
      refine bi_idiv F dX10_toldBy_88 (by omega) ?_
      exact hret _ _ _ _ _ (by unfold mTB; first | (rw [if_pos (by omega), if_pos (by omega)]; done) | (rw [if_pos (show A 11 (13 + 2 * q) = w / 10 by omega)]; first | (rw [if_pos (by omega)]; done) | (rw [if_neg (by omega)]; done)) | (rw [if_neg (show ¬ A 11 (13 + 2 * q) = w / 10 by omega)]; first | (rw [if_pos (by omega)]; done) | (rw [if_neg (by omega)]; done))) hw dX10_toldBy_89
    · refine bi_iconst F dX10_toldBy_71 ?_
      refine lv_goto (tgt := 77) F.1 F.2.1 dX10_toldBy_72 (by decide) ?_
      refine bi_iadd F dX10_toldBy_77 ?_
      refine lv_aload_n F.1 F.2.1 dX10_toldBy_78 rfl (lv_at hl 3 rfl) ?_
      refine m_get F hin hw 5 (by decide) (by decide +kernel) rfl dX10_toldBy_79 ?_
      refine bi_iconst F dX10_toldBy_82 ?_
      refine lv_iload_n F.1 F.2.1 dX10_toldBy_83 rfl (lv_at hl 2 rfl) ?_
      refine bi_imul F dX10_toldBy_84 ?_
      refine bi_iconst F dX10_toldBy_85 ?_
      refine bi_iadd F dX10_toldBy_86 ?_
      refine m_ld F hw 3 20 rfl (by decide) (by omega) dX10_toldBy_87 ?_
      have f_8 := hA (5 * (A 11 (13 + (2 * q))) + 4)
      refine bi_idiv F dX10_toldBy_88 (by omega) ?_
      exact hret _ _ _ _ _ (by unfold mTB; first | (rw [if_pos (by omega), if_pos (by omega)]; done) | (rw [if_pos (show A 11 (13 + 2 * q) = w / 10 by omega)]; first | (rw [if_pos (by omega)]; done) | (rw [if_neg (by omega)]; done)) | (rw [if_neg (show ¬ A 11 (13 + 2 * q) = w / 10 by omega)]; first | (rw [if_pos (by omega)]; done) | (rw [if_neg (by omega)]; done))) hw dX10_toldBy_89
  · refine lv_iload_n F.1 F.2.1 dX10_toldBy_20 rfl (lv_at hl 3 rfl) ?_
    refine bi_bipush F dX10_toldBy_21 (by decide) ?_
    refine bi_irem F dX10_toldBy_23 (by omega) ?_
    refine lv_goto (tgt := 39) F.1 F.2.1 dX10_toldBy_24 (by decide) ?_
    refine lv_istore (lv' := [(4, .int (iI (w % 10))), (3, .int (iI (A 11 (13 + (2 * q))))), (0, .ref (eO E 0)), (1, .int (iI q)), (2, .int (iI w))]) F.1 F.2.1 dX10_toldBy_39 hl (by decide) rfl (fun ls hl => ?_)
    refine lv_aload_n F.1 F.2.1 dX10_toldBy_41 rfl (lv_at hl 2 rfl) ?_
    refine m_get F hin hw 13 (by decide) (by decide +kernel) rfl dX10_toldBy_42 ?_
    refine bi_iconst F dX10_toldBy_45 ?_
    refine bi_iconst F dX10_toldBy_46 ?_
    refine lv_iload_n F.1 F.2.1 dX10_toldBy_47 rfl (lv_at hl 1 rfl) ?_
    refine bi_imul F dX10_toldBy_48 ?_
    refine bi_iadd F dX10_toldBy_49 ?_
    refine m_ld F hw 11 35 rfl (by decide) (by omega) dX10_toldBy_50 ?_
    have f_9 := hf (1 + (3 * (A 11 (13 + (2 * q)))))
    refine lv_iload F.1 F.2.1 dX10_toldBy_51 (lv_at hl 0 rfl) ?_
    refine bi_isub F dX10_toldBy_53 ?_
    refine lv_istore (lv' := [(5, .int (iI (A 11 (1 + (3 * (A 11 (13 + (2 * q))))) - (w % 10)))), (4, .int (iI (w % 10))), (3, .int (iI (A 11 (13 + (2 * q))))), (0, .ref (eO E 0)), (1, .int (iI q)), (2, .int (iI w))]) F.1 F.2.1 dX10_toldBy_54 hl (by decide) rfl (fun ls hl => ?_)
    refine lv_aload_n F.1 F.2.1 dX10_toldBy_56 rfl (lv_at hl 3 rfl) ?_
    refine m_get F hin hw 6 (by decide) (by decide +kernel) rfl dX10_toldBy_57 ?_
    refine bi_iconst F dX10_toldBy_60 ?_
    refine lv_iload_n F.1 F.2.1 dX10_toldBy_61 rfl (lv_at hl 4 rfl) ?_
    refine bi_imul F dX10_toldBy_62 ?_
    refine bi_iconst F dX10_toldBy_63 ?_
    refine bi_iadd F dX10_toldBy_64 ?_
    refine m_ld F hw 4 12 rfl (by decide) (by omega) dX10_toldBy_65 ?_
    have f_10 := hP (2 * q + 1)
    refine lv_iload F.1 F.2.1 dX10_toldBy_66 (lv_at hl 0 rfl) ?_
    refine bi_if_ge (tgt := 75) F dX10_toldBy_68 (by decide) (by omega) (fun c_11 => ?_) (fun c_11 => ?_)
    · refine lv_iload F.1 F.2.1 dX10_toldBy_75 (lv_at hl 0 rfl) ?_
      refine bi_iadd F dX10_toldBy_77 ?_
      refine lv_aload_n F.1 F.2.1 dX10_toldBy_78 rfl (lv_at hl 3 rfl) ?_
      refine m_get F hin hw 5 (by decide) (by decide +kernel) rfl dX10_toldBy_79 ?_
      refine bi_iconst F dX10_toldBy_82 ?_
      refine lv_iload_n F.1 F.2.1 dX10_toldBy_83 rfl (lv_at hl 2 rfl) ?_
      refine bi_imul F dX10_toldBy_84 ?_
      refine bi_iconst F dX10_toldBy_85 ?_
      refine bi_iadd F dX10_toldBy_86 ?_
      refine m_ld F hw 3 20 rfl (by decide) (by omega) dX10_toldBy_87 ?_
      have f_12 := hA (5 * (A 11 (13 + (2 * q))) + 4)
      refine bi_idiv F dX10_toldBy_88 (by omega) ?_
      exact hret _ _ _ _ _ (by unfold mTB; first | (rw [if_pos (by omega), if_pos (by omega)]; done) | (rw [if_pos (show A 11 (13 + 2 * q) = w / 10 by omega)]; first | (rw [if_pos (by omega)]; done) | (rw [if_neg (by omega)]; done)) | (rw [if_neg (show ¬ A 11 (13 + 2 * q) = w / 10 by omega)]; first | (rw [if_pos (by omega)]; done) | (rw [if_neg (by omega)]; done))) hw dX10_toldBy_89
    · refine bi_iconst F dX10_toldBy_71 ?_
      refine lv_goto (tgt := 77) F.1 F.2.1 dX10_toldBy_72 (by decide) ?_
      refine bi_iadd F dX10_toldBy_77 ?_
      refine lv_aload_n F.1 F.2.1 dX10_toldBy_78 rfl (lv_at hl 3 rfl) ?_
      refine m_get F hin hw 5 (by decide) (by decide +kernel) rfl dX10_toldBy_79 ?_
      refine bi_iconst F dX10_toldBy_82 ?_
      refine lv_iload_n F.1 F.2.1 dX10_toldBy_83 rfl (lv_at hl 2 rfl) ?_
      refine bi_imul F dX10_toldBy_84 ?_
      refine bi_iconst F dX10_toldBy_85 ?_
      refine bi_iadd F dX10_toldBy_86 ?_
      refine m_ld F hw 3 20 rfl (by decide) (by omega) dX10_toldBy_87 ?_
      have f_13 := hA (5 * (A 11 (13 + (2 * q))) + 4)
      refine bi_idiv F dX10_toldBy_88 (by omega) ?_
      exact hret _ _ _ _ _ (by unfold mTB; first | (rw [if_pos (by omega), if_pos (by omega)]; done) | (rw [if_pos (show A 11 (13 + 2 * q) = w / 10 by omega)]; first | (rw [if_pos (by omega)]; done) | (rw [if_neg (by omega)]; done)) | (rw [if_neg (show ¬ A 11 (13 + 2 * q) = w / 10 by omega)]; first | (rw [if_pos (by omega)]; done) | (rw [if_neg (by omega)]; done))) hw dX10_toldBy_89
set_option maxRecDepth 100000 in
set_option maxHeartbeats 4000000 in
theorem c_lays (l : Launch) (E : Ev) (I : Nat → Int) (A : Nat → Int → Int) (h4 : 0 ≤ I 4 ∧ I 4 ≤ 6) (hs : ∀ k, 0 ≤ k ∧ k < I 4 → 0 ≤ A 16 (2 * k) ∧ A 16 (2 * k) < A 1 2) (hs2 : ∀ k, 0 ≤ A 16 k ∧ A 16 k ≤ 9999) (hok : mOk A) (hr : rOk (A 1 1) (A 1 2) (A 11) 500000) : MetF l yX10_lays wsX10_lays ({ frames := 1, cells := 0, slots := 0, locals := 25 } : Room) E [.ref (eO E 0)] (mW E I A) (mW E (I) (stA A 20 (mLays A (I 4) (10 * A 1 1).toNat).2)) ((mLays A (I 4) (10 * A 1 1).toNat).1) := by
  have hin : ∀ w ∈ wsX100, w ∈ wsX10_lays := fun w h => in_tail h
  refine met_F (cc := cX10_lays) (nL := 5) (by decide) rfl (Nat.le_of_ble_eq_true rfl) ?_
  intro p e s m args below meth c Q H0 A0 H locs ls F hw hl hret
  have F : CallFix p m c cX10_lays 5 s args wsX10_lays RX10 := F
  have hl : lv_has ls 5 [(0, .ref (eO E 0))] := hl
  obtain ⟨hV, hWn, hl0, hl1, hl2, hl3, hY, hPl, hPe⟩ := id hok
  have hA := hV
  have hf : ∀ k, 0 ≤ A 11 k ∧ A 11 k ≤ 900000 := (rOk_w hr (by decide)).1
  refine bi_iconst F dX10_lays_0 ?_
  refine lv_istore_n (lv' := [(1, .int (iI 0)), (0, .ref (eO E 0))]) F.1 F.2.1 dX10_lays_1 rfl hl (by decide) rfl (fun ls hl => ?_)
  refine bi_iconst F dX10_lays_2 ?_
  refine lv_istore_n (lv' := [(2, .int (iI 0)), (1, .int (iI 0)), (0, .ref (eO E 0))]) F.1 F.2.1 dX10_lays_3 rfl hl (by decide) rfl (fun ls hl => ?_)
  have loop_4 : ∀ (nf : Nat) (c2 : Int) (w : Int) (A1 : Nat → Int → Int) (H : Heap) (locs : List Loc) (ls : Array Slot) (hw2 : 0 ≤ w ∧ w ≤ 10 * A 1 1) (hc : c2 = (mLays A (I 4) w.toNat).1) (hA1 : A1 = stA A 20 (mLays A (I 4) w.toNat).2) (hw : gH E A0 H0 s (mW E I A1) H locs) (hl : lv_has ls 5 [(2, .int (iI w)), (1, .int (iI c2)), (0, .ref (eO E 0))]) (hnf : (10 * A 1 1 - w).toNat < nf), W p l e ({ frames := 1, cells := 0, slots := 0, locals := 25 } : Room) s m args below meth c H locs 0 0 Q (F0 m 4 ls []) := by
    intro nf
    induction nf with
    | zero =>
      intro c2 w A1 H locs ls hw2 hc hA1 hw hl hnf
      exact absurd hnf (Nat.not_lt_zero _)
    | succ nf ih_4 =>
      intro c2 w A1 H locs ls hw2 hc hA1 hw hl hnf
      have h1 : A1 1 = A 1 := by rw [hA1]; rfl
      have h3 : A1 3 = A 3 := by rw [hA1]; rfl
      have h4a : A1 4 = A 4 := by rw [hA1]; rfl
      have h11 : A1 11 = A 11 := by rw [hA1]; rfl
      have h16 : A1 16 = A 16 := by rw [hA1]; rfl
      have hTB : ∀ q, mTB A1 q w = mTB A q w := by rw [hA1]; intro q; rfl
      have hcb := (mLays_b (A := A) (g := I 4) w.toNat).1
      refine lv_iload_n F.1 F.2.1 dX10_lays_4 rfl (lv_at hl 0 rfl) ?_
      refine bi_bipush F dX10_lays_5 (by decide) ?_
      refine lv_aload_n F.1 F.2.1 dX10_lays_7 rfl (lv_at hl 2 rfl) ?_
      refine m_get F hin hw 3 (by decide) (by decide +kernel) rfl dX10_lays_8 ?_
      refine bi_iconst F dX10_lays_11 ?_
      refine m_ld F hw 1 4 rfl (by decide) (by omega) dX10_lays_12 ?_
      have f_1 := congrFun h1 (1)
      refine bi_imul F dX10_lays_13 ?_
      refine bi_icmp_ge (tgt := 95) F dX10_lays_14 (by decide) (by omega) (fun c_2 => ?_) (fun c_2 => ?_)
      · refine lv_iload_n F.1 F.2.1 dX10_lays_95 rfl (lv_at hl 1 rfl) ?_
        exact hret _ _ _ _ _ _ (by rw [hc, show w = 10 * A 1 1 by omega]) (mW_c rfl (by rw [hA1, show w = 10 * A 1 1 by omega])) hw dX10_lays_96
      · refine bi_iconst F dX10_lays_17 ?_
        refine lv_istore_n (lv' := [(3, .int (iI 1)), (2, .int (iI w)), (1, .int (iI c2)), (0, .ref (eO E 0))]) F.1 F.2.1 dX10_lays_18 rfl hl (by decide) rfl (fun ls hl => ?_)
        refine bi_iconst F dX10_lays_19 ?_
        refine lv_istore (lv' := [(4, .int (iI 0)), (3, .int (iI 1)), (2, .int (iI w)), (1, .int (iI c2)), (0, .ref (eO E 0))]) F.1 F.2.1 dX10_lays_20 hl (by decide) rfl (fun ls hl => ?_)
        have loop_22 : ∀ (nf : Nat) (b2 : Int) (k : Int) (H : Heap) (locs : List Loc) (ls : Array Slot) (hk : 0 ≤ k ∧ k ≤ I 4) (hb : b2 = mFit A w k.toNat) (hb2 : 0 ≤ b2 ∧ b2 ≤ 1) (hw : gH E A0 H0 s (mW E I A1) H locs) (hl : lv_has ls 5 [(4, .int (iI k)), (3, .int (iI b2)), (2, .int (iI w)), (1, .int (iI c2)), (0, .ref (eO E 0))]) (hnf : (I 4 - k).toNat < nf), W p l e ({ frames := 1, cells := 0, slots := 0, locals := 25 } : Room) s m args below meth c H locs 0 0 Q (F0 m 22 ls []) := by
          intro nf
          induction nf with
          | zero =>
            intro b2 k H locs ls hk hb hb2 hw hl hnf
            exact absurd hnf (Nat.not_lt_zero _)
          | succ nf ih_22 =>
            intro b2 k H locs ls hk hb hb2 hw hl hnf
            refine lv_iload F.1 F.2.1 dX10_lays_22 (lv_at hl 0 rfl) ?_
            refine lv_aload_n F.1 F.2.1 dX10_lays_24 rfl (lv_at hl 4 rfl) ?_
            refine m_get F hin hw 22 (by decide) (by decide +kernel) rfl dX10_lays_25 ?_
            refine bi_icmp_ge (tgt := 75) F dX10_lays_28 (by decide) (by omega) (fun c_3 => ?_) (fun c_3 => ?_)
            · have hfit : b2 = mFit A w (I 4).toNat := by rw [hb, show k = I 4 by omega]
              refine lv_iload_n F.1 F.2.1 dX10_lays_75 rfl (lv_at hl 1 rfl) ?_
              refine bi_if_eq (tgt := 89) F dX10_lays_76 (by decide) (by omega) (fun c_4 => ?_) (fun c_4 => ?_)
              · refine lv_iinc (v := iI (w + 1)) (lv' := [(2, .int (iI (w + 1))), (4, .int (iI k)), (3, .int (iI b2)), (1, .int (iI c2)), (0, .ref (eO E 0))]) F.1 F.2.1 dX10_lays_89 hl (k := 2) rfl (iI_add _ _).symm (by decide) rfl (fun ls hl => ?_)
                refine lv_goto (tgt := 4) F.1 F.2.1 dX10_lays_92 (by decide) ?_
                exact ih_4 c2 (w + 1) A1 H locs ls (by omega) (by rw [mLays_s hw2.1, ← hfit]; first | (rw [if_pos (by omega)]; omega) | (rw [if_neg (by omega)]; show _ = (mLays A (I 4) w.toNat).1 + 1; omega)) (by rw [mLays_s hw2.1, ← hfit]; first | (rw [if_pos (by omega)]; exact hA1) | (rw [if_neg (by omega), ← eA1, hA1, st2_A, hc])) hw (lv_sub hl [0, 3, 4] rfl) (by omega)
              · refine lv_aload_n F.1 F.2.1 dX10_lays_79 rfl (lv_at hl 4 rfl) ?_
                refine m_get F hin hw 29 (by decide) (by decide +kernel) rfl dX10_lays_80 ?_
                refine lv_iload_n F.1 F.2.1 dX10_lays_83 rfl (lv_at hl 3 rfl) ?_
                refine lv_iload_n F.1 F.2.1 dX10_lays_84 rfl (lv_at hl 2 rfl) ?_
                refine m_st F hw 20 40 rfl (by decide) (by omega) dX10_lays_85 (fun H locs hw => ?_)
                generalize eA5 : st2 A1 20 c2 w = A5 at hw
                refine lv_iinc (v := iI (c2 + 1)) (lv' := [(1, .int (iI (c2 + 1))), (4, .int (iI k)), (3, .int (iI b2)), (2, .int (iI w)), (0, .ref (eO E 0))]) F.1 F.2.1 dX10_lays_86 hl (k := 3) rfl (iI_add _ _).symm (by decide) rfl (fun ls hl => ?_)
                refine lv_iinc (v := iI (w + 1)) (lv' := [(2, .int (iI (w + 1))), (1, .int (iI (c2 + 1))), (4, .int (iI k)), (3, .int (iI b2)), (0, .ref (eO E 0))]) F.1 F.2.1 dX10_lays_89 hl (k := 3) rfl (iI_add _ _).symm (by decide) rfl (fun ls hl => ?_)
                refine lv_goto (tgt := 4) F.1 F.2.1 dX10_lays_92 (by decide) ?_
                exact ih_4 (c2 + 1) (w + 1) A5 H locs ls (by omega) (by rw [mLays_s hw2.1, ← hfit]; first | (rw [if_pos (by omega)]; omega) | (rw [if_neg (by omega)]; show _ = (mLays A (I 4) w.toNat).1 + 1; omega)) (by rw [mLays_s hw2.1, ← hfit]; first | (rw [if_pos (by omega)]; exact hA1) | (rw [if_neg (by omega), ← eA5, hA1, st2_A, hc])) hw (lv_sub hl [0, 1, 4] rfl) (by omega)
            · refine lv_iload_n F.1 F.2.1 dX10_lays_31 rfl (lv_at hl 1 rfl) ?_
              refine bi_if_eq (tgt := 67) F dX10_lays_32 (by decide) (by omega) (fun c_6 => ?_) (fun c_6 => ?_)
              · refine bi_iconst F dX10_lays_67 ?_
                refine lv_istore_n (lv' := [(3, .int (iI 0)), (4, .int (iI k)), (2, .int (iI w)), (1, .int (iI c2)), (0, .ref (eO E 0))]) F.1 F.2.1 dX10_lays_68 rfl hl (by decide) rfl (fun ls hl => ?_)
                refine lv_iinc (v := iI (k + 1)) (lv' := [(4, .int (iI (k + 1))), (3, .int (iI 0)), (2, .int (iI w)), (1, .int (iI c2)), (0, .ref (eO E 0))]) F.1 F.2.1 dX10_lays_69 hl (k := 1) rfl (iI_add _ _).symm (by decide) rfl (fun ls hl => ?_)
                refine lv_goto (tgt := 22) F.1 F.2.1 dX10_lays_72 (by decide) ?_
                exact ih_22 0 (k + 1) H locs ls (by omega) (by refine Eq.trans ?_ (fld_s (g := fun b k => if b = 0 then 0 else if mTB A (A 16 (2 * k)) w = A 16 (2 * k + 1) then 1 else 0) (z := 1) hk.1).symm; show _ = (if mFit A w k.toNat = 0 then 0 else if mTB A (A 16 (2 * k)) w = A 16 (2 * k + 1) then 1 else 0); rw [← hb]; first | (rw [if_pos (by omega)]; done) | (rw [if_neg (by omega), ← hTB, ← h16]; first | (rw [if_pos (by omega)]; done) | (rw [if_neg (by omega)]; done))) (by omega) hw (lv_sub hl [0, 1, 2, 3, 4] rfl) (by omega)
              · refine lv_aload_n F.1 F.2.1 dX10_lays_35 rfl (lv_at hl 4 rfl) ?_
                refine lv_aload_n F.1 F.2.1 dX10_lays_36 rfl (lv_at hl 4 rfl) ?_
                refine m_get F hin hw 21 (by decide) (by decide +kernel) rfl dX10_lays_37 ?_
                refine bi_iconst F dX10_lays_40 ?_
                refine lv_iload F.1 F.2.1 dX10_lays_41 (lv_at hl 0 rfl) ?_
                refine bi_imul F dX10_lays_43 ?_
                have hs3 := hs k (by omega)
                have hs4 := hs2 (2 * k + 1)
                have hhq := hr.2 (A 16 (2 * k)) (by omega)
                have hhf := hf (13 + 2 * A 16 (2 * k))
                have hyq := hY (A 11 (13 + 2 * A 16 (2 * k))) ⟨hhf.1, hhq⟩
                refine m_ld F hw 16 12 rfl (by decide) (by omega) dX10_lays_44 ?_
                have f_7 := congrFun h16 (2 * k)
                refine lv_iload_n F.1 F.2.1 dX10_lays_45 rfl (lv_at hl 2 rfl) ?_
                have hq16 : A1 16 (2 * k) = A 16 (2 * k) := by rw [h16]
                refine call_N (As := [.int (iI (A1 16 (2 * k))), .int (iI w)]) (rest := []) F (c_toldBy l E I A1 (A1 16 (2 * k)) w (by rw [h1]; omega) (by omega) (by omega) (by rw [h11]; exact hf) (by rw [h3]; exact hV) (by rw [h4a]; exact hPe) (by rw [h11, hq16]; omega) (by rw [h11, h3, hq16]; omega)) (cwV 2 F.2.2.2.2 gX10_lays_X10_toldBy rfl rfl rfl (by decide +kernel) ⟨Nat.le_of_ble_eq_true rfl, Nat.le_of_ble_eq_true rfl⟩) hw (m_recv hw) rfl hl.1 rfl (Nat.le_of_ble_eq_true rfl) dX10_lays_46 ⟨Nat.zero_le _, Nat.zero_le _⟩ (fun H locs hw => ?_)
                have f_8 := mTB_r (A := A1) (q := (A1 16 (2 * k))) (w := w) (by rw [h11]; exact hf) (by rw [h4a]; exact hPe) (by omega) (by rw [h11, h3, hq16]; omega)
                refine lv_aload_n F.1 F.2.1 dX10_lays_49 rfl (lv_at hl 4 rfl) ?_
                refine m_get F hin hw 21 (by decide) (by decide +kernel) rfl dX10_lays_50 ?_
                refine bi_iconst F dX10_lays_53 ?_
                refine lv_iload F.1 F.2.1 dX10_lays_54 (lv_at hl 0 rfl) ?_
                refine bi_imul F dX10_lays_56 ?_
                refine bi_iconst F dX10_lays_57 ?_
                refine bi_iadd F dX10_lays_58 ?_
                refine m_ld F hw 16 12 rfl (by decide) (by omega) dX10_lays_59 ?_
                have f_9 := congrFun h16 (2 * k + 1)
                refine bi_icmp_ne (tgt := 67) F dX10_lays_60 (by decide) (by omega) (fun c_10 => ?_) (fun c_10 => ?_)
                · refine bi_iconst F dX10_lays_67 ?_
                  refine lv_istore_n (lv' := [(3, .int (iI 0)), (4, .int (iI k)), (2, .int (iI w)), (1, .int (iI c2)), (0, .ref (eO E 0))]) F.1 F.2.1 dX10_lays_68 rfl hl (by decide) rfl (fun ls hl => ?_)
                  refine lv_iinc (v := iI (k + 1)) (lv' := [(4, .int (iI (k + 1))), (3, .int (iI 0)), (2, .int (iI w)), (1, .int (iI c2)), (0, .ref (eO E 0))]) F.1 F.2.1 dX10_lays_69 hl (k := 1) rfl (iI_add _ _).symm (by decide) rfl (fun ls hl => ?_)
                  refine lv_goto (tgt := 22) F.1 F.2.1 dX10_lays_72 (by decide) ?_
                  exact ih_22 0 (k + 1) H locs ls (by omega) (by refine Eq.trans ?_ (fld_s (g := fun b k => if b = 0 then 0 else if mTB A (A 16 (2 * k)) w = A 16 (2 * k + 1) then 1 else 0) (z := 1) hk.1).symm; show _ = (if mFit A w k.toNat = 0 then 0 else if mTB A (A 16 (2 * k)) w = A 16 (2 * k + 1) then 1 else 0); rw [← hb]; first | (rw [if_pos (by omega)]; done) | (rw [if_neg (by omega), ← hTB, ← h16]; first | (rw [if_pos (by omega)]; done) | (rw [if_neg (by omega)]; done))) (by omega) hw (lv_sub hl [0, 1, 2, 3, 4] rfl) (by omega)
                · refine bi_iconst F dX10_lays_63 ?_
                  refine lv_goto (tgt := 68) F.1 F.2.1 dX10_lays_64 (by decide) ?_
                  refine lv_istore_n (lv' := [(3, .int (iI 1)), (4, .int (iI k)), (2, .int (iI w)), (1, .int (iI c2)), (0, .ref (eO E 0))]) F.1 F.2.1 dX10_lays_68 rfl hl (by decide) rfl (fun ls hl => ?_)
                  refine lv_iinc (v := iI (k + 1)) (lv' := [(4, .int (iI (k + 1))), (3, .int (iI 1)), (2, .int (iI w)), (1, .int (iI c2)), (0, .ref (eO E 0))]) F.1 F.2.1 dX10_lays_69 hl (k := 1) rfl (iI_add _ _).symm (by decide) rfl (fun ls hl => ?_)
                  refine lv_goto (tgt := 22) F.1 F.2.1 dX10_lays_72 (by decide) ?_
                  exact ih_22 1 (k + 1) H locs ls (by omega) (by refine Eq.trans ?_ (fld_s (g := fun b k => if b = 0 then 0 else if mTB A (A 16 (2 * k)) w = A 16 (2 * k + 1) then 1 else 0) (z := 1) hk.1).symm; show _ = (if mFit A w k.toNat = 0 then 0 else if mTB A (A 16 (2 * k)) w = A 16 (2 * k + 1) then 1 else 0); rw [← hb]; first | (rw [if_pos (by omega)]; done) | (rw [if_neg (by omega), ← hTB, ← h16]; first | (rw [if_pos (by omega)]; done) | (rw [if_neg (by omega)]; done))) (by omega) hw (lv_sub hl [0, 1, 2, 3, 4] rfl) (by omega)
        exact loop_22 ((I 4 - 0 : Int).toNat + 1) 1 0 H locs ls (by omega) (rfl) (by omega) hw (lv_sub hl [0, 1, 2, 3, 4] rfl) (by omega)
  exact loop_4 ((10 * A 1 1 - 0 : Int).toNat + 1) 0 0 A H locs ls (by omega) (rfl) (stA_id.symm) hw (lv_sub hl [0, 1, 2] rfl) (by omega)
set_option maxRecDepth 100000 in
set_option maxHeartbeats 4000000 in
theorem c_sawn (l : Launch) (E : Ev) (I : Nat → Int) (A : Nat → Int → Int) (i : Int) (hi : -2147483648 ≤ i ∧ i ≤ 2147483647) (h4 : 0 ≤ I 4 ∧ I 4 ≤ 6) (hs : ∀ k, 0 ≤ k ∧ k < I 4 → 0 ≤ A 16 (2 * k) ∧ A 16 (2 * k) < A 1 2) (hs2 : ∀ k, 0 ≤ A 16 k ∧ A 16 k ≤ 9999) (hok : mOk A) (hr : rOk (A 1 1) (A 1 2) (A 11) 500000) : MetS l yX10_sawn wsX10_sawn ({ frames := 2, cells := 0, slots := 0, locals := 49 } : Room) E [.ref (eO E 0), .int (iI i)] I A (mSawnR I A i) := by
  have hin : ∀ w ∈ wsX100, w ∈ wsX10_sawn := fun w h => in_tail h
  refine met_S (cc := cX10_sawn) (nL := 3) (by decide) rfl (Nat.le_of_ble_eq_true rfl) ?_
  intro p e s m args below meth c Q H0 A0 H locs ls F hw hl hret
  have F : CallFix p m c cX10_sawn 3 s args wsX10_sawn RX10 := F
  have hl : lv_has ls 3 [(0, .ref (eO E 0)), (1, .int (iI i))] := hl
  obtain ⟨hV, hWn, hl0, hl1, hl2, hl3, hY, hPl, hPe⟩ := id hok
  have hA := hV
  have hf : ∀ k, 0 ≤ A 11 k ∧ A 11 k ≤ 900000 := (rOk_w hr (by decide)).1
  have hlb := (mLays_b (A := A) (g := I 4) (10 * A 1 1).toNat).1
  refine lv_aload_n F.1 F.2.1 dX10_sawn_0 rfl (lv_at hl 0 rfl) ?_
  refine call_F (As := []) (rest := []) F (c_lays l E I A  (by omega) hs hs2 hok hr) (cwV 0 F.2.2.2.2 gX10_sawn_X10_lays rfl rfl rfl (by decide +kernel) ⟨Nat.le_of_ble_eq_true rfl, Nat.le_of_ble_eq_true rfl⟩) hw (m_recv hw) rfl hl.1 rfl (Nat.le_of_ble_eq_true rfl) dX10_sawn_1 ⟨Nat.zero_le _, Nat.zero_le _⟩ (fun H locs hw => ?_)
  generalize eA1 : stA A 20 (mLays A (I 4) (10 * A 1 1).toNat).2 = A1 at hw
  refine lv_istore_n (lv' := [(2, .int (iI ((mLays A (I 4) (10 * A 1 1).toNat).1))), (0, .ref (eO E 0)), (1, .int (iI i))]) F.1 F.2.1 dX10_sawn_4 rfl hl (by decide) rfl (fun ls hl => ?_)
  have h20 : A1 20 = (mLays A (I 4) (10 * A 1 1).toNat).2 := by subst_vars; rfl
  refine lv_iload_n F.1 F.2.1 dX10_sawn_5 rfl (lv_at hl 2 rfl) ?_
  refine bi_iconst F dX10_sawn_6 ?_
  refine bi_icmp_ne (tgt := 14) F dX10_sawn_7 (by decide) (by omega) (fun c_2 => ?_) (fun c_2 => ?_)
  · refine lv_iload_n F.1 F.2.1 dX10_sawn_14 rfl (lv_at hl 2 rfl) ?_
    refine bi_iconst F dX10_sawn_15 ?_
    refine lv_iload_n F.1 F.2.1 dX10_sawn_16 rfl (lv_at hl 0 rfl) ?_
    refine bi_iconst F dX10_sawn_17 ?_
    refine bi_isub F dX10_sawn_18 ?_
    refine calls_P0 (As := [.int (iI i), .int (iI 0), .int (iI ((mLays A (I 4) (10 * A 1 1).toNat).1 - 1))]) (rest := []) F (c_in l E i 0 ((mLays A (I 4) (10 * A 1 1).toNat).1 - 1) (by omega) (by omega) (by omega)) (va_cwS 3 F.2.2.2.2 gX10_sawn_X10_in rfl rfl rfl (by decide +kernel) ⟨Nat.le_of_ble_eq_true rfl, Nat.le_of_ble_eq_true rfl⟩) hw rfl hl.1 rfl (Nat.le_of_ble_eq_true rfl) dX10_sawn_19 ⟨Nat.zero_le _, Nat.zero_le _⟩ (fun q_3 H locs hw => ?_) (fun q_3 H locs hw => ?_)
    · refine bi_if_eq (tgt := 34) F dX10_sawn_22 (by decide) (by decide) (fun q => absurd q (by decide)) (fun _ => ?_)
      refine lv_aload_n F.1 F.2.1 dX10_sawn_25 rfl (lv_at hl 1 rfl) ?_
      refine m_get F hin hw 29 (by decide) (by decide +kernel) rfl dX10_sawn_26 ?_
      refine lv_iload_n F.1 F.2.1 dX10_sawn_29 rfl (lv_at hl 2 rfl) ?_
      refine m_ld F hw 20 40 rfl (by decide) (by omega) dX10_sawn_30 ?_
      refine lv_goto (tgt := 35) F.1 F.2.1 dX10_sawn_31 (by decide) ?_
      exact hret _ _ _ _ _ _ (by unfold mSawnR; first | (rw [if_pos (by omega)]; done) | (rw [if_neg (by omega), if_pos (by omega), h20]; done) | (rw [if_neg (by omega), if_neg (by omega)]; done)) (by subst_vars; exact mSame_st (by decide)) hw dX10_sawn_35
    · refine bi_if_eq (tgt := 34) F dX10_sawn_22 (by decide) (by decide) (fun _ => ?_) (fun q => absurd q (by decide))
      refine bi_iconst F dX10_sawn_34 ?_
      exact hret _ _ _ _ _ _ (by unfold mSawnR; first | (rw [if_pos (by omega)]; done) | (rw [if_neg (by omega), if_pos (by omega), h20]; done) | (rw [if_neg (by omega), if_neg (by omega)]; done)) (by subst_vars; exact mSame_st (by decide)) hw dX10_sawn_35
  · refine lv_iload_n F.1 F.2.1 dX10_sawn_10 rfl (lv_at hl 0 rfl) ?_
    refine lv_goto (tgt := 35) F.1 F.2.1 dX10_sawn_11 (by decide) ?_
    exact hret _ _ _ _ _ _ (by unfold mSawnR; first | (rw [if_pos (by omega)]; done) | (rw [if_neg (by omega), if_pos (by omega), h20]; done) | (rw [if_neg (by omega), if_neg (by omega)]; done)) (by subst_vars; exact mSame_st (by decide)) hw dX10_sawn_35
