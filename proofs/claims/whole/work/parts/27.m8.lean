set_option maxRecDepth 100000 in
set_option maxHeartbeats 4000000 in
theorem c_ask (l : Launch) (E : Ev) (I : Nat → Int) (A : Nat → Int → Int) (h4 : 0 ≤ I 4 ∧ I 4 ≤ 6) (hs : ∀ k, 0 ≤ k ∧ k < I 4 → 0 ≤ A 16 (2 * k) ∧ A 16 (2 * k) < A 1 2) (hs2 : ∀ k, 0 ≤ A 16 k ∧ A 16 k ≤ 9999) (hok : mOk A) (hr : rOk (A 1 1) (A 1 2) (A 11) 500000) : MetS l yX10_ask wsX10_ask ({ frames := 2, cells := 0, slots := 0, locals := 49 } : Room) E [.ref (eO E 0)] I A (mAskR I A) := by
  have hin : ∀ w ∈ wsX100, w ∈ wsX10_ask := fun w h => in_tail h
  refine met_S (cc := cX10_ask) (nL := 9) (by decide) rfl (Nat.le_of_ble_eq_true rfl) ?_
  intro p e s m args below meth c Q H0 A0 H locs ls F hw hl hret
  have F : CallFix p m c cX10_ask 9 s args wsX10_ask RX10 := F
  have hl : lv_has ls 9 [(0, .ref (eO E 0))] := hl
  obtain ⟨hV, hWn, hl0, hl1, hl2, hl3, hY, hPl, hPe⟩ := id hok
  have hA := hV
  have hf : ∀ k, 0 ≤ A 11 k ∧ A 11 k ≤ 900000 := (rOk_w hr (by decide)).1
  have hlb := mLays_b (A := A) (g := I 4) (10 * A 1 1).toNat
  refine lv_aload_n F.1 F.2.1 dX10_ask_0 rfl (lv_at hl 0 rfl) ?_
  refine call_F (As := []) (rest := []) F (c_lays l E I A  (by omega) hs hs2 hok hr) (cwV 0 F.2.2.2.2 gX10_ask_X10_lays rfl rfl rfl (by decide +kernel) ⟨Nat.le_of_ble_eq_true rfl, Nat.le_of_ble_eq_true rfl⟩) hw (m_recv hw) rfl hl.1 rfl (Nat.le_of_ble_eq_true rfl) dX10_ask_1 ⟨Nat.zero_le _, Nat.zero_le _⟩ (fun H locs hw => ?_)
  generalize eA1 : stA A 20 (mLays A (I 4) (10 * A 1 1).toNat).2 = A1 at hw
  have h1 : A1 1 = A 1 := by subst_vars; rfl
  have h3 : A1 3 = A 3 := by subst_vars; rfl
  have h4a : A1 4 = A 4 := by subst_vars; rfl
  have h11 : A1 11 = A 11 := by subst_vars; rfl
  have h20 : A1 20 = (mLays A (I 4) (10 * A 1 1).toNat).2 := by subst_vars; rfl
  have hTB : ∀ q w, mTB A1 q w = mTB A q w := by subst_vars; intro q w; rfl
  refine lv_istore_n (lv' := [(1, .int (iI ((mLays A (I 4) (10 * A 1 1).toNat).1))), (0, .ref (eO E 0))]) F.1 F.2.1 dX10_ask_4 rfl hl (by decide) rfl (fun ls hl => ?_)
  refine bi_iconst F dX10_ask_5 ?_
  refine lv_istore_n (lv' := [(2, .int (iI (-1))), (1, .int (iI ((mLays A (I 4) (10 * A 1 1).toNat).1))), (0, .ref (eO E 0))]) F.1 F.2.1 dX10_ask_6 rfl hl (by decide) rfl (fun ls hl => ?_)
  refine lv_iload_n F.1 F.2.1 dX10_ask_7 rfl (lv_at hl 1 rfl) ?_
  refine lv_istore_n (lv' := [(3, .int (iI ((mLays A (I 4) (10 * A 1 1).toNat).1))), (2, .int (iI (-1))), (1, .int (iI ((mLays A (I 4) (10 * A 1 1).toNat).1))), (0, .ref (eO E 0))]) F.1 F.2.1 dX10_ask_8 rfl hl (by decide) rfl (fun ls hl => ?_)
  refine bi_iconst F dX10_ask_9 ?_
  refine lv_istore (lv' := [(4, .int (iI 0)), (3, .int (iI ((mLays A (I 4) (10 * A 1 1).toNat).1))), (2, .int (iI (-1))), (1, .int (iI ((mLays A (I 4) (10 * A 1 1).toNat).1))), (0, .ref (eO E 0))]) F.1 F.2.1 dX10_ask_10 hl (by decide) rfl (fun ls hl => ?_)
  have loop_12 : ∀ (nf : Nat) (be : Int) (le : Int) (q : Int) (H : Heap) (locs : List Loc) (ls : Array Slot) (hq : 0 ≤ q ∧ q ≤ A 1 2) (hbl : (be, le) = mAsk A (mLays A (I 4) (10 * A 1 1).toNat).2 (mLays A (I 4) (10 * A 1 1).toNat).1 q.toNat) (hle : 0 ≤ le ∧ le ≤ 40) (hw : gH E A0 H0 s (mW E I A1) H locs) (hl : lv_has ls 9 [(4, .int (iI q)), (3, .int (iI le)), (2, .int (iI be)), (1, .int (iI ((mLays A (I 4) (10 * A 1 1).toNat).1))), (0, .ref (eO E 0))]) (hnf : (A 1 2 - q).toNat < nf), W p l e ({ frames := 2, cells := 0, slots := 0, locals := 49 } : Room) s m args below meth c H locs 0 0 Q (F0 m 12 ls []) := by
    intro nf
    induction nf with
    | zero =>
      intro be le q H locs ls hq hbl hle hw hl hnf
      exact absurd hnf (Nat.not_lt_zero _)
    | succ nf ih_12 =>
      intro be le q H locs ls hq hbl hle hw hl hnf
      refine lv_iload F.1 F.2.1 dX10_ask_12 (lv_at hl 0 rfl) ?_
      refine lv_aload_n F.1 F.2.1 dX10_ask_14 rfl (lv_at hl 4 rfl) ?_
      refine m_get F hin hw 3 (by decide) (by decide +kernel) rfl dX10_ask_15 ?_
      refine bi_iconst F dX10_ask_18 ?_
      have hq1 : A1 1 2 = A 1 2 := by rw [h1]
      refine m_ld F hw 1 4 rfl (by decide) (by omega) dX10_ask_19 ?_
      refine bi_icmp_ge (tgt := 146) F dX10_ask_20 (by decide) (by omega) (fun c_2 => ?_) (fun c_2 => ?_)
      · refine lv_iload_n F.1 F.2.1 dX10_ask_146 rfl (lv_at hl 2 rfl) ?_
        exact hret _ _ _ _ _ _ (by unfold mAskR; rw [show mAsk A (mLays A (I 4) (10 * A 1 1).toNat).2 (mLays A (I 4) (10 * A 1 1).toNat).1 (A 1 2).toNat = (be, le) by rw [hbl, show q = A 1 2 by omega]]) (by subst_vars; exact mSame_st (by decide)) hw dX10_ask_147
      · refine bi_iconst F dX10_ask_23 ?_
        refine lv_istore (lv' := [(5, .int (iI 0)), (4, .int (iI q)), (3, .int (iI le)), (2, .int (iI be)), (1, .int (iI ((mLays A (I 4) (10 * A 1 1).toNat).1))), (0, .ref (eO E 0))]) F.1 F.2.1 dX10_ask_24 hl (by decide) rfl (fun ls hl => ?_)
        refine bi_iconst F dX10_ask_26 ?_
        refine lv_istore (lv' := [(6, .int (iI 0)), (5, .int (iI 0)), (4, .int (iI q)), (3, .int (iI le)), (2, .int (iI be)), (1, .int (iI ((mLays A (I 4) (10 * A 1 1).toNat).1))), (0, .ref (eO E 0))]) F.1 F.2.1 dX10_ask_27 hl (by decide) rfl (fun ls hl => ?_)
        have loop_29 : ∀ (nf : Nat) (mo : Int) (k : Int) (H : Heap) (locs : List Loc) (ls : Array Slot) (hk : 0 ≤ k ∧ k ≤ (mLays A (I 4) (10 * A 1 1).toNat).1) (hmo : mo = mMost A (mLays A (I 4) (10 * A 1 1).toNat).2 (mLays A (I 4) (10 * A 1 1).toNat).1 q k.toNat) (hmo1 : 0 ≤ mo ∧ mo ≤ 40) (hw : gH E A0 H0 s (mW E I A1) H locs) (hl : lv_has ls 9 [(6, .int (iI k)), (5, .int (iI mo)), (4, .int (iI q)), (3, .int (iI le)), (2, .int (iI be)), (1, .int (iI ((mLays A (I 4) (10 * A 1 1).toNat).1))), (0, .ref (eO E 0))]) (hnf : ((mLays A (I 4) (10 * A 1 1).toNat).1 - k).toNat < nf), W p l e ({ frames := 2, cells := 0, slots := 0, locals := 49 } : Room) s m args below meth c H locs 0 0 Q (F0 m 29 ls []) := by
          intro nf
          induction nf with
          | zero =>
            intro mo k H locs ls hk hmo hmo1 hw hl hnf
            exact absurd hnf (Nat.not_lt_zero _)
          | succ nf ih_29 =>
            intro mo k H locs ls hk hmo hmo1 hw hl hnf
            refine lv_iload F.1 F.2.1 dX10_ask_29 (lv_at hl 0 rfl) ?_
            refine lv_iload_n F.1 F.2.1 dX10_ask_31 rfl (lv_at hl 5 rfl) ?_
            refine bi_icmp_ge (tgt := 114) F dX10_ask_32 (by decide) (by omega) (fun c_3 => ?_) (fun c_3 => ?_)
            · have hmo2 : mo = mMost A (mLays A (I 4) (10 * A 1 1).toNat).2 (mLays A (I 4) (10 * A 1 1).toNat).1 q (mLays A (I 4) (10 * A 1 1).toNat).1.toNat := by rw [hmo, show k = (mLays A (I 4) (10 * A 1 1).toNat).1 by omega]
              refine lv_iload F.1 F.2.1 dX10_ask_114 (lv_at hl 1 rfl) ?_
              refine lv_iload_n F.1 F.2.1 dX10_ask_116 rfl (lv_at hl 3 rfl) ?_
              refine bi_icmp_ge (tgt := 125) F dX10_ask_117 (by decide) (by omega) (fun c_4 => ?_) (fun c_4 => ?_)
              · refine lv_iload_n F.1 F.2.1 dX10_ask_125 rfl (lv_at hl 4 rfl) ?_
                refine lv_istore_n (lv' := [(2, .int (iI be)), (6, .int (iI k)), (5, .int (iI mo)), (4, .int (iI q)), (3, .int (iI le)), (1, .int (iI ((mLays A (I 4) (10 * A 1 1).toNat).1))), (0, .ref (eO E 0))]) F.1 F.2.1 dX10_ask_126 rfl hl (by decide) rfl (fun ls hl => ?_)
                refine lv_iload F.1 F.2.1 dX10_ask_127 (lv_at hl 2 rfl) ?_
                refine lv_iload_n F.1 F.2.1 dX10_ask_129 rfl (lv_at hl 4 rfl) ?_
                refine bi_icmp_ge (tgt := 138) F dX10_ask_130 (by decide) (by omega) (fun c_5 => ?_) (fun c_5 => ?_)
                · refine lv_iload_n F.1 F.2.1 dX10_ask_138 rfl (lv_at hl 4 rfl) ?_
                  refine lv_istore_n (lv' := [(3, .int (iI le)), (2, .int (iI be)), (6, .int (iI k)), (5, .int (iI mo)), (4, .int (iI q)), (1, .int (iI ((mLays A (I 4) (10 * A 1 1).toNat).1))), (0, .ref (eO E 0))]) F.1 F.2.1 dX10_ask_139 rfl hl (by decide) rfl (fun ls hl => ?_)
                  refine lv_iinc (v := iI (q + 1)) (lv' := [(4, .int (iI (q + 1))), (3, .int (iI le)), (2, .int (iI be)), (6, .int (iI k)), (5, .int (iI mo)), (1, .int (iI ((mLays A (I 4) (10 * A 1 1).toNat).1))), (0, .ref (eO E 0))]) F.1 F.2.1 dX10_ask_140 hl (k := 4) rfl (iI_add _ _).symm (by decide) rfl (fun ls hl => ?_)
                  refine lv_goto (tgt := 12) F.1 F.2.1 dX10_ask_143 (by decide) ?_
                  exact ih_12 be le (q + 1) H locs ls (by omega) (by first | (exfalso; omega) | (refine Eq.trans ?_ (fld_s (g := fun (b : Int × Int) q => if mMost A (mLays A (I 4) (10 * A 1 1).toNat).2 (mLays A (I 4) (10 * A 1 1).toNat).1 q (mLays A (I 4) (10 * A 1 1).toNat).1.toNat < b.2 then (q, mMost A (mLays A (I 4) (10 * A 1 1).toNat).2 (mLays A (I 4) (10 * A 1 1).toNat).1 q (mLays A (I 4) (10 * A 1 1).toNat).1.toNat) else b) (z := (-1, (mLays A (I 4) (10 * A 1 1).toNat).1)) hq.1).symm; rw [show fld _ _ q.toNat = (be, le) from hbl.symm, ← hmo2]; first | (rw [if_pos (by show mo < le; omega)]; done) | (rw [if_neg (by show ¬ mo < le; omega)]; done))) (by omega) hw (lv_sub hl [0, 1, 2, 5, 6] rfl) (by omega)
                · refine lv_iload F.1 F.2.1 dX10_ask_133 (lv_at hl 2 rfl) ?_
                  refine lv_goto (tgt := 139) F.1 F.2.1 dX10_ask_135 (by decide) ?_
                  refine lv_istore_n (lv' := [(3, .int (iI mo)), (2, .int (iI be)), (6, .int (iI k)), (5, .int (iI mo)), (4, .int (iI q)), (1, .int (iI ((mLays A (I 4) (10 * A 1 1).toNat).1))), (0, .ref (eO E 0))]) F.1 F.2.1 dX10_ask_139 rfl hl (by decide) rfl (fun ls hl => ?_)
                  refine lv_iinc (v := iI (q + 1)) (lv' := [(4, .int (iI (q + 1))), (3, .int (iI mo)), (2, .int (iI be)), (6, .int (iI k)), (5, .int (iI mo)), (1, .int (iI ((mLays A (I 4) (10 * A 1 1).toNat).1))), (0, .ref (eO E 0))]) F.1 F.2.1 dX10_ask_140 hl (k := 4) rfl (iI_add _ _).symm (by decide) rfl (fun ls hl => ?_)
                  refine lv_goto (tgt := 12) F.1 F.2.1 dX10_ask_143 (by decide) ?_
                  exact ih_12 be mo (q + 1) H locs ls (by omega) (by first | (exfalso; omega) | (refine Eq.trans ?_ (fld_s (g := fun (b : Int × Int) q => if mMost A (mLays A (I 4) (10 * A 1 1).toNat).2 (mLays A (I 4) (10 * A 1 1).toNat).1 q (mLays A (I 4) (10 * A 1 1).toNat).1.toNat < b.2 then (q, mMost A (mLays A (I 4) (10 * A 1 1).toNat).2 (mLays A (I 4) (10 * A 1 1).toNat).1 q (mLays A (I 4) (10 * A 1 1).toNat).1.toNat) else b) (z := (-1, (mLays A (I 4) (10 * A 1 1).toNat).1)) hq.1).symm; rw [show fld _ _ q.toNat = (be, le) from hbl.symm, ← hmo2]; first | (rw [if_pos (by show mo < le; omega)]; done) | (rw [if_neg (by show ¬ mo < le; omega)]; done))) (by omega) hw (lv_sub hl [0, 1, 2, 5, 6] rfl) (by omega)
              · refine lv_iload F.1 F.2.1 dX10_ask_120 (lv_at hl 2 rfl) ?_
                refine lv_goto (tgt := 126) F.1 F.2.1 dX10_ask_122 (by decide) ?_
                refine lv_istore_n (lv' := [(2, .int (iI q)), (6, .int (iI k)), (5, .int (iI mo)), (4, .int (iI q)), (3, .int (iI le)), (1, .int (iI ((mLays A (I 4) (10 * A 1 1).toNat).1))), (0, .ref (eO E 0))]) F.1 F.2.1 dX10_ask_126 rfl hl (by decide) rfl (fun ls hl => ?_)
                refine lv_iload F.1 F.2.1 dX10_ask_127 (lv_at hl 2 rfl) ?_
                refine lv_iload_n F.1 F.2.1 dX10_ask_129 rfl (lv_at hl 4 rfl) ?_
                refine bi_icmp_ge (tgt := 138) F dX10_ask_130 (by decide) (by omega) (fun c_6 => ?_) (fun c_6 => ?_)
                · refine lv_iload_n F.1 F.2.1 dX10_ask_138 rfl (lv_at hl 4 rfl) ?_
                  refine lv_istore_n (lv' := [(3, .int (iI le)), (2, .int (iI q)), (6, .int (iI k)), (5, .int (iI mo)), (4, .int (iI q)), (1, .int (iI ((mLays A (I 4) (10 * A 1 1).toNat).1))), (0, .ref (eO E 0))]) F.1 F.2.1 dX10_ask_139 rfl hl (by decide) rfl (fun ls hl => ?_)
                  refine lv_iinc (v := iI (q + 1)) (lv' := [(4, .int (iI (q + 1))), (3, .int (iI le)), (2, .int (iI q)), (6, .int (iI k)), (5, .int (iI mo)), (1, .int (iI ((mLays A (I 4) (10 * A 1 1).toNat).1))), (0, .ref (eO E 0))]) F.1 F.2.1 dX10_ask_140 hl (k := 4) rfl (iI_add _ _).symm (by decide) rfl (fun ls hl => ?_)
                  refine lv_goto (tgt := 12) F.1 F.2.1 dX10_ask_143 (by decide) ?_
                  exact ih_12 q le (q + 1) H locs ls (by omega) (by first | (exfalso; omega) | (refine Eq.trans ?_ (fld_s (g := fun (b : Int × Int) q => if mMost A (mLays A (I 4) (10 * A 1 1).toNat).2 (mLays A (I 4) (10 * A 1 1).toNat).1 q (mLays A (I 4) (10 * A 1 1).toNat).1.toNat < b.2 then (q, mMost A (mLays A (I 4) (10 * A 1 1).toNat).2 (mLays A (I 4) (10 * A 1 1).toNat).1 q (mLays A (I 4) (10 * A 1 1).toNat).1.toNat) else b) (z := (-1, (mLays A (I 4) (10 * A 1 1).toNat).1)) hq.1).symm; rw [show fld _ _ q.toNat = (be, le) from hbl.symm, ← hmo2]; first | (rw [if_pos (by show mo < le; omega)]; done) | (rw [if_neg (by show ¬ mo < le; omega)]; done))) (by omega) hw (lv_sub hl [0, 1, 2, 5, 6] rfl) (by omega)
                · refine lv_iload F.1 F.2.1 dX10_ask_133 (lv_at hl 2 rfl) ?_
                  refine lv_goto (tgt := 139) F.1 F.2.1 dX10_ask_135 (by decide) ?_
                  refine lv_istore_n (lv' := [(3, .int (iI mo)), (2, .int (iI q)), (6, .int (iI k)), (5, .int (iI mo)), (4, .int (iI q)), (1, .int (iI ((mLays A (I 4) (10 * A 1 1).toNat).1))), (0, .ref (eO E 0))]) F.1 F.2.1 dX10_ask_139 rfl hl (by decide) rfl (fun ls hl => ?_)
                  refine lv_iinc (v := iI (q + 1)) (lv' := [(4, .int (iI (q + 1))), (3, .int (iI mo)), (2, .int (iI q)), (6, .int (iI k)), (5, .int (iI mo)), (1, .int (iI ((mLays A (I 4) (10 * A 1 1).toNat).1))), (0, .ref (eO E 0))]) F.1 F.2.1 dX10_ask_140 hl (k := 4) rfl (iI_add _ _).symm (by decide) rfl (fun ls hl => ?_)
                  refine lv_goto (tgt := 12) F.1 F.2.1 dX10_ask_143 (by decide) ?_
                  exact ih_12 q mo (q + 1) H locs ls (by omega) (by first | (exfalso; omega) | (refine Eq.trans ?_ (fld_s (g := fun (b : Int × Int) q => if mMost A (mLays A (I 4) (10 * A 1 1).toNat).2 (mLays A (I 4) (10 * A 1 1).toNat).1 q (mLays A (I 4) (10 * A 1 1).toNat).1.toNat < b.2 then (q, mMost A (mLays A (I 4) (10 * A 1 1).toNat).2 (mLays A (I 4) (10 * A 1 1).toNat).1 q (mLays A (I 4) (10 * A 1 1).toNat).1.toNat) else b) (z := (-1, (mLays A (I 4) (10 * A 1 1).toNat).1)) hq.1).symm; rw [show fld _ _ q.toNat = (be, le) from hbl.symm, ← hmo2]; first | (rw [if_pos (by show mo < le; omega)]; done) | (rw [if_neg (by show ¬ mo < le; omega)]; done))) (by omega) hw (lv_sub hl [0, 1, 2, 5, 6] rfl) (by omega)
            · refine bi_iconst F dX10_ask_35 ?_
              refine lv_istore (lv' := [(7, .int (iI 0)), (6, .int (iI k)), (5, .int (iI mo)), (4, .int (iI q)), (3, .int (iI le)), (2, .int (iI be)), (1, .int (iI ((mLays A (I 4) (10 * A 1 1).toNat).1))), (0, .ref (eO E 0))]) F.1 F.2.1 dX10_ask_36 hl (by decide) rfl (fun ls hl => ?_)
              refine bi_iconst F dX10_ask_38 ?_
              refine lv_istore (lv' := [(8, .int (iI 0)), (7, .int (iI 0)), (6, .int (iI k)), (5, .int (iI mo)), (4, .int (iI q)), (3, .int (iI le)), (2, .int (iI be)), (1, .int (iI ((mLays A (I 4) (10 * A 1 1).toNat).1))), (0, .ref (eO E 0))]) F.1 F.2.1 dX10_ask_39 hl (by decide) rfl (fun ls hl => ?_)
              have loop_41 : ∀ (nf : Nat) (al : Int) (j : Int) (H : Heap) (locs : List Loc) (ls : Array Slot) (hj : 0 ≤ j ∧ j ≤ (mLays A (I 4) (10 * A 1 1).toNat).1) (hal : al = mAlike A (mLays A (I 4) (10 * A 1 1).toNat).2 q k j.toNat) (hw : gH E A0 H0 s (mW E I A1) H locs) (hl : lv_has ls 9 [(8, .int (iI j)), (7, .int (iI al)), (6, .int (iI k)), (5, .int (iI mo)), (4, .int (iI q)), (3, .int (iI le)), (2, .int (iI be)), (1, .int (iI ((mLays A (I 4) (10 * A 1 1).toNat).1))), (0, .ref (eO E 0))]) (hnf : ((mLays A (I 4) (10 * A 1 1).toNat).1 - j).toNat < nf), W p l e ({ frames := 2, cells := 0, slots := 0, locals := 49 } : Room) s m args below meth c H locs 0 0 Q (F0 m 41 ls []) := by
                intro nf
                induction nf with
                | zero =>
                  intro al j H locs ls hj hal hw hl hnf
                  exact absurd hnf (Nat.not_lt_zero _)
                | succ nf ih_41 =>
                  intro al j H locs ls hj hal hw hl hnf
                  have hal1 := mAlike_b (A := A) (g := (mLays A (I 4) (10 * A 1 1).toNat).2) (q := q) (k := k) j.toNat
                  refine lv_iload F.1 F.2.1 dX10_ask_41 (lv_at hl 0 rfl) ?_
                  refine lv_iload_n F.1 F.2.1 dX10_ask_43 rfl (lv_at hl 7 rfl) ?_
                  refine bi_icmp_ge (tgt := 92) F dX10_ask_44 (by decide) (by omega) (fun c_7 => ?_) (fun c_7 => ?_)
                  · have hal2 : al = mAlike A (mLays A (I 4) (10 * A 1 1).toNat).2 q k (mLays A (I 4) (10 * A 1 1).toNat).1.toNat := by rw [hal, show j = (mLays A (I 4) (10 * A 1 1).toNat).1 by omega]
                    refine lv_iload F.1 F.2.1 dX10_ask_92 (lv_at hl 1 rfl) ?_
                    refine lv_iload F.1 F.2.1 dX10_ask_94 (lv_at hl 3 rfl) ?_
                    refine bi_icmp_le (tgt := 104) F dX10_ask_96 (by decide) (by omega) (fun c_8 => ?_) (fun c_8 => ?_)
                    · refine lv_iload F.1 F.2.1 dX10_ask_104 (lv_at hl 3 rfl) ?_
                      refine lv_istore (lv' := [(5, .int (iI mo)), (8, .int (iI j)), (7, .int (iI al)), (6, .int (iI k)), (4, .int (iI q)), (3, .int (iI le)), (2, .int (iI be)), (1, .int (iI ((mLays A (I 4) (10 * A 1 1).toNat).1))), (0, .ref (eO E 0))]) F.1 F.2.1 dX10_ask_106 hl (by decide) rfl (fun ls hl => ?_)
                      refine lv_iinc (v := iI (k + 1)) (lv' := [(6, .int (iI (k + 1))), (5, .int (iI mo)), (8, .int (iI j)), (7, .int (iI al)), (4, .int (iI q)), (3, .int (iI le)), (2, .int (iI be)), (1, .int (iI ((mLays A (I 4) (10 * A 1 1).toNat).1))), (0, .ref (eO E 0))]) F.1 F.2.1 dX10_ask_108 hl (k := 3) rfl (iI_add _ _).symm (by decide) rfl (fun ls hl => ?_)
                      refine lv_goto (tgt := 29) F.1 F.2.1 dX10_ask_111 (by decide) ?_
                      exact ih_29 mo (k + 1) H locs ls (by omega) (by refine Eq.trans ?_ (fld_s (g := fun mo k => if mo < mAlike A (mLays A (I 4) (10 * A 1 1).toNat).2 q k (mLays A (I 4) (10 * A 1 1).toNat).1.toNat then mAlike A (mLays A (I 4) (10 * A 1 1).toNat).2 q k (mLays A (I 4) (10 * A 1 1).toNat).1.toNat else mo) (z := 0) hk.1).symm; rw [show fld _ _ k.toNat = mo from hmo.symm, ← hal2]; first | (rw [if_pos (by omega)]; done) | (rw [if_neg (by omega)]; done)) (by omega) hw (lv_sub hl [0, 1, 4, 5, 6, 7, 8] rfl) (by omega)
                    · refine lv_iload F.1 F.2.1 dX10_ask_99 (lv_at hl 1 rfl) ?_
                      refine lv_goto (tgt := 106) F.1 F.2.1 dX10_ask_101 (by decide) ?_
                      refine lv_istore (lv' := [(5, .int (iI al)), (8, .int (iI j)), (7, .int (iI al)), (6, .int (iI k)), (4, .int (iI q)), (3, .int (iI le)), (2, .int (iI be)), (1, .int (iI ((mLays A (I 4) (10 * A 1 1).toNat).1))), (0, .ref (eO E 0))]) F.1 F.2.1 dX10_ask_106 hl (by decide) rfl (fun ls hl => ?_)
                      refine lv_iinc (v := iI (k + 1)) (lv' := [(6, .int (iI (k + 1))), (5, .int (iI al)), (8, .int (iI j)), (7, .int (iI al)), (4, .int (iI q)), (3, .int (iI le)), (2, .int (iI be)), (1, .int (iI ((mLays A (I 4) (10 * A 1 1).toNat).1))), (0, .ref (eO E 0))]) F.1 F.2.1 dX10_ask_108 hl (k := 3) rfl (iI_add _ _).symm (by decide) rfl (fun ls hl => ?_)
                      refine lv_goto (tgt := 29) F.1 F.2.1 dX10_ask_111 (by decide) ?_
                      exact ih_29 al (k + 1) H locs ls (by omega) (by refine Eq.trans ?_ (fld_s (g := fun mo k => if mo < mAlike A (mLays A (I 4) (10 * A 1 1).toNat).2 q k (mLays A (I 4) (10 * A 1 1).toNat).1.toNat then mAlike A (mLays A (I 4) (10 * A 1 1).toNat).2 q k (mLays A (I 4) (10 * A 1 1).toNat).1.toNat else mo) (z := 0) hk.1).symm; rw [show fld _ _ k.toNat = mo from hmo.symm, ← hal2]; first | (rw [if_pos (by omega)]; done) | (rw [if_neg (by omega)]; done)) (by omega) hw (lv_sub hl [0, 1, 4, 5, 6, 7, 8] rfl) (by omega)
                  · have hhq := hr.2 q (by omega)
                    have hhf := hf (13 + 2 * q)
                    have hyq := hY (A 11 (13 + 2 * q)) ⟨hhf.1, hhq⟩
                    have hg1 := hlb.2 k (by omega)
                    have hg2 := hlb.2 j (by omega)
                    have hp20 : ∀ z, A1 20 z = (mLays A (I 4) (10 * A 1 1).toNat).2 z := fun z => by rw [h20]
                    have hp1 := hp20 k
                    have hp2 := hp20 j
                    refine lv_iload F.1 F.2.1 dX10_ask_47 (lv_at hl 1 rfl) ?_
                    have join_83 : ∀ (y : Int) (hj_83 : y = if mTB A q ((mLays A (I 4) (10 * A 1 1).toNat).2 j) = mTB A q ((mLays A (I 4) (10 * A 1 1).toNat).2 k) then 1 else 0) (H : Heap) (locs : List Loc) (hw : gH E A0 H0 s (mW E I A1) H locs), W p l e ({ frames := 2, cells := 0, slots := 0, locals := 49 } : Room) s m args below meth c H locs 0 0 Q (F0 m 83 ls [.int (iI y), .int (iI al)]) := by
                      intro y hj_83 H locs hw
                      refine bi_iadd F dX10_ask_83 ?_
                      refine lv_istore (lv' := [(7, .int (iI (al + y))), (8, .int (iI j)), (6, .int (iI k)), (5, .int (iI mo)), (4, .int (iI q)), (3, .int (iI le)), (2, .int (iI be)), (1, .int (iI ((mLays A (I 4) (10 * A 1 1).toNat).1))), (0, .ref (eO E 0))]) F.1 F.2.1 dX10_ask_84 hl (by decide) rfl (fun ls hl => ?_)
                      refine lv_iinc (v := iI (j + 1)) (lv' := [(8, .int (iI (j + 1))), (7, .int (iI (al + y))), (6, .int (iI k)), (5, .int (iI mo)), (4, .int (iI q)), (3, .int (iI le)), (2, .int (iI be)), (1, .int (iI ((mLays A (I 4) (10 * A 1 1).toNat).1))), (0, .ref (eO E 0))]) F.1 F.2.1 dX10_ask_86 hl (k := 1) rfl (iI_add _ _).symm (by decide) rfl (fun ls hl => ?_)
                      refine lv_goto (tgt := 41) F.1 F.2.1 dX10_ask_89 (by decide) ?_
                      exact ih_41 (al + y) (j + 1) H locs ls (by omega) (by refine Eq.trans ?_ (fld_s (g := fun a j => a + if mTB A q ((mLays A (I 4) (10 * A 1 1).toNat).2 j) = mTB A q ((mLays A (I 4) (10 * A 1 1).toNat).2 k) then 1 else 0) (z := 0) hj.1).symm; rw [show fld _ _ j.toNat = al from hal.symm, hj_83]) hw (lv_sub hl [0, 1, 2, 3, 4, 5, 6, 7, 8] rfl) (by omega)
                    refine lv_aload_n F.1 F.2.1 dX10_ask_49 rfl (lv_at hl 8 rfl) ?_
                    refine lv_iload F.1 F.2.1 dX10_ask_50 (lv_at hl 4 rfl) ?_
                    refine lv_aload_n F.1 F.2.1 dX10_ask_52 rfl (lv_at hl 8 rfl) ?_
                    refine m_get F hin hw 29 (by decide) (by decide +kernel) rfl dX10_ask_53 ?_
                    refine lv_iload F.1 F.2.1 dX10_ask_56 (lv_at hl 0 rfl) ?_
                    refine m_ld F hw 20 40 rfl (by decide) (by omega) dX10_ask_58 ?_
                    refine call_N (As := [.int (iI q), .int (iI (A1 20 j))]) (rest := [.int (iI al)]) F (c_toldBy l E I A1 q (A1 20 j) (by rw [h1]; omega) (by omega) (by rw [h20]; omega) (by rw [h11]; exact hf) (by rw [h3]; exact hV) (by rw [h4a]; exact hPe) (by rw [h11]; omega) (by rw [h11, h3]; exact hyq)) (cwV 2 F.2.2.2.2 gX10_ask_X10_toldBy rfl rfl rfl (by decide +kernel) ⟨Nat.le_of_ble_eq_true rfl, Nat.le_of_ble_eq_true rfl⟩) hw (m_recv hw) rfl hl.1 rfl (Nat.le_of_ble_eq_true rfl) dX10_ask_59 ⟨Nat.zero_le _, Nat.zero_le _⟩ (fun H locs hw => ?_)
                    have f_9 := mTB_r (A := A1) (q := q) (w := (A1 20 j)) (by rw [h11]; exact hf) (by rw [h4a]; exact hPe) (by omega) (by rw [h11, h3]; exact hyq)
                    refine lv_aload_n F.1 F.2.1 dX10_ask_62 rfl (lv_at hl 8 rfl) ?_
                    refine lv_iload F.1 F.2.1 dX10_ask_63 (lv_at hl 4 rfl) ?_
                    refine lv_aload_n F.1 F.2.1 dX10_ask_65 rfl (lv_at hl 8 rfl) ?_
                    refine m_get F hin hw 29 (by decide) (by decide +kernel) rfl dX10_ask_66 ?_
                    refine lv_iload F.1 F.2.1 dX10_ask_69 (lv_at hl 2 rfl) ?_
                    refine m_ld F hw 20 40 rfl (by decide) (by omega) dX10_ask_71 ?_
                    refine call_N (As := [.int (iI q), .int (iI (A1 20 k))]) (rest := [.int (iI (mTB A1 q (A1 20 j))), .int (iI al)]) F (c_toldBy l E I A1 q (A1 20 k) (by rw [h1]; omega) (by omega) (by rw [h20]; omega) (by rw [h11]; exact hf) (by rw [h3]; exact hV) (by rw [h4a]; exact hPe) (by rw [h11]; omega) (by rw [h11, h3]; exact hyq)) (cwV 2 F.2.2.2.2 gX10_ask_X10_toldBy rfl rfl rfl (by decide +kernel) ⟨Nat.le_of_ble_eq_true rfl, Nat.le_of_ble_eq_true rfl⟩) hw (m_recv hw) rfl hl.1 rfl (Nat.le_of_ble_eq_true rfl) dX10_ask_72 ⟨Nat.zero_le _, Nat.zero_le _⟩ (fun H locs hw => ?_)
                    have f_10 := mTB_r (A := A1) (q := q) (w := (A1 20 k)) (by rw [h11]; exact hf) (by rw [h4a]; exact hPe) (by omega) (by rw [h11, h3]; exact hyq)
                    refine bi_icmp_ne (tgt := 82) F dX10_ask_75 (by decide) (by omega) (fun c_11 => ?_) (fun c_11 => ?_)
                    · refine bi_iconst F dX10_ask_82 ?_
                      exact join_83 0 (by rw [← hTB, ← hTB, ← hp1, ← hp2]; first | (rw [if_pos (by omega)]; done) | (rw [if_neg (by omega)]; done)) H locs hw
                    · refine bi_iconst F dX10_ask_78 ?_
                      refine lv_goto (tgt := 83) F.1 F.2.1 dX10_ask_79 (by decide) ?_
                      exact join_83 1 (by rw [← hTB, ← hTB, ← hp1, ← hp2]; first | (rw [if_pos (by omega)]; done) | (rw [if_neg (by omega)]; done)) H locs hw
              exact loop_41 (((mLays A (I 4) (10 * A 1 1).toNat).1 - 0 : Int).toNat + 1) 0 0 H locs ls (by omega) (rfl) hw (lv_sub hl [0, 1, 2, 3, 4, 5, 6, 7, 8] rfl) (by omega)
        exact loop_29 (((mLays A (I 4) (10 * A 1 1).toNat).1 - 0 : Int).toNat + 1) 0 0 H locs ls (by omega) (rfl) (by omega) hw (lv_sub hl [0, 1, 2, 3, 4, 5, 6] rfl) (by omega)
  exact loop_12 ((A 1 2 - 0 : Int).toNat + 1) (-1) ((mLays A (I 4) (10 * A 1 1).toNat).1) 0 H locs ls (by omega) (rfl) (by omega) hw (lv_sub hl [0, 1, 2, 3, 4] rfl) (by omega)
