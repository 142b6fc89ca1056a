set_option maxRecDepth 100000 in
set_option maxHeartbeats 4000000 in
theorem c_copies (l : Launch) (E : Ev) (I : Nat → Int) (A : Nat → Int → Int) (i : Nat) (x : Int) (j : Nat) (y : Int) (n : Int) (ni : Nat) (nj : Nat) (hni : mLen i = ni) (hnj : mLen j = nj) (hi : i < 21) (hj : j < 21) (hij : i ≠ j) (hx : 0 ≤ x ∧ x + n ≤ (ni : Int)) (hy : 0 ≤ y ∧ y + n ≤ (nj : Int)) (hn : 0 ≤ n) (hb : ni ≤ 1000 ∧ nj ≤ 1000) : MetG l yX10_copies wsX10_copies ({ frames := 0, cells := 0, slots := 0, locals := 0 } : Room) E [.ref (eA E i), .int (iI x), .ref (eA E j), .int (iI y), .int (iI n)] (mW E I A) (mW E (I) (stA A j (cpI (A i) (A j) x y n))) := by
  refine met_G (cc := cX10_copies) (nL := 6) (by decide) rfl (Nat.le_of_ble_eq_true rfl) ?_
  intro p e s m args below meth c Q H0 A0 H locs ls F hw hl hret
  have F : CallFix p m c cX10_copies 6 s args wsX10_copies RX10 := F
  have hl : lv_has ls 6 [(0, .ref (eA E i)), (1, .int (iI x)), (2, .ref (eA E j)), (3, .int (iI y)), (4, .int (iI n))] := hl
  refine bi_iconst F dX10_copies_0 ?_
  refine lv_istore (lv' := [(5, .int (iI 0)), (0, .ref (eA E i)), (1, .int (iI x)), (2, .ref (eA E j)), (3, .int (iI y)), (4, .int (iI n))]) F.1 F.2.1 dX10_copies_1 hl (by decide) rfl (fun ls hl => ?_)
  have loop_3 : ∀ (nf : Nat) (k : Int) (A1 : Nat → Int → Int) (H : Heap) (locs : List Loc) (ls : Array Slot) (hk : 0 ≤ k ∧ k ≤ n) (hA1 : A1 = stA A j (cpI (A i) (A j) x y k)) (hw : gH E A0 H0 s (mW E I A1) H locs) (hl : lv_has ls 6 [(5, .int (iI k)), (0, .ref (eA E i)), (1, .int (iI x)), (2, .ref (eA E j)), (3, .int (iI y)), (4, .int (iI n))]) (hnf : (n - k).toNat < nf), W p l e ({ frames := 0, cells := 0, slots := 0, locals := 0 } : Room) s m args below meth c H locs 0 0 Q (F0 m 3 ls []) := by
    intro nf
    induction nf with
    | zero =>
      intro k A1 H locs ls hk hA1 hw hl hnf
      exact absurd hnf (Nat.not_lt_zero _)
    | succ nf ih_3 =>
      intro k A1 H locs ls hk hA1 hw hl hnf
      refine lv_iload F.1 F.2.1 dX10_copies_3 (lv_at hl 0 rfl) ?_
      refine lv_iload F.1 F.2.1 dX10_copies_5 (lv_at hl 5 rfl) ?_
      refine bi_icmp_ge (tgt := 28) F dX10_copies_7 (by decide) (by omega) (fun c_1 => ?_) (fun c_1 => ?_)
      · exact hret _ _ _ _ _ (mW_c rfl (by rw [hA1, show k = n by omega])) hw dX10_copies_28
      · refine lv_aload_n F.1 F.2.1 dX10_copies_10 rfl (lv_at hl 3 rfl) ?_
        refine lv_iload_n F.1 F.2.1 dX10_copies_11 rfl (lv_at hl 4 rfl) ?_
        refine lv_iload F.1 F.2.1 dX10_copies_12 (lv_at hl 0 rfl) ?_
        refine bi_iadd F dX10_copies_14 ?_
        refine lv_aload_n F.1 F.2.1 dX10_copies_15 rfl (lv_at hl 1 rfl) ?_
        refine lv_iload_n F.1 F.2.1 dX10_copies_16 rfl (lv_at hl 2 rfl) ?_
        refine lv_iload F.1 F.2.1 dX10_copies_17 (lv_at hl 0 rfl) ?_
        refine bi_iadd F dX10_copies_19 ?_
        refine m_ld F hw i ni hni hi (by omega) dX10_copies_20 ?_
        refine m_st F hw j nj hnj hj (by omega) dX10_copies_21 (fun H locs hw => ?_)
        generalize eA2 : st2 A1 j (y + k) (A1 i (x + k)) = A2 at hw
        refine lv_iinc (v := iI (k + 1)) (lv' := [(5, .int (iI (k + 1))), (0, .ref (eA E i)), (1, .int (iI x)), (2, .ref (eA E j)), (3, .int (iI y)), (4, .int (iI n))]) F.1 F.2.1 dX10_copies_22 hl (k := 0) rfl (iI_add _ _).symm (by decide) rfl (fun ls hl => ?_)
        refine lv_goto (tgt := 3) F.1 F.2.1 dX10_copies_25 (by decide) ?_
        exact ih_3 (k + 1) A2 H locs ls (by omega) (by rw [← eA2, hA1, st2_A, stA_n hij, cpI_s hk.1]) hw (lv_sub hl [0, 1, 2, 3, 4, 5] rfl) (by omega)
  exact loop_3 ((n - 0).toNat + 1) 0 A H locs ls (by omega) (by rw [cpI_0, stA_id]) hw (lv_sub hl [0, 1, 2, 3, 4, 5] rfl) (by omega)
set_option maxRecDepth 100000 in
set_option maxHeartbeats 4000000 in
theorem c_dueIn (l : Launch) (E : Ev) (I : Nat → Int) (A : Nat → Int → Int) (j : Nat) (hj : mLen j = 35) (hj2 : j < 21) (hf : ∀ k, 0 ≤ A j k ∧ A j k ≤ 900000) (h3 : 0 ≤ A 1 3 ∧ A 1 3 ≤ 5) (hPl : ∀ d, 0 ≤ d ∧ d < A 1 3 → 0 ≤ A 5 (2 * d) ∧ A 5 (2 * d) < 4) : MetN l yX10_dueIn wsX10_dueIn ({ frames := 2, cells := 0, slots := 0, locals := 44 } : Room) E [.ref (eO E 0), .ref (eA E j)] (mW E I A) (mDues (A 5) (A j) (A 1 3).toNat) := by
  have hin : ∀ w ∈ wsX100, w ∈ wsX10_dueIn := fun w h => in_tail h
  refine met_N (cc := cX10_dueIn) (nL := 4) (by decide) rfl (Nat.le_of_ble_eq_true rfl) ?_
  intro p e s m args below meth c Q H0 A0 H locs ls F hw hl hret
  have F : CallFix p m c cX10_dueIn 4 s args wsX10_dueIn RX10 := F
  have hl : lv_has ls 4 [(0, .ref (eO E 0)), (1, .ref (eA E j))] := hl
  refine bi_iconst F dX10_dueIn_0 ?_
  refine lv_istore_n (lv' := [(2, .int (iI 0)), (0, .ref (eO E 0)), (1, .ref (eA E j))]) F.1 F.2.1 dX10_dueIn_1 rfl hl (by decide) rfl (fun ls hl => ?_)
  refine bi_iconst F dX10_dueIn_2 ?_
  refine lv_istore_n (lv' := [(3, .int (iI 0)), (2, .int (iI 0)), (0, .ref (eO E 0)), (1, .ref (eA E j))]) F.1 F.2.1 dX10_dueIn_3 rfl hl (by decide) rfl (fun ls hl => ?_)
  have loop_4 : ∀ (nf : Nat) (a : Int) (k : Int) (H : Heap) (locs : List Loc) (ls : Array Slot) (hk : 0 ≤ k ∧ k ≤ A 1 3) (ha : a = mDues (A 5) (A j) k.toNat) (hw : gH E A0 H0 s (mW E I A) H locs) (hl : lv_has ls 4 [(3, .int (iI k)), (2, .int (iI a)), (0, .ref (eO E 0)), (1, .ref (eA E j))]) (hnf : (A 1 3 - k).toNat < nf), W p l e ({ frames := 2, cells := 0, slots := 0, locals := 44 } : Room) s m args below meth c H locs 0 0 Q (F0 m 4 ls []) := by
    intro nf
    induction nf with
    | zero =>
      intro a k H locs ls hk ha hw hl hnf
      exact absurd hnf (Nat.not_lt_zero _)
    | succ nf ih_4 =>
      intro a k H locs ls hk ha hw hl hnf
      refine lv_iload_n F.1 F.2.1 dX10_dueIn_4 rfl (lv_at hl 0 rfl) ?_
      refine lv_aload_n F.1 F.2.1 dX10_dueIn_5 rfl (lv_at hl 2 rfl) ?_
      refine m_get F hin hw 3 (by decide) (by decide +kernel) rfl dX10_dueIn_6 ?_
      refine bi_iconst F dX10_dueIn_9 ?_
      refine m_ld F hw 1 4 rfl (by decide) (by omega) dX10_dueIn_10 ?_
      refine bi_icmp_ge (tgt := 39) F dX10_dueIn_11 (by decide) (by omega) (fun c_1 => ?_) (fun c_1 => ?_)
      · refine lv_iload_n F.1 F.2.1 dX10_dueIn_39 rfl (lv_at hl 1 rfl) ?_
        exact hret _ _ _ _ _ (by rw [ha, show k = A 1 3 by omega]) hw dX10_dueIn_40
      · refine lv_iload_n F.1 F.2.1 dX10_dueIn_14 rfl (lv_at hl 1 rfl) ?_
        have join_31 : ∀ (x : Int) (hj_31 : x = mDueB (A 5) (A j) k) (H : Heap) (locs : List Loc) (hw : gH E A0 H0 s (mW E I A) H locs), W p l e ({ frames := 2, cells := 0, slots := 0, locals := 44 } : Room) s m args below meth c H locs 0 0 Q (F0 m 31 ls [.int (iI x), .int (iI a)]) := by
          intro x hj_31 H locs hw
          refine bi_ior F dX10_dueIn_31 ?_
          have f_2 := iOr_r a x
          refine lv_istore_n (lv' := [(2, .int (iI (iOr a x))), (3, .int (iI k)), (0, .ref (eO E 0)), (1, .ref (eA E j))]) F.1 F.2.1 dX10_dueIn_32 rfl hl (by decide) rfl (fun ls hl => ?_)
          refine lv_iinc (v := iI (k + 1)) (lv' := [(3, .int (iI (k + 1))), (2, .int (iI (iOr a x))), (0, .ref (eO E 0)), (1, .ref (eA E j))]) F.1 F.2.1 dX10_dueIn_33 hl (k := 1) rfl (iI_add _ _).symm (by decide) rfl (fun ls hl => ?_)
          refine lv_goto (tgt := 4) F.1 F.2.1 dX10_dueIn_36 (by decide) ?_
          exact ih_4 (iOr a x) (k + 1) H locs ls (by omega) (by rw [ha, hj_31]; exact (fld_s (g := fun a d => iOr a (mDueB (A 5) (A j) d)) (z := 0) hk.1).symm) hw (lv_sub hl [0, 1, 2, 3] rfl) (by omega)
        have hp1 := hPl k (by omega)
        refine lv_aload_n F.1 F.2.1 dX10_dueIn_15 rfl (lv_at hl 2 rfl) ?_
        refine lv_aload_n F.1 F.2.1 dX10_dueIn_16 rfl (lv_at hl 3 rfl) ?_
        refine lv_iload_n F.1 F.2.1 dX10_dueIn_17 rfl (lv_at hl 0 rfl) ?_
        refine call_P (As := [.ref (eA E j), .int (iI k)]) (rest := [.int (iI a)]) F (c_isDue l E I A j k hj hj2 (by omega) hf (by omega)) (cwV 2 F.2.2.2.2 gX10_dueIn_X10_isDue rfl rfl rfl (by decide +kernel) ⟨Nat.le_of_ble_eq_true rfl, Nat.le_of_ble_eq_true rfl⟩) hw (m_recv hw) rfl hl.1 rfl (Nat.le_of_ble_eq_true rfl) dX10_dueIn_18 ⟨Nat.zero_le _, Nat.zero_le _⟩ (fun q_3 H locs hw => ?_) (fun q_3 H locs hw => ?_)
        · refine bi_if_eq (tgt := 30) F dX10_dueIn_21 (by decide) (by decide) (fun q => absurd q (by decide)) (fun _ => ?_)
          refine bi_iconst F dX10_dueIn_24 ?_
          refine lv_iload_n F.1 F.2.1 dX10_dueIn_25 rfl (lv_at hl 0 rfl) ?_
          refine bi_ishl F dX10_dueIn_26 ?_
          have f_5 := iShl_r 1 k
          refine lv_goto (tgt := 31) F.1 F.2.1 dX10_dueIn_27 (by decide) ?_
          exact join_31 (iShl 1 k) (by first | exact (mDueB_t (by assumption)).symm | exact (mDueB_f (by assumption)).symm) H locs hw
        · refine bi_if_eq (tgt := 30) F dX10_dueIn_21 (by decide) (by decide) (fun _ => ?_) (fun q => absurd q (by decide))
          refine bi_iconst F dX10_dueIn_30 ?_
          exact join_31 0 (by first | exact (mDueB_t (by assumption)).symm | exact (mDueB_f (by assumption)).symm) H locs hw
  exact loop_4 ((A 1 3 - 0).toNat + 1) 0 0 H locs ls (by omega) (rfl) hw (lv_sub hl [0, 1, 2, 3] rfl) (by omega)
set_option maxRecDepth 100000 in
set_option maxHeartbeats 4000000 in
theorem c_green (l : Launch) (E : Ev) (I : Nat → Int) (A : Nat → Int → Int) (hok : mOk A) : MetN l yX10_green wsX10_green ({ frames := 2, cells := 0, slots := 0, locals := 49 } : Room) E [.ref (eO E 0)] (mW E I A) (mGreen (A 3) (A 2) (A 1 1).toNat (A 1 0).toNat) := by
  have hin : ∀ w ∈ wsX100, w ∈ wsX10_green := fun w h => in_tail h
  refine met_N (cc := cX10_green) (nL := 5) (by decide) rfl (Nat.le_of_ble_eq_true rfl) ?_
  intro p e s m args below meth c Q H0 A0 H locs ls F hw hl hret
  have F : CallFix p m c cX10_green 5 s args wsX10_green RX10 := F
  have hl : lv_has ls 5 [(0, .ref (eO E 0))] := hl
  obtain ⟨hV, hWn, hl0, hl1, hl2, hl3, hY, hPl, hPe⟩ := id hok
  have hA := hV
  refine bi_iconst F dX10_green_0 ?_
  refine lv_istore_n (lv' := [(1, .int (iI 0)), (0, .ref (eO E 0))]) F.1 F.2.1 dX10_green_1 rfl hl (by decide) rfl (fun ls hl => ?_)
  refine bi_iconst F dX10_green_2 ?_
  refine lv_istore_n (lv' := [(2, .int (iI 0)), (1, .int (iI 0)), (0, .ref (eO E 0))]) F.1 F.2.1 dX10_green_3 rfl hl (by decide) rfl (fun ls hl => ?_)
  have loop_4 : ∀ (nf : Nat) (a : Int) (k : Int) (H : Heap) (locs : List Loc) (ls : Array Slot) (hk : 0 ≤ k ∧ k ≤ A 1 0) (ha : a = fld (fun a k => iOr a (if mGr (A 3) (A 2 k) (A 1 1).toNat = 0 then 0 else iShl 1 k)) 0 k.toNat) (hw : gH E A0 H0 s (mW E I A) H locs) (hl : lv_has ls 5 [(2, .int (iI k)), (1, .int (iI a)), (0, .ref (eO E 0))]) (hnf : (A 1 0 - k).toNat < nf), W p l e ({ frames := 2, cells := 0, slots := 0, locals := 49 } : Room) s m args below meth c H locs 0 0 Q (F0 m 4 ls []) := by
    intro nf
    induction nf with
    | zero =>
      intro a k H locs ls hk ha hw hl hnf
      exact absurd hnf (Nat.not_lt_zero _)
    | succ nf ih_4 =>
      intro a k H locs ls hk ha hw hl hnf
      refine lv_iload_n F.1 F.2.1 dX10_green_4 rfl (lv_at hl 0 rfl) ?_
      refine lv_aload_n F.1 F.2.1 dX10_green_5 rfl (lv_at hl 2 rfl) ?_
      refine m_get F hin hw 3 (by decide) (by decide +kernel) rfl dX10_green_6 ?_
      refine bi_iconst F dX10_green_9 ?_
      refine m_ld F hw 1 4 rfl (by decide) (by omega) dX10_green_10 ?_
      refine bi_icmp_ge (tgt := 81) F dX10_green_11 (by decide) (by omega) (fun c_1 => ?_) (fun c_1 => ?_)
      · refine lv_iload_n F.1 F.2.1 dX10_green_81 rfl (lv_at hl 1 rfl) ?_
        exact hret _ _ _ _ _ (by rw [ha, show k = A 1 0 by omega]; rfl) hw dX10_green_82
      · refine bi_iconst F dX10_green_14 ?_
        refine lv_istore_n (lv' := [(3, .int (iI 1)), (2, .int (iI k)), (1, .int (iI a)), (0, .ref (eO E 0))]) F.1 F.2.1 dX10_green_15 rfl hl (by decide) rfl (fun ls hl => ?_)
        refine bi_iconst F dX10_green_16 ?_
        refine lv_istore (lv' := [(4, .int (iI 0)), (3, .int (iI 1)), (2, .int (iI k)), (1, .int (iI a)), (0, .ref (eO E 0))]) F.1 F.2.1 dX10_green_17 hl (by decide) rfl (fun ls hl => ?_)
        have loop_19 : ∀ (nf : Nat) (b : Int) (v : Int) (H : Heap) (locs : List Loc) (ls : Array Slot) (hv : 0 ≤ v ∧ v ≤ A 1 1) (hb : b = mGr (A 3) (A 2 k) v.toNat) (hb2 : 0 ≤ b ∧ b ≤ 1) (hw : gH E A0 H0 s (mW E I A) H locs) (hl : lv_has ls 5 [(4, .int (iI v)), (3, .int (iI b)), (2, .int (iI k)), (1, .int (iI a)), (0, .ref (eO E 0))]) (hnf : (A 1 1 - v).toNat < nf), W p l e ({ frames := 2, cells := 0, slots := 0, locals := 49 } : Room) s m args below meth c H locs 0 0 Q (F0 m 19 ls []) := by
          intro nf
          induction nf with
          | zero =>
            intro b v H locs ls hv hb hb2 hw hl hnf
            exact absurd hnf (Nat.not_lt_zero _)
          | succ nf ih_19 =>
            intro b v H locs ls hv hb hb2 hw hl hnf
            refine lv_iload F.1 F.2.1 dX10_green_19 (lv_at hl 0 rfl) ?_
            refine lv_aload_n F.1 F.2.1 dX10_green_21 rfl (lv_at hl 4 rfl) ?_
            refine m_get F hin hw 3 (by decide) (by decide +kernel) rfl dX10_green_22 ?_
            refine bi_iconst F dX10_green_25 ?_
            refine m_ld F hw 1 4 rfl (by decide) (by omega) dX10_green_26 ?_
            refine bi_icmp_ge (tgt := 61) F dX10_green_27 (by decide) (by omega) (fun c_2 => ?_) (fun c_2 => ?_)
            · refine lv_iload_n F.1 F.2.1 dX10_green_61 rfl (lv_at hl 3 rfl) ?_
              have join_73 : ∀ (x : Int) (hj_73 : x = if mGr (A 3) (A 2 k) (A 1 1).toNat = 0 then 0 else iShl 1 k) (H : Heap) (locs : List Loc) (hw : gH E A0 H0 s (mW E I A) H locs), W p l e ({ frames := 2, cells := 0, slots := 0, locals := 49 } : Room) s m args below meth c H locs 0 0 Q (F0 m 73 ls [.int (iI x), .int (iI a)]) := by
                intro x hj_73 H locs hw
                refine bi_ior F dX10_green_73 ?_
                have f_3 := iOr_r a x
                refine lv_istore_n (lv' := [(1, .int (iI (iOr a x))), (4, .int (iI v)), (3, .int (iI b)), (2, .int (iI k)), (0, .ref (eO E 0))]) F.1 F.2.1 dX10_green_74 rfl hl (by decide) rfl (fun ls hl => ?_)
                refine lv_iinc (v := iI (k + 1)) (lv' := [(2, .int (iI (k + 1))), (1, .int (iI (iOr a x))), (4, .int (iI v)), (3, .int (iI b)), (0, .ref (eO E 0))]) F.1 F.2.1 dX10_green_75 hl (k := 3) rfl (iI_add _ _).symm (by decide) rfl (fun ls hl => ?_)
                refine lv_goto (tgt := 4) F.1 F.2.1 dX10_green_78 (by decide) ?_
                exact ih_4 (iOr a x) (k + 1) H locs ls (by omega) (by rw [fld_s hk.1, ← ha, hj_73]) hw (lv_sub hl [0, 1, 4] rfl) (by omega)
              refine lv_iload_n F.1 F.2.1 dX10_green_62 rfl (lv_at hl 1 rfl) ?_
              refine bi_if_eq (tgt := 72) F dX10_green_63 (by decide) (by omega) (fun c_4 => ?_) (fun c_4 => ?_)
              · refine bi_iconst F dX10_green_72 ?_
                exact join_73 0 (by rw [show A 1 1 = v by omega, ← hb]; first | rw [if_pos (by omega)] | rw [if_neg (by omega)]) H locs hw
              · refine bi_iconst F dX10_green_66 ?_
                refine lv_iload_n F.1 F.2.1 dX10_green_67 rfl (lv_at hl 2 rfl) ?_
                refine bi_ishl F dX10_green_68 ?_
                have f_5 := iShl_r 1 k
                refine lv_goto (tgt := 73) F.1 F.2.1 dX10_green_69 (by decide) ?_
                exact join_73 (iShl 1 k) (by rw [show A 1 1 = v by omega, ← hb]; first | rw [if_pos (by omega)] | rw [if_neg (by omega)]) H locs hw
            · refine lv_iload_n F.1 F.2.1 dX10_green_30 rfl (lv_at hl 1 rfl) ?_
              refine bi_if_eq (tgt := 53) F dX10_green_31 (by decide) (by omega) (fun c_6 => ?_) (fun c_6 => ?_)
              · refine bi_iconst F dX10_green_53 ?_
                refine lv_istore_n (lv' := [(3, .int (iI 0)), (4, .int (iI v)), (2, .int (iI k)), (1, .int (iI a)), (0, .ref (eO E 0))]) F.1 F.2.1 dX10_green_54 rfl hl (by decide) rfl (fun ls hl => ?_)
                refine lv_iinc (v := iI (v + 1)) (lv' := [(4, .int (iI (v + 1))), (3, .int (iI 0)), (2, .int (iI k)), (1, .int (iI a)), (0, .ref (eO E 0))]) F.1 F.2.1 dX10_green_55 hl (k := 1) rfl (iI_add _ _).symm (by decide) rfl (fun ls hl => ?_)
                refine lv_goto (tgt := 19) F.1 F.2.1 dX10_green_58 (by decide) ?_
                exact ih_19 0 (v + 1) H locs ls (by omega) (by refine Eq.trans ?_ (fld_s (g := fun b v => if b = 0 then 0 else 1 - mFallI (A 3) (A 2 k) v) (z := 1) hv.1).symm; show _ = (if mGr (A 3) (A 2 k) v.toNat = 0 then 0 else 1 - mFallI (A 3) (A 2 k) v); rw [← hb]; first | rw [if_pos (by omega)] | (rw [if_neg (by omega), mFallI_t (by assumption)]; rfl) | (rw [if_neg (by omega), mFallI_f (by assumption)]; rfl)) (by omega) hw (lv_sub hl [0, 1, 2, 3, 4] rfl) (by omega)
              · refine lv_aload_n F.1 F.2.1 dX10_green_34 rfl (lv_at hl 4 rfl) ?_
                refine lv_aload_n F.1 F.2.1 dX10_green_35 rfl (lv_at hl 4 rfl) ?_
                refine m_get F hin hw 4 (by decide) (by decide +kernel) rfl dX10_green_36 ?_
                refine lv_iload_n F.1 F.2.1 dX10_green_39 rfl (lv_at hl 2 rfl) ?_
                refine m_ld F hw 2 20 rfl (by decide) (by omega) dX10_green_40 ?_
                have f_7 := hWn (k)
                refine lv_iload F.1 F.2.1 dX10_green_41 (lv_at hl 0 rfl) ?_
                refine call_P (As := [.int (iI (A 2 k)), .int (iI v)]) (rest := []) F (c_isFall l E I A (A 2 k) v (by omega) (by omega) hA) (cwV 2 F.2.2.2.2 gX10_green_X10_isFall rfl rfl rfl (by decide +kernel) ⟨Nat.le_of_ble_eq_true rfl, Nat.le_of_ble_eq_true rfl⟩) hw (m_recv hw) rfl hl.1 rfl (Nat.le_of_ble_eq_true rfl) dX10_green_43 ⟨Nat.zero_le _, Nat.zero_le _⟩ (fun q_8 H locs hw => ?_) (fun q_8 H locs hw => ?_)
                · refine bi_if_ne (tgt := 53) F dX10_green_46 (by decide) (by decide) (fun _ => ?_) (fun q => absurd q (by decide))
                  refine bi_iconst F dX10_green_53 ?_
                  refine lv_istore_n (lv' := [(3, .int (iI 0)), (4, .int (iI v)), (2, .int (iI k)), (1, .int (iI a)), (0, .ref (eO E 0))]) F.1 F.2.1 dX10_green_54 rfl hl (by decide) rfl (fun ls hl => ?_)
                  refine lv_iinc (v := iI (v + 1)) (lv' := [(4, .int (iI (v + 1))), (3, .int (iI 0)), (2, .int (iI k)), (1, .int (iI a)), (0, .ref (eO E 0))]) F.1 F.2.1 dX10_green_55 hl (k := 1) rfl (iI_add _ _).symm (by decide) rfl (fun ls hl => ?_)
                  refine lv_goto (tgt := 19) F.1 F.2.1 dX10_green_58 (by decide) ?_
                  exact ih_19 0 (v + 1) H locs ls (by omega) (by refine Eq.trans ?_ (fld_s (g := fun b v => if b = 0 then 0 else 1 - mFallI (A 3) (A 2 k) v) (z := 1) hv.1).symm; show _ = (if mGr (A 3) (A 2 k) v.toNat = 0 then 0 else 1 - mFallI (A 3) (A 2 k) v); rw [← hb]; first | rw [if_pos (by omega)] | (rw [if_neg (by omega), mFallI_t (by assumption)]; rfl) | (rw [if_neg (by omega), mFallI_f (by assumption)]; rfl)) (by omega) hw (lv_sub hl [0, 1, 2, 3, 4] rfl) (by omega)
                · refine bi_if_ne (tgt := 53) F dX10_green_46 (by decide) (by decide) (fun q => absurd q (by decide)) (fun _ => ?_)
                  refine bi_iconst F dX10_green_49 ?_
                  refine lv_goto (tgt := 54) F.1 F.2.1 dX10_green_50 (by decide) ?_
                  refine lv_istore_n (lv' := [(3, .int (iI 1)), (4, .int (iI v)), (2, .int (iI k)), (1, .int (iI a)), (0, .ref (eO E 0))]) F.1 F.2.1 dX10_green_54 rfl hl (by decide) rfl (fun ls hl => ?_)
                  refine lv_iinc (v := iI (v + 1)) (lv' := [(4, .int (iI (v + 1))), (3, .int (iI 1)), (2, .int (iI k)), (1, .int (iI a)), (0, .ref (eO E 0))]) F.1 F.2.1 dX10_green_55 hl (k := 1) rfl (iI_add _ _).symm (by decide) rfl (fun ls hl => ?_)
                  refine lv_goto (tgt := 19) F.1 F.2.1 dX10_green_58 (by decide) ?_
                  exact ih_19 1 (v + 1) H locs ls (by omega) (by refine Eq.trans ?_ (fld_s (g := fun b v => if b = 0 then 0 else 1 - mFallI (A 3) (A 2 k) v) (z := 1) hv.1).symm; show _ = (if mGr (A 3) (A 2 k) v.toNat = 0 then 0 else 1 - mFallI (A 3) (A 2 k) v); rw [← hb]; first | rw [if_pos (by omega)] | (rw [if_neg (by omega), mFallI_t (by assumption)]; rfl) | (rw [if_neg (by omega), mFallI_f (by assumption)]; rfl)) (by omega) hw (lv_sub hl [0, 1, 2, 3, 4] rfl) (by omega)
        exact loop_19 ((A 1 1 - 0).toNat + 1) 1 0 H locs ls (by omega) (rfl) (by omega) hw (lv_sub hl [0, 1, 2, 3, 4] rfl) (by omega)
  exact loop_4 ((A 1 0 - 0).toNat + 1) 0 0 H locs ls (by omega) (rfl) hw (lv_sub hl [0, 1, 2] rfl) (by omega)
set_option maxRecDepth 100000 in
set_option maxHeartbeats 4000000 in
theorem c_feed (l : Launch) (E : Ev) (I : Nat → Int) (A : Nat → Int → Int) (v : Int) (hv : -2147483648 ≤ v ∧ v ≤ 2147483647) (h1 : 0 ≤ I 0 ∧ I 0 ≤ 240) : MetF l yX10_feed wsX10_feed ({ frames := 1, cells := 0, slots := 0, locals := 22 } : Room) E [.ref (eO E 0), .int (iI v)] (mW E I A) (mW E (mFeedI I v) (mFeedA I A v)) (mFeedR I v) := by
  have hin : ∀ w ∈ wsX100, w ∈ wsX10_feed := fun w h => in_tail h
  refine met_F (cc := cX10_feed) (nL := 2) (by decide) rfl (Nat.le_of_ble_eq_true rfl) ?_
  intro p e s m args below meth c Q H0 A0 H locs ls F hw hl hret
  have F : CallFix p m c cX10_feed 2 s args wsX10_feed RX10 := F
  have hl : lv_has ls 2 [(0, .ref (eO E 0)), (1, .int (iI v))] := hl
  refine lv_iload_n F.1 F.2.1 dX10_feed_0 rfl (lv_at hl 1 rfl) ?_
  refine bi_iconst F dX10_feed_1 ?_
  refine bi_sipush F dX10_feed_2 (by decide) ?_
  refine calls_P0 (As := [.int (iI v), .int (iI 0), .int (iI 255)]) (rest := []) F (c_in l E v 0 255 (by omega) (by omega) (by omega)) (va_cwS 3 F.2.2.2.2 gX10_feed_X10_in rfl rfl rfl (by decide +kernel) ⟨Nat.le_of_ble_eq_true rfl, Nat.le_of_ble_eq_true rfl⟩) hw rfl hl.1 rfl (Nat.le_of_ble_eq_true rfl) dX10_feed_5 ⟨Nat.zero_le _, Nat.zero_le _⟩ (fun q_1 H locs hw => ?_) (fun q_1 H locs hw => ?_)
  · refine bi_if_ne (tgt := 14) F dX10_feed_8 (by decide) (by decide) (fun _ => ?_) (fun q => absurd q (by decide))
    refine lv_aload_n F.1 F.2.1 dX10_feed_14 rfl (lv_at hl 0 rfl) ?_
    refine m_get F hin hw 1 (by decide) (by decide +kernel) rfl dX10_feed_15 ?_
    refine bi_sipush F dX10_feed_18 (by decide) ?_
    refine bi_icmp_ne (tgt := 27) F dX10_feed_21 (by decide) (by omega) (fun c_3 => ?_) (fun c_3 => ?_)
    · refine lv_aload_n F.1 F.2.1 dX10_feed_27 rfl (lv_at hl 0 rfl) ?_
      refine m_get F hin hw 0 (by decide) (by decide +kernel) rfl dX10_feed_28 ?_
      refine lv_aload_n F.1 F.2.1 dX10_feed_31 rfl (lv_at hl 0 rfl) ?_
      refine m_get F hin hw 1 (by decide) (by decide +kernel) rfl dX10_feed_32 ?_
      refine lv_iload_n F.1 F.2.1 dX10_feed_35 rfl (lv_at hl 1 rfl) ?_
      refine m_st F hw 0 240 rfl (by decide) (by omega) dX10_feed_36 (fun H locs hw => ?_)
      generalize eA4 : st2 A 0 (I 0) v = A4 at hw
      refine lv_aload_n F.1 F.2.1 dX10_feed_37 rfl (lv_at hl 0 rfl) ?_
      refine lv_dup F.1 F.2.1 dX10_feed_38 rfl ?_
      refine m_get F hin hw 1 (by decide) (by decide +kernel) rfl dX10_feed_39 ?_
      refine bi_iconst F dX10_feed_42 ?_
      refine bi_iadd F dX10_feed_43 ?_
      refine m_put F hin hw 1 0 (by decide) (by decide +kernel) rfl (by decide +kernel) rfl dX10_feed_44 (fun H locs hw => ?_)
      generalize eI5 : st1 I 0 (I 0 + 1) = I5 at hw
      refine lv_aload_n F.1 F.2.1 dX10_feed_47 rfl (lv_at hl 0 rfl) ?_
      refine m_get F hin hw 1 (by decide) (by decide +kernel) rfl dX10_feed_48 ?_
      have f_6 : I5 0 = I 0 + 1 := by rw [← eI5]; exact st1_s
      exact hret _ _ _ _ _ _ (by unfold mFeedR; rw [if_pos (by omega), if_neg (by omega)]; omega) (mW_c (by unfold mFeedI; rw [if_pos (by omega), if_neg (by omega)]; subst_vars; rfl) (by unfold mFeedA; rw [if_pos (by omega), if_neg (by omega)]; subst_vars; rfl)) hw dX10_feed_51
    · refine bi_ldc F (-1000000004) (by decide +kernel) rfl dX10_feed_24 ?_
      exact hret _ _ _ _ _ _ (by unfold mFeedR; rw [if_pos (by omega), if_pos (by omega)]) (mW_c (by unfold mFeedI; rw [if_pos (by omega), if_pos (by omega)]) (by unfold mFeedA; rw [if_pos (by omega), if_pos (by omega)])) hw dX10_feed_26
  · refine bi_if_ne (tgt := 14) F dX10_feed_8 (by decide) (by decide) (fun q => absurd q (by decide)) (fun _ => ?_)
    refine bi_ldc F (-1000000002) (by decide +kernel) rfl dX10_feed_11 ?_
    exact hret _ _ _ _ _ _ (by unfold mFeedR; rw [if_neg (by omega)]) (mW_c (by unfold mFeedI; rw [if_neg (by omega)]) (by unfold mFeedA; rw [if_neg (by omega)])) hw dX10_feed_13
set_option maxRecDepth 100000 in
set_option maxHeartbeats 4000000 in
theorem c_seed (l : Launch) (E : Ev) (I : Nat → Int) (A : Nat → Int → Int) (v : Int) (hv : -2147483648 ≤ v ∧ v ≤ 2147483647) : MetF l yX10_seed wsX10_seed ({ frames := 0, cells := 0, slots := 0, locals := 0 } : Room) E [.ref (eO E 0), .int (iI v)] (mW E I A) (mW E (if v < 0 then I else st1 I 3 v) (A)) (if v < 0 then -1000000002 else I 3) := by
  have hin : ∀ w ∈ wsX100, w ∈ wsX10_seed := fun w h => in_tail h
  refine met_F (cc := cX10_seed) (nL := 3) (by decide) rfl (Nat.le_of_ble_eq_true rfl) ?_
  intro p e s m args below meth c Q H0 A0 H locs ls F hw hl hret
  have F : CallFix p m c cX10_seed 3 s args wsX10_seed RX10 := F
  have hl : lv_has ls 3 [(0, .ref (eO E 0)), (1, .int (iI v))] := hl
  refine lv_iload_n F.1 F.2.1 dX10_seed_0 rfl (lv_at hl 1 rfl) ?_
  refine bi_if_ge (tgt := 7) F dX10_seed_1 (by decide) (by omega) (fun c_1 => ?_) (fun c_1 => ?_)
  · refine lv_aload_n F.1 F.2.1 dX10_seed_7 rfl (lv_at hl 0 rfl) ?_
    refine m_get F hin hw 20 (by decide) (by decide +kernel) rfl dX10_seed_8 ?_
    refine lv_istore_n (lv' := [(2, .int (iI (I 3))), (0, .ref (eO E 0)), (1, .int (iI v))]) F.1 F.2.1 dX10_seed_11 rfl hl (by decide) rfl (fun ls hl => ?_)
    refine lv_aload_n F.1 F.2.1 dX10_seed_12 rfl (lv_at hl 1 rfl) ?_
    refine lv_iload_n F.1 F.2.1 dX10_seed_13 rfl (lv_at hl 2 rfl) ?_
    refine m_put F hin hw 20 3 (by decide) (by decide +kernel) rfl (by decide +kernel) rfl dX10_seed_14 (fun H locs hw => ?_)
    generalize eI2 : st1 I 3 v = I2 at hw
    refine lv_iload_n F.1 F.2.1 dX10_seed_17 rfl (lv_at hl 0 rfl) ?_
    exact hret _ _ _ _ _ _ (by first | rw [if_pos (by omega)] | rw [if_neg (by omega)]) (mW_c (by first | (rw [if_pos (by omega)]; done) | (rw [if_neg (by omega)]; subst_vars; rfl)) rfl) hw dX10_seed_18
  · refine bi_ldc F (-1000000002) (by decide +kernel) rfl dX10_seed_4 ?_
    exact hret _ _ _ _ _ _ (by first | rw [if_pos (by omega)] | rw [if_neg (by omega)]) (mW_c (by first | (rw [if_pos (by omega)]; done) | (rw [if_neg (by omega)]; subst_vars; rfl)) rfl) hw dX10_seed_6
set_option maxRecDepth 100000 in
set_option maxHeartbeats 4000000 in
theorem c_tear (l : Launch) (E : Ev) (I : Nat → Int) (A : Nat → Int → Int) : MetF l yX10_tear wsX10_tear ({ frames := 0, cells := 0, slots := 0, locals := 0 } : Room) E [.ref (eO E 0)] (mW E I A) (mW E (st1 (st1 I 4 0) 5 0) (A)) (I 4 + I 5) := by
  have hin : ∀ w ∈ wsX100, w ∈ wsX10_tear := fun w h => in_tail h
  refine met_F (cc := cX10_tear) (nL := 2) (by decide) rfl (Nat.le_of_ble_eq_true rfl) ?_
  intro p e s m args below meth c Q H0 A0 H locs ls F hw hl hret
  have F : CallFix p m c cX10_tear 2 s args wsX10_tear RX10 := F
  have hl : lv_has ls 2 [(0, .ref (eO E 0))] := hl
  refine lv_aload_n F.1 F.2.1 dX10_tear_0 rfl (lv_at hl 0 rfl) ?_
  refine m_get F hin hw 22 (by decide) (by decide +kernel) rfl dX10_tear_1 ?_
  refine lv_aload_n F.1 F.2.1 dX10_tear_4 rfl (lv_at hl 0 rfl) ?_
  refine m_get F hin hw 24 (by decide) (by decide +kernel) rfl dX10_tear_5 ?_
  refine bi_iadd F dX10_tear_8 ?_
  refine lv_istore_n (lv' := [(1, .int (iI (I 4 + (I 5)))), (0, .ref (eO E 0))]) F.1 F.2.1 dX10_tear_9 rfl hl (by decide) rfl (fun ls hl => ?_)
  refine lv_aload_n F.1 F.2.1 dX10_tear_10 rfl (lv_at hl 1 rfl) ?_
  refine bi_iconst F dX10_tear_11 ?_
  refine m_put F hin hw 22 4 (by decide) (by decide +kernel) rfl (by decide +kernel) rfl dX10_tear_12 (fun H locs hw => ?_)
  generalize eI1 : st1 I 4 0 = I1 at hw
  refine lv_aload_n F.1 F.2.1 dX10_tear_15 rfl (lv_at hl 1 rfl) ?_
  refine bi_iconst F dX10_tear_16 ?_
  refine m_put F hin hw 24 5 (by decide) (by decide +kernel) rfl (by decide +kernel) rfl dX10_tear_17 (fun H locs hw => ?_)
  generalize eI2 : st1 I1 5 0 = I2 at hw
  refine lv_iload_n F.1 F.2.1 dX10_tear_20 rfl (lv_at hl 0 rfl) ?_
  exact hret _ _ _ _ _ _ (rfl) (by subst_vars; rfl) hw dX10_tear_21
set_option maxRecDepth 100000 in
set_option maxHeartbeats 4000000 in
theorem c_winter (l : Launch) (E : Ev) (I : Nat → Int) (A : Nat → Int → Int) (k : Int) (hk : -2147483648 ≤ k ∧ k ≤ 2147483647) (hok : mOk A) : MetN l yX10_winter wsX10_winter ({ frames := 1, cells := 0, slots := 0, locals := 22 } : Room) E [.ref (eO E 0), .int (iI k)] (mW E I A) (mWinR A k) := by
  have hin : ∀ w ∈ wsX100, w ∈ wsX10_winter := fun w h => in_tail h
  refine met_N (cc := cX10_winter) (nL := 2) (by decide) rfl (Nat.le_of_ble_eq_true rfl) ?_
  intro p e s m args below meth c Q H0 A0 H locs ls F hw hl hret
  have F : CallFix p m c cX10_winter 2 s args wsX10_winter RX10 := F
  have hl : lv_has ls 2 [(0, .ref (eO E 0)), (1, .int (iI k))] := hl
  obtain ⟨hV, hWn, hl0, hl1, hl2, hl3, hY, hPl, hPe⟩ := id hok
  refine lv_iload_n F.1 F.2.1 dX10_winter_0 rfl (lv_at hl 1 rfl) ?_
  refine bi_iconst F dX10_winter_1 ?_
  refine bi_sipush F dX10_winter_2 (by decide) ?_
  refine calls_P0 (As := [.int (iI k), .int (iI 0), .int (iI 9999)]) (rest := []) F (c_in l E k 0 9999 (by omega) (by omega) (by omega)) (va_cwS 3 F.2.2.2.2 gX10_winter_X10_in rfl rfl rfl (by decide +kernel) ⟨Nat.le_of_ble_eq_true rfl, Nat.le_of_ble_eq_true rfl⟩) hw rfl hl.1 rfl (Nat.le_of_ble_eq_true rfl) dX10_winter_5 ⟨Nat.zero_le _, Nat.zero_le _⟩ (fun q_1 H locs hw => ?_) (fun q_1 H locs hw => ?_)
  · refine bi_if_ne (tgt := 16) F dX10_winter_8 (by decide) (by decide) (fun _ => ?_) (fun q => absurd q (by decide))
    refine lv_aload_n F.1 F.2.1 dX10_winter_16 rfl (lv_at hl 0 rfl) ?_
    refine call_P (As := []) (rest := []) F (c_isValley l E I A  (by omega)) (cwV 0 F.2.2.2.2 gX10_winter_X10_isValley rfl rfl rfl (by decide +kernel) ⟨Nat.le_of_ble_eq_true rfl, Nat.le_of_ble_eq_true rfl⟩) hw (m_recv hw) rfl hl.1 rfl (Nat.le_of_ble_eq_true rfl) dX10_winter_17 ⟨Nat.zero_le _, Nat.zero_le _⟩ (fun q_3 H locs hw => ?_) (fun q_3 H locs hw => ?_)
    · refine bi_if_eq (tgt := 39) F dX10_winter_20 (by decide) (by decide) (fun q => absurd q (by decide)) (fun _ => ?_)
      refine lv_aload_n F.1 F.2.1 dX10_winter_23 rfl (lv_at hl 0 rfl) ?_
      refine m_get F hin hw 4 (by decide) (by decide +kernel) rfl dX10_winter_24 ?_
      refine lv_iload_n F.1 F.2.1 dX10_winter_27 rfl (lv_at hl 1 rfl) ?_
      refine lv_aload_n F.1 F.2.1 dX10_winter_28 rfl (lv_at hl 0 rfl) ?_
      refine m_get F hin hw 3 (by decide) (by decide +kernel) rfl dX10_winter_29 ?_
      refine bi_iconst F dX10_winter_32 ?_
      refine m_ld F hw 1 4 rfl (by decide) (by omega) dX10_winter_33 ?_
      refine bi_irem F dX10_winter_34 (by omega) ?_
      have e1 := Int.emod_nonneg k (show A 1 0 ≠ 0 by omega)
      have e2 := Int.emod_lt_of_pos k (show 0 < A 1 0 by omega)
      refine m_ld F hw 2 20 rfl (by decide) (by omega) dX10_winter_35 ?_
      refine lv_goto (tgt := 41) F.1 F.2.1 dX10_winter_36 (by decide) ?_
      exact hret _ _ _ _ _ (by unfold mWinR; first | rw [if_neg (by omega)] | rw [if_pos (by omega), if_pos (by omega)] | rw [if_pos (by omega), if_neg (by omega)]) hw dX10_winter_41
    · refine bi_if_eq (tgt := 39) F dX10_winter_20 (by decide) (by decide) (fun _ => ?_) (fun q => absurd q (by decide))
      refine bi_ldc F (-1000000003) (by decide +kernel) rfl dX10_winter_39 ?_
      exact hret _ _ _ _ _ (by unfold mWinR; first | rw [if_neg (by omega)] | rw [if_pos (by omega), if_pos (by omega)] | rw [if_pos (by omega), if_neg (by omega)]) hw dX10_winter_41
  · refine bi_if_ne (tgt := 16) F dX10_winter_8 (by decide) (by decide) (fun q => absurd q (by decide)) (fun _ => ?_)
    refine bi_ldc F (-1000000002) (by decide +kernel) rfl dX10_winter_11 ?_
    refine lv_goto (tgt := 41) F.1 F.2.1 dX10_winter_13 (by decide) ?_
    exact hret _ _ _ _ _ (by unfold mWinR; first | rw [if_neg (by omega)] | rw [if_pos (by omega), if_pos (by omega)] | rw [if_pos (by omega), if_neg (by omega)]) hw dX10_winter_41
set_option maxRecDepth 100000 in
set_option maxHeartbeats 4000000 in
theorem c_told (l : Launch) (E : Ev) (I : Nat → Int) (A : Nat → Int → Int) (w : Int) (hw0 : -2147483648 ≤ w ∧ w ≤ 2147483647) (hok : mOk A) (hr : rOk (A 1 1) (A 1 2) (A 11) 500000) : MetN l yX10_told wsX10_told ({ frames := 3, cells := 0, slots := 0, locals := 73 } : Room) E [.ref (eO E 0), .int (iI w)] (mW E I A) (mToldR I A w) := by
  have hin : ∀ w ∈ wsX100, w ∈ wsX10_told := fun w h => in_tail h
  refine met_N (cc := cX10_told) (nL := 2) (by decide) rfl (Nat.le_of_ble_eq_true rfl) ?_
  intro p e s m args below meth c Q H0 A0 H locs ls F hw hl hret
  have F : CallFix p m c cX10_told 2 s args wsX10_told RX10 := F
  have hl : lv_has ls 2 [(0, .ref (eO E 0)), (1, .int (iI w))] := hl
  obtain ⟨hV, hWn, hl0, hl1, hl2, hl3, hY, hPl, hPe⟩ := id hok
  have hA := hV
  have hf : ∀ k, 0 ≤ A 11 k ∧ A 11 k ≤ 900000 := (rOk_w hr (by decide)).1
  refine lv_iload_n F.1 F.2.1 dX10_told_0 rfl (lv_at hl 1 rfl) ?_
  by_cases hsw : w < 0 ∨ 10 < w
  · refine bi_tabOut (tgt := 129) F dX10_told_1 (by omega) hsw (by decide) ?_
    refine bi_ldc F (-1000000002) (by decide +kernel) rfl dX10_told_129 ?_
    exact hret _ _ _ _ _ (by unfold mToldR; repeat rw [if_neg (by omega)]) hw dX10_told_131
  · rcases (show w = 0 ∨ w = 1 ∨ w = 2 ∨ w = 3 ∨ w = 4 ∨ w = 5 ∨ w = 6 ∨ w = 7 ∨ w = 8 ∨ w = 9 ∨ w = 10 by omega) with rfl | rfl | rfl | rfl | rfl | rfl | rfl | rfl | rfl | rfl | rfl
    · refine bi_tabIn (tgt := 60) F dX10_told_1 (by decide) (by decide) rfl (by decide) ?_
      refine lv_aload_n F.1 F.2.1 dX10_told_60 rfl (lv_at hl 0 rfl) ?_
      refine m_get F hin hw 3 (by decide) (by decide +kernel) rfl dX10_told_61 ?_
      refine bi_iconst F dX10_told_64 ?_
      refine m_ld F hw 1 4 rfl (by decide) (by omega) dX10_told_65 ?_
      exact hret _ _ _ _ _ (rfl) hw dX10_told_66
    · refine bi_tabIn (tgt := 67) F dX10_told_1 (by decide) (by decide) rfl (by decide) ?_
      refine lv_aload_n F.1 F.2.1 dX10_told_67 rfl (lv_at hl 0 rfl) ?_
      refine m_get F hin hw 3 (by decide) (by decide +kernel) rfl dX10_told_68 ?_
      refine bi_iconst F dX10_told_71 ?_
      refine m_ld F hw 1 4 rfl (by decide) (by omega) dX10_told_72 ?_
      exact hret _ _ _ _ _ (rfl) hw dX10_told_73
    · refine bi_tabIn (tgt := 74) F dX10_told_1 (by decide) (by decide) rfl (by decide) ?_
      refine lv_aload_n F.1 F.2.1 dX10_told_74 rfl (lv_at hl 0 rfl) ?_
      refine m_get F hin hw 3 (by decide) (by decide +kernel) rfl dX10_told_75 ?_
      refine bi_iconst F dX10_told_78 ?_
      refine m_ld F hw 1 4 rfl (by decide) (by omega) dX10_told_79 ?_
      exact hret _ _ _ _ _ (rfl) hw dX10_told_80
    · refine bi_tabIn (tgt := 81) F dX10_told_1 (by decide) (by decide) rfl (by decide) ?_
      refine lv_aload_n F.1 F.2.1 dX10_told_81 rfl (lv_at hl 0 rfl) ?_
      refine m_get F hin hw 3 (by decide) (by decide +kernel) rfl dX10_told_82 ?_
      refine bi_iconst F dX10_told_85 ?_
      refine m_ld F hw 1 4 rfl (by decide) (by omega) dX10_told_86 ?_
      exact hret _ _ _ _ _ (rfl) hw dX10_told_87
    · refine bi_tabIn (tgt := 88) F dX10_told_1 (by decide) (by decide) rfl (by decide) ?_
      refine lv_aload_n F.1 F.2.1 dX10_told_88 rfl (lv_at hl 0 rfl) ?_
      refine m_get F hin hw 1 (by decide) (by decide +kernel) rfl dX10_told_89 ?_
      exact hret _ _ _ _ _ (rfl) hw dX10_told_92
    · refine bi_tabIn (tgt := 93) F dX10_told_1 (by decide) (by decide) rfl (by decide) ?_
      refine lv_aload_n F.1 F.2.1 dX10_told_93 rfl (lv_at hl 0 rfl) ?_
      refine m_get F hin hw 13 (by decide) (by decide +kernel) rfl dX10_told_94 ?_
      refine bi_iconst F dX10_told_97 ?_
      refine m_ld F hw 11 35 rfl (by decide) (by omega) dX10_told_98 ?_
      exact hret _ _ _ _ _ (rfl) hw dX10_told_99
    · refine bi_tabIn (tgt := 100) F dX10_told_1 (by decide) (by decide) rfl (by decide) ?_
      refine lv_aload_n F.1 F.2.1 dX10_told_100 rfl (lv_at hl 0 rfl) ?_
      refine lv_aload_n F.1 F.2.1 dX10_told_101 rfl (lv_at hl 0 rfl) ?_
      refine m_get F hin hw 13 (by decide) (by decide +kernel) rfl dX10_told_102 ?_
      refine call_N (As := [.ref (eA E 11)]) (rest := []) F (c_dueIn l E I A 11 rfl (by decide) hf (by omega) (fun d h => by have := hPl d h; omega)) (cwV 1 F.2.2.2.2 gX10_told_X10_dueIn rfl rfl rfl (by decide +kernel) ⟨Nat.le_of_ble_eq_true rfl, Nat.le_of_ble_eq_true rfl⟩) hw (m_recv hw) rfl hl.1 rfl (Nat.le_of_ble_eq_true rfl) dX10_told_105 ⟨Nat.zero_le _, Nat.zero_le _⟩ (fun H locs hw => ?_)
      have f_1 := mDues_r (A 5) (A 11) (A 1 3).toNat
      exact hret _ _ _ _ _ (rfl) hw dX10_told_108
    · refine bi_tabIn (tgt := 109) F dX10_told_1 (by decide) (by decide) rfl (by decide) ?_
      refine lv_aload_n F.1 F.2.1 dX10_told_109 rfl (lv_at hl 0 rfl) ?_
      refine call_N (As := []) (rest := []) F (c_green l E I A  hok) (cwV 0 F.2.2.2.2 gX10_told_X10_green rfl rfl rfl (by decide +kernel) ⟨Nat.le_of_ble_eq_true rfl, Nat.le_of_ble_eq_true rfl⟩) hw (m_recv hw) rfl hl.1 rfl (Nat.le_of_ble_eq_true rfl) dX10_told_110 ⟨Nat.zero_le _, Nat.zero_le _⟩ (fun H locs hw => ?_)
      exact hret _ _ _ _ _ (rfl) hw dX10_told_113
    · refine bi_tabIn (tgt := 114) F dX10_told_1 (by decide) (by decide) rfl (by decide) ?_
      refine lv_aload_n F.1 F.2.1 dX10_told_114 rfl (lv_at hl 0 rfl) ?_
      refine m_get F hin hw 22 (by decide) (by decide +kernel) rfl dX10_told_115 ?_
      exact hret _ _ _ _ _ (rfl) hw dX10_told_118
    · refine bi_tabIn (tgt := 119) F dX10_told_1 (by decide) (by decide) rfl (by decide) ?_
      refine lv_aload_n F.1 F.2.1 dX10_told_119 rfl (lv_at hl 0 rfl) ?_
      refine m_get F hin hw 24 (by decide) (by decide +kernel) rfl dX10_told_120 ?_
      exact hret _ _ _ _ _ (rfl) hw dX10_told_123
    · refine bi_tabIn (tgt := 124) F dX10_told_1 (by decide) (by decide) rfl (by decide) ?_
      refine lv_aload_n F.1 F.2.1 dX10_told_124 rfl (lv_at hl 0 rfl) ?_
      refine m_get F hin hw 16 (by decide) (by decide +kernel) rfl dX10_told_125 ?_
      exact hret _ _ _ _ _ (rfl) hw dX10_told_128
set_option maxRecDepth 100000 in
set_option maxHeartbeats 4000000 in
theorem c_village (l : Launch) (E : Ev) (I : Nat → Int) (A : Nat → Int → Int) (v : Int) (w : Int) (hv : -2147483648 ≤ v ∧ v ≤ 2147483647) (hw0 : -2147483648 ≤ w ∧ w ≤ 2147483647) (hok : mOk A) (hr : rOk (A 1 1) (A 1 2) (A 11) 500000) : MetN l yX10_village wsX10_village ({ frames := 2, cells := 0, slots := 0, locals := 43 } : Room) E [.ref (eO E 0), .int (iI v), .int (iI w)] (mW E I A) (mVilR A v w) := by
  have hin : ∀ w ∈ wsX100, w ∈ wsX10_village := fun w h => in_tail h
  refine met_N (cc := cX10_village) (nL := 4) (by decide) rfl (Nat.le_of_ble_eq_true rfl) ?_
  intro p e s m args below meth c Q H0 A0 H locs ls F hw hl hret
  have F : CallFix p m c cX10_village 4 s args wsX10_village RX10 := F
  have hl : lv_has ls 4 [(0, .ref (eO E 0)), (1, .int (iI v)), (2, .int (iI w))] := hl
  obtain ⟨hV, hWn, hl0, hl1, hl2, hl3, hY, hPl, hPe⟩ := id hok
  have hA := hV
  have hf : ∀ k, 0 ≤ A 11 k ∧ A 11 k ≤ 900000 := (rOk_w hr (by decide)).1
  refine lv_aload_n F.1 F.2.1 dX10_village_0 rfl (lv_at hl 0 rfl) ?_
  refine lv_iload_n F.1 F.2.1 dX10_village_1 rfl (lv_at hl 1 rfl) ?_
  refine call_P (As := [.int (iI v)]) (rest := []) F (c_isVillage l E I A v (by omega) (by omega)) (cwV 1 F.2.2.2.2 gX10_village_X10_isVillage rfl rfl rfl (by decide +kernel) ⟨Nat.le_of_ble_eq_true rfl, Nat.le_of_ble_eq_true rfl⟩) hw (m_recv hw) rfl hl.1 rfl (Nat.le_of_ble_eq_true rfl) dX10_village_2 ⟨Nat.zero_le _, Nat.zero_le _⟩ (fun q_1 H locs hw => ?_) (fun q_1 H locs hw => ?_)
  · refine bi_if_ne (tgt := 11) F dX10_village_5 (by decide) (by decide) (fun _ => ?_) (fun q => absurd q (by decide))
    refine bi_iconst F dX10_village_11 ?_
    refine bi_iconst F dX10_village_12 ?_
    refine lv_iload_n F.1 F.2.1 dX10_village_13 rfl (lv_at hl 1 rfl) ?_
    refine bi_imul F dX10_village_14 ?_
    refine bi_iadd F dX10_village_15 ?_
    refine lv_istore_n (lv' := [(3, .int (iI (1 + (3 * v)))), (0, .ref (eO E 0)), (1, .int (iI v)), (2, .int (iI w))]) F.1 F.2.1 dX10_village_16 rfl hl (by decide) rfl (fun ls hl => ?_)
    refine lv_iload_n F.1 F.2.1 dX10_village_17 rfl (lv_at hl 3 rfl) ?_
    by_cases hsw : w < 0 ∨ 6 < w
    · refine bi_tabOut (tgt := 143) F dX10_village_18 (by omega) hsw (by decide) ?_
      refine bi_ldc F (-1000000002) (by decide +kernel) rfl dX10_village_143 ?_
      exact hret _ _ _ _ _ (by unfold mVilR mVil; rw [if_pos (by omega)]; repeat rw [if_neg (by omega)]) hw dX10_village_145
    · rcases (show w = 0 ∨ w = 1 ∨ w = 2 ∨ w = 3 ∨ w = 4 ∨ w = 5 ∨ w = 6 by omega) with rfl | rfl | rfl | rfl | rfl | rfl | rfl
      · refine bi_tabIn (tgt := 60) F dX10_village_18 (by decide) (by decide) rfl (by decide) ?_
        refine lv_aload_n F.1 F.2.1 dX10_village_60 rfl (lv_at hl 1 rfl) ?_
        refine m_get F hin hw 5 (by decide) (by decide +kernel) rfl dX10_village_61 ?_
        refine bi_iconst F dX10_village_64 ?_
        refine lv_iload_n F.1 F.2.1 dX10_village_65 rfl (lv_at hl 2 rfl) ?_
        refine bi_imul F dX10_village_66 ?_
        refine m_ld F hw 3 20 rfl (by decide) (by omega) dX10_village_67 ?_
        have f_3 := hV (5 * v)
        exact hret _ _ _ _ _ (by unfold mVilR; rw [if_pos (by omega)]; rfl) hw dX10_village_68
      · refine bi_tabIn (tgt := 69) F dX10_village_18 (by decide) (by decide) rfl (by decide) ?_
        refine lv_aload_n F.1 F.2.1 dX10_village_69 rfl (lv_at hl 1 rfl) ?_
        refine m_get F hin hw 5 (by decide) (by decide +kernel) rfl dX10_village_70 ?_
        refine bi_iconst F dX10_village_73 ?_
        refine lv_iload_n F.1 F.2.1 dX10_village_74 rfl (lv_at hl 2 rfl) ?_
        refine bi_imul F dX10_village_75 ?_
        refine bi_iconst F dX10_village_76 ?_
        refine bi_iadd F dX10_village_77 ?_
        refine m_ld F hw 3 20 rfl (by decide) (by omega) dX10_village_78 ?_
        have f_4 := hV (5 * v + 4)
        exact hret _ _ _ _ _ (by unfold mVilR; rw [if_pos (by omega)]; rfl) hw dX10_village_79
      · refine bi_tabIn (tgt := 80) F dX10_village_18 (by decide) (by decide) rfl (by decide) ?_
        refine lv_aload_n F.1 F.2.1 dX10_village_80 rfl (lv_at hl 1 rfl) ?_
        refine m_get F hin hw 13 (by decide) (by decide +kernel) rfl dX10_village_81 ?_
        refine lv_iload_n F.1 F.2.1 dX10_village_84 rfl (lv_at hl 0 rfl) ?_
        refine m_ld F hw 11 35 rfl (by decide) (by omega) dX10_village_85 ?_
        have f_5 := hf (1 + (3 * v))
        exact hret _ _ _ _ _ (by unfold mVilR; rw [if_pos (by omega)]; rfl) hw dX10_village_86
      · refine bi_tabIn (tgt := 87) F dX10_village_18 (by decide) (by decide) rfl (by decide) ?_
        refine lv_aload_n F.1 F.2.1 dX10_village_87 rfl (lv_at hl 1 rfl) ?_
        refine lv_aload_n F.1 F.2.1 dX10_village_88 rfl (lv_at hl 1 rfl) ?_
        refine m_get F hin hw 13 (by decide) (by decide +kernel) rfl dX10_village_89 ?_
        refine lv_iload_n F.1 F.2.1 dX10_village_92 rfl (lv_at hl 2 rfl) ?_
        refine call_N (As := [.ref (eA E 11), .int (iI v)]) (rest := []) F (c_poleOf l E I A 11 v rfl (by decide) (by omega) hf) (cwV 2 F.2.2.2.2 gX10_village_X10_poleOf rfl rfl rfl (by decide +kernel) ⟨Nat.le_of_ble_eq_true rfl, Nat.le_of_ble_eq_true rfl⟩) hw (m_recv hw) rfl hl.1 rfl (Nat.le_of_ble_eq_true rfl) dX10_village_93 ⟨Nat.zero_le _, Nat.zero_le _⟩ (fun H locs hw => ?_)
        have f_6 := mPole_r (f := A 11) (v := v) hf
        exact hret _ _ _ _ _ (by unfold mVilR; rw [if_pos (by omega)]; rfl) hw dX10_village_96
      · refine bi_tabIn (tgt := 97) F dX10_village_18 (by decide) (by decide) rfl (by decide) ?_
        refine lv_aload_n F.1 F.2.1 dX10_village_97 rfl (lv_at hl 1 rfl) ?_
        refine m_get F hin hw 13 (by decide) (by decide +kernel) rfl dX10_village_98 ?_
        refine lv_iload_n F.1 F.2.1 dX10_village_101 rfl (lv_at hl 0 rfl) ?_
        refine bi_iconst F dX10_village_102 ?_
        refine bi_iadd F dX10_village_103 ?_
        refine m_ld F hw 11 35 rfl (by decide) (by omega) dX10_village_104 ?_
        have f_7 := hf (1 + (3 * v) + 2)
        exact hret _ _ _ _ _ (by unfold mVilR; rw [if_pos (by omega)]; rfl) hw dX10_village_105
      · refine bi_tabIn (tgt := 106) F dX10_village_18 (by decide) (by decide) rfl (by decide) ?_
        refine lv_aload_n F.1 F.2.1 dX10_village_106 rfl (lv_at hl 1 rfl) ?_
        refine m_get F hin hw 13 (by decide) (by decide +kernel) rfl dX10_village_107 ?_
        refine lv_iload_n F.1 F.2.1 dX10_village_110 rfl (lv_at hl 0 rfl) ?_
        refine bi_iconst F dX10_village_111 ?_
        refine bi_iadd F dX10_village_112 ?_
        refine m_ld F hw 11 35 rfl (by decide) (by omega) dX10_village_113 ?_
        have f_8 := hf (1 + (3 * v) + 1)
        exact hret _ _ _ _ _ (by unfold mVilR; rw [if_pos (by omega)]; rfl) hw dX10_village_114
      · refine bi_tabIn (tgt := 115) F dX10_village_18 (by decide) (by decide) rfl (by decide) ?_
        refine lv_aload_n F.1 F.2.1 dX10_village_115 rfl (lv_at hl 1 rfl) ?_
        refine m_get F hin hw 5 (by decide) (by decide +kernel) rfl dX10_village_116 ?_
        refine bi_iconst F dX10_village_119 ?_
        refine lv_iload_n F.1 F.2.1 dX10_village_120 rfl (lv_at hl 2 rfl) ?_
        refine bi_imul F dX10_village_121 ?_
        refine m_ld F hw 3 20 rfl (by decide) (by omega) dX10_village_122 ?_
        have f_9 := hV (5 * v)
        refine lv_aload_n F.1 F.2.1 dX10_village_123 rfl (lv_at hl 1 rfl) ?_
        refine lv_iload_n F.1 F.2.1 dX10_village_124 rfl (lv_at hl 2 rfl) ?_
        refine call_N (As := [.int (iI v)]) (rest := [.int (iI (A 3 (5 * v)))]) F (c_middle l E I A v (by omega) hA) (cwV 1 F.2.2.2.2 gX10_village_X10_middle rfl rfl rfl (by decide +kernel) ⟨Nat.le_of_ble_eq_true rfl, Nat.le_of_ble_eq_true rfl⟩) hw (m_recv hw) rfl hl.1 rfl (Nat.le_of_ble_eq_true rfl) dX10_village_125 ⟨Nat.zero_le _, Nat.zero_le _⟩ (fun H locs hw => ?_)
        have f_10 := mMid_r (V := A 3) (v := v) hA
        refine bi_iconst F dX10_village_128 ?_
        refine bi_icmp_ge (tgt := 136) F dX10_village_129 (by decide) (by omega) (fun c_11 => ?_) (fun c_11 => ?_)
        · refine lv_aload_n F.1 F.2.1 dX10_village_136 rfl (lv_at hl 1 rfl) ?_
          refine lv_iload_n F.1 F.2.1 dX10_village_137 rfl (lv_at hl 2 rfl) ?_
          refine call_N (As := [.int (iI v)]) (rest := [.int (iI (A 3 (5 * v)))]) F (c_middle l E I A v (by omega) hA) (cwV 1 F.2.2.2.2 gX10_village_X10_middle rfl rfl rfl (by decide +kernel) ⟨Nat.le_of_ble_eq_true rfl, Nat.le_of_ble_eq_true rfl⟩) hw (m_recv hw) rfl hl.1 rfl (Nat.le_of_ble_eq_true rfl) dX10_village_138 ⟨Nat.zero_le _, Nat.zero_le _⟩ (fun H locs hw => ?_)
          have f_12 := mMid_r (V := A 3) (v := v) hA
          refine bi_iadd F dX10_village_141 ?_
          exact hret _ _ _ _ _ (by unfold mVilR; rw [if_pos (by omega)]; show _ = A 3 (5 * v) + (if mMid (A 3) v < 1 then 1 else mMid (A 3) v); first | rw [if_pos (by omega)] | rw [if_neg (by omega)]) hw dX10_village_142
        · refine bi_iconst F dX10_village_132 ?_
          refine lv_goto (tgt := 141) F.1 F.2.1 dX10_village_133 (by decide) ?_
          refine bi_iadd F dX10_village_141 ?_
          exact hret _ _ _ _ _ (by unfold mVilR; rw [if_pos (by omega)]; show _ = A 3 (5 * v) + (if mMid (A 3) v < 1 then 1 else mMid (A 3) v); first | rw [if_pos (by omega)] | rw [if_neg (by omega)]) hw dX10_village_142
  · refine bi_if_ne (tgt := 11) F dX10_village_5 (by decide) (by decide) (fun q => absurd q (by decide)) (fun _ => ?_)
    refine bi_ldc F (-1000000001) (by decide +kernel) rfl dX10_village_8 ?_
    exact hret _ _ _ _ _ (by unfold mVilR; rw [if_neg (by omega)]) hw dX10_village_10
set_option maxRecDepth 100000 in
set_option maxHeartbeats 4000000 in
theorem c_person (l : Launch) (E : Ev) (I : Nat → Int) (A : Nat → Int → Int) (v : Int) (w : Int) (hv : -2147483648 ≤ v ∧ v ≤ 2147483647) (hw0 : -2147483648 ≤ w ∧ w ≤ 2147483647) (hok : mOk A) (hr : rOk (A 1 1) (A 1 2) (A 11) 500000) : MetN l yX10_person wsX10_person ({ frames := 2, cells := 0, slots := 0, locals := 43 } : Room) E [.ref (eO E 0), .int (iI v), .int (iI w)] (mW E I A) (mPerR A v w) := by
  have hin : ∀ w ∈ wsX100, w ∈ wsX10_person := fun w h => in_tail h
  refine met_N (cc := cX10_person) (nL := 3) (by decide) rfl (Nat.le_of_ble_eq_true rfl) ?_
  intro p e s m args below meth c Q H0 A0 H locs ls F hw hl hret
  have F : CallFix p m c cX10_person 3 s args wsX10_person RX10 := F
  have hl : lv_has ls 3 [(0, .ref (eO E 0)), (1, .int (iI v)), (2, .int (iI w))] := hl
  obtain ⟨hV, hWn, hl0, hl1, hl2, hl3, hY, hPl, hPe⟩ := id hok
  have hA := hV
  have hf : ∀ k, 0 ≤ A 11 k ∧ A 11 k ≤ 900000 := (rOk_w hr (by decide)).1
  refine lv_aload_n F.1 F.2.1 dX10_person_0 rfl (lv_at hl 0 rfl) ?_
  refine lv_iload_n F.1 F.2.1 dX10_person_1 rfl (lv_at hl 1 rfl) ?_
  refine call_P (As := [.int (iI v)]) (rest := []) F (c_isPerson l E I A v (by omega) (by omega)) (cwV 1 F.2.2.2.2 gX10_person_X10_isPerson rfl rfl rfl (by decide +kernel) ⟨Nat.le_of_ble_eq_true rfl, Nat.le_of_ble_eq_true rfl⟩) hw (m_recv hw) rfl hl.1 rfl (Nat.le_of_ble_eq_true rfl) dX10_person_2 ⟨Nat.zero_le _, Nat.zero_le _⟩ (fun q_1 H locs hw => ?_) (fun q_1 H locs hw => ?_)
  · refine bi_if_ne (tgt := 11) F dX10_person_5 (by decide) (by decide) (fun _ => ?_) (fun q => absurd q (by decide))
    refine lv_iload_n F.1 F.2.1 dX10_person_11 rfl (lv_at hl 2 rfl) ?_
    refine bi_iconst F dX10_person_12 ?_
    refine bi_iconst F dX10_person_13 ?_
    refine calls_P0 (As := [.int (iI w), .int (iI 0), .int (iI 2)]) (rest := []) F (c_in l E w 0 2 (by omega) (by omega) (by omega)) (va_cwS 3 F.2.2.2.2 gX10_person_X10_in rfl rfl rfl (by decide +kernel) ⟨Nat.le_of_ble_eq_true rfl, Nat.le_of_ble_eq_true rfl⟩) hw rfl hl.1 rfl (Nat.le_of_ble_eq_true rfl) dX10_person_14 ⟨Nat.zero_le _, Nat.zero_le _⟩ (fun q_3 H locs hw => ?_) (fun q_3 H locs hw => ?_)
    · refine bi_if_ne (tgt := 25) F dX10_person_17 (by decide) (by decide) (fun _ => ?_) (fun q => absurd q (by decide))
      refine lv_iload_n F.1 F.2.1 dX10_person_25 rfl (lv_at hl 2 rfl) ?_
      refine bi_iconst F dX10_person_26 ?_
      refine bi_icmp_ne (tgt := 42) F dX10_person_27 (by decide) (by omega) (fun c_5 => ?_) (fun c_5 => ?_)
      · refine lv_aload_n F.1 F.2.1 dX10_person_42 rfl (lv_at hl 0 rfl) ?_
        refine m_get F hin hw 13 (by decide) (by decide +kernel) rfl dX10_person_43 ?_
        refine bi_bipush F dX10_person_46 (by decide) ?_
        refine bi_iconst F dX10_person_48 ?_
        refine lv_iload_n F.1 F.2.1 dX10_person_49 rfl (lv_at hl 1 rfl) ?_
        refine bi_imul F dX10_person_50 ?_
        refine bi_iadd F dX10_person_51 ?_
        refine lv_iload_n F.1 F.2.1 dX10_person_52 rfl (lv_at hl 2 rfl) ?_
        refine bi_iadd F dX10_person_53 ?_
        refine m_ld F hw 11 35 rfl (by decide) (by omega) dX10_person_54 ?_
        have f_6 := hf (13 + (2 * v) + w)
        exact hret _ _ _ _ _ (by unfold mPerR; first | (rw [if_neg (by omega)]; done) | (rw [if_pos (by omega), if_neg (by omega)]; done) | (rw [if_pos (by omega), if_pos (by omega), if_pos (by omega)]; done) | (rw [if_pos (by omega), if_pos (by omega), if_neg (by omega)]; done)) hw dX10_person_55
      · refine lv_aload_n F.1 F.2.1 dX10_person_30 rfl (lv_at hl 0 rfl) ?_
        refine lv_aload_n F.1 F.2.1 dX10_person_31 rfl (lv_at hl 0 rfl) ?_
        refine m_get F hin hw 13 (by decide) (by decide +kernel) rfl dX10_person_32 ?_
        refine lv_iload_n F.1 F.2.1 dX10_person_35 rfl (lv_at hl 1 rfl) ?_
        have hh1 := hr.2 v (by omega)
        have hy1 := hY (A 11 (13 + 2 * v)) ⟨(hf _).1, hh1⟩
        refine call_N (As := [.ref (eA E 11), .int (iI v)]) (rest := []) F (c_ageOf l E I A 11 v rfl (by decide) (by omega) hf hA (by omega) (by omega)) (cwV 2 F.2.2.2.2 gX10_person_X10_ageOf rfl rfl rfl (by decide +kernel) ⟨Nat.le_of_ble_eq_true rfl, Nat.le_of_ble_eq_true rfl⟩) hw (m_recv hw) rfl hl.1 rfl (Nat.le_of_ble_eq_true rfl) dX10_person_36 ⟨Nat.zero_le _, Nat.zero_le _⟩ (fun H locs hw => ?_)
        refine lv_goto (tgt := 55) F.1 F.2.1 dX10_person_39 (by decide) ?_
        exact hret _ _ _ _ _ (by unfold mPerR; first | (rw [if_neg (by omega)]; done) | (rw [if_pos (by omega), if_neg (by omega)]; done) | (rw [if_pos (by omega), if_pos (by omega), if_pos (by omega)]; done) | (rw [if_pos (by omega), if_pos (by omega), if_neg (by omega)]; done)) hw dX10_person_55
    · refine bi_if_ne (tgt := 25) F dX10_person_17 (by decide) (by decide) (fun q => absurd q (by decide)) (fun _ => ?_)
      refine bi_ldc F (-1000000002) (by decide +kernel) rfl dX10_person_20 ?_
      refine lv_goto (tgt := 55) F.1 F.2.1 dX10_person_22 (by decide) ?_
      exact hret _ _ _ _ _ (by unfold mPerR; first | (rw [if_neg (by omega)]; done) | (rw [if_pos (by omega), if_neg (by omega)]; done) | (rw [if_pos (by omega), if_pos (by omega), if_pos (by omega)]; done) | (rw [if_pos (by omega), if_pos (by omega), if_neg (by omega)]; done)) hw dX10_person_55
  · refine bi_if_ne (tgt := 11) F dX10_person_5 (by decide) (by decide) (fun q => absurd q (by decide)) (fun _ => ?_)
    refine bi_ldc F (-1000000001) (by decide +kernel) rfl dX10_person_8 ?_
    exact hret _ _ _ _ _ (by unfold mPerR; first | (rw [if_neg (by omega)]; done) | (rw [if_pos (by omega), if_neg (by omega)]; done) | (rw [if_pos (by omega), if_pos (by omega), if_pos (by omega)]; done) | (rw [if_pos (by omega), if_pos (by omega), if_neg (by omega)]; done)) hw dX10_person_10
set_option maxRecDepth 100000 in
set_option maxHeartbeats 4000000 in
theorem c_debt (l : Launch) (E : Ev) (I : Nat → Int) (A : Nat → Int → Int) (v : Int) (w : Int) (hv : -2147483648 ≤ v ∧ v ≤ 2147483647) (hw0 : -2147483648 ≤ w ∧ w ≤ 2147483647) (hok : mOk A) (hr : rOk (A 1 1) (A 1 2) (A 11) 500000) : MetN l yX10_debt wsX10_debt ({ frames := 2, cells := 0, slots := 0, locals := 44 } : Room) E [.ref (eO E 0), .int (iI v), .int (iI w)] (mW E I A) (mDebR A v w) := by
  have hin : ∀ w ∈ wsX100, w ∈ wsX10_debt := fun w h => in_tail h
  refine met_N (cc := cX10_debt) (nL := 3) (by decide) rfl (Nat.le_of_ble_eq_true rfl) ?_
  intro p e s m args below meth c Q H0 A0 H locs ls F hw hl hret
  have F : CallFix p m c cX10_debt 3 s args wsX10_debt RX10 := F
  have hl : lv_has ls 3 [(0, .ref (eO E 0)), (1, .int (iI v)), (2, .int (iI w))] := hl
  obtain ⟨hV, hWn, hl0, hl1, hl2, hl3, hY, hPl, hPe⟩ := id hok
  have hA := hV
  have hf : ∀ k, 0 ≤ A 11 k ∧ A 11 k ≤ 900000 := (rOk_w hr (by decide)).1
  refine lv_aload_n F.1 F.2.1 dX10_debt_0 rfl (lv_at hl 0 rfl) ?_
  refine lv_iload_n F.1 F.2.1 dX10_debt_1 rfl (lv_at hl 1 rfl) ?_
  refine call_P (As := [.int (iI v)]) (rest := []) F (c_isDebt l E I A v (by omega) (by omega)) (cwV 1 F.2.2.2.2 gX10_debt_X10_isDebt rfl rfl rfl (by decide +kernel) ⟨Nat.le_of_ble_eq_true rfl, Nat.le_of_ble_eq_true rfl⟩) hw (m_recv hw) rfl hl.1 rfl (Nat.le_of_ble_eq_true rfl) dX10_debt_2 ⟨Nat.zero_le _, Nat.zero_le _⟩ (fun q_1 H locs hw => ?_) (fun q_1 H locs hw => ?_)
  · refine bi_if_ne (tgt := 11) F dX10_debt_5 (by decide) (by decide) (fun _ => ?_) (fun q => absurd q (by decide))
    have hp1 := hPl v (by omega)
    refine lv_iload_n F.1 F.2.1 dX10_debt_11 rfl (lv_at hl 2 rfl) ?_
    by_cases hsw : w < 0 ∨ 3 < w
    · refine bi_tabOut (tgt := 93) F dX10_debt_12 (by omega) hsw (by decide) ?_
      refine bi_ldc F (-1000000002) (by decide +kernel) rfl dX10_debt_93 ?_
      exact hret _ _ _ _ _ (by unfold mDebR; rw [if_pos (by omega)]; repeat rw [if_neg (by omega)]) hw dX10_debt_95
    · rcases (show w = 0 ∨ w = 1 ∨ w = 2 ∨ w = 3 by omega) with rfl | rfl | rfl | rfl
      · refine bi_tabIn (tgt := 44) F dX10_debt_12 (by decide) (by decide) rfl (by decide) ?_
        refine lv_aload_n F.1 F.2.1 dX10_debt_44 rfl (lv_at hl 0 rfl) ?_
        refine m_get F hin hw 7 (by decide) (by decide +kernel) rfl dX10_debt_45 ?_
        refine bi_iconst F dX10_debt_48 ?_
        refine lv_iload_n F.1 F.2.1 dX10_debt_49 rfl (lv_at hl 1 rfl) ?_
        refine bi_imul F dX10_debt_50 ?_
        refine m_ld F hw 5 10 rfl (by decide) (by omega) dX10_debt_51 ?_
        exact hret _ _ _ _ _ (by unfold mDebR; rw [if_pos (by omega)]; rfl) hw dX10_debt_52
      · refine bi_tabIn (tgt := 53) F dX10_debt_12 (by decide) (by decide) rfl (by decide) ?_
        refine lv_aload_n F.1 F.2.1 dX10_debt_53 rfl (lv_at hl 0 rfl) ?_
        refine m_get F hin hw 13 (by decide) (by decide +kernel) rfl dX10_debt_54 ?_
        refine bi_bipush F dX10_debt_57 (by decide) ?_
        refine bi_iconst F dX10_debt_59 ?_
        refine lv_iload_n F.1 F.2.1 dX10_debt_60 rfl (lv_at hl 1 rfl) ?_
        refine bi_imul F dX10_debt_61 ?_
        refine bi_iadd F dX10_debt_62 ?_
        refine m_ld F hw 11 35 rfl (by decide) (by omega) dX10_debt_63 ?_
        have f_3 := hf (25 + (2 * v))
        exact hret _ _ _ _ _ (by unfold mDebR; rw [if_pos (by omega)]; rfl) hw dX10_debt_64
      · refine bi_tabIn (tgt := 65) F dX10_debt_12 (by decide) (by decide) rfl (by decide) ?_
        refine lv_aload_n F.1 F.2.1 dX10_debt_65 rfl (lv_at hl 0 rfl) ?_
        refine lv_aload_n F.1 F.2.1 dX10_debt_66 rfl (lv_at hl 0 rfl) ?_
        refine m_get F hin hw 13 (by decide) (by decide +kernel) rfl dX10_debt_67 ?_
        refine lv_iload_n F.1 F.2.1 dX10_debt_70 rfl (lv_at hl 1 rfl) ?_
        refine call_N (As := [.ref (eA E 11), .int (iI v)]) (rest := []) F (c_sinceOf l E I A 11 v rfl (by decide) (by omega) hf (by omega)) (cwV 2 F.2.2.2.2 gX10_debt_X10_sinceOf rfl rfl rfl (by decide +kernel) ⟨Nat.le_of_ble_eq_true rfl, Nat.le_of_ble_eq_true rfl⟩) hw (m_recv hw) rfl hl.1 rfl (Nat.le_of_ble_eq_true rfl) dX10_debt_71 ⟨Nat.zero_le _, Nat.zero_le _⟩ (fun H locs hw => ?_)
        have f_4 := mSince_r (P := A 5) (f := A 11) (d := v) hf
        exact hret _ _ _ _ _ (by unfold mDebR; rw [if_pos (by omega)]; rfl) hw dX10_debt_74
      · refine bi_tabIn (tgt := 75) F dX10_debt_12 (by decide) (by decide) rfl (by decide) ?_
        refine lv_aload_n F.1 F.2.1 dX10_debt_75 rfl (lv_at hl 0 rfl) ?_
        refine lv_aload_n F.1 F.2.1 dX10_debt_76 rfl (lv_at hl 0 rfl) ?_
        refine m_get F hin hw 13 (by decide) (by decide +kernel) rfl dX10_debt_77 ?_
        refine lv_iload_n F.1 F.2.1 dX10_debt_80 rfl (lv_at hl 1 rfl) ?_
        refine call_P (As := [.ref (eA E 11), .int (iI v)]) (rest := []) F (c_isDue l E I A 11 v rfl (by decide) (by omega) hf (by omega)) (cwV 2 F.2.2.2.2 gX10_debt_X10_isDue rfl rfl rfl (by decide +kernel) ⟨Nat.le_of_ble_eq_true rfl, Nat.le_of_ble_eq_true rfl⟩) hw (m_recv hw) rfl hl.1 rfl (Nat.le_of_ble_eq_true rfl) dX10_debt_81 ⟨Nat.zero_le _, Nat.zero_le _⟩ (fun q_5 H locs hw => ?_) (fun q_5 H locs hw => ?_)
        · refine bi_if_eq (tgt := 91) F dX10_debt_84 (by decide) (by decide) (fun q => absurd q (by decide)) (fun _ => ?_)
          refine bi_iconst F dX10_debt_87 ?_
          refine lv_goto (tgt := 92) F.1 F.2.1 dX10_debt_88 (by decide) ?_
          exact hret _ _ _ _ _ (by unfold mDebR; rw [if_pos (by omega)]; show _ = (if 0 < A 11 (25 + 2 * v) ∧ A 11 (25 + 2 * v) ≤ mSince (A 5) (A 11) v then 1 else 0); first | (rw [if_pos (by assumption)]; done) | (rw [if_neg (by assumption)]; done)) hw dX10_debt_92
        · refine bi_if_eq (tgt := 91) F dX10_debt_84 (by decide) (by decide) (fun _ => ?_) (fun q => absurd q (by decide))
          refine bi_iconst F dX10_debt_91 ?_
          exact hret _ _ _ _ _ (by unfold mDebR; rw [if_pos (by omega)]; show _ = (if 0 < A 11 (25 + 2 * v) ∧ A 11 (25 + 2 * v) ≤ mSince (A 5) (A 11) v then 1 else 0); first | (rw [if_pos (by assumption)]; done) | (rw [if_neg (by assumption)]; done)) hw dX10_debt_92
  · refine bi_if_ne (tgt := 11) F dX10_debt_5 (by decide) (by decide) (fun q => absurd q (by decide)) (fun _ => ?_)
    refine bi_ldc F (-1000000001) (by decide +kernel) rfl dX10_debt_8 ?_
    exact hret _ _ _ _ _ (by unfold mDebR; rw [if_neg (by omega)]) hw dX10_debt_10
set_option maxRecDepth 100000 in
set_option maxHeartbeats 4000000 in
theorem c_barred (l : Launch) (E : Ev) (I : Nat → Int) (A : Nat → Int → Int) (n : Int) (hn : -2147483648 ≤ n ∧ n ≤ 2147483647) (hok : mOk A) (hr : rOk (A 1 1) (A 1 2) (A 11) 500000) : MetN l yX10_barred wsX10_barred ({ frames := 1, cells := 0, slots := 0, locals := 22 } : Room) E [.ref (eO E 0), .int (iI n)] (mW E I A) (mBar A n) := by
  have hin : ∀ w ∈ wsX100, w ∈ wsX10_barred := fun w h => in_tail h
  refine met_N (cc := cX10_barred) (nL := 2) (by decide) rfl (Nat.le_of_ble_eq_true rfl) ?_
  intro p e s m args below meth c Q H0 A0 H locs ls F hw hl hret
  have F : CallFix p m c cX10_barred 2 s args wsX10_barred RX10 := F
  have hl : lv_has ls 2 [(0, .ref (eO E 0)), (1, .int (iI n))] := hl
  obtain ⟨hV, hWn, hl0, hl1, hl2, hl3, hY, hPl, hPe⟩ := id hok
  have hA := hV
  have hf : ∀ k, 0 ≤ A 11 k ∧ A 11 k ≤ 900000 := (rOk_w hr (by decide)).1
  refine lv_iload_n F.1 F.2.1 dX10_barred_0 rfl (lv_at hl 1 rfl) ?_
  refine bi_iconst F dX10_barred_1 ?_
  refine bi_bipush F dX10_barred_2 (by decide) ?_
  refine calls_P0 (As := [.int (iI n), .int (iI 1), .int (iI 60)]) (rest := []) F (c_in l E n 1 60 (by omega) (by omega) (by omega)) (va_cwS 3 F.2.2.2.2 gX10_barred_X10_in rfl rfl rfl (by decide +kernel) ⟨Nat.le_of_ble_eq_true rfl, Nat.le_of_ble_eq_true rfl⟩) hw rfl hl.1 rfl (Nat.le_of_ble_eq_true rfl) dX10_barred_4 ⟨Nat.zero_le _, Nat.zero_le _⟩ (fun q_1 H locs hw => ?_) (fun q_1 H locs hw => ?_)
  · refine bi_if_ne (tgt := 15) F dX10_barred_7 (by decide) (by decide) (fun _ => ?_) (fun q => absurd q (by decide))
    refine lv_aload_n F.1 F.2.1 dX10_barred_15 rfl (lv_at hl 0 rfl) ?_
    refine call_P (As := []) (rest := []) F (c_isValley l E I A  (by omega)) (cwV 0 F.2.2.2.2 gX10_barred_X10_isValley rfl rfl rfl (by decide +kernel) ⟨Nat.le_of_ble_eq_true rfl, Nat.le_of_ble_eq_true rfl⟩) hw (m_recv hw) rfl hl.1 rfl (Nat.le_of_ble_eq_true rfl) dX10_barred_16 ⟨Nat.zero_le _, Nat.zero_le _⟩ (fun q_3 H locs hw => ?_) (fun q_3 H locs hw => ?_)
    · refine bi_if_ne (tgt := 27) F dX10_barred_19 (by decide) (by decide) (fun _ => ?_) (fun q => absurd q (by decide))
      refine lv_aload_n F.1 F.2.1 dX10_barred_27 rfl (lv_at hl 0 rfl) ?_
      refine m_get F hin hw 13 (by decide) (by decide +kernel) rfl dX10_barred_28 ?_
      refine bi_iconst F dX10_barred_31 ?_
      refine m_ld F hw 11 35 rfl (by decide) (by omega) dX10_barred_32 ?_
      have f_5 := hf (0)
      refine bi_sipush F dX10_barred_33 (by decide) ?_
      refine bi_icmp_le (tgt := 44) F dX10_barred_36 (by decide) (by omega) (fun c_6 => ?_) (fun c_6 => ?_)
      · refine bi_iconst F dX10_barred_44 ?_
        exact hret _ _ _ _ _ (by unfold mBar; first | (rw [if_neg (by omega)]; done) | (rw [if_pos (by omega), if_neg (by omega)]; done) | (rw [if_pos (by omega), if_pos (by omega), if_pos (by omega)]; done) | (rw [if_pos (by omega), if_pos (by omega), if_neg (by omega)]; done)) hw dX10_barred_45
      · refine bi_ldc F (-1000000004) (by decide +kernel) rfl dX10_barred_39 ?_
        refine lv_goto (tgt := 45) F.1 F.2.1 dX10_barred_41 (by decide) ?_
        exact hret _ _ _ _ _ (by unfold mBar; first | (rw [if_neg (by omega)]; done) | (rw [if_pos (by omega), if_neg (by omega)]; done) | (rw [if_pos (by omega), if_pos (by omega), if_pos (by omega)]; done) | (rw [if_pos (by omega), if_pos (by omega), if_neg (by omega)]; done)) hw dX10_barred_45
    · refine bi_if_ne (tgt := 27) F dX10_barred_19 (by decide) (by decide) (fun q => absurd q (by decide)) (fun _ => ?_)
      refine bi_ldc F (-1000000003) (by decide +kernel) rfl dX10_barred_22 ?_
      refine lv_goto (tgt := 45) F.1 F.2.1 dX10_barred_24 (by decide) ?_
      exact hret _ _ _ _ _ (by unfold mBar; first | (rw [if_neg (by omega)]; done) | (rw [if_pos (by omega), if_neg (by omega)]; done) | (rw [if_pos (by omega), if_pos (by omega), if_pos (by omega)]; done) | (rw [if_pos (by omega), if_pos (by omega), if_neg (by omega)]; done)) hw dX10_barred_45
  · refine bi_if_ne (tgt := 15) F dX10_barred_7 (by decide) (by decide) (fun q => absurd q (by decide)) (fun _ => ?_)
    refine bi_ldc F (-1000000002) (by decide +kernel) rfl dX10_barred_10 ?_
    refine lv_goto (tgt := 45) F.1 F.2.1 dX10_barred_12 (by decide) ?_
    exact hret _ _ _ _ _ (by unfold mBar; first | (rw [if_neg (by omega)]; done) | (rw [if_pos (by omega), if_neg (by omega)]; done) | (rw [if_pos (by omega), if_pos (by omega), if_pos (by omega)]; done) | (rw [if_pos (by omega), if_pos (by omega), if_neg (by omega)]; done)) hw dX10_barred_45
