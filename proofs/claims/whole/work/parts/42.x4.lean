set_option maxRecDepth 100000 in
set_option maxHeartbeats 4000000 in
theorem x5_fitting (l : Launch) (E : Ev) (I : Nat → Int) (A : Nat → Int → Int) (L : Nat → Int64) (i : Int) (hi : -2147483648 ≤ i ∧ i ≤ 2147483647) (hcn : 0 ≤ I 16 ∧ I 16 ≤ 6) (hsp : ∀ k, 0 ≤ k ∧ k < I 16 → 0 ≤ A 22 k ∧ A 22 k < I 11) (hsa : ∀ k, 0 ≤ A 23 k ∧ A 23 k ≤ 9999) (hnp : 0 ≤ I 11 ∧ I 11 ≤ 6) (hnv : 0 ≤ I 10 ∧ I 10 ≤ 4) (hho : ∀ q, 0 ≤ q ∧ q < I 11 → A 17 (13 + q) < 4) (hf : ∀ k, 0 ≤ A 17 k ∧ A 17 k ≤ 900000) (hyr : ∀ k, 0 ≤ A 12 k ∧ A 12 k ≤ 40) (hbn : ∀ k, 0 ≤ A 14 k ∧ A 14 k ≤ 999) : MetF l yX5_fitting wsX5_fitting ({ frames := 5, cells := 0, slots := 0, locals := 112 } : Room) E [.ref (eO E 9), .int (iI i)] (xW E I A L) (xW E (I) (stA A 24 (xLays A (I 16) (I 10 * 10).toNat).2) L) (if 0 ≤ i ∧ i < (xLays A (I 16) (I 10 * 10).toNat).1 then (xLays A (I 16) (I 10 * 10).toNat).2 i else -1) := by
  have hin5 : ∀ w ∈ wsX50, w ∈ wsX5_fitting := by decide +kernel
  refine met_F (cc := cX5_fitting) (nL := 3) (by decide) rfl (Nat.le_of_ble_eq_true rfl) ?_
  intro p e s m args below meth c Q H0 A0 H locs ls F hw hl hret
  have F : CallFix p m c cX5_fitting 3 s args wsX5_fitting RX5 := F
  have hl : lv_has ls 3 [(0, .ref (eO E 9)), (1, .int (iI i))] := hl
  have hlb := (xLays_b (A := A) (g := I 16) (I 10 * 10).toNat).1
  refine lv_aload_n F.1 F.2.1 dX5_fitting_0 rfl (lv_at hl 0 rfl) ?_
  refine call_F (As := []) (rest := []) F (x5_countFitting l E I A L  (by omega) hsp hsa (by omega) (by omega) hho hf hyr hbn) (cwV 0 F.2.2.2.2 gX5_fitting_X5_countFitting rfl rfl rfl (by decide +kernel) ⟨(Nat.le_of_ble_eq_true rfl), (Nat.le_of_ble_eq_true rfl)⟩) hw (x_recv hw 9 5 rfl rfl) rfl hl.1 rfl (Nat.le_of_ble_eq_true rfl) dX5_fitting_1 ⟨Nat.zero_le _, Nat.zero_le _⟩ (fun H locs hw => ?_)
  generalize eA1 : stA A 24 (xLays A (I 16) (I 10 * 10).toNat).2 = A1 at hw
  refine lv_istore_n (lv' := [(2, .int (iI ((xLays A (I 16) (I 10 * 10).toNat).1))), (0, .ref (eO E 9)), (1, .int (iI i))]) F.1 F.2.1 dX5_fitting_4 rfl hl (by decide) rfl (fun ls hl => ?_)
  have h24 : A1 24 = (xLays A (I 16) (I 10 * 10).toNat).2 := by subst_vars; rfl
  refine lv_iload_n F.1 F.2.1 dX5_fitting_5 rfl (lv_at hl 2 rfl) ?_
  refine bi_if_lt (tgt := 23) F dX5_fitting_6 (by decide) (by omega) (fun c_2 => ?_) (fun c_2 => ?_)
  · refine bi_iconst F dX5_fitting_23 ?_
    exact hret _ _ _ _ _ _ (by first | (rw [if_neg (by omega)]; done) | (rw [if_pos (by omega), h24]; done)) (xW_c (by subst_vars; rfl) (by subst_vars; rfl) rfl) hw dX5_fitting_24
  · refine lv_iload_n F.1 F.2.1 dX5_fitting_9 rfl (lv_at hl 2 rfl) ?_
    refine lv_iload_n F.1 F.2.1 dX5_fitting_10 rfl (lv_at hl 0 rfl) ?_
    refine bi_icmp_ge (tgt := 23) F dX5_fitting_11 (by decide) (by omega) (fun c_3 => ?_) (fun c_3 => ?_)
    · refine bi_iconst F dX5_fitting_23 ?_
      exact hret _ _ _ _ _ _ (by first | (rw [if_neg (by omega)]; done) | (rw [if_pos (by omega), h24]; done)) (xW_c (by subst_vars; rfl) (by subst_vars; rfl) rfl) hw dX5_fitting_24
    · refine lv_aload_n F.1 F.2.1 dX5_fitting_14 rfl (lv_at hl 1 rfl) ?_
      refine x_get F hin5 hw 9 5 rfl rfl 5 (by decide) (by decide +kernel) rfl rfl dX5_fitting_15 ?_
      refine lv_iload_n F.1 F.2.1 dX5_fitting_18 rfl (lv_at hl 2 rfl) ?_
      refine x_ld F hw 24 40 rfl (by decide) (by omega) dX5_fitting_19 ?_
      refine lv_goto (tgt := 24) F.1 F.2.1 dX5_fitting_20 (by decide) ?_
      exact hret _ _ _ _ _ _ (by first | (rw [if_neg (by omega)]; done) | (rw [if_pos (by omega), h24]; done)) (xW_c (by subst_vars; rfl) (by subst_vars; rfl) rfl) hw dX5_fitting_24
set_option maxRecDepth 100000 in
set_option maxHeartbeats 4000000 in
theorem x5_countAnswer (l : Launch) (E : Ev) (I : Nat → Int) (A : Nat → Int → Int) (L : Nat → Int64) (z : Int) (n : Int) (hz : -2147483648 ≤ z ∧ z ≤ 2147483647) (hn : 0 ≤ n ∧ n ≤ 40) (han : ∀ k, -2147483648 ≤ A 25 k ∧ A 25 k ≤ 2147483647) : MetN l yX5_countAnswer wsX5_countAnswer ({ frames := 0, cells := 0, slots := 0, locals := 0 } : Room) E [.ref (eO E 9), .int (iI z), .int (iI n)] (xW E I A L) (xCnt (A 25) z n.toNat) := by
  have hin5 : ∀ w ∈ wsX50, w ∈ wsX5_countAnswer := by decide +kernel
  refine met_N (cc := cX5_countAnswer) (nL := 5) (by decide) rfl (Nat.le_of_ble_eq_true rfl) ?_
  intro p e s m args below meth c Q H0 A0 H locs ls F hw hl hret
  have F : CallFix p m c cX5_countAnswer 5 s args wsX5_countAnswer RX5 := F
  have hl : lv_has ls 5 [(0, .ref (eO E 9)), (1, .int (iI z)), (2, .int (iI n))] := hl
  refine bi_iconst F dX5_countAnswer_0 ?_
  refine lv_istore_n (lv' := [(3, .int (iI 0)), (0, .ref (eO E 9)), (1, .int (iI z)), (2, .int (iI n))]) F.1 F.2.1 dX5_countAnswer_1 rfl hl (by decide) rfl (fun ls hl => ?_)
  refine bi_iconst F dX5_countAnswer_2 ?_
  refine lv_istore (lv' := [(4, .int (iI 0)), (3, .int (iI 0)), (0, .ref (eO E 9)), (1, .int (iI z)), (2, .int (iI n))]) F.1 F.2.1 dX5_countAnswer_3 hl (by decide) rfl (fun ls hl => ?_)
  have loop_5 : ∀ (nf : Nat) (a : Int) (i : Int) (H : Heap) (locs : List Loc) (ls : Array Slot) (hi : 0 ≤ i ∧ i ≤ n) (ha : a = xCnt (A 25) z i.toNat) (hw : gH E A0 H0 s (xW E I A L) H locs) (hl : lv_has ls 5 [(4, .int (iI i)), (3, .int (iI a)), (0, .ref (eO E 9)), (1, .int (iI z)), (2, .int (iI n))]) (hnf : (n - i).toNat < nf), W p l e ({ frames := 0, cells := 0, slots := 0, locals := 0 } : Room) s m args below meth c H locs 0 0 Q (F0 m 5 ls []) := by
    intro nf
    induction nf with
    | zero =>
      intro a i H locs ls hi ha hw hl hnf
      exact absurd hnf (Nat.not_lt_zero _)
    | succ nf ih_5 =>
      intro a i H locs ls hi ha hw hl hnf
      have hcb := xCnt_b (f := A 25) (z := z) i.toNat
      refine lv_iload F.1 F.2.1 dX5_countAnswer_5 (lv_at hl 0 rfl) ?_
      refine lv_iload_n F.1 F.2.1 dX5_countAnswer_7 rfl (lv_at hl 4 rfl) ?_
      refine bi_icmp_ge (tgt := 31) F dX5_countAnswer_8 (by decide) (by omega) (fun c_1 => ?_) (fun c_1 => ?_)
      · refine lv_iload_n F.1 F.2.1 dX5_countAnswer_31 rfl (lv_at hl 1 rfl) ?_
        exact hret _ _ _ _ _ (by rw [ha, show i = n by omega]) hw dX5_countAnswer_32
      · refine lv_aload_n F.1 F.2.1 dX5_countAnswer_11 rfl (lv_at hl 2 rfl) ?_
        refine x_get F hin5 hw 9 5 rfl rfl 6 (by decide) (by decide +kernel) rfl rfl dX5_countAnswer_12 ?_
        refine lv_iload F.1 F.2.1 dX5_countAnswer_15 (lv_at hl 0 rfl) ?_
        refine x_ld F hw 25 40 rfl (by decide) (by omega) dX5_countAnswer_17 ?_
        have f_2 := han (i)
        refine lv_iload_n F.1 F.2.1 dX5_countAnswer_18 rfl (lv_at hl 3 rfl) ?_
        refine bi_icmp_ne (tgt := 25) F dX5_countAnswer_19 (by decide) (by omega) (fun c_3 => ?_) (fun c_3 => ?_)
        · refine lv_iinc (v := iI (i + 1)) (lv' := [(4, .int (iI (i + 1))), (3, .int (iI a)), (0, .ref (eO E 9)), (1, .int (iI z)), (2, .int (iI n))]) F.1 F.2.1 dX5_countAnswer_25 hl (k := 0) rfl (iI_add _ _).symm (by decide) rfl (fun ls hl => ?_)
          refine lv_goto (tgt := 5) F.1 F.2.1 dX5_countAnswer_28 (by decide) ?_
          exact ih_5 a (i + 1) H locs ls (by omega) (by refine Eq.trans ?_ (fld_s (g := fun a i => if A 25 i = z then a + 1 else a) (z := 0) hi.1).symm; rw [show fld _ _ i.toNat = a from ha.symm]; first | (rw [if_pos (by omega)]; done) | (rw [if_neg (by omega)]; done)) hw (lv_sub hl [0, 1, 2, 3, 4] rfl) (by omega)
        · refine lv_iinc (v := iI (a + 1)) (lv' := [(3, .int (iI (a + 1))), (4, .int (iI i)), (0, .ref (eO E 9)), (1, .int (iI z)), (2, .int (iI n))]) F.1 F.2.1 dX5_countAnswer_22 hl (k := 1) rfl (iI_add _ _).symm (by decide) rfl (fun ls hl => ?_)
          refine lv_iinc (v := iI (i + 1)) (lv' := [(4, .int (iI (i + 1))), (3, .int (iI (a + 1))), (0, .ref (eO E 9)), (1, .int (iI z)), (2, .int (iI n))]) F.1 F.2.1 dX5_countAnswer_25 hl (k := 1) rfl (iI_add _ _).symm (by decide) rfl (fun ls hl => ?_)
          refine lv_goto (tgt := 5) F.1 F.2.1 dX5_countAnswer_28 (by decide) ?_
          exact ih_5 (a + 1) (i + 1) H locs ls (by omega) (by refine Eq.trans ?_ (fld_s (g := fun a i => if A 25 i = z then a + 1 else a) (z := 0) hi.1).symm; rw [show fld _ _ i.toNat = a from ha.symm]; first | (rw [if_pos (by omega)]; done) | (rw [if_neg (by omega)]; done)) hw (lv_sub hl [0, 1, 2, 3, 4] rfl) (by omega)
  exact loop_5 ((n - 0 : Int).toNat + 1) 0 0 H locs ls (by omega) (rfl) hw (lv_sub hl [0, 1, 2, 3, 4] rfl) (by omega)
set_option maxRecDepth 100000 in
set_option maxHeartbeats 4000000 in
theorem x5_greatestPartAlike (l : Launch) (E : Ev) (I : Nat → Int) (A : Nat → Int → Int) (L : Nat → Int64) (q : Int) (n : Int) (hp : 0 ≤ q ∧ q < 6) (hn : 0 ≤ n ∧ n ≤ 40) (hfi : ∀ k, 0 ≤ k ∧ k < n → 0 ≤ A 24 k ∧ A 24 k < 40) (hf : ∀ k, 0 ≤ A 17 k ∧ A 17 k ≤ 900000) (hyr : ∀ k, 0 ≤ A 12 k ∧ A 12 k ≤ 40) (hbn : ∀ k, 0 ≤ A 14 k ∧ A 14 k ≤ 999) (hh : A 17 (13 + q) < 4) (han : ∀ k, -2147483648 ≤ A 25 k ∧ A 25 k ≤ 2147483647) : MetF l yX5_greatestPartAlike wsX5_greatestPartAlike ({ frames := 3, cells := 0, slots := 0, locals := 68 } : Room) E [.ref (eO E 9), .int (iI q), .int (iI n)] (xW E I A L) (xW E (I) (stA A 25 (zr (A 25) (fun i => xTB A (A 24 i) q) n)) L) (xGrt (zr (A 25) (fun i => xTB A (A 24 i) q) n) n n.toNat) := by
  have hin5 : ∀ w ∈ wsX50, w ∈ wsX5_greatestPartAlike := by decide +kernel
  refine met_F (cc := cX5_greatestPartAlike) (nL := 5) (by decide) rfl (Nat.le_of_ble_eq_true rfl) ?_
  intro p e s m args below meth c Q H0 A0 H locs ls F hw hl hret
  have F : CallFix p m c cX5_greatestPartAlike 5 s args wsX5_greatestPartAlike RX5 := F
  have hl : lv_has ls 5 [(0, .ref (eO E 9)), (1, .int (iI q)), (2, .int (iI n))] := hl
  refine bi_iconst F dX5_greatestPartAlike_0 ?_
  refine lv_istore_n (lv' := [(3, .int (iI 0)), (0, .ref (eO E 9)), (1, .int (iI q)), (2, .int (iI n))]) F.1 F.2.1 dX5_greatestPartAlike_1 rfl hl (by decide) rfl (fun ls hl => ?_)
  have loop_2 : ∀ (nf : Nat) (i : Int) (A1 : Nat → Int → Int) (H : Heap) (locs : List Loc) (ls : Array Slot) (hi : 0 ≤ i ∧ i ≤ n) (hA1 : A1 = stA A 25 (zr (A 25) (fun i => xTB A (A 24 i) q) i)) (hw : gH E A0 H0 s (xW E I A1 L) H locs) (hl : lv_has ls 5 [(3, .int (iI i)), (0, .ref (eO E 9)), (1, .int (iI q)), (2, .int (iI n))]) (hnf : (n - i).toNat < nf), W p l e ({ frames := 3, cells := 0, slots := 0, locals := 68 } : Room) s m args below meth c H locs 0 0 Q (F0 m 2 ls []) := by
    intro nf
    induction nf with
    | zero =>
      intro i A1 H locs ls hi hA1 hw hl hnf
      exact absurd hnf (Nat.not_lt_zero _)
    | succ nf ih_2 =>
      intro i A1 H locs ls hi hA1 hw hl hnf
      have h12 : A1 12 = A 12 := by rw [hA1]; rfl
      have h14 : A1 14 = A 14 := by rw [hA1]; rfl
      have h17 : A1 17 = A 17 := by rw [hA1]; rfl
      have h24 : A1 24 = A 24 := by rw [hA1]; rfl
      have hTB : ∀ w, xTB A1 w q = xTB A w q := by rw [hA1]; intro w; rfl
      refine lv_iload_n F.1 F.2.1 dX5_greatestPartAlike_2 rfl (lv_at hl 0 rfl) ?_
      refine lv_iload_n F.1 F.2.1 dX5_greatestPartAlike_3 rfl (lv_at hl 3 rfl) ?_
      refine bi_icmp_ge (tgt := 30) F dX5_greatestPartAlike_4 (by decide) (by omega) (fun c_1 => ?_) (fun c_1 => ?_)
      · refine bi_iconst F dX5_greatestPartAlike_30 ?_
        refine lv_istore_n (lv' := [(3, .int (iI 0)), (0, .ref (eO E 9)), (1, .int (iI q)), (2, .int (iI n))]) F.1 F.2.1 dX5_greatestPartAlike_31 rfl hl (by decide) rfl (fun ls hl => ?_)
        have h25 : A1 25 = zr (A 25) (fun i => xTB A (A 24 i) q) n := by rw [hA1, show i = n by omega]; rfl
        have hinN : i = n := by omega
        have han2 : ∀ k, -2147483648 ≤ A1 25 k ∧ A1 25 k ≤ 2147483647 := by rw [h25]; intro k; unfold zr; split; (show -2147483648 ≤ xTB A (A 24 k) q ∧ xTB A (A 24 k) q ≤ 2147483647; have hz := xTB_r (A := A) (w := A 24 k) (q := q) hf hbn (hfi k (by omega)).1; omega); exact han k
        refine bi_iconst F dX5_greatestPartAlike_32 ?_
        refine lv_istore (lv' := [(4, .int (iI 0)), (3, .int (iI 0)), (0, .ref (eO E 9)), (1, .int (iI q)), (2, .int (iI n))]) F.1 F.2.1 dX5_greatestPartAlike_33 hl (by decide) rfl (fun ls hl => ?_)
        have loop_35 : ∀ (nf : Nat) (g : Int) (i : Int) (H : Heap) (locs : List Loc) (ls : Array Slot) (hi2 : 0 ≤ i ∧ i ≤ n) (hg : g = xGrt (zr (A 25) (fun i => xTB A (A 24 i) q) n) n i.toNat) (hw : gH E A0 H0 s (xW E I A1 L) H locs) (hl : lv_has ls 5 [(4, .int (iI i)), (3, .int (iI g)), (0, .ref (eO E 9)), (1, .int (iI q)), (2, .int (iI n))]) (hnf : (n - i).toNat < nf), W p l e ({ frames := 3, cells := 0, slots := 0, locals := 68 } : Room) s m args below meth c H locs 0 0 Q (F0 m 35 ls []) := by
          intro nf
          induction nf with
          | zero =>
            intro g i H locs ls hi2 hg hw hl hnf
            exact absurd hnf (Nat.not_lt_zero _)
          | succ nf ih_35 =>
            intro g i H locs ls hi2 hg hw hl hnf
            have hgb := xGrt_b (f := zr (A 25) (fun i => xTB A (A 24 i) q) n) (c := n) (by omega) i.toNat
            refine lv_iload F.1 F.2.1 dX5_greatestPartAlike_35 (lv_at hl 0 rfl) ?_
            refine lv_iload_n F.1 F.2.1 dX5_greatestPartAlike_37 rfl (lv_at hl 4 rfl) ?_
            refine bi_icmp_ge (tgt := 64) F dX5_greatestPartAlike_38 (by decide) (by omega) (fun c_2 => ?_) (fun c_2 => ?_)
            · refine lv_iload_n F.1 F.2.1 dX5_greatestPartAlike_64 rfl (lv_at hl 1 rfl) ?_
              exact hret _ _ _ _ _ _ (by rw [hg, show i = n by omega]) (xW_c rfl (by rw [hA1, hinN]) rfl) hw dX5_greatestPartAlike_65
            · refine lv_iload_n F.1 F.2.1 dX5_greatestPartAlike_41 rfl (lv_at hl 1 rfl) ?_
              refine lv_aload_n F.1 F.2.1 dX5_greatestPartAlike_42 rfl (lv_at hl 2 rfl) ?_
              refine lv_aload_n F.1 F.2.1 dX5_greatestPartAlike_43 rfl (lv_at hl 2 rfl) ?_
              refine x_get F hin5 hw 9 5 rfl rfl 6 (by decide) (by decide +kernel) rfl rfl dX5_greatestPartAlike_44 ?_
              refine lv_iload F.1 F.2.1 dX5_greatestPartAlike_47 (lv_at hl 0 rfl) ?_
              have han3 := han2 i
              refine x_ld F hw 25 40 rfl (by decide) (by omega) dX5_greatestPartAlike_49 ?_
              refine lv_iload_n F.1 F.2.1 dX5_greatestPartAlike_50 rfl (lv_at hl 4 rfl) ?_
              refine call_N (As := [.int (iI (A1 25 i)), .int (iI n)]) (rest := [.int (iI g)]) F (x5_countAnswer l E I A1 L (A1 25 i) n (by omega) (by omega) (han2)) (cwV 2 F.2.2.2.2 gX5_greatestPartAlike_X5_countAnswer rfl rfl rfl (by decide +kernel) ⟨(Nat.le_of_ble_eq_true rfl), (Nat.le_of_ble_eq_true rfl)⟩) hw (x_recv hw 9 5 rfl rfl) rfl hl.1 rfl (Nat.le_of_ble_eq_true rfl) dX5_greatestPartAlike_51 ⟨Nat.zero_le _, Nat.zero_le _⟩ (fun H locs hw => ?_)
              have f_3 := xCnt_b (f := A1 25) (z := (A1 25 i)) n.toNat
              refine bi_max F hl.1 (by decide +kernel) (by decide +kernel) (by decide +kernel) (by decide +kernel) (Nat.le_of_ble_eq_true rfl) (Nat.le_of_ble_eq_true rfl) (Nat.zero_le _) (Nat.zero_le _) (by omega) dX5_greatestPartAlike_54 ?_
              have f_4 := iMx_r g (xCnt (A1 25) (A1 25 i) n.toNat)
              refine lv_istore_n (lv' := [(3, .int (iI (iMx g (xCnt (A1 25) (A1 25 i) n.toNat)))), (4, .int (iI i)), (0, .ref (eO E 9)), (1, .int (iI q)), (2, .int (iI n))]) F.1 F.2.1 dX5_greatestPartAlike_57 rfl hl (by decide) rfl (fun ls hl => ?_)
              refine lv_iinc (v := iI (i + 1)) (lv' := [(4, .int (iI (i + 1))), (3, .int (iI (iMx g (xCnt (A1 25) (A1 25 i) n.toNat)))), (0, .ref (eO E 9)), (1, .int (iI q)), (2, .int (iI n))]) F.1 F.2.1 dX5_greatestPartAlike_58 hl (k := 1) rfl (iI_add _ _).symm (by decide) rfl (fun ls hl => ?_)
              refine lv_goto (tgt := 35) F.1 F.2.1 dX5_greatestPartAlike_61 (by decide) ?_
              exact ih_35 (iMx g (xCnt (A1 25) (A1 25 i) n.toNat)) (i + 1) H locs ls (by omega) (by refine Eq.trans ?_ (fld_s (g := fun g i => iMx g (xCnt (zr (A 25) (fun i => xTB A (A 24 i) q) n) ((zr (A 25) (fun i => xTB A (A 24 i) q) n) i) n.toNat)) (z := 0) hi2.1).symm; rw [show fld _ _ i.toNat = g from hg.symm, h25]) hw (lv_sub hl [0, 1, 2, 3, 4] rfl) (by omega)
        exact loop_35 ((n - 0 : Int).toNat + 1) 0 0 H locs ls (by omega) (rfl) hw (lv_sub hl [0, 1, 2, 3, 4] rfl) (by omega)
      · refine lv_aload_n F.1 F.2.1 dX5_greatestPartAlike_7 rfl (lv_at hl 1 rfl) ?_
        refine x_get F hin5 hw 9 5 rfl rfl 6 (by decide) (by decide +kernel) rfl rfl dX5_greatestPartAlike_8 ?_
        refine lv_iload_n F.1 F.2.1 dX5_greatestPartAlike_11 rfl (lv_at hl 0 rfl) ?_
        refine lv_aload_n F.1 F.2.1 dX5_greatestPartAlike_12 rfl (lv_at hl 1 rfl) ?_
        refine lv_aload_n F.1 F.2.1 dX5_greatestPartAlike_13 rfl (lv_at hl 1 rfl) ?_
        refine x_get F hin5 hw 9 5 rfl rfl 5 (by decide) (by decide +kernel) rfl rfl dX5_greatestPartAlike_14 ?_
        refine lv_iload_n F.1 F.2.1 dX5_greatestPartAlike_17 rfl (lv_at hl 0 rfl) ?_
        have hf1 := hfi i (by omega)
        have hf2 : A1 24 i = A 24 i := by rw [h24]
        refine x_ld F hw 24 40 rfl (by decide) (by omega) dX5_greatestPartAlike_18 ?_
        refine lv_iload_n F.1 F.2.1 dX5_greatestPartAlike_19 rfl (lv_at hl 2 rfl) ?_
        refine call_N (As := [.int (iI (A1 24 i)), .int (iI q)]) (rest := [.int (iI i), .ref (eA E 25)]) F (x5_ageByPole l E I A1 L (A1 24 i) q (by rw [h24]; exact hf1) (by omega) (by rw [h17]; exact hf) (by rw [h12]; exact hyr) (by rw [h14]; exact hbn) (by rw [h17]; exact hh)) (cwV 2 F.2.2.2.2 gX5_greatestPartAlike_X5_ageByPole rfl rfl rfl (by decide +kernel) ⟨(Nat.le_of_ble_eq_true rfl), (Nat.le_of_ble_eq_true rfl)⟩) hw (x_recv hw 9 5 rfl rfl) rfl hl.1 rfl (Nat.le_of_ble_eq_true rfl) dX5_greatestPartAlike_20 ⟨Nat.zero_le _, Nat.zero_le _⟩ (fun H locs hw => ?_)
        have f_5 := xTB_r (A := A1) (w := (A1 24 i)) (q := q) (by rw [h17]; exact hf) (by rw [h14]; exact hbn) (by omega)
        refine x_st F hw 25 40 rfl (by decide) (by omega) dX5_greatestPartAlike_23 (fun H locs hw => ?_)
        generalize eA6 : st2 A1 25 i (xTB A1 (A1 24 i) q) = A6 at hw
        refine lv_iinc (v := iI (i + 1)) (lv' := [(3, .int (iI (i + 1))), (0, .ref (eO E 9)), (1, .int (iI q)), (2, .int (iI n))]) F.1 F.2.1 dX5_greatestPartAlike_24 hl (k := 0) rfl (iI_add _ _).symm (by decide) rfl (fun ls hl => ?_)
        refine lv_goto (tgt := 2) F.1 F.2.1 dX5_greatestPartAlike_27 (by decide) ?_
        exact ih_2 (i + 1) A6 H locs ls (by omega) (by rw [← eA6, hTB, h24, hA1, st2_A]; congr 1; exact zr_s (z := fun i => xTB A (A 24 i) q) hi.1) hw (lv_sub hl [0, 1, 2, 3] rfl) (by omega)
  exact loop_2 ((n - 0 : Int).toNat + 1) 0 A H locs ls (by omega) (by rw [zr_0, stA_id]) hw (lv_sub hl [0, 1, 2, 3] rfl) (by omega)
