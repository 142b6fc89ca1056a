set_option maxRecDepth 100000 in
set_option maxHeartbeats 4000000 in
theorem x7_fill (l : Launch) (E : Ev) (I : Nat → Int) (A : Nat → Int → Int) (L : Nat → Int64) (j : Nat) (v : Int) (nj : Nat) (hnj : xLen j = nj) (hj28 : j < 28) (hb : nj ≤ 1000) : MetG l yJ7_fill_53178 wsJ7_fill_53178 ({ frames := 0, cells := 0, slots := 0, locals := 0 } : Room) E [.ref (eA E j), .int (iI v)] (xW E I A L) (xW E (I) (stA A j (zr (A j) (fun _ => v) nj)) L) := by
  refine met_G (cc := cJ7_fill_53178) (nL := 4) (by decide) rfl (Nat.le_of_ble_eq_true rfl) ?_
  intro p e s m args below meth c Q H0 A0 H locs ls F hw hl hret
  have F : CallFix p m c cJ7_fill_53178 4 s args wsJ7_fill_53178 RJ7 := F
  have hl : lv_has ls 4 [(0, .ref (eA E j)), (1, .int (iI v))] := hl
  refine bi_iconst F dJ7_fill_53178_0 ?_
  refine lv_istore_n (lv' := [(2, .int (iI 0)), (0, .ref (eA E j)), (1, .int (iI v))]) F.1 F.2.1 dJ7_fill_53178_1 rfl hl (by decide) rfl (fun ls hl => ?_)
  refine lv_aload_n F.1 F.2.1 dJ7_fill_53178_2 rfl (lv_at hl 1 rfl) ?_
  refine x_len F hw j hj28 (nj : Int) (by rw [hnj]; exact Int32.ofInt_eq_ofNat.symm) dJ7_fill_53178_3 ?_
  refine lv_istore_n (lv' := [(3, .int (iI (nj : Int))), (2, .int (iI 0)), (0, .ref (eA E j)), (1, .int (iI v))]) F.1 F.2.1 dJ7_fill_53178_4 rfl hl (by decide) rfl (fun ls hl => ?_)
  have loop_5 : ∀ (nf : Nat) (k : Int) (A1 : Nat → Int → Int) (H : Heap) (locs : List Loc) (ls : Array Slot) (hk : 0 ≤ k ∧ k ≤ (nj : Int)) (hA1 : A1 = stA A j (zr (A j) (fun _ => v) k)) (hw : gH E A0 H0 s (xW E I A1 L) H locs) (hl : lv_has ls 4 [(3, .int (iI (nj : Int))), (2, .int (iI k)), (0, .ref (eA E j)), (1, .int (iI v))]) (hnf : ((nj : Int) - k).toNat < nf), W p l e ({ frames := 0, cells := 0, slots := 0, locals := 0 } : Room) s m args below meth c H locs 0 0 Q (F0 m 5 ls []) := by
    intro nf
    induction nf with
    | zero =>
      intro k A1 H locs ls hk hA1 hw hl hnf
      exact absurd hnf (Nat.not_lt_zero _)
    | succ nf ih_5 =>
      intro k A1 H locs ls hk hA1 hw hl hnf
      refine lv_iload_n F.1 F.2.1 dJ7_fill_53178_5 rfl (lv_at hl 1 rfl) ?_
      refine lv_iload_n F.1 F.2.1 dJ7_fill_53178_6 rfl (lv_at hl 0 rfl) ?_
      refine bi_icmp_ge (tgt := 20) F dJ7_fill_53178_7 (by decide) (by omega) (fun c_1 => ?_) (fun c_1 => ?_)
      · exact hret _ _ _ _ _ (xW_c rfl (by rw [hA1, show k = (nj : Int) by omega]) rfl) hw dJ7_fill_53178_20
      · refine lv_aload_n F.1 F.2.1 dJ7_fill_53178_10 rfl (lv_at hl 2 rfl) ?_
        refine lv_iload_n F.1 F.2.1 dJ7_fill_53178_11 rfl (lv_at hl 1 rfl) ?_
        refine lv_iload_n F.1 F.2.1 dJ7_fill_53178_12 rfl (lv_at hl 3 rfl) ?_
        refine x_st F hw j nj hnj hj28 (by omega) dJ7_fill_53178_13 (fun H locs hw => ?_)
        generalize eA2 : st2 A1 j k v = A2 at hw
        refine lv_iinc (v := iI (k + 1)) (lv' := [(2, .int (iI (k + 1))), (3, .int (iI (nj : Int))), (0, .ref (eA E j)), (1, .int (iI v))]) F.1 F.2.1 dJ7_fill_53178_14 hl (k := 1) rfl (iI_add _ _).symm (by decide) rfl (fun ls hl => ?_)
        refine lv_goto (tgt := 5) F.1 F.2.1 dJ7_fill_53178_17 (by decide) ?_
        exact ih_5 (k + 1) A2 H locs ls (by omega) (by rw [← eA2, hA1, st2_A]; congr 1; exact zr_s hk.1) hw (lv_sub hl [1, 0, 2, 3] rfl) (by omega)
  exact loop_5 (((nj : Int) - 0 : Int).toNat + 1) 0 A H locs ls (by omega) (by rw [zr_0, stA_id]) hw (lv_sub hl [0, 1, 2, 3] rfl) (by omega)
set_option maxRecDepth 100000 in
set_option maxHeartbeats 4000000 in
theorem x8_partOneNight (l : Launch) (E : Ev) (I : Nat → Int) (A : Nat → Int → Int) (L : Nat → Int64) (v : Int) (gr : Int) (hv : 0 ≤ v ∧ v < 4) (hgr : 0 ≤ gr ∧ gr ≤ 999) (h00 : 0 < I 9) (hnn : 0 ≤ I 9 ∧ I 9 ≤ 20) (hin0 : ∀ k, 0 ≤ A 9 k ∧ A 9 k ≤ 40) (hdr : ∀ k, 0 ≤ A 10 k ∧ A 10 k ≤ 40) : MetG l yX8_partOneNight wsX8_partOneNight ({ frames := 2, cells := 0, slots := 0, locals := 44 } : Room) E [.ref (eO E 8), .int (iI v), .int (iI gr)] (xW E I A L) (xW E (I) (stA A 21 (xPart (A 9) (A 10 v) (I 9) (A 21) gr.toNat)) L) := by
  have hin7 : ∀ w ∈ wsX70, w ∈ wsX8_partOneNight := by decide +kernel
  have hin8 : ∀ w ∈ wsX80, w ∈ wsX8_partOneNight := by decide +kernel
  refine met_G (cc := cX8_partOneNight) (nL := 6) (by decide) rfl (Nat.le_of_ble_eq_true rfl) ?_
  intro p e s m args below meth c Q H0 A0 H locs ls F hw hl hret
  have F : CallFix p m c cX8_partOneNight 6 s args wsX8_partOneNight RX8 := F
  have hl : lv_has ls 6 [(0, .ref (eO E 8)), (1, .int (iI v)), (2, .int (iI gr))] := hl
  refine bi_iconst F dX8_partOneNight_0 ?_
  refine lv_istore_n (lv' := [(3, .int (iI 1)), (0, .ref (eO E 8)), (1, .int (iI v)), (2, .int (iI gr))]) F.1 F.2.1 dX8_partOneNight_1 rfl hl (by decide) rfl (fun ls hl => ?_)
  have loop_2 : ∀ (nf : Nat) (k : Int) (A1 : Nat → Int → Int) (H : Heap) (locs : List Loc) (ls : Array Slot) (hk : 1 ≤ k ∧ k ≤ gr + 1) (hA1 : A1 = stA A 21 (xPart (A 9) (A 10 v) (I 9) (A 21) (k - 1).toNat)) (hw : gH E A0 H0 s (xW E I A1 L) H locs) (hl : lv_has ls 6 [(3, .int (iI k)), (0, .ref (eO E 8)), (1, .int (iI v)), (2, .int (iI gr))]) (hnf : (gr + 1 - k).toNat < nf), W p l e ({ frames := 2, cells := 0, slots := 0, locals := 44 } : Room) s m args below meth c H locs 0 0 Q (F0 m 2 ls []) := by
    intro nf
    induction nf with
    | zero =>
      intro k A1 H locs ls hk hA1 hw hl hnf
      exact absurd hnf (Nat.not_lt_zero _)
    | succ nf ih_2 =>
      intro k A1 H locs ls hk hA1 hw hl hnf
      have h9 : A1 9 = A 9 := by rw [hA1]; rfl
      have h10 : A1 10 = A 10 := by rw [hA1]; rfl
      have h21 : A1 21 = xPart (A 9) (A 10 v) (I 9) (A 21) (k - 1).toNat := by rw [hA1]; rfl
      refine lv_iload_n F.1 F.2.1 dX8_partOneNight_2 rfl (lv_at hl 0 rfl) ?_
      refine lv_iload_n F.1 F.2.1 dX8_partOneNight_3 rfl (lv_at hl 3 rfl) ?_
      refine bi_icmp_gt (tgt := 119) F dX8_partOneNight_4 (by decide) (by omega) (fun c_1 => ?_) (fun c_1 => ?_)
      · exact hret _ _ _ _ _ (xW_c rfl (by rw [hA1, show k - 1 = gr by omega]) rfl) hw dX8_partOneNight_119
      · refine lv_iload_n F.1 F.2.1 dX8_partOneNight_7 rfl (lv_at hl 0 rfl) ?_
        refine lv_aload_n F.1 F.2.1 dX8_partOneNight_8 rfl (lv_at hl 1 rfl) ?_
        refine x_get F hin8 hw 8 8 rfl rfl 2 (by decide) (by decide +kernel) rfl rfl dX8_partOneNight_9 ?_
        refine x_len F hw 21 (by decide) 1000 rfl dX8_partOneNight_12 ?_
        refine bi_icmp_ge (tgt := 119) F dX8_partOneNight_13 (by decide) (by omega) (fun c_2 => ?_) (fun c_2 => ?_)
        · exact hret _ _ _ _ _ (xW_c rfl (by rw [hA1, show k - 1 = gr by omega]) rfl) hw dX8_partOneNight_119
        · refine lv_aload_n F.1 F.2.1 dX8_partOneNight_16 rfl (lv_at hl 1 rfl) ?_
          refine x_get F hin8 hw 8 8 rfl rfl 0 (by decide) (by decide +kernel) rfl rfl dX8_partOneNight_17 ?_
          refine x_get F hin7 hw 3 7 rfl rfl 8 (by decide) (by decide +kernel) rfl rfl dX8_partOneNight_20 ?_
          refine bi_if_le (tgt := 43) F dX8_partOneNight_23 (by decide) (by omega) (fun c_3 => ?_) (fun c_3 => ?_)
          · exfalso; omega
          refine lv_aload_n F.1 F.2.1 dX8_partOneNight_26 rfl (lv_at hl 1 rfl) ?_
          refine x_get F hin8 hw 8 8 rfl rfl 2 (by decide) (by decide +kernel) rfl rfl dX8_partOneNight_27 ?_
          refine lv_iload_n F.1 F.2.1 dX8_partOneNight_30 rfl (lv_at hl 0 rfl) ?_
          refine x_ld F hw 21 1000 rfl (by decide) (by omega) dX8_partOneNight_31 ?_
          refine lv_aload_n F.1 F.2.1 dX8_partOneNight_32 rfl (lv_at hl 1 rfl) ?_
          refine x_get F hin8 hw 8 8 rfl rfl 0 (by decide) (by decide +kernel) rfl rfl dX8_partOneNight_33 ?_
          refine x_get F hin7 hw 3 7 rfl rfl 8 (by decide) (by decide +kernel) rfl rfl dX8_partOneNight_36 ?_
          refine bi_idivX F dX8_partOneNight_39 (by omega) ?_
          have f_4 := iDv_r (A1 21 k) (I 9)
          refine lv_goto (tgt := 44) F.1 F.2.1 dX8_partOneNight_40 (by decide) ?_
          rw [show iDv (A1 21 k) (I 9) = iDv (xPart (A 9) (A 10 v) (I 9) (A 21) (k - 1).toNat k) (I 9) by rw [h21]]
          have hdr9 := iDv_r (xPart (A 9) (A 10 v) (I 9) (A 21) (k - 1).toNat k) (I 9)
          refine lv_istore (lv' := [(4, .int (iI (iDv (xPart (A 9) (A 10 v) (I 9) (A 21) (k - 1).toNat k) (I 9)))), (3, .int (iI k)), (0, .ref (eO E 8)), (1, .int (iI v)), (2, .int (iI gr))]) F.1 F.2.1 dX8_partOneNight_44 hl (by decide) rfl (fun ls hl => ?_)
          refine lv_aload_n F.1 F.2.1 dX8_partOneNight_46 rfl (lv_at hl 2 rfl) ?_
          refine x_get F hin8 hw 8 8 rfl rfl 2 (by decide) (by decide +kernel) rfl rfl dX8_partOneNight_47 ?_
          refine lv_iload_n F.1 F.2.1 dX8_partOneNight_50 rfl (lv_at hl 1 rfl) ?_
          refine bi_iconst F dX8_partOneNight_51 ?_
          refine x_st F hw 21 1000 rfl (by decide) (by omega) dX8_partOneNight_52 (fun H locs hw => ?_)
          generalize eA5 : st2 A1 21 k 0 = A5 at hw
          refine bi_iconst F dX8_partOneNight_53 ?_
          refine lv_istore (lv' := [(5, .int (iI 0)), (4, .int (iI (iDv (xPart (A 9) (A 10 v) (I 9) (A 21) (k - 1).toNat k) (I 9)))), (3, .int (iI k)), (0, .ref (eO E 8)), (1, .int (iI v)), (2, .int (iI gr))]) F.1 F.2.1 dX8_partOneNight_54 hl (by decide) rfl (fun ls hl => ?_)
          have loop_56 : ∀ (nf : Nat) (j : Int) (A3 : Nat → Int → Int) (H : Heap) (locs : List Loc) (ls : Array Slot) (hj : 0 ≤ j ∧ j ≤ I 9) (hA3 : A3 = stA A 21 (xDepJ (A 9) (A 10 v) k (iDv (xPart (A 9) (A 10 v) (I 9) (A 21) (k - 1).toNat k) (I 9)) (up1 (xPart (A 9) (A 10 v) (I 9) (A 21) (k - 1).toNat) k 0) j.toNat)) (hw : gH E A0 H0 s (xW E I A3 L) H locs) (hl : lv_has ls 6 [(5, .int (iI j)), (4, .int (iI (iDv (xPart (A 9) (A 10 v) (I 9) (A 21) (k - 1).toNat k) (I 9)))), (3, .int (iI k)), (0, .ref (eO E 8)), (1, .int (iI v)), (2, .int (iI gr))]) (hnf : (I 9 - j).toNat < nf), W p l e ({ frames := 2, cells := 0, slots := 0, locals := 44 } : Room) s m args below meth c H locs 0 0 Q (F0 m 56 ls []) := by
            intro nf
            induction nf with
            | zero =>
              intro j A3 H locs ls hj hA3 hw hl hnf
              exact absurd hnf (Nat.not_lt_zero _)
            | succ nf ih_56 =>
              intro j A3 H locs ls hj hA3 hw hl hnf
              have h9 : A3 9 = A 9 := by rw [hA3]; rfl
              have h10 : A3 10 = A 10 := by rw [hA3]; rfl
              refine lv_iload F.1 F.2.1 dX8_partOneNight_56 (lv_at hl 0 rfl) ?_
              refine lv_aload_n F.1 F.2.1 dX8_partOneNight_58 rfl (lv_at hl 3 rfl) ?_
              refine x_get F hin8 hw 8 8 rfl rfl 0 (by decide) (by decide +kernel) rfl rfl dX8_partOneNight_59 ?_
              refine x_get F hin7 hw 3 7 rfl rfl 8 (by decide) (by decide +kernel) rfl rfl dX8_partOneNight_62 ?_
              refine bi_icmp_ge (tgt := 113) F dX8_partOneNight_65 (by decide) (by omega) (fun c_6 => ?_) (fun c_6 => ?_)
              · have hfin : A3 = stA A 21 (xDepJ (A 9) (A 10 v) k (iDv (xPart (A 9) (A 10 v) (I 9) (A 21) (k - 1).toNat k) (I 9)) (up1 (xPart (A 9) (A 10 v) (I 9) (A 21) (k - 1).toNat) k 0) (I 9).toNat) := by first | (rw [hA3, show j = I 9 by omega]; done) | (rw [hA3, xDepJ_0 _ (by omega), xDepJ_0 _ (by omega)]; done)
                refine lv_iinc (v := iI (k + 1)) (lv' := [(3, .int (iI (k + 1))), (5, .int (iI j)), (4, .int (iI (iDv (xPart (A 9) (A 10 v) (I 9) (A 21) (k - 1).toNat k) (I 9)))), (0, .ref (eO E 8)), (1, .int (iI v)), (2, .int (iI gr))]) F.1 F.2.1 dX8_partOneNight_113 hl (k := 2) rfl (iI_add _ _).symm (by decide) rfl (fun ls hl => ?_)
                refine lv_goto (tgt := 2) F.1 F.2.1 dX8_partOneNight_116 (by decide) ?_
                exact ih_2 (k + 1) A3 H locs ls (by omega) (by rw [xPart_s hk.1]; exact hfin) hw (lv_sub hl [0, 3, 4, 5] rfl) (by omega)
              · refine lv_iload F.1 F.2.1 dX8_partOneNight_68 (lv_at hl 1 rfl) ?_
                refine bi_if_le (tgt := 113) F dX8_partOneNight_70 (by decide) (by omega) (fun c_7 => ?_) (fun c_7 => ?_)
                · have hfin : A3 = stA A 21 (xDepJ (A 9) (A 10 v) k (iDv (xPart (A 9) (A 10 v) (I 9) (A 21) (k - 1).toNat k) (I 9)) (up1 (xPart (A 9) (A 10 v) (I 9) (A 21) (k - 1).toNat) k 0) (I 9).toNat) := by first | (rw [hA3, show j = I 9 by omega]; done) | (rw [hA3, xDepJ_0 _ (by omega), xDepJ_0 _ (by omega)]; done)
                  refine lv_iinc (v := iI (k + 1)) (lv' := [(3, .int (iI (k + 1))), (5, .int (iI j)), (4, .int (iI (iDv (xPart (A 9) (A 10 v) (I 9) (A 21) (k - 1).toNat k) (I 9)))), (0, .ref (eO E 8)), (1, .int (iI v)), (2, .int (iI gr))]) F.1 F.2.1 dX8_partOneNight_113 hl (k := 2) rfl (iI_add _ _).symm (by decide) rfl (fun ls hl => ?_)
                  refine lv_goto (tgt := 2) F.1 F.2.1 dX8_partOneNight_116 (by decide) ?_
                  exact ih_2 (k + 1) A3 H locs ls (by omega) (by rw [xPart_s hk.1]; exact hfin) hw (lv_sub hl [0, 3, 4, 5] rfl) (by omega)
                · refine lv_aload_n F.1 F.2.1 dX8_partOneNight_73 rfl (lv_at hl 3 rfl) ?_
                  refine x_get F hin8 hw 8 8 rfl rfl 2 (by decide) (by decide +kernel) rfl rfl dX8_partOneNight_74 ?_
                  refine bi_iconst F dX8_partOneNight_77 ?_
                  refine lv_iload_n F.1 F.2.1 dX8_partOneNight_78 rfl (lv_at hl 2 rfl) ?_
                  refine lv_aload_n F.1 F.2.1 dX8_partOneNight_79 rfl (lv_at hl 3 rfl) ?_
                  refine x_get F hin8 hw 8 8 rfl rfl 0 (by decide) (by decide +kernel) rfl rfl dX8_partOneNight_80 ?_
                  refine lv_iload_n F.1 F.2.1 dX8_partOneNight_83 rfl (lv_at hl 4 rfl) ?_
                  refine lv_aload_n F.1 F.2.1 dX8_partOneNight_84 rfl (lv_at hl 3 rfl) ?_
                  refine x_get F hin8 hw 8 8 rfl rfl 0 (by decide) (by decide +kernel) rfl rfl dX8_partOneNight_85 ?_
                  refine x_get F hin7 hw 3 7 rfl rfl 0 (by decide) (by decide +kernel) rfl rfl dX8_partOneNight_88 ?_
                  refine lv_iload F.1 F.2.1 dX8_partOneNight_91 (lv_at hl 0 rfl) ?_
                  have hx9 : A3 9 j = A 9 j := by rw [h9]
                  have hx8 := hin0 j
                  refine x_ld F hw 9 20 rfl (by decide) (by omega) dX8_partOneNight_93 ?_
                  refine call_N (As := [.int (iI v), .int (iI (A3 9 j))]) (rest := [.int (iI k), .int (iI 0), .ref (eA E 21)]) F (x7_depth l E I A3 L v (A3 9 j) (by omega) (by omega) (by rw [h10]; exact hdr)) (cwV 2 F.2.2.2.2 gX8_partOneNight_X7_depth rfl rfl rfl (by decide +kernel) ⟨(Nat.le_of_ble_eq_true rfl), (Nat.le_of_ble_eq_true rfl)⟩) hw (x_recv hw 3 7 rfl rfl) rfl hl.1 rfl (Nat.le_of_ble_eq_true rfl) dX8_partOneNight_94 ⟨Nat.zero_le _, Nat.zero_le _⟩ (fun H locs hw => ?_)
                  have hd8 := hdr v
                  have hd9 : A3 10 v = A 10 v := by rw [h10]
                  have hm9 := iMx_r 0 (A3 9 j - A3 10 v)
                  refine bi_isub F dX8_partOneNight_97 ?_
                  refine bi_max F hl.1 (by decide +kernel) (by decide +kernel) (by decide +kernel) (by decide +kernel) (Nat.le_of_ble_eq_true rfl) (Nat.le_of_ble_eq_true rfl) (Nat.zero_le _) (Nat.zero_le _) (by omega) dX8_partOneNight_98 ?_
                  have f_8 := iMx_r 0 (k - (iMx 0 ((A3 9 j) - A3 10 v)))
                  rw [show iMx 0 (k - iMx 0 (A3 9 j - A3 10 v)) = iMx 0 (k - iMx 0 (A 9 j - A 10 v)) by rw [h9, h10]]
                  have hm7 := iMx_r 0 (k - iMx 0 (A 9 j - A 10 v))
                  have hm6 := iMx_r 0 (A 9 j - A 10 v)
                  refine lv_dup2_11 F.1 F.2.1 dX8_partOneNight_101 rfl rfl ?_
                  refine x_ld F hw 21 1000 rfl (by decide) (by omega) dX8_partOneNight_102 ?_
                  refine lv_iload F.1 F.2.1 dX8_partOneNight_103 (lv_at hl 1 rfl) ?_
                  refine bi_iadd F dX8_partOneNight_105 ?_
                  refine x_st F hw 21 1000 rfl (by decide) (by omega) dX8_partOneNight_106 (fun H locs hw => ?_)
                  generalize eA9 : st2 A3 21 (iMx 0 (k - iMx 0 (A 9 j - A 10 v))) (A3 21 (iMx 0 (k - iMx 0 (A 9 j - A 10 v))) + (iDv (xPart (A 9) (A 10 v) (I 9) (A 21) (k - 1).toNat k) (I 9))) = A9 at hw
                  refine lv_iinc (v := iI (j + 1)) (lv' := [(5, .int (iI (j + 1))), (4, .int (iI (iDv (xPart (A 9) (A 10 v) (I 9) (A 21) (k - 1).toNat k) (I 9)))), (3, .int (iI k)), (0, .ref (eO E 8)), (1, .int (iI v)), (2, .int (iI gr))]) F.1 F.2.1 dX8_partOneNight_107 hl (k := 0) rfl (iI_add _ _).symm (by decide) rfl (fun ls hl => ?_)
                  refine lv_goto (tgt := 56) F.1 F.2.1 dX8_partOneNight_110 (by decide) ?_
                  exact ih_56 (j + 1) A9 H locs ls (by omega) (by rw [xDepJ_s hj.1 (by omega), ← eA9, hA3, st2_A, stA_s]) hw (lv_sub hl [0, 1, 2, 3, 4, 5] rfl) (by omega)
          exact loop_56 ((I 9 - 0 : Int).toNat + 1) 0 A5 H locs ls (by omega) (by rw [← eA5, hA1, st2_A]; rfl) hw (lv_sub hl [0, 1, 2, 3, 4, 5] rfl) (by omega)
  exact loop_2 ((gr + 1 - 1 : Int).toNat + 1) 1 A H locs ls (by omega) (by exact stA_id.symm) hw (lv_sub hl [0, 1, 2, 3] rfl) (by omega)
set_option maxRecDepth 100000 in
set_option maxHeartbeats 4000000 in
theorem x8_chanceOfDue (l : Launch) (E : Ev) (I : Nat → Int) (A : Nat → Int → Int) (L : Nat → Int64) (d : Int) (n : Int) (hd : 0 ≤ d ∧ d < 5) (hn : 0 ≤ n ∧ n ≤ 30) (hpl1 : 0 ≤ A 15 d ∧ A 15 d < 4) (hf : ∀ k, 0 ≤ A 17 k ∧ A 17 k ≤ 900000) (h00 : 0 < I 9) (hnn : 0 ≤ I 9 ∧ I 9 ≤ 20) (hin0 : ∀ k, 0 ≤ A 9 k ∧ A 9 k ≤ 40) (hdr : ∀ k, 0 ≤ A 10 k ∧ A 10 k ≤ 40) (hlk : xLack A d ≤ 999) : MetF l yX8_chanceOfDue wsX8_chanceOfDue ({ frames := 3, cells := 0, slots := 0, locals := 69 } : Room) E [.ref (eO E 8), .int (iI d), .int (iI n)] (xW E I A L) (xW E (I) (stA A 21 (xCha (A 9) (A 10 (A 15 d)) (I 9) (xLack A d) n.toNat)) L) (xCha (A 9) (A 10 (A 15 d)) (I 9) (xLack A d) n.toNat 0) := by
  have hin7 : ∀ w ∈ wsX70, w ∈ wsX8_chanceOfDue := by decide +kernel
  have hin8 : ∀ w ∈ wsX80, w ∈ wsX8_chanceOfDue := by decide +kernel
  refine met_F (cc := cX8_chanceOfDue) (nL := 5) (by decide) rfl (Nat.le_of_ble_eq_true rfl) ?_
  intro p e s m args below meth c Q H0 A0 H locs ls F hw hl hret
  have F : CallFix p m c cX8_chanceOfDue 5 s args wsX8_chanceOfDue RX8 := F
  have hl : lv_has ls 5 [(0, .ref (eO E 8)), (1, .int (iI d)), (2, .int (iI n))] := hl
  have hlr := xLack_r (A := A) (d := d) hf
  refine lv_aload_n F.1 F.2.1 dX8_chanceOfDue_0 rfl (lv_at hl 0 rfl) ?_
  refine x_get F hin8 hw 8 8 rfl rfl 2 (by decide) (by decide +kernel) rfl rfl dX8_chanceOfDue_1 ?_
  refine bi_iconst F dX8_chanceOfDue_4 ?_
  refine calls_G (As := [.ref (eA E 21), .int (iI 0)]) (rest := []) F (x7_fill l E I A L 21 0 1000 rfl (by decide) (by omega)) (va_cwS 2 F.2.2.2.2 gX8_chanceOfDue_J7_fill_53178 rfl rfl rfl (by decide +kernel) ⟨(Nat.le_of_ble_eq_true rfl), (Nat.le_of_ble_eq_true rfl)⟩) hw rfl hl.1 rfl (Nat.le_of_ble_eq_true rfl) dX8_chanceOfDue_5 ⟨Nat.zero_le _, Nat.zero_le _⟩ (fun H locs hw => ?_)
  generalize eA1 : stA A 21 (zr (A 21) (fun _ => 0) ((1000 : Nat) : Int)) = A1 at hw
  have hw := x_norm hw 21 1000 (by decide) rfl (zZ) (fun t ht => by rw [← eA1, stA_s]; exact zr_in ht)
  generalize eA2 : stA A1 21 (zZ) = A2 at hw
  refine lv_aload_n F.1 F.2.1 dX8_chanceOfDue_8 rfl (lv_at hl 0 rfl) ?_
  refine x_get F hin8 hw 8 8 rfl rfl 1 (by decide) (by decide +kernel) rfl rfl dX8_chanceOfDue_9 ?_
  refine lv_aload_n F.1 F.2.1 dX8_chanceOfDue_12 rfl (lv_at hl 0 rfl) ?_
  refine x_get F hin8 hw 8 8 rfl rfl 0 (by decide) (by decide +kernel) rfl rfl dX8_chanceOfDue_13 ?_
  refine lv_iload_n F.1 F.2.1 dX8_chanceOfDue_16 rfl (lv_at hl 1 rfl) ?_
  have hxl : xLack A2 d = xLack A d := by subst_vars; rfl
  refine call_N (As := [.ref (eO E 3), .int (iI d)]) (rest := []) F (x6_lack l E I A2 L d (by omega) (by subst_vars; exact hf) (by subst_vars; exact hpl1)) (cwV 2 F.2.2.2.2 gX8_chanceOfDue_X6_lack rfl rfl rfl (by decide +kernel) ⟨(Nat.le_of_ble_eq_true rfl), (Nat.le_of_ble_eq_true rfl)⟩) hw (x_recv hw 4 6 rfl rfl) rfl hl.1 rfl (Nat.le_of_ble_eq_true rfl) dX8_chanceOfDue_17 ⟨Nat.zero_le _, Nat.zero_le _⟩ (fun H locs hw => ?_)
  have f_3 := xLack_r (A := A2) (d := d) (by subst_vars; exact hf)
  rw [hxl]
  refine lv_istore_n (lv' := [(3, .int (iI (xLack A d))), (0, .ref (eO E 8)), (1, .int (iI d)), (2, .int (iI n))]) F.1 F.2.1 dX8_chanceOfDue_20 rfl hl (by decide) rfl (fun ls hl => ?_)
  refine lv_iload_n F.1 F.2.1 dX8_chanceOfDue_21 rfl (lv_at hl 0 rfl) ?_
  refine lv_aload_n F.1 F.2.1 dX8_chanceOfDue_22 rfl (lv_at hl 1 rfl) ?_
  refine x_get F hin8 hw 8 8 rfl rfl 2 (by decide) (by decide +kernel) rfl rfl dX8_chanceOfDue_23 ?_
  refine x_len F hw 21 (by decide) 1000 rfl dX8_chanceOfDue_26 ?_
  refine bi_icmp_lt (tgt := 32) F dX8_chanceOfDue_27 (by decide) (by omega) (fun c_4 => ?_) (fun c_4 => ?_)
  rotate_left
  · exfalso; omega
  refine lv_aload_n F.1 F.2.1 dX8_chanceOfDue_32 rfl (lv_at hl 1 rfl) ?_
  refine x_get F hin8 hw 8 8 rfl rfl 2 (by decide) (by decide +kernel) rfl rfl dX8_chanceOfDue_33 ?_
  refine lv_iload_n F.1 F.2.1 dX8_chanceOfDue_36 rfl (lv_at hl 0 rfl) ?_
  refine bi_ldc F (1000000) (by decide +kernel) rfl dX8_chanceOfDue_37 ?_
  refine x_st F hw 21 1000 rfl (by decide) (by omega) dX8_chanceOfDue_39 (fun H locs hw => ?_)
  generalize eA5 : st2 A2 21 (xLack A d) 1000000 = A5 at hw
  refine bi_iconst F dX8_chanceOfDue_40 ?_
  refine lv_istore (lv' := [(4, .int (iI 0)), (3, .int (iI (xLack A d))), (0, .ref (eO E 8)), (1, .int (iI d)), (2, .int (iI n))]) F.1 F.2.1 dX8_chanceOfDue_41 hl (by decide) rfl (fun ls hl => ?_)
  have loop_43 : ∀ (nf : Nat) (k : Int) (A1 : Nat → Int → Int) (H : Heap) (locs : List Loc) (ls : Array Slot) (hk : 0 ≤ k ∧ k ≤ n) (hA1 : A1 = stA A 21 (xCha (A 9) (A 10 (A 15 d)) (I 9) (xLack A d) k.toNat)) (hw : gH E A0 H0 s (xW E I A1 L) H locs) (hl : lv_has ls 5 [(4, .int (iI k)), (3, .int (iI (xLack A d))), (0, .ref (eO E 8)), (1, .int (iI d)), (2, .int (iI n))]) (hnf : (n - k).toNat < nf), W p l e ({ frames := 3, cells := 0, slots := 0, locals := 69 } : Room) s m args below meth c H locs 0 0 Q (F0 m 43 ls []) := by
    intro nf
    induction nf with
    | zero =>
      intro k A1 H locs ls hk hA1 hw hl hnf
      exact absurd hnf (Nat.not_lt_zero _)
    | succ nf ih_43 =>
      intro k A1 H locs ls hk hA1 hw hl hnf
      refine lv_iload F.1 F.2.1 dX8_chanceOfDue_43 (lv_at hl 0 rfl) ?_
      refine lv_iload_n F.1 F.2.1 dX8_chanceOfDue_45 rfl (lv_at hl 4 rfl) ?_
      refine bi_icmp_ge (tgt := 69) F dX8_chanceOfDue_46 (by decide) (by omega) (fun c_6 => ?_) (fun c_6 => ?_)
      · refine lv_aload_n F.1 F.2.1 dX8_chanceOfDue_69 rfl (lv_at hl 2 rfl) ?_
        refine x_get F hin8 hw 8 8 rfl rfl 2 (by decide) (by decide +kernel) rfl rfl dX8_chanceOfDue_70 ?_
        refine bi_iconst F dX8_chanceOfDue_73 ?_
        refine x_ld F hw 21 1000 rfl (by decide) (by omega) dX8_chanceOfDue_74 ?_
        exact hret _ _ _ _ _ _ (by rw [hA1, show k = n by omega]; rfl) (xW_c rfl (by rw [hA1, show k = n by omega]) rfl) hw dX8_chanceOfDue_75
      · refine lv_aload_n F.1 F.2.1 dX8_chanceOfDue_49 rfl (lv_at hl 2 rfl) ?_
        refine lv_aload_n F.1 F.2.1 dX8_chanceOfDue_50 rfl (lv_at hl 2 rfl) ?_
        refine x_get F hin8 hw 8 8 rfl rfl 0 (by decide) (by decide +kernel) rfl rfl dX8_chanceOfDue_51 ?_
        refine x_get F hin7 hw 3 7 rfl rfl 6 (by decide) (by decide +kernel) rfl rfl dX8_chanceOfDue_54 ?_
        refine lv_iload_n F.1 F.2.1 dX8_chanceOfDue_57 rfl (lv_at hl 3 rfl) ?_
        have hx15 : A1 15 d = A 15 d := by rw [hA1]; rfl
        refine x_ld F hw 15 5 rfl (by decide) (by omega) dX8_chanceOfDue_58 ?_
        refine lv_iload_n F.1 F.2.1 dX8_chanceOfDue_59 rfl (lv_at hl 1 rfl) ?_
        refine call_G (As := [.int (iI (A1 15 d)), .int (iI (xLack A d))]) (rest := []) F (x8_partOneNight l E I A1 L (A1 15 d) (xLack A d) (by omega) (by omega) (by omega) (by omega) (by rw [hA1]; exact hin0) (by rw [hA1]; exact hdr)) (cwV 2 F.2.2.2.2 gX8_chanceOfDue_X8_partOneNight rfl rfl rfl (by decide +kernel) ⟨(Nat.le_of_ble_eq_true rfl), (Nat.le_of_ble_eq_true rfl)⟩) hw (x_recv hw 8 8 rfl rfl) rfl hl.1 rfl (Nat.le_of_ble_eq_true rfl) dX8_chanceOfDue_60 ⟨Nat.zero_le _, Nat.zero_le _⟩ (fun H locs hw => ?_)
        generalize eA7 : stA A1 21 (xPart (A1 9) (A1 10 (A1 15 d)) (I 9) (A1 21) (xLack A d).toNat) = A7 at hw
        refine lv_iinc (v := iI (k + 1)) (lv' := [(4, .int (iI (k + 1))), (3, .int (iI (xLack A d))), (0, .ref (eO E 8)), (1, .int (iI d)), (2, .int (iI n))]) F.1 F.2.1 dX8_chanceOfDue_63 hl (k := 0) rfl (iI_add _ _).symm (by decide) rfl (fun ls hl => ?_)
        refine lv_goto (tgt := 43) F.1 F.2.1 dX8_chanceOfDue_66 (by decide) ?_
        exact ih_43 (k + 1) A7 H locs ls (by omega) (by rw [← eA7, hA1, stA_2, xCha_s hk.1]; rfl) hw (lv_sub hl [0, 1, 2, 3, 4] rfl) (by omega)
  exact loop_43 ((n - 0 : Int).toNat + 1) 0 A5 H locs ls (by omega) (by subst_vars; rw [st2_A, stA_2]; rfl) hw (lv_sub hl [0, 1, 2, 3, 4] rfl) (by omega)
set_option maxRecDepth 100000 in
set_option maxHeartbeats 4000000 in
theorem x5_bestToAsk (l : Launch) (E : Ev) (I : Nat → Int) (A : Nat → Int → Int) (L : Nat → Int64) (hcn : 0 ≤ I 16 ∧ I 16 ≤ 6) (hsp : ∀ k, 0 ≤ k ∧ k < I 16 → 0 ≤ A 22 k ∧ A 22 k < I 11) (hsa : ∀ k, 0 ≤ A 23 k ∧ A 23 k ≤ 9999) (hnp : 0 ≤ I 11 ∧ I 11 ≤ 6) (hnv : 0 ≤ I 10 ∧ I 10 ≤ 4) (hho : ∀ q, 0 ≤ q ∧ q < I 11 → A 17 (13 + q) < 4) (hf : ∀ k, 0 ≤ A 17 k ∧ A 17 k ≤ 900000) (hyr : ∀ k, 0 ≤ A 12 k ∧ A 12 k ≤ 40) (hbn : ∀ k, 0 ≤ A 14 k ∧ A 14 k ≤ 999) (han : ∀ k, -2147483648 ≤ A 25 k ∧ A 25 k ≤ 2147483647) : MetX l yX5_bestToAsk wsX5_bestToAsk ({ frames := 5, cells := 0, slots := 0, locals := 112 } : Room) E [.ref (eO E 9)] I A L ((xAsk A (xLays A (I 16) (I 10 * 10).toNat).2 (xLays A (I 16) (I 10 * 10).toNat).1 (I 11).toNat).1) := by
  have hin5 : ∀ w ∈ wsX50, w ∈ wsX5_bestToAsk := by decide +kernel
  have hin7 : ∀ w ∈ wsX70, w ∈ wsX5_bestToAsk := by decide +kernel
  refine met_X (cc := cX5_bestToAsk) (nL := 6) (by decide) rfl (Nat.le_of_ble_eq_true rfl) ?_
  intro p e s m args below meth c Q H0 A0 H locs ls F hw hl hret
  have F : CallFix p m c cX5_bestToAsk 6 s args wsX5_bestToAsk RX5 := F
  have hl : lv_has ls 6 [(0, .ref (eO E 9))] := hl
  have hlb := xLays_b (A := A) (g := I 16) (I 10 * 10).toNat
  refine lv_aload_n F.1 F.2.1 dX5_bestToAsk_0 rfl (lv_at hl 0 rfl) ?_
  refine call_F (As := []) (rest := []) F (x5_countFitting l E I A L  (by omega) hsp hsa (by omega) (by omega) hho hf hyr hbn) (cwV 0 F.2.2.2.2 gX5_bestToAsk_X5_countFitting rfl rfl rfl (by decide +kernel) ⟨(Nat.le_of_ble_eq_true rfl), (Nat.le_of_ble_eq_true rfl)⟩) hw (x_recv hw 9 5 rfl rfl) rfl hl.1 rfl (Nat.le_of_ble_eq_true rfl) dX5_bestToAsk_1 ⟨Nat.zero_le _, Nat.zero_le _⟩ (fun H locs hw => ?_)
  generalize eA1 : stA A 24 (xLays A (I 16) (I 10 * 10).toNat).2 = A1 at hw
  refine lv_istore_n (lv' := [(1, .int (iI ((xLays A (I 16) (I 10 * 10).toNat).1))), (0, .ref (eO E 9))]) F.1 F.2.1 dX5_bestToAsk_4 rfl hl (by decide) rfl (fun ls hl => ?_)
  refine bi_iconst F dX5_bestToAsk_5 ?_
  refine lv_istore_n (lv' := [(2, .int (iI (-1))), (1, .int (iI ((xLays A (I 16) (I 10 * 10).toNat).1))), (0, .ref (eO E 9))]) F.1 F.2.1 dX5_bestToAsk_6 rfl hl (by decide) rfl (fun ls hl => ?_)
  refine lv_iload_n F.1 F.2.1 dX5_bestToAsk_7 rfl (lv_at hl 1 rfl) ?_
  refine lv_istore_n (lv' := [(3, .int (iI ((xLays A (I 16) (I 10 * 10).toNat).1))), (2, .int (iI (-1))), (1, .int (iI ((xLays A (I 16) (I 10 * 10).toNat).1))), (0, .ref (eO E 9))]) F.1 F.2.1 dX5_bestToAsk_8 rfl hl (by decide) rfl (fun ls hl => ?_)
  refine bi_iconst F dX5_bestToAsk_9 ?_
  refine lv_istore (lv' := [(4, .int (iI 0)), (3, .int (iI ((xLays A (I 16) (I 10 * 10).toNat).1))), (2, .int (iI (-1))), (1, .int (iI ((xLays A (I 16) (I 10 * 10).toNat).1))), (0, .ref (eO E 9))]) F.1 F.2.1 dX5_bestToAsk_10 hl (by decide) rfl (fun ls hl => ?_)
  have loop_12 : ∀ (nf : Nat) (be : Int) (le : Int) (q : Int) (A1 : Nat → Int → Int) (H : Heap) (locs : List Loc) (ls : Array Slot) (hq : 0 ≤ q ∧ q ≤ I 11) (hbl : (be, le) = xAsk A (xLays A (I 16) (I 10 * 10).toNat).2 (xLays A (I 16) (I 10 * 10).toNat).1 q.toNat) (hle : 0 ≤ le ∧ le ≤ 40) (h24 : A1 24 = (xLays A (I 16) (I 10 * 10).toNat).2) (hsm : xSame A A1) (han1 : ∀ k, -2147483648 ≤ A1 25 k ∧ A1 25 k ≤ 2147483647) (hw : gH E A0 H0 s (xW E I A1 L) H locs) (hl : lv_has ls 6 [(4, .int (iI q)), (3, .int (iI le)), (2, .int (iI be)), (1, .int (iI ((xLays A (I 16) (I 10 * 10).toNat).1))), (0, .ref (eO E 9))]) (hnf : (I 11 - q).toNat < nf), W p l e ({ frames := 5, cells := 0, slots := 0, locals := 112 } : Room) s m args below meth c H locs 0 0 Q (F0 m 12 ls []) := by
    intro nf
    induction nf with
    | zero =>
      intro be le q A1 H locs ls hq hbl hle h24 hsm han1 hw hl hnf
      exact absurd hnf (Nat.not_lt_zero _)
    | succ nf ih_12 =>
      intro be le q A1 H locs ls hq hbl hle h24 hsm han1 hw hl hnf
      have h12 : A1 12 = A 12 := hsm 12 (by decide) (by decide) (by decide)
      have h14 : A1 14 = A 14 := hsm 14 (by decide) (by decide) (by decide)
      have h17 : A1 17 = A 17 := hsm 17 (by decide) (by decide) (by decide)
      have hTB : ∀ w, xTB A1 w q = xTB A w q := fun w => by unfold xTB; rw [h12, h14, h17]
      have hG : xGrt (zr (A1 25) (fun i => xTB A1 (A1 24 i) q) (xLays A (I 16) (I 10 * 10).toNat).1) (xLays A (I 16) (I 10 * 10).toNat).1 (xLays A (I 16) (I 10 * 10).toNat).1.toNat = xGrt (fun i => xTB A ((xLays A (I 16) (I 10 * 10).toNat).2 i) q) (xLays A (I 16) (I 10 * 10).toNat).1 (xLays A (I 16) (I 10 * 10).toNat).1.toNat := xGrt_c _ (by omega) (fun i hi => by rw [zr_in hi, h24]; exact hTB _)
      have hst := fld_s (g := fun (b : Int × Int) q => if xGrt (fun i => xTB A ((xLays A (I 16) (I 10 * 10).toNat).2 i) q) (xLays A (I 16) (I 10 * 10).toNat).1 (xLays A (I 16) (I 10 * 10).toNat).1.toNat < b.2 then (q, xGrt (fun i => xTB A ((xLays A (I 16) (I 10 * 10).toNat).2 i) q) (xLays A (I 16) (I 10 * 10).toNat).1 (xLays A (I 16) (I 10 * 10).toNat).1.toNat) else b) (z := (-1, (xLays A (I 16) (I 10 * 10).toNat).1)) hq.1
      refine lv_iload F.1 F.2.1 dX5_bestToAsk_12 (lv_at hl 0 rfl) ?_
      refine lv_aload_n F.1 F.2.1 dX5_bestToAsk_14 rfl (lv_at hl 4 rfl) ?_
      refine x_get F hin5 hw 9 5 rfl rfl 1 (by decide) (by decide +kernel) rfl rfl dX5_bestToAsk_15 ?_
      refine x_get F hin7 hw 3 7 rfl rfl 10 (by decide) (by decide +kernel) rfl rfl dX5_bestToAsk_18 ?_
      refine bi_icmp_ge (tgt := 51) F dX5_bestToAsk_21 (by decide) (by omega) (fun c_2 => ?_) (fun c_2 => ?_)
      · refine lv_iload_n F.1 F.2.1 dX5_bestToAsk_51 rfl (lv_at hl 2 rfl) ?_
        exact hret _ _ _ _ _ _ _ (by rw [show xAsk A (xLays A (I 16) (I 10 * 10).toNat).2 (xLays A (I 16) (I 10 * 10).toNat).1 (I 11).toNat = (be, le) by rw [hbl, show q = I 11 by omega]]) (hsm) hw dX5_bestToAsk_52
      · refine lv_aload_n F.1 F.2.1 dX5_bestToAsk_24 rfl (lv_at hl 4 rfl) ?_
        refine lv_iload F.1 F.2.1 dX5_bestToAsk_25 (lv_at hl 0 rfl) ?_
        refine lv_iload_n F.1 F.2.1 dX5_bestToAsk_27 rfl (lv_at hl 3 rfl) ?_
        refine call_F (As := [.int (iI q), .int (iI ((xLays A (I 16) (I 10 * 10).toNat).1))]) (rest := []) F (x5_greatestPartAlike l E I A1 L q ((xLays A (I 16) (I 10 * 10).toNat).1) (by omega) (by omega) (by rw [h24]; exact fun k hk => by have := hlb.2 k hk; omega) (by rw [h17]; exact hf) (by rw [h12]; exact hyr) (by rw [h14]; exact hbn) (by rw [h17]; exact hho q (by omega)) (han1)) (cwV 2 F.2.2.2.2 gX5_bestToAsk_X5_greatestPartAlike rfl rfl rfl (by decide +kernel) ⟨(Nat.le_of_ble_eq_true rfl), (Nat.le_of_ble_eq_true rfl)⟩) hw (x_recv hw 9 5 rfl rfl) rfl hl.1 rfl (Nat.le_of_ble_eq_true rfl) dX5_bestToAsk_28 ⟨Nat.zero_le _, Nat.zero_le _⟩ (fun H locs hw => ?_)
        generalize eA3 : stA A1 25 (zr (A1 25) (fun i => xTB A1 (A1 24 i) q) ((xLays A (I 16) (I 10 * 10).toNat).1)) = A3 at hw
        have f_4 := xGrt_b (f := zr (A1 25) (fun i => xTB A1 (A1 24 i) q) ((xLays A (I 16) (I 10 * 10).toNat).1)) (c := ((xLays A (I 16) (I 10 * 10).toNat).1)) (by omega) ((xLays A (I 16) (I 10 * 10).toNat).1).toNat
        refine lv_istore (lv' := [(5, .int (iI (xGrt (zr (A1 25) (fun i => xTB A1 (A1 24 i) q) ((xLays A (I 16) (I 10 * 10).toNat).1)) ((xLays A (I 16) (I 10 * 10).toNat).1) ((xLays A (I 16) (I 10 * 10).toNat).1).toNat))), (4, .int (iI q)), (3, .int (iI le)), (2, .int (iI be)), (1, .int (iI ((xLays A (I 16) (I 10 * 10).toNat).1))), (0, .ref (eO E 9))]) F.1 F.2.1 dX5_bestToAsk_31 hl (by decide) rfl (fun ls hl => ?_)
        refine lv_iload F.1 F.2.1 dX5_bestToAsk_33 (lv_at hl 0 rfl) ?_
        refine lv_iload_n F.1 F.2.1 dX5_bestToAsk_35 rfl (lv_at hl 2 rfl) ?_
        refine bi_icmp_ge (tgt := 45) F dX5_bestToAsk_36 (by decide) (by omega) (fun c_5 => ?_) (fun c_5 => ?_)
        · refine lv_iinc (v := iI (q + 1)) (lv' := [(4, .int (iI (q + 1))), (5, .int (iI (xGrt (zr (A1 25) (fun i => xTB A1 (A1 24 i) q) ((xLays A (I 16) (I 10 * 10).toNat).1)) ((xLays A (I 16) (I 10 * 10).toNat).1) ((xLays A (I 16) (I 10 * 10).toNat).1).toNat))), (3, .int (iI le)), (2, .int (iI be)), (1, .int (iI ((xLays A (I 16) (I 10 * 10).toNat).1))), (0, .ref (eO E 9))]) F.1 F.2.1 dX5_bestToAsk_45 hl (k := 1) rfl (iI_add _ _).symm (by decide) rfl (fun ls hl => ?_)
          refine lv_goto (tgt := 12) F.1 F.2.1 dX5_bestToAsk_48 (by decide) ?_
          exact ih_12 be le (q + 1) A3 H locs ls (by omega) (by refine Eq.trans ?_ hst.symm; rw [show fld _ _ q.toNat = (be, le) from hbl.symm, ← hG]; first | (rw [if_pos (by show _ < le; omega)]; done) | (rw [if_neg (by show ¬ _ < le; omega)]; done)) (by omega) (by rw [← eA3]; exact h24) (by rw [← eA3]; exact xSame_tr hsm (xSame_st (by decide))) (by rw [← eA3, stA_s]; intro k; unfold zr; split; (show -2147483648 ≤ xTB A1 (A1 24 k) q ∧ xTB A1 (A1 24 k) q ≤ 2147483647; rw [hTB, h24]; have hz := xTB_r (A := A) (w := (xLays A (I 16) (I 10 * 10).toNat).2 k) (q := q) hf hbn (hlb.2 k (by omega)).1; omega); exact han1 k) hw (lv_sub hl [0, 2, 3, 4, 5] rfl) (by omega)
        · refine lv_iload F.1 F.2.1 dX5_bestToAsk_39 (lv_at hl 0 rfl) ?_
          refine lv_istore_n (lv' := [(3, .int (iI (xGrt (zr (A1 25) (fun i => xTB A1 (A1 24 i) q) ((xLays A (I 16) (I 10 * 10).toNat).1)) ((xLays A (I 16) (I 10 * 10).toNat).1) ((xLays A (I 16) (I 10 * 10).toNat).1).toNat))), (5, .int (iI (xGrt (zr (A1 25) (fun i => xTB A1 (A1 24 i) q) ((xLays A (I 16) (I 10 * 10).toNat).1)) ((xLays A (I 16) (I 10 * 10).toNat).1) ((xLays A (I 16) (I 10 * 10).toNat).1).toNat))), (4, .int (iI q)), (2, .int (iI be)), (1, .int (iI ((xLays A (I 16) (I 10 * 10).toNat).1))), (0, .ref (eO E 9))]) F.1 F.2.1 dX5_bestToAsk_41 rfl hl (by decide) rfl (fun ls hl => ?_)
          refine lv_iload F.1 F.2.1 dX5_bestToAsk_42 (lv_at hl 2 rfl) ?_
          refine lv_istore_n (lv' := [(2, .int (iI q)), (3, .int (iI (xGrt (zr (A1 25) (fun i => xTB A1 (A1 24 i) q) ((xLays A (I 16) (I 10 * 10).toNat).1)) ((xLays A (I 16) (I 10 * 10).toNat).1) ((xLays A (I 16) (I 10 * 10).toNat).1).toNat))), (5, .int (iI (xGrt (zr (A1 25) (fun i => xTB A1 (A1 24 i) q) ((xLays A (I 16) (I 10 * 10).toNat).1)) ((xLays A (I 16) (I 10 * 10).toNat).1) ((xLays A (I 16) (I 10 * 10).toNat).1).toNat))), (4, .int (iI q)), (1, .int (iI ((xLays A (I 16) (I 10 * 10).toNat).1))), (0, .ref (eO E 9))]) F.1 F.2.1 dX5_bestToAsk_44 rfl hl (by decide) rfl (fun ls hl => ?_)
          refine lv_iinc (v := iI (q + 1)) (lv' := [(4, .int (iI (q + 1))), (2, .int (iI q)), (3, .int (iI (xGrt (zr (A1 25) (fun i => xTB A1 (A1 24 i) q) ((xLays A (I 16) (I 10 * 10).toNat).1)) ((xLays A (I 16) (I 10 * 10).toNat).1) ((xLays A (I 16) (I 10 * 10).toNat).1).toNat))), (5, .int (iI (xGrt (zr (A1 25) (fun i => xTB A1 (A1 24 i) q) ((xLays A (I 16) (I 10 * 10).toNat).1)) ((xLays A (I 16) (I 10 * 10).toNat).1) ((xLays A (I 16) (I 10 * 10).toNat).1).toNat))), (1, .int (iI ((xLays A (I 16) (I 10 * 10).toNat).1))), (0, .ref (eO E 9))]) F.1 F.2.1 dX5_bestToAsk_45 hl (k := 3) rfl (iI_add _ _).symm (by decide) rfl (fun ls hl => ?_)
          refine lv_goto (tgt := 12) F.1 F.2.1 dX5_bestToAsk_48 (by decide) ?_
          exact ih_12 q (xGrt (zr (A1 25) (fun i => xTB A1 (A1 24 i) q) ((xLays A (I 16) (I 10 * 10).toNat).1)) ((xLays A (I 16) (I 10 * 10).toNat).1) ((xLays A (I 16) (I 10 * 10).toNat).1).toNat) (q + 1) A3 H locs ls (by omega) (by refine Eq.trans ?_ hst.symm; rw [show fld _ _ q.toNat = (be, le) from hbl.symm, ← hG]; first | (rw [if_pos (by show _ < le; omega)]; done) | (rw [if_neg (by show ¬ _ < le; omega)]; done)) (by omega) (by rw [← eA3]; exact h24) (by rw [← eA3]; exact xSame_tr hsm (xSame_st (by decide))) (by rw [← eA3, stA_s]; intro k; unfold zr; split; (show -2147483648 ≤ xTB A1 (A1 24 k) q ∧ xTB A1 (A1 24 k) q ≤ 2147483647; rw [hTB, h24]; have hz := xTB_r (A := A) (w := (xLays A (I 16) (I 10 * 10).toNat).2 k) (q := q) hf hbn (hlb.2 k (by omega)).1; omega); exact han1 k) hw (lv_sub hl [0, 2, 1, 4, 5] rfl) (by omega)
  exact loop_12 ((I 11 - 0 : Int).toNat + 1) (-1) ((xLays A (I 16) (I 10 * 10).toNat).1) 0 A1 H locs ls (by omega) (rfl) (by omega) (by subst_vars; rfl) (by subst_vars; exact xSame_st (by decide)) (by subst_vars; exact han) hw (lv_sub hl [0, 1, 2, 3, 4] rfl) (by omega)
