set_option maxRecDepth 100000 in
set_option maxHeartbeats 4000000 in
theorem x8_inchesBehind (l : Launch) (E : Ev) (I : Nat → Int) (A : Nat → Int → Int) (L : Nat → Int64) (n : Int) (mm : Int) (hn : 0 ≤ n ∧ n ≤ 300) (hm : 0 ≤ mm ∧ mm ≤ 40) (hni : 0 ≤ A 17 0 ∧ A 17 0 ≤ 99000) (hnn : 0 ≤ I 9 ∧ I 9 ≤ 20) (hin0 : ∀ k, 0 ≤ A 9 k ∧ A 9 k ≤ 40) : MetN l yX8_inchesBehind wsX8_inchesBehind ({ frames := 1, cells := 0, slots := 0, locals := 22 } : Room) E [.ref (eO E 8), .int (iI n), .int (iI mm)] (xW E I A L) (xAt (A 9) (I 9) (A 17 0) n mm) := by
  have hin8 : ∀ w ∈ wsX80, w ∈ wsX8_inchesBehind := by decide +kernel
  refine met_N (cc := cX8_inchesBehind) (nL := 3) (by decide) rfl (Nat.le_of_ble_eq_true rfl) ?_
  intro p e s m args below meth c Q H0 A0 H locs ls F hw hl hret
  have F : CallFix p m c cX8_inchesBehind 3 s args wsX8_inchesBehind RX8 := F
  have hl : lv_has ls 3 [(0, .ref (eO E 8)), (1, .int (iI n)), (2, .int (iI mm))] := hl
  refine bi_iconst F dX8_inchesBehind_0 ?_
  refine lv_aload_n F.1 F.2.1 dX8_inchesBehind_1 rfl (lv_at hl 0 rfl) ?_
  refine x_get F hin8 hw 8 8 rfl rfl 0 (by decide) (by decide +kernel) rfl rfl dX8_inchesBehind_2 ?_
  refine lv_aload_n F.1 F.2.1 dX8_inchesBehind_5 rfl (lv_at hl 0 rfl) ?_
  refine x_get F hin8 hw 8 8 rfl rfl 1 (by decide) (by decide +kernel) rfl rfl dX8_inchesBehind_6 ?_
  refine call_N (As := []) (rest := [.ref (eO E 3), .int (iI 0)]) F (x6_nights l E I A L  ) (cwV 0 F.2.2.2.2 gX8_inchesBehind_X6_nights rfl rfl rfl (by decide +kernel) ⟨(Nat.le_of_ble_eq_true rfl), (Nat.le_of_ble_eq_true rfl)⟩) hw (x_recv hw 4 6 rfl rfl) rfl hl.1 rfl (Nat.le_of_ble_eq_true rfl) dX8_inchesBehind_9 ⟨Nat.zero_le _, Nat.zero_le _⟩ (fun H locs hw => ?_)
  refine lv_iload_n F.1 F.2.1 dX8_inchesBehind_12 rfl (lv_at hl 1 rfl) ?_
  refine bi_iadd F dX8_inchesBehind_13 ?_
  refine call_N (As := [.int (iI (A 17 0 + n))]) (rest := [.int (iI 0)]) F (x7_inchesOf l E I A L (A 17 0 + n) (by omega) (by omega)) (cwV 1 F.2.2.2.2 gX8_inchesBehind_X7_inchesOf rfl rfl rfl (by decide +kernel) ⟨(Nat.le_of_ble_eq_true rfl), (Nat.le_of_ble_eq_true rfl)⟩) hw (x_recv hw 3 7 rfl rfl) rfl hl.1 rfl (Nat.le_of_ble_eq_true rfl) dX8_inchesBehind_14 ⟨Nat.zero_le _, Nat.zero_le _⟩ (fun H locs hw => ?_)
  have hx9 := hin0 ((A 17 0 + n) % I 9)
  have hx8 : 0 ≤ (if 0 < I 9 then A 9 ((A 17 0 + n) % I 9) else 0) ∧ (if 0 < I 9 then A 9 ((A 17 0 + n) % I 9) else 0) ≤ 40 := by split <;> omega
  refine lv_iload_n F.1 F.2.1 dX8_inchesBehind_17 rfl (lv_at hl 2 rfl) ?_
  refine bi_isub F dX8_inchesBehind_18 ?_
  refine bi_max F hl.1 (by decide +kernel) (by decide +kernel) (by decide +kernel) (by decide +kernel) (Nat.le_of_ble_eq_true rfl) (Nat.le_of_ble_eq_true rfl) (Nat.zero_le _) (Nat.zero_le _) (by omega) dX8_inchesBehind_19 ?_
  have f_1 := iMx_r 0 (if 0 < I 9 then A 9 ((A 17 0 + n) % I 9) else 0 - mm)
  exact hret _ _ _ _ _ (rfl) hw dX8_inchesBehind_22
set_option maxRecDepth 100000 in
set_option maxHeartbeats 4000000 in
theorem x8_isFallBehind (l : Launch) (E : Ev) (I : Nat → Int) (A : Nat → Int → Int) (L : Nat → Int64) (v : Int) (n : Int) (hv : 0 ≤ v ∧ v < 4) (hn : 0 ≤ n ∧ n ≤ 300) (hni : 0 ≤ A 17 0 ∧ A 17 0 ≤ 99000) (hnn : 0 ≤ I 9 ∧ I 9 ≤ 20) (hin0 : ∀ k, 0 ≤ A 9 k ∧ A 9 k ≤ 40) (hff : ∀ k, 0 ≤ A 11 k ∧ A 11 k ≤ 80) : MetP l yX8_isFallBehind wsX8_isFallBehind ({ frames := 2, cells := 0, slots := 0, locals := 44 } : Room) E [.ref (eO E 8), .int (iI v), .int (iI n)] (xW E I A L) (A 11 v ≤ xAt (A 9) (I 9) (A 17 0) n 0) := by
  have hin8 : ∀ w ∈ wsX80, w ∈ wsX8_isFallBehind := by decide +kernel
  refine met_P (cc := cX8_isFallBehind) (nL := 3) (by decide) rfl (Nat.le_of_ble_eq_true rfl) ?_
  intro p e s m args below meth c Q H0 A0 H locs ls F hw hl hret
  have F : CallFix p m c cX8_isFallBehind 3 s args wsX8_isFallBehind RX8 := F
  have hl : lv_has ls 3 [(0, .ref (eO E 8)), (1, .int (iI v)), (2, .int (iI n))] := hl
  refine lv_aload_n F.1 F.2.1 dX8_isFallBehind_0 rfl (lv_at hl 0 rfl) ?_
  refine x_get F hin8 hw 8 8 rfl rfl 0 (by decide) (by decide +kernel) rfl rfl dX8_isFallBehind_1 ?_
  refine lv_iload_n F.1 F.2.1 dX8_isFallBehind_4 rfl (lv_at hl 1 rfl) ?_
  refine lv_aload_n F.1 F.2.1 dX8_isFallBehind_5 rfl (lv_at hl 0 rfl) ?_
  refine lv_iload_n F.1 F.2.1 dX8_isFallBehind_6 rfl (lv_at hl 2 rfl) ?_
  refine bi_iconst F dX8_isFallBehind_7 ?_
  refine call_N (As := [.int (iI n), .int (iI 0)]) (rest := [.int (iI v), .ref (eO E 3)]) F (x8_inchesBehind l E I A L n 0 (by omega) (by omega) (by omega) (by omega) hin0) (cwV 2 F.2.2.2.2 gX8_isFallBehind_X8_inchesBehind rfl rfl rfl (by decide +kernel) ⟨(Nat.le_of_ble_eq_true rfl), (Nat.le_of_ble_eq_true rfl)⟩) hw (x_recv hw 8 8 rfl rfl) rfl hl.1 rfl (Nat.le_of_ble_eq_true rfl) dX8_isFallBehind_8 ⟨Nat.zero_le _, Nat.zero_le _⟩ (fun H locs hw => ?_)
  have f_1 := xAt_r (Wn := A 9) (l := I 9) (f0 := A 17 0) (n := n) (m := 0) hin0 (by omega)
  refine call_P (As := [.int (iI v), .int (iI (xAt (A 9) (I 9) (A 17 0) n 0))]) (rest := []) F (x7_isFall l E I A L v (xAt (A 9) (I 9) (A 17 0) n 0) (by omega) (by omega) hff) (cwV 2 F.2.2.2.2 gX8_isFallBehind_X7_isFall rfl rfl rfl (by decide +kernel) ⟨(Nat.le_of_ble_eq_true rfl), (Nat.le_of_ble_eq_true rfl)⟩) hw (x_recv hw 3 7 rfl rfl) rfl hl.1 rfl (Nat.le_of_ble_eq_true rfl) dX8_isFallBehind_11 ⟨Nat.zero_le _, Nat.zero_le _⟩ (fun q_2 H locs hw => ?_) (fun q_2 H locs hw => ?_)
  · exact hret _ _ _ _ _ (Or.inl ⟨rfl, by assumption⟩) hw dX8_isFallBehind_14
  · exact hret _ _ _ _ _ (Or.inr ⟨rfl, by assumption⟩) hw dX8_isFallBehind_14
set_option maxRecDepth 100000 in
set_option maxHeartbeats 4000000 in
theorem x8_nightsTillDue (l : Launch) (E : Ev) (I : Nat → Int) (A : Nat → Int → Int) (L : Nat → Int64) (d : Int) (hd : 0 ≤ d ∧ d < 5) (hpl1 : 0 ≤ A 15 d ∧ A 15 d < 4) (hf : ∀ k, 0 ≤ A 17 k ∧ A 17 k ≤ 900000) (hni : 0 ≤ A 17 0 ∧ A 17 0 ≤ 99000) (hnn : 0 ≤ I 9 ∧ I 9 ≤ 20) (hin0 : ∀ k, 0 ≤ A 9 k ∧ A 9 k ≤ 40) (hdr : ∀ k, 0 ≤ A 10 k ∧ A 10 k ≤ 40) : MetN l yX8_nightsTillDue wsX8_nightsTillDue ({ frames := 3, cells := 0, slots := 0, locals := 65 } : Room) E [.ref (eO E 8), .int (iI d)] (xW E I A L) (xTil A (I 9) (A 15 d) (xLack A d) 0 201) := by
  have hin7 : ∀ w ∈ wsX70, w ∈ wsX8_nightsTillDue := by decide +kernel
  have hin8 : ∀ w ∈ wsX80, w ∈ wsX8_nightsTillDue := by decide +kernel
  refine met_N (cc := cX8_nightsTillDue) (nL := 5) (by decide) rfl (Nat.le_of_ble_eq_true rfl) ?_
  intro p e s m args below meth c Q H0 A0 H locs ls F hw hl hret
  have F : CallFix p m c cX8_nightsTillDue 5 s args wsX8_nightsTillDue RX8 := F
  have hl : lv_has ls 5 [(0, .ref (eO E 8)), (1, .int (iI d))] := hl
  have hlr := xLack_r (A := A) (d := d) hf
  refine lv_aload_n F.1 F.2.1 dX8_nightsTillDue_0 rfl (lv_at hl 0 rfl) ?_
  refine x_get F hin8 hw 8 8 rfl rfl 0 (by decide) (by decide +kernel) rfl rfl dX8_nightsTillDue_1 ?_
  refine x_get F hin7 hw 3 7 rfl rfl 6 (by decide) (by decide +kernel) rfl rfl dX8_nightsTillDue_4 ?_
  refine lv_iload_n F.1 F.2.1 dX8_nightsTillDue_7 rfl (lv_at hl 1 rfl) ?_
  refine x_ld F hw 15 5 rfl (by decide) (by omega) dX8_nightsTillDue_8 ?_
  refine lv_istore_n (lv' := [(2, .int (iI (A 15 d))), (0, .ref (eO E 8)), (1, .int (iI d))]) F.1 F.2.1 dX8_nightsTillDue_9 rfl hl (by decide) rfl (fun ls hl => ?_)
  refine lv_aload_n F.1 F.2.1 dX8_nightsTillDue_10 rfl (lv_at hl 1 rfl) ?_
  refine x_get F hin8 hw 8 8 rfl rfl 1 (by decide) (by decide +kernel) rfl rfl dX8_nightsTillDue_11 ?_
  refine lv_aload_n F.1 F.2.1 dX8_nightsTillDue_14 rfl (lv_at hl 1 rfl) ?_
  refine x_get F hin8 hw 8 8 rfl rfl 0 (by decide) (by decide +kernel) rfl rfl dX8_nightsTillDue_15 ?_
  refine lv_iload_n F.1 F.2.1 dX8_nightsTillDue_18 rfl (lv_at hl 2 rfl) ?_
  refine call_N (As := [.ref (eO E 3), .int (iI d)]) (rest := []) F (x6_lack l E I A L d (by omega) hf (by omega)) (cwV 2 F.2.2.2.2 gX8_nightsTillDue_X6_lack rfl rfl rfl (by decide +kernel) ⟨(Nat.le_of_ble_eq_true rfl), (Nat.le_of_ble_eq_true rfl)⟩) hw (x_recv hw 4 6 rfl rfl) rfl hl.1 rfl (Nat.le_of_ble_eq_true rfl) dX8_nightsTillDue_19 ⟨Nat.zero_le _, Nat.zero_le _⟩ (fun H locs hw => ?_)
  have f_1 := xLack_r (A := A) (d := d) hf
  refine lv_istore_n (lv' := [(3, .int (iI (xLack A d))), (2, .int (iI (A 15 d))), (0, .ref (eO E 8)), (1, .int (iI d))]) F.1 F.2.1 dX8_nightsTillDue_22 rfl hl (by decide) rfl (fun ls hl => ?_)
  refine bi_iconst F dX8_nightsTillDue_23 ?_
  refine lv_istore (lv' := [(4, .int (iI 0)), (3, .int (iI (xLack A d))), (2, .int (iI (A 15 d))), (0, .ref (eO E 8)), (1, .int (iI d))]) F.1 F.2.1 dX8_nightsTillDue_24 hl (by decide) rfl (fun ls hl => ?_)
  have loop_26 : ∀ (nf : Nat) (a : Int) (k : Int) (H : Heap) (locs : List Loc) (ls : Array Slot) (hk : 0 ≤ k ∧ k ≤ 201) (ha : a = xLk A (I 9) 0 (A 15 d) (xLack A d) k.toNat) (hT : xTil A (I 9) (A 15 d) (xLack A d) 0 201 = xTil A (I 9) (A 15 d) (xLack A d) k (201 - k).toNat) (hw : gH E A0 H0 s (xW E I A L) H locs) (hl : lv_has ls 5 [(4, .int (iI k)), (3, .int (iI a)), (2, .int (iI (A 15 d))), (0, .ref (eO E 8)), (1, .int (iI d))]) (hnf : (201 - k).toNat < nf), W p l e ({ frames := 3, cells := 0, slots := 0, locals := 65 } : Room) s m args below meth c H locs 0 0 Q (F0 m 26 ls []) := by
    intro nf
    induction nf with
    | zero =>
      intro a k H locs ls hk ha hT hw hl hnf
      exact absurd hnf (Nat.not_lt_zero _)
    | succ nf ih_26 =>
      intro a k H locs ls hk ha hT hw hl hnf
      have har := xLk_r (A := A) (l := I 9) (m := 0) (v := A 15 d) (a := xLack A d) k.toNat hin0 hdr (by decide)
      have hTs : k < 201 → xTil A (I 9) (A 15 d) (xLack A d) k (201 - k).toNat = if xLk A (I 9) 0 (A 15 d) (xLack A d) k.toNat ≤ 0 then k else xTil A (I 9) (A 15 d) (xLack A d) (k + 1) (201 - (k + 1)).toNat := fun h => by rw [show (201 - k).toNat = (201 - (k + 1)).toNat + 1 by omega]; rfl
      refine lv_iload F.1 F.2.1 dX8_nightsTillDue_26 (lv_at hl 0 rfl) ?_
      refine bi_sipush F dX8_nightsTillDue_28 (by decide) ?_
      refine bi_icmp_gt (tgt := 65) F dX8_nightsTillDue_31 (by decide) (by omega) (fun c_2 => ?_) (fun c_2 => ?_)
      · refine bi_iconst F dX8_nightsTillDue_65 ?_
        exact hret _ _ _ _ _ (by rw [hT, show (201 - k).toNat = 0 by omega]; rfl) hw dX8_nightsTillDue_66
      · refine lv_iload_n F.1 F.2.1 dX8_nightsTillDue_34 rfl (lv_at hl 1 rfl) ?_
        refine bi_if_gt (tgt := 41) F dX8_nightsTillDue_35 (by decide) (by omega) (fun c_3 => ?_) (fun c_3 => ?_)
        · refine lv_iload_n F.1 F.2.1 dX8_nightsTillDue_41 rfl (lv_at hl 1 rfl) ?_
          refine lv_aload_n F.1 F.2.1 dX8_nightsTillDue_42 rfl (lv_at hl 3 rfl) ?_
          refine x_get F hin8 hw 8 8 rfl rfl 0 (by decide) (by decide +kernel) rfl rfl dX8_nightsTillDue_43 ?_
          refine lv_iload_n F.1 F.2.1 dX8_nightsTillDue_46 rfl (lv_at hl 2 rfl) ?_
          refine lv_aload_n F.1 F.2.1 dX8_nightsTillDue_47 rfl (lv_at hl 3 rfl) ?_
          refine lv_iload F.1 F.2.1 dX8_nightsTillDue_48 (lv_at hl 0 rfl) ?_
          refine bi_iconst F dX8_nightsTillDue_50 ?_
          refine call_N (As := [.int (iI k), .int (iI 0)]) (rest := [.int (iI (A 15 d)), .ref (eO E 3), .int (iI a)]) F (x8_inchesBehind l E I A L k 0 (by omega) (by omega) (by omega) (by omega) hin0) (cwV 2 F.2.2.2.2 gX8_nightsTillDue_X8_inchesBehind rfl rfl rfl (by decide +kernel) ⟨(Nat.le_of_ble_eq_true rfl), (Nat.le_of_ble_eq_true rfl)⟩) hw (x_recv hw 8 8 rfl rfl) rfl hl.1 rfl (Nat.le_of_ble_eq_true rfl) dX8_nightsTillDue_51 ⟨Nat.zero_le _, Nat.zero_le _⟩ (fun H locs hw => ?_)
          have f_4 := xAt_r (Wn := A 9) (l := I 9) (f0 := A 17 0) (n := k) (m := 0) hin0 (by omega)
          refine call_N (As := [.int (iI (A 15 d)), .int (iI (xAt (A 9) (I 9) (A 17 0) k 0))]) (rest := [.int (iI a)]) F (x7_depth l E I A L (A 15 d) (xAt (A 9) (I 9) (A 17 0) k 0) (by omega) (by omega) hdr) (cwV 2 F.2.2.2.2 gX8_nightsTillDue_X7_depth rfl rfl rfl (by decide +kernel) ⟨(Nat.le_of_ble_eq_true rfl), (Nat.le_of_ble_eq_true rfl)⟩) hw (x_recv hw 3 7 rfl rfl) rfl hl.1 rfl (Nat.le_of_ble_eq_true rfl) dX8_nightsTillDue_54 ⟨Nat.zero_le _, Nat.zero_le _⟩ (fun H locs hw => ?_)
          refine bi_isub F dX8_nightsTillDue_57 ?_
          refine lv_istore_n (lv' := [(3, .int (iI (a - (iMx 0 ((xAt (A 9) (I 9) (A 17 0) k 0) - A 10 (A 15 d)))))), (4, .int (iI k)), (2, .int (iI (A 15 d))), (0, .ref (eO E 8)), (1, .int (iI d))]) F.1 F.2.1 dX8_nightsTillDue_58 rfl hl (by decide) rfl (fun ls hl => ?_)
          refine lv_iinc (v := iI (k + 1)) (lv' := [(4, .int (iI (k + 1))), (3, .int (iI (a - (iMx 0 ((xAt (A 9) (I 9) (A 17 0) k 0) - A 10 (A 15 d)))))), (2, .int (iI (A 15 d))), (0, .ref (eO E 8)), (1, .int (iI d))]) F.1 F.2.1 dX8_nightsTillDue_59 hl (k := 1) rfl (iI_add _ _).symm (by decide) rfl (fun ls hl => ?_)
          refine lv_goto (tgt := 26) F.1 F.2.1 dX8_nightsTillDue_62 (by decide) ?_
          exact ih_26 (a - (iMx 0 ((xAt (A 9) (I 9) (A 17 0) k 0) - A 10 (A 15 d)))) (k + 1) H locs ls (by omega) (by rw [xLk_s hk.1, ← ha]) (by rw [hT, hTs (by omega), if_neg (by omega)]) hw (lv_sub hl [0, 1, 2, 3, 4] rfl) (by omega)
        · refine lv_iload F.1 F.2.1 dX8_nightsTillDue_38 (lv_at hl 0 rfl) ?_
          exact hret _ _ _ _ _ (by rw [hT, hTs (by omega), if_pos (by omega)]) hw dX8_nightsTillDue_40
  exact loop_26 ((201 - 0 : Int).toNat + 1) (xLack A d) 0 H locs ls (by omega) (rfl) (rfl) hw (lv_sub hl [0, 1, 2, 3, 4] rfl) (by omega)
set_option maxRecDepth 100000 in
set_option maxHeartbeats 4000000 in
theorem x8_ageBehind (l : Launch) (E : Ev) (I : Nat → Int) (A : Nat → Int → Int) (L : Nat → Int64) (q : Int) (n : Int) (mm : Int) (hp : 0 ≤ q ∧ q < 6) (hn : 0 ≤ n ∧ n ≤ 300) (hm : 0 ≤ mm ∧ mm ≤ 40) (hf : ∀ k, 0 ≤ A 17 k ∧ A 17 k ≤ 900000) (hyr : ∀ k, 0 ≤ A 12 k ∧ A 12 k ≤ 40) (hff : ∀ k, 0 ≤ A 11 k ∧ A 11 k ≤ 80) (hh : A 17 (13 + q) < 4) (hni : 0 ≤ A 17 0 ∧ A 17 0 ≤ 99000) (hnn : 0 ≤ I 9 ∧ I 9 ≤ 20) (hin0 : ∀ k, 0 ≤ A 9 k ∧ A 9 k ≤ 40) : MetN l yX8_ageBehind wsX8_ageBehind ({ frames := 2, cells := 0, slots := 0, locals := 44 } : Room) E [.ref (eO E 8), .int (iI q), .int (iI n), .int (iI mm)] (xW E I A L) (xYr A (xFls A (I 9) mm (A 17 (13 + q)) (A 17 (19 + q)) n.toNat) (A 17 (13 + q))) := by
  have hin8 : ∀ w ∈ wsX80, w ∈ wsX8_ageBehind := by decide +kernel
  refine met_N (cc := cX8_ageBehind) (nL := 7) (by decide) rfl (Nat.le_of_ble_eq_true rfl) ?_
  intro p e s m args below meth c Q H0 A0 H locs ls F hw hl hret
  have F : CallFix p m c cX8_ageBehind 7 s args wsX8_ageBehind RX8 := F
  have hl : lv_has ls 7 [(0, .ref (eO E 8)), (1, .int (iI q)), (2, .int (iI n)), (3, .int (iI mm))] := hl
  have hf1 := hf (13 + q)
  have hf2 := hf (19 + q)
  refine lv_aload_n F.1 F.2.1 dX8_ageBehind_0 rfl (lv_at hl 0 rfl) ?_
  refine x_get F hin8 hw 8 8 rfl rfl 1 (by decide) (by decide +kernel) rfl rfl dX8_ageBehind_1 ?_
  refine lv_iload_n F.1 F.2.1 dX8_ageBehind_4 rfl (lv_at hl 1 rfl) ?_
  refine call_N (As := [.int (iI q)]) (rest := []) F (x6_home l E I A L q (by omega)) (cwV 1 F.2.2.2.2 gX8_ageBehind_X6_home rfl rfl rfl (by decide +kernel) ⟨(Nat.le_of_ble_eq_true rfl), (Nat.le_of_ble_eq_true rfl)⟩) hw (x_recv hw 4 6 rfl rfl) rfl hl.1 rfl (Nat.le_of_ble_eq_true rfl) dX8_ageBehind_5 ⟨Nat.zero_le _, Nat.zero_le _⟩ (fun H locs hw => ?_)
  refine lv_istore (lv' := [(4, .int (iI (A 17 (13 + q)))), (0, .ref (eO E 8)), (1, .int (iI q)), (2, .int (iI n)), (3, .int (iI mm))]) F.1 F.2.1 dX8_ageBehind_8 hl (by decide) rfl (fun ls hl => ?_)
  refine lv_aload_n F.1 F.2.1 dX8_ageBehind_10 rfl (lv_at hl 1 rfl) ?_
  refine x_get F hin8 hw 8 8 rfl rfl 1 (by decide) (by decide +kernel) rfl rfl dX8_ageBehind_11 ?_
  refine lv_iload_n F.1 F.2.1 dX8_ageBehind_14 rfl (lv_at hl 2 rfl) ?_
  refine call_N (As := [.int (iI q)]) (rest := []) F (x6_lived l E I A L q (by omega)) (cwV 1 F.2.2.2.2 gX8_ageBehind_X6_lived rfl rfl rfl (by decide +kernel) ⟨(Nat.le_of_ble_eq_true rfl), (Nat.le_of_ble_eq_true rfl)⟩) hw (x_recv hw 4 6 rfl rfl) rfl hl.1 rfl (Nat.le_of_ble_eq_true rfl) dX8_ageBehind_15 ⟨Nat.zero_le _, Nat.zero_le _⟩ (fun H locs hw => ?_)
  refine lv_istore (lv' := [(5, .int (iI (A 17 (19 + q)))), (4, .int (iI (A 17 (13 + q)))), (0, .ref (eO E 8)), (1, .int (iI q)), (2, .int (iI n)), (3, .int (iI mm))]) F.1 F.2.1 dX8_ageBehind_18 hl (by decide) rfl (fun ls hl => ?_)
  refine bi_iconst F dX8_ageBehind_20 ?_
  refine lv_istore (lv' := [(6, .int (iI 0)), (5, .int (iI (A 17 (19 + q)))), (4, .int (iI (A 17 (13 + q)))), (0, .ref (eO E 8)), (1, .int (iI q)), (2, .int (iI n)), (3, .int (iI mm))]) F.1 F.2.1 dX8_ageBehind_21 hl (by decide) rfl (fun ls hl => ?_)
  have loop_23 : ∀ (nf : Nat) (a : Int) (k : Int) (H : Heap) (locs : List Loc) (ls : Array Slot) (hk : 0 ≤ k ∧ k ≤ n) (ha : a = xFls A (I 9) mm (A 17 (13 + q)) (A 17 (19 + q)) k.toNat) (hw : gH E A0 H0 s (xW E I A L) H locs) (hl : lv_has ls 7 [(6, .int (iI k)), (5, .int (iI a)), (4, .int (iI (A 17 (13 + q)))), (0, .ref (eO E 8)), (1, .int (iI q)), (2, .int (iI n)), (3, .int (iI mm))]) (hnf : (n - k).toNat < nf), W p l e ({ frames := 2, cells := 0, slots := 0, locals := 44 } : Room) s m args below meth c H locs 0 0 Q (F0 m 23 ls []) := by
    intro nf
    induction nf with
    | zero =>
      intro a k H locs ls hk ha hw hl hnf
      exact absurd hnf (Nat.not_lt_zero _)
    | succ nf ih_23 =>
      intro a k H locs ls hk ha hw hl hnf
      have har := xFls_r (A := A) (l := I 9) (m := mm) (v := A 17 (13 + q)) (a := A 17 (19 + q)) k.toNat
      refine lv_iload F.1 F.2.1 dX8_ageBehind_23 (lv_at hl 0 rfl) ?_
      refine lv_iload_n F.1 F.2.1 dX8_ageBehind_25 rfl (lv_at hl 5 rfl) ?_
      refine bi_icmp_ge (tgt := 57) F dX8_ageBehind_26 (by decide) (by omega) (fun c_1 => ?_) (fun c_1 => ?_)
      · refine lv_aload_n F.1 F.2.1 dX8_ageBehind_57 rfl (lv_at hl 3 rfl) ?_
        refine x_get F hin8 hw 8 8 rfl rfl 0 (by decide) (by decide +kernel) rfl rfl dX8_ageBehind_58 ?_
        refine lv_iload F.1 F.2.1 dX8_ageBehind_61 (lv_at hl 1 rfl) ?_
        refine lv_iload F.1 F.2.1 dX8_ageBehind_63 (lv_at hl 2 rfl) ?_
        refine call_N (As := [.int (iI a), .int (iI (A 17 (13 + q)))]) (rest := []) F (x7_years l E I A L a (A 17 (13 + q)) (by omega) (by omega) hyr) (cwV 2 F.2.2.2.2 gX8_ageBehind_X7_years rfl rfl rfl (by decide +kernel) ⟨(Nat.le_of_ble_eq_true rfl), (Nat.le_of_ble_eq_true rfl)⟩) hw (x_recv hw 3 7 rfl rfl) rfl hl.1 rfl (Nat.le_of_ble_eq_true rfl) dX8_ageBehind_65 ⟨Nat.zero_le _, Nat.zero_le _⟩ (fun H locs hw => ?_)
        exact hret _ _ _ _ _ (by rw [ha, show k = n by omega]; rfl) hw dX8_ageBehind_68
      · refine lv_aload_n F.1 F.2.1 dX8_ageBehind_29 rfl (lv_at hl 3 rfl) ?_
        refine x_get F hin8 hw 8 8 rfl rfl 0 (by decide) (by decide +kernel) rfl rfl dX8_ageBehind_30 ?_
        refine lv_iload F.1 F.2.1 dX8_ageBehind_33 (lv_at hl 2 rfl) ?_
        refine lv_aload_n F.1 F.2.1 dX8_ageBehind_35 rfl (lv_at hl 3 rfl) ?_
        refine lv_iload F.1 F.2.1 dX8_ageBehind_36 (lv_at hl 0 rfl) ?_
        refine lv_iload_n F.1 F.2.1 dX8_ageBehind_38 rfl (lv_at hl 6 rfl) ?_
        refine call_N (As := [.int (iI k), .int (iI mm)]) (rest := [.int (iI (A 17 (13 + q))), .ref (eO E 3)]) F (x8_inchesBehind l E I A L k mm (by omega) (by omega) (by omega) (by omega) hin0) (cwV 2 F.2.2.2.2 gX8_ageBehind_X8_inchesBehind rfl rfl rfl (by decide +kernel) ⟨(Nat.le_of_ble_eq_true rfl), (Nat.le_of_ble_eq_true rfl)⟩) hw (x_recv hw 8 8 rfl rfl) rfl hl.1 rfl (Nat.le_of_ble_eq_true rfl) dX8_ageBehind_39 ⟨Nat.zero_le _, Nat.zero_le _⟩ (fun H locs hw => ?_)
        have f_2 := xAt_r (Wn := A 9) (l := I 9) (f0 := A 17 0) (n := k) (m := mm) hin0 (by omega)
        refine call_P (As := [.int (iI (A 17 (13 + q))), .int (iI (xAt (A 9) (I 9) (A 17 0) k mm))]) (rest := []) F (x7_isFall l E I A L (A 17 (13 + q)) (xAt (A 9) (I 9) (A 17 0) k mm) (by omega) (by omega) hff) (cwV 2 F.2.2.2.2 gX8_ageBehind_X7_isFall rfl rfl rfl (by decide +kernel) ⟨(Nat.le_of_ble_eq_true rfl), (Nat.le_of_ble_eq_true rfl)⟩) hw (x_recv hw 3 7 rfl rfl) rfl hl.1 rfl (Nat.le_of_ble_eq_true rfl) dX8_ageBehind_42 ⟨Nat.zero_le _, Nat.zero_le _⟩ (fun q_3 H locs hw => ?_) (fun q_3 H locs hw => ?_)
        · refine bi_if_eq (tgt := 51) F dX8_ageBehind_45 (by decide) (by decide) (fun q => absurd q (by decide)) (fun _ => ?_)
          refine lv_iinc (v := iI (a + 1)) (lv' := [(5, .int (iI (a + 1))), (6, .int (iI k)), (4, .int (iI (A 17 (13 + q)))), (0, .ref (eO E 8)), (1, .int (iI q)), (2, .int (iI n)), (3, .int (iI mm))]) F.1 F.2.1 dX8_ageBehind_48 hl (k := 1) rfl (iI_add _ _).symm (by decide) rfl (fun ls hl => ?_)
          refine lv_iinc (v := iI (k + 1)) (lv' := [(6, .int (iI (k + 1))), (5, .int (iI (a + 1))), (4, .int (iI (A 17 (13 + q)))), (0, .ref (eO E 8)), (1, .int (iI q)), (2, .int (iI n)), (3, .int (iI mm))]) F.1 F.2.1 dX8_ageBehind_51 hl (k := 1) rfl (iI_add _ _).symm (by decide) rfl (fun ls hl => ?_)
          refine lv_goto (tgt := 23) F.1 F.2.1 dX8_ageBehind_54 (by decide) ?_
          exact ih_23 (a + 1) (k + 1) H locs ls (by omega) (by rw [xFls_s hk.1, ← ha]; first | (rw [if_pos (by assumption)]; done) | (rw [if_neg (by assumption)]; done)) hw (lv_sub hl [0, 1, 2, 3, 4, 5, 6] rfl) (by omega)
        · refine bi_if_eq (tgt := 51) F dX8_ageBehind_45 (by decide) (by decide) (fun _ => ?_) (fun q => absurd q (by decide))
          refine lv_iinc (v := iI (k + 1)) (lv' := [(6, .int (iI (k + 1))), (5, .int (iI a)), (4, .int (iI (A 17 (13 + q)))), (0, .ref (eO E 8)), (1, .int (iI q)), (2, .int (iI n)), (3, .int (iI mm))]) F.1 F.2.1 dX8_ageBehind_51 hl (k := 0) rfl (iI_add _ _).symm (by decide) rfl (fun ls hl => ?_)
          refine lv_goto (tgt := 23) F.1 F.2.1 dX8_ageBehind_54 (by decide) ?_
          exact ih_23 a (k + 1) H locs ls (by omega) (by rw [xFls_s hk.1, ← ha]; first | (rw [if_pos (by assumption)]; done) | (rw [if_neg (by assumption)]; done)) hw (lv_sub hl [0, 1, 2, 3, 4, 5, 6] rfl) (by omega)
  exact loop_23 ((n - 0 : Int).toNat + 1) (A 17 (19 + q)) 0 H locs ls (by omega) (rfl) hw (lv_sub hl [0, 1, 2, 3, 4, 5, 6] rfl) (by omega)
set_option maxRecDepth 100000 in
set_option maxHeartbeats 4000000 in
theorem x8_isDueBehind (l : Launch) (E : Ev) (I : Nat → Int) (A : Nat → Int → Int) (L : Nat → Int64) (d : Int) (n : Int) (mm : Int) (hd : 0 ≤ d ∧ d < 5) (hn : 0 ≤ n ∧ n ≤ 300) (hm : 0 ≤ mm ∧ mm ≤ 40) (hpl1 : 0 ≤ A 15 d ∧ A 15 d < 4) (hf : ∀ k, 0 ≤ A 17 k ∧ A 17 k ≤ 900000) (hni : 0 ≤ A 17 0 ∧ A 17 0 ≤ 99000) (hnn : 0 ≤ I 9 ∧ I 9 ≤ 20) (hin0 : ∀ k, 0 ≤ A 9 k ∧ A 9 k ≤ 40) (hdr : ∀ k, 0 ≤ A 10 k ∧ A 10 k ≤ 40) : MetP l yX8_isDueBehind wsX8_isDueBehind ({ frames := 3, cells := 0, slots := 0, locals := 65 } : Room) E [.ref (eO E 8), .int (iI d), .int (iI n), .int (iI mm)] (xW E I A L) (xLk A (I 9) mm (A 15 d) (xLack A d) n.toNat ≤ 0) := by
  have hin7 : ∀ w ∈ wsX70, w ∈ wsX8_isDueBehind := by decide +kernel
  have hin8 : ∀ w ∈ wsX80, w ∈ wsX8_isDueBehind := by decide +kernel
  refine met_P (cc := cX8_isDueBehind) (nL := 7) (by decide) rfl (Nat.le_of_ble_eq_true rfl) ?_
  intro p e s m args below meth c Q H0 A0 H locs ls F hw hl hret
  have F : CallFix p m c cX8_isDueBehind 7 s args wsX8_isDueBehind RX8 := F
  have hl : lv_has ls 7 [(0, .ref (eO E 8)), (1, .int (iI d)), (2, .int (iI n)), (3, .int (iI mm))] := hl
  have hlr := xLack_r (A := A) (d := d) hf
  refine lv_aload_n F.1 F.2.1 dX8_isDueBehind_0 rfl (lv_at hl 0 rfl) ?_
  refine x_get F hin8 hw 8 8 rfl rfl 0 (by decide) (by decide +kernel) rfl rfl dX8_isDueBehind_1 ?_
  refine x_get F hin7 hw 3 7 rfl rfl 6 (by decide) (by decide +kernel) rfl rfl dX8_isDueBehind_4 ?_
  refine lv_iload_n F.1 F.2.1 dX8_isDueBehind_7 rfl (lv_at hl 1 rfl) ?_
  refine x_ld F hw 15 5 rfl (by decide) (by omega) dX8_isDueBehind_8 ?_
  refine lv_istore (lv' := [(4, .int (iI (A 15 d))), (0, .ref (eO E 8)), (1, .int (iI d)), (2, .int (iI n)), (3, .int (iI mm))]) F.1 F.2.1 dX8_isDueBehind_9 hl (by decide) rfl (fun ls hl => ?_)
  refine lv_aload_n F.1 F.2.1 dX8_isDueBehind_11 rfl (lv_at hl 1 rfl) ?_
  refine x_get F hin8 hw 8 8 rfl rfl 1 (by decide) (by decide +kernel) rfl rfl dX8_isDueBehind_12 ?_
  refine lv_aload_n F.1 F.2.1 dX8_isDueBehind_15 rfl (lv_at hl 1 rfl) ?_
  refine x_get F hin8 hw 8 8 rfl rfl 0 (by decide) (by decide +kernel) rfl rfl dX8_isDueBehind_16 ?_
  refine lv_iload_n F.1 F.2.1 dX8_isDueBehind_19 rfl (lv_at hl 2 rfl) ?_
  refine call_N (As := [.ref (eO E 3), .int (iI d)]) (rest := []) F (x6_lack l E I A L d (by omega) hf (by omega)) (cwV 2 F.2.2.2.2 gX8_isDueBehind_X6_lack rfl rfl rfl (by decide +kernel) ⟨(Nat.le_of_ble_eq_true rfl), (Nat.le_of_ble_eq_true rfl)⟩) hw (x_recv hw 4 6 rfl rfl) rfl hl.1 rfl (Nat.le_of_ble_eq_true rfl) dX8_isDueBehind_20 ⟨Nat.zero_le _, Nat.zero_le _⟩ (fun H locs hw => ?_)
  have f_1 := xLack_r (A := A) (d := d) hf
  refine lv_istore (lv' := [(5, .int (iI (xLack A d))), (4, .int (iI (A 15 d))), (0, .ref (eO E 8)), (1, .int (iI d)), (2, .int (iI n)), (3, .int (iI mm))]) F.1 F.2.1 dX8_isDueBehind_23 hl (by decide) rfl (fun ls hl => ?_)
  refine bi_iconst F dX8_isDueBehind_25 ?_
  refine lv_istore (lv' := [(6, .int (iI 0)), (5, .int (iI (xLack A d))), (4, .int (iI (A 15 d))), (0, .ref (eO E 8)), (1, .int (iI d)), (2, .int (iI n)), (3, .int (iI mm))]) F.1 F.2.1 dX8_isDueBehind_26 hl (by decide) rfl (fun ls hl => ?_)
  have loop_28 : ∀ (nf : Nat) (a : Int) (k : Int) (H : Heap) (locs : List Loc) (ls : Array Slot) (hk : 0 ≤ k ∧ k ≤ n) (ha : a = xLk A (I 9) mm (A 15 d) (xLack A d) k.toNat) (hw : gH E A0 H0 s (xW E I A L) H locs) (hl : lv_has ls 7 [(6, .int (iI k)), (5, .int (iI a)), (4, .int (iI (A 15 d))), (0, .ref (eO E 8)), (1, .int (iI d)), (2, .int (iI n)), (3, .int (iI mm))]) (hnf : (n - k).toNat < nf), W p l e ({ frames := 3, cells := 0, slots := 0, locals := 65 } : Room) s m args below meth c H locs 0 0 Q (F0 m 28 ls []) := by
    intro nf
    induction nf with
    | zero =>
      intro a k H locs ls hk ha hw hl hnf
      exact absurd hnf (Nat.not_lt_zero _)
    | succ nf ih_28 =>
      intro a k H locs ls hk ha hw hl hnf
      have har := xLk_r (A := A) (l := I 9) (m := mm) (v := A 15 d) (a := xLack A d) k.toNat hin0 hdr (by omega)
      refine lv_iload F.1 F.2.1 dX8_isDueBehind_28 (lv_at hl 0 rfl) ?_
      refine lv_iload_n F.1 F.2.1 dX8_isDueBehind_30 rfl (lv_at hl 5 rfl) ?_
      refine bi_icmp_ge (tgt := 61) F dX8_isDueBehind_31 (by decide) (by omega) (fun c_2 => ?_) (fun c_2 => ?_)
      · have hfin : xLk A (I 9) mm (A 15 d) (xLack A d) n.toNat = a := by rw [ha, show k = n by omega]
        refine lv_iload F.1 F.2.1 dX8_isDueBehind_61 (lv_at hl 1 rfl) ?_
        refine bi_if_gt (tgt := 70) F dX8_isDueBehind_63 (by decide) (by omega) (fun c_3 => ?_) (fun c_3 => ?_)
        · refine bi_iconst F dX8_isDueBehind_70 ?_
          exact hret _ _ _ _ _ (Or.inr ⟨rfl, by omega⟩) hw dX8_isDueBehind_71
        · refine bi_iconst F dX8_isDueBehind_66 ?_
          refine lv_goto (tgt := 71) F.1 F.2.1 dX8_isDueBehind_67 (by decide) ?_
          exact hret _ _ _ _ _ (Or.inl ⟨rfl, by omega⟩) hw dX8_isDueBehind_71
      · refine lv_iload F.1 F.2.1 dX8_isDueBehind_34 (lv_at hl 1 rfl) ?_
        refine lv_aload_n F.1 F.2.1 dX8_isDueBehind_36 rfl (lv_at hl 3 rfl) ?_
        refine x_get F hin8 hw 8 8 rfl rfl 0 (by decide) (by decide +kernel) rfl rfl dX8_isDueBehind_37 ?_
        refine lv_iload F.1 F.2.1 dX8_isDueBehind_40 (lv_at hl 2 rfl) ?_
        refine lv_aload_n F.1 F.2.1 dX8_isDueBehind_42 rfl (lv_at hl 3 rfl) ?_
        refine lv_iload F.1 F.2.1 dX8_isDueBehind_43 (lv_at hl 0 rfl) ?_
        refine lv_iload_n F.1 F.2.1 dX8_isDueBehind_45 rfl (lv_at hl 6 rfl) ?_
        refine call_N (As := [.int (iI k), .int (iI mm)]) (rest := [.int (iI (A 15 d)), .ref (eO E 3), .int (iI a)]) F (x8_inchesBehind l E I A L k mm (by omega) (by omega) (by omega) (by omega) hin0) (cwV 2 F.2.2.2.2 gX8_isDueBehind_X8_inchesBehind rfl rfl rfl (by decide +kernel) ⟨(Nat.le_of_ble_eq_true rfl), (Nat.le_of_ble_eq_true rfl)⟩) hw (x_recv hw 8 8 rfl rfl) rfl hl.1 rfl (Nat.le_of_ble_eq_true rfl) dX8_isDueBehind_46 ⟨Nat.zero_le _, Nat.zero_le _⟩ (fun H locs hw => ?_)
        have f_4 := xAt_r (Wn := A 9) (l := I 9) (f0 := A 17 0) (n := k) (m := mm) hin0 (by omega)
        refine call_N (As := [.int (iI (A 15 d)), .int (iI (xAt (A 9) (I 9) (A 17 0) k mm))]) (rest := [.int (iI a)]) F (x7_depth l E I A L (A 15 d) (xAt (A 9) (I 9) (A 17 0) k mm) (by omega) (by omega) hdr) (cwV 2 F.2.2.2.2 gX8_isDueBehind_X7_depth rfl rfl rfl (by decide +kernel) ⟨(Nat.le_of_ble_eq_true rfl), (Nat.le_of_ble_eq_true rfl)⟩) hw (x_recv hw 3 7 rfl rfl) rfl hl.1 rfl (Nat.le_of_ble_eq_true rfl) dX8_isDueBehind_49 ⟨Nat.zero_le _, Nat.zero_le _⟩ (fun H locs hw => ?_)
        refine bi_isub F dX8_isDueBehind_52 ?_
        refine lv_istore (lv' := [(5, .int (iI (a - (iMx 0 ((xAt (A 9) (I 9) (A 17 0) k mm) - A 10 (A 15 d)))))), (6, .int (iI k)), (4, .int (iI (A 15 d))), (0, .ref (eO E 8)), (1, .int (iI d)), (2, .int (iI n)), (3, .int (iI mm))]) F.1 F.2.1 dX8_isDueBehind_53 hl (by decide) rfl (fun ls hl => ?_)
        refine lv_iinc (v := iI (k + 1)) (lv' := [(6, .int (iI (k + 1))), (5, .int (iI (a - (iMx 0 ((xAt (A 9) (I 9) (A 17 0) k mm) - A 10 (A 15 d)))))), (4, .int (iI (A 15 d))), (0, .ref (eO E 8)), (1, .int (iI d)), (2, .int (iI n)), (3, .int (iI mm))]) F.1 F.2.1 dX8_isDueBehind_55 hl (k := 1) rfl (iI_add _ _).symm (by decide) rfl (fun ls hl => ?_)
        refine lv_goto (tgt := 28) F.1 F.2.1 dX8_isDueBehind_58 (by decide) ?_
        exact ih_28 (a - (iMx 0 ((xAt (A 9) (I 9) (A 17 0) k mm) - A 10 (A 15 d)))) (k + 1) H locs ls (by omega) (by rw [xLk_s hk.1, ← ha]) hw (lv_sub hl [0, 1, 2, 3, 4, 5, 6] rfl) (by omega)
  exact loop_28 ((n - 0 : Int).toNat + 1) (xLack A d) 0 H locs ls (by omega) (rfl) hw (lv_sub hl [0, 1, 2, 3, 4, 5, 6] rfl) (by omega)
set_option maxRecDepth 100000 in
set_option maxHeartbeats 4000000 in
theorem x8_debtsDueBehind (l : Launch) (E : Ev) (I : Nat → Int) (A : Nat → Int → Int) (L : Nat → Int64) (n : Int) (mm : Int) (hn : 0 ≤ n ∧ n ≤ 300) (hm : 0 ≤ mm ∧ mm ≤ 40) (hnd : 0 ≤ I 12 ∧ I 12 ≤ 5) (hpl : ∀ d, 0 ≤ d ∧ d < I 12 → 0 ≤ A 15 d ∧ A 15 d < 4) (hf : ∀ k, 0 ≤ A 17 k ∧ A 17 k ≤ 900000) (hni : 0 ≤ A 17 0 ∧ A 17 0 ≤ 99000) (hnn : 0 ≤ I 9 ∧ I 9 ≤ 20) (hin0 : ∀ k, 0 ≤ A 9 k ∧ A 9 k ≤ 40) (hdr : ∀ k, 0 ≤ A 10 k ∧ A 10 k ≤ 40) : MetN l yX8_debtsDueBehind wsX8_debtsDueBehind ({ frames := 4, cells := 0, slots := 0, locals := 91 } : Room) E [.ref (eO E 8), .int (iI n), .int (iI mm)] (xW E I A L) (xDbN A (I 9) n mm (I 12).toNat) := by
  have hin7 : ∀ w ∈ wsX70, w ∈ wsX8_debtsDueBehind := by decide +kernel
  have hin8 : ∀ w ∈ wsX80, w ∈ wsX8_debtsDueBehind := by decide +kernel
  refine met_N (cc := cX8_debtsDueBehind) (nL := 5) (by decide) rfl (Nat.le_of_ble_eq_true rfl) ?_
  intro p e s m args below meth c Q H0 A0 H locs ls F hw hl hret
  have F : CallFix p m c cX8_debtsDueBehind 5 s args wsX8_debtsDueBehind RX8 := F
  have hl : lv_has ls 5 [(0, .ref (eO E 8)), (1, .int (iI n)), (2, .int (iI mm))] := hl
  refine bi_iconst F dX8_debtsDueBehind_0 ?_
  refine lv_istore_n (lv' := [(3, .int (iI 0)), (0, .ref (eO E 8)), (1, .int (iI n)), (2, .int (iI mm))]) F.1 F.2.1 dX8_debtsDueBehind_1 rfl hl (by decide) rfl (fun ls hl => ?_)
  refine bi_iconst F dX8_debtsDueBehind_2 ?_
  refine lv_istore (lv' := [(4, .int (iI 0)), (3, .int (iI 0)), (0, .ref (eO E 8)), (1, .int (iI n)), (2, .int (iI mm))]) F.1 F.2.1 dX8_debtsDueBehind_3 hl (by decide) rfl (fun ls hl => ?_)
  have loop_5 : ∀ (nf : Nat) (a : Int) (k : Int) (H : Heap) (locs : List Loc) (ls : Array Slot) (hk : 0 ≤ k ∧ k ≤ I 12) (ha : a = xDbN A (I 9) n mm k.toNat) (hw : gH E A0 H0 s (xW E I A L) H locs) (hl : lv_has ls 5 [(4, .int (iI k)), (3, .int (iI a)), (0, .ref (eO E 8)), (1, .int (iI n)), (2, .int (iI mm))]) (hnf : (I 12 - k).toNat < nf), W p l e ({ frames := 4, cells := 0, slots := 0, locals := 91 } : Room) s m args below meth c H locs 0 0 Q (F0 m 5 ls []) := by
    intro nf
    induction nf with
    | zero =>
      intro a k H locs ls hk ha hw hl hnf
      exact absurd hnf (Nat.not_lt_zero _)
    | succ nf ih_5 =>
      intro a k H locs ls hk ha hw hl hnf
      refine lv_iload F.1 F.2.1 dX8_debtsDueBehind_5 (lv_at hl 0 rfl) ?_
      refine lv_aload_n F.1 F.2.1 dX8_debtsDueBehind_7 rfl (lv_at hl 2 rfl) ?_
      refine x_get F hin8 hw 8 8 rfl rfl 0 (by decide) (by decide +kernel) rfl rfl dX8_debtsDueBehind_8 ?_
      refine x_get F hin7 hw 3 7 rfl rfl 11 (by decide) (by decide +kernel) rfl rfl dX8_debtsDueBehind_11 ?_
      refine bi_icmp_ge (tgt := 53) F dX8_debtsDueBehind_14 (by decide) (by omega) (fun c_1 => ?_) (fun c_1 => ?_)
      · refine lv_iload_n F.1 F.2.1 dX8_debtsDueBehind_53 rfl (lv_at hl 1 rfl) ?_
        exact hret _ _ _ _ _ (by rw [ha, show k = I 12 by omega]) hw dX8_debtsDueBehind_54
      · refine lv_aload_n F.1 F.2.1 dX8_debtsDueBehind_17 rfl (lv_at hl 2 rfl) ?_
        refine x_get F hin8 hw 8 8 rfl rfl 1 (by decide) (by decide +kernel) rfl rfl dX8_debtsDueBehind_18 ?_
        refine lv_iload F.1 F.2.1 dX8_debtsDueBehind_21 (lv_at hl 0 rfl) ?_
        have hp1 := hpl k (by omega)
        have hf1 := hf (25 + k)
        refine call_N (As := [.int (iI k)]) (rest := []) F (x6_owed l E I A L k (by omega)) (cwV 1 F.2.2.2.2 gX8_debtsDueBehind_X6_owed rfl rfl rfl (by decide +kernel) ⟨(Nat.le_of_ble_eq_true rfl), (Nat.le_of_ble_eq_true rfl)⟩) hw (x_recv hw 4 6 rfl rfl) rfl hl.1 rfl (Nat.le_of_ble_eq_true rfl) dX8_debtsDueBehind_23 ⟨Nat.zero_le _, Nat.zero_le _⟩ (fun H locs hw => ?_)
        refine bi_if_eq (tgt := 47) F dX8_debtsDueBehind_26 (by decide) (by omega) (fun c_2 => ?_) (fun c_2 => ?_)
        · refine lv_iinc (v := iI (k + 1)) (lv' := [(4, .int (iI (k + 1))), (3, .int (iI a)), (0, .ref (eO E 8)), (1, .int (iI n)), (2, .int (iI mm))]) F.1 F.2.1 dX8_debtsDueBehind_47 hl (k := 0) rfl (iI_add _ _).symm (by decide) rfl (fun ls hl => ?_)
          refine lv_goto (tgt := 5) F.1 F.2.1 dX8_debtsDueBehind_50 (by decide) ?_
          exact ih_5 a (k + 1) H locs ls (by omega) (by refine Eq.trans ?_ (fld_s (g := fun a d => if A 17 (25 + d) ≠ 0 ∧ xLk A (I 9) mm (A 15 d) (xLack A d) n.toNat ≤ 0 then iOr a (iShl 1 d) else a) (z := 0) hk.1).symm; rw [show fld _ _ k.toNat = a from ha.symm]; first | (rw [if_pos (by omega)]; done) | (rw [if_neg (by omega)]; done)) hw (lv_sub hl [0, 1, 2, 3, 4] rfl) (by omega)
        · refine lv_aload_n F.1 F.2.1 dX8_debtsDueBehind_29 rfl (lv_at hl 2 rfl) ?_
          refine lv_iload F.1 F.2.1 dX8_debtsDueBehind_30 (lv_at hl 0 rfl) ?_
          refine lv_iload_n F.1 F.2.1 dX8_debtsDueBehind_32 rfl (lv_at hl 3 rfl) ?_
          refine lv_iload_n F.1 F.2.1 dX8_debtsDueBehind_33 rfl (lv_at hl 4 rfl) ?_
          refine call_P (As := [.int (iI k), .int (iI n), .int (iI mm)]) (rest := []) F (x8_isDueBehind l E I A L k n mm (by omega) (by omega) (by omega) (by omega) hf (by omega) (by omega) hin0 hdr) (cwV 3 F.2.2.2.2 gX8_debtsDueBehind_X8_isDueBehind rfl rfl rfl (by decide +kernel) ⟨(Nat.le_of_ble_eq_true rfl), (Nat.le_of_ble_eq_true rfl)⟩) hw (x_recv hw 8 8 rfl rfl) rfl hl.1 rfl (Nat.le_of_ble_eq_true rfl) dX8_debtsDueBehind_34 ⟨Nat.zero_le _, Nat.zero_le _⟩ (fun q_3 H locs hw => ?_) (fun q_3 H locs hw => ?_)
          · refine bi_if_eq (tgt := 47) F dX8_debtsDueBehind_37 (by decide) (by decide) (fun q => absurd q (by decide)) (fun _ => ?_)
            refine lv_iload_n F.1 F.2.1 dX8_debtsDueBehind_40 rfl (lv_at hl 1 rfl) ?_
            refine bi_iconst F dX8_debtsDueBehind_41 ?_
            refine lv_iload F.1 F.2.1 dX8_debtsDueBehind_42 (lv_at hl 0 rfl) ?_
            refine bi_ishl F dX8_debtsDueBehind_44 ?_
            have f_5 := iShl_r 1 k
            refine bi_ior F dX8_debtsDueBehind_45 ?_
            have f_6 := iOr_r a (iShl 1 k)
            refine lv_istore_n (lv' := [(3, .int (iI (iOr a (iShl 1 k)))), (4, .int (iI k)), (0, .ref (eO E 8)), (1, .int (iI n)), (2, .int (iI mm))]) F.1 F.2.1 dX8_debtsDueBehind_46 rfl hl (by decide) rfl (fun ls hl => ?_)
            refine lv_iinc (v := iI (k + 1)) (lv' := [(4, .int (iI (k + 1))), (3, .int (iI (iOr a (iShl 1 k)))), (0, .ref (eO E 8)), (1, .int (iI n)), (2, .int (iI mm))]) F.1 F.2.1 dX8_debtsDueBehind_47 hl (k := 1) rfl (iI_add _ _).symm (by decide) rfl (fun ls hl => ?_)
            refine lv_goto (tgt := 5) F.1 F.2.1 dX8_debtsDueBehind_50 (by decide) ?_
            exact ih_5 (iOr a (iShl 1 k)) (k + 1) H locs ls (by omega) (by refine Eq.trans ?_ (fld_s (g := fun a d => if A 17 (25 + d) ≠ 0 ∧ xLk A (I 9) mm (A 15 d) (xLack A d) n.toNat ≤ 0 then iOr a (iShl 1 d) else a) (z := 0) hk.1).symm; rw [show fld _ _ k.toNat = a from ha.symm]; first | (rw [if_pos (by omega)]; done) | (rw [if_neg (by omega)]; done)) hw (lv_sub hl [0, 1, 2, 3, 4] rfl) (by omega)
          · refine bi_if_eq (tgt := 47) F dX8_debtsDueBehind_37 (by decide) (by decide) (fun _ => ?_) (fun q => absurd q (by decide))
            refine lv_iinc (v := iI (k + 1)) (lv' := [(4, .int (iI (k + 1))), (3, .int (iI a)), (0, .ref (eO E 8)), (1, .int (iI n)), (2, .int (iI mm))]) F.1 F.2.1 dX8_debtsDueBehind_47 hl (k := 0) rfl (iI_add _ _).symm (by decide) rfl (fun ls hl => ?_)
            refine lv_goto (tgt := 5) F.1 F.2.1 dX8_debtsDueBehind_50 (by decide) ?_
            exact ih_5 a (k + 1) H locs ls (by omega) (by refine Eq.trans ?_ (fld_s (g := fun a d => if A 17 (25 + d) ≠ 0 ∧ xLk A (I 9) mm (A 15 d) (xLack A d) n.toNat ≤ 0 then iOr a (iShl 1 d) else a) (z := 0) hk.1).symm; rw [show fld _ _ k.toNat = a from ha.symm]; first | (rw [if_pos (by omega)]; done) | (rw [if_neg (by omega)]; done)) hw (lv_sub hl [0, 1, 2, 3, 4] rfl) (by omega)
  exact loop_5 ((I 12 - 0 : Int).toNat + 1) 0 0 H locs ls (by omega) (rfl) hw (lv_sub hl [0, 1, 2, 3, 4] rfl) (by omega)
set_option maxRecDepth 100000 in
set_option maxHeartbeats 4000000 in
theorem x8_nightsTillFeast (l : Launch) (E : Ev) (I : Nat → Int) (A : Nat → Int → Int) (L : Nat → Int64) (v : Int) (u : Int) (hv : 0 ≤ v ∧ v < 4) (hu : 0 ≤ u ∧ u < 4) (hf : ∀ k, 0 ≤ A 17 k ∧ A 17 k ≤ 900000) (hyr : ∀ k, 0 ≤ A 12 k ∧ A 12 k ≤ 40) (hff : ∀ k, 0 ≤ A 11 k ∧ A 11 k ≤ 80) (hni : 0 ≤ A 17 0 ∧ A 17 0 ≤ 99000) (hnn : 0 ≤ I 9 ∧ I 9 ≤ 20) (hin0 : ∀ k, 0 ≤ A 9 k ∧ A 9 k ≤ 40) : MetN l yX8_nightsTillFeast wsX8_nightsTillFeast ({ frames := 3, cells := 0, slots := 0, locals := 66 } : Room) E [.ref (eO E 8), .int (iI v), .int (iI u)] (xW E I A L) (xFea A (I 9) v u 0 201) := by
  have hin8 : ∀ w ∈ wsX80, w ∈ wsX8_nightsTillFeast := by decide +kernel
  refine met_N (cc := cX8_nightsTillFeast) (nL := 6) (by decide) rfl (Nat.le_of_ble_eq_true rfl) ?_
  intro p e s m args below meth c Q H0 A0 H locs ls F hw hl hret
  have F : CallFix p m c cX8_nightsTillFeast 6 s args wsX8_nightsTillFeast RX8 := F
  have hl : lv_has ls 6 [(0, .ref (eO E 8)), (1, .int (iI v)), (2, .int (iI u))] := hl
  have hf1 := hf (1 + v)
  have hf2 := hf (9 + v)
  have hf3 := hf (1 + u)
  have hf4 := hf (9 + u)
  refine lv_aload_n F.1 F.2.1 dX8_nightsTillFeast_0 rfl (lv_at hl 0 rfl) ?_
  refine x_get F hin8 hw 8 8 rfl rfl 1 (by decide) (by decide +kernel) rfl rfl dX8_nightsTillFeast_1 ?_
  refine lv_iload_n F.1 F.2.1 dX8_nightsTillFeast_4 rfl (lv_at hl 1 rfl) ?_
  refine call_N (As := [.int (iI v)]) (rest := []) F (x6_falls l E I A L v (by omega)) (cwV 1 F.2.2.2.2 gX8_nightsTillFeast_X6_falls rfl rfl rfl (by decide +kernel) ⟨(Nat.le_of_ble_eq_true rfl), (Nat.le_of_ble_eq_true rfl)⟩) hw (x_recv hw 4 6 rfl rfl) rfl hl.1 rfl (Nat.le_of_ble_eq_true rfl) dX8_nightsTillFeast_5 ⟨Nat.zero_le _, Nat.zero_le _⟩ (fun H locs hw => ?_)
  refine lv_istore_n (lv' := [(3, .int (iI (A 17 (1 + v)))), (0, .ref (eO E 8)), (1, .int (iI v)), (2, .int (iI u))]) F.1 F.2.1 dX8_nightsTillFeast_8 rfl hl (by decide) rfl (fun ls hl => ?_)
  refine lv_aload_n F.1 F.2.1 dX8_nightsTillFeast_9 rfl (lv_at hl 1 rfl) ?_
  refine x_get F hin8 hw 8 8 rfl rfl 1 (by decide) (by decide +kernel) rfl rfl dX8_nightsTillFeast_10 ?_
  refine lv_iload_n F.1 F.2.1 dX8_nightsTillFeast_13 rfl (lv_at hl 3 rfl) ?_
  refine call_N (As := [.int (iI u)]) (rest := []) F (x6_falls l E I A L u (by omega)) (cwV 1 F.2.2.2.2 gX8_nightsTillFeast_X6_falls rfl rfl rfl (by decide +kernel) ⟨(Nat.le_of_ble_eq_true rfl), (Nat.le_of_ble_eq_true rfl)⟩) hw (x_recv hw 4 6 rfl rfl) rfl hl.1 rfl (Nat.le_of_ble_eq_true rfl) dX8_nightsTillFeast_14 ⟨Nat.zero_le _, Nat.zero_le _⟩ (fun H locs hw => ?_)
  refine lv_istore (lv' := [(4, .int (iI (A 17 (1 + u)))), (3, .int (iI (A 17 (1 + v)))), (0, .ref (eO E 8)), (1, .int (iI v)), (2, .int (iI u))]) F.1 F.2.1 dX8_nightsTillFeast_17 hl (by decide) rfl (fun ls hl => ?_)
  refine bi_iconst F dX8_nightsTillFeast_19 ?_
  refine lv_istore (lv' := [(5, .int (iI 0)), (4, .int (iI (A 17 (1 + u)))), (3, .int (iI (A 17 (1 + v)))), (0, .ref (eO E 8)), (1, .int (iI v)), (2, .int (iI u))]) F.1 F.2.1 dX8_nightsTillFeast_20 hl (by decide) rfl (fun ls hl => ?_)
  have loop_22 : ∀ (nf : Nat) (a : Int) (b : Int) (k : Int) (H : Heap) (locs : List Loc) (ls : Array Slot) (hk : 0 ≤ k ∧ k ≤ 201) (ha : a = xFls A (I 9) 0 v (A 17 (1 + v)) k.toNat) (hb : b = xFls A (I 9) 0 u (A 17 (1 + u)) k.toNat) (hT : xFea A (I 9) v u 0 201 = xFea A (I 9) v u k (201 - k).toNat) (hw : gH E A0 H0 s (xW E I A L) H locs) (hl : lv_has ls 6 [(5, .int (iI k)), (4, .int (iI b)), (3, .int (iI a)), (0, .ref (eO E 8)), (1, .int (iI v)), (2, .int (iI u))]) (hnf : (201 - k).toNat < nf), W p l e ({ frames := 3, cells := 0, slots := 0, locals := 66 } : Room) s m args below meth c H locs 0 0 Q (F0 m 22 ls []) := by
    intro nf
    induction nf with
    | zero =>
      intro a b k H locs ls hk ha hb hT hw hl hnf
      exact absurd hnf (Nat.not_lt_zero _)
    | succ nf ih_22 =>
      intro a b k H locs ls hk ha hb hT hw hl hnf
      have har := xFls_r (A := A) (l := I 9) (m := 0) (v := v) (a := A 17 (1 + v)) k.toNat
      have hbr := xFls_r (A := A) (l := I 9) (m := 0) (v := u) (a := A 17 (1 + u)) k.toNat
      have hm1 := iMx_r 0 (a - A 17 (9 + v))
      have hm2 := iMx_r 0 (b - A 17 (9 + u))
      have hy1 := xFy_r (A := A) (x := iMx 0 (a - A 17 (9 + v))) (v := v) hyr
      have hy2 := xFy_r (A := A) (x := iMx 0 (b - A 17 (9 + u))) (v := u) hyr
      unfold xFy at hy1 hy2
      have hTs : k < 201 → xFea A (I 9) v u k (201 - k).toNat = if xFy A (iMx 0 (a - A 17 (9 + v))) v = xFy A (iMx 0 (b - A 17 (9 + u))) u then k else xFea A (I 9) v u (k + 1) (201 - (k + 1)).toNat := fun h => by rw [show (201 - k).toNat = (201 - (k + 1)).toNat + 1 by omega, ha, hb]; rfl
      refine lv_iload F.1 F.2.1 dX8_nightsTillFeast_22 (lv_at hl 0 rfl) ?_
      refine bi_sipush F dX8_nightsTillFeast_24 (by decide) ?_
      refine bi_icmp_gt (tgt := 115) F dX8_nightsTillFeast_27 (by decide) (by omega) (fun c_1 => ?_) (fun c_1 => ?_)
      · refine bi_iconst F dX8_nightsTillFeast_115 ?_
        exact hret _ _ _ _ _ (by rw [hT, show (201 - k).toNat = 0 by omega]; rfl) hw dX8_nightsTillFeast_116
      · refine lv_aload_n F.1 F.2.1 dX8_nightsTillFeast_30 rfl (lv_at hl 3 rfl) ?_
        refine x_get F hin8 hw 8 8 rfl rfl 0 (by decide) (by decide +kernel) rfl rfl dX8_nightsTillFeast_31 ?_
        refine lv_aload_n F.1 F.2.1 dX8_nightsTillFeast_34 rfl (lv_at hl 3 rfl) ?_
        refine x_get F hin8 hw 8 8 rfl rfl 1 (by decide) (by decide +kernel) rfl rfl dX8_nightsTillFeast_35 ?_
        refine lv_iload_n F.1 F.2.1 dX8_nightsTillFeast_38 rfl (lv_at hl 4 rfl) ?_
        refine lv_iload_n F.1 F.2.1 dX8_nightsTillFeast_39 rfl (lv_at hl 2 rfl) ?_
        refine call_N (As := [.int (iI v), .int (iI a)]) (rest := [.ref (eO E 3)]) F (x6_poleOf l E I A L v a (by omega) (by omega) hf) (cwV 2 F.2.2.2.2 gX8_nightsTillFeast_X6_poleOf rfl rfl rfl (by decide +kernel) ⟨(Nat.le_of_ble_eq_true rfl), (Nat.le_of_ble_eq_true rfl)⟩) hw (x_recv hw 4 6 rfl rfl) rfl hl.1 rfl (Nat.le_of_ble_eq_true rfl) dX8_nightsTillFeast_40 ⟨Nat.zero_le _, Nat.zero_le _⟩ (fun H locs hw => ?_)
        refine lv_iload_n F.1 F.2.1 dX8_nightsTillFeast_43 rfl (lv_at hl 4 rfl) ?_
        refine call_N (As := [.int (iI (iMx 0 (a - A 17 (9 + v)))), .int (iI v)]) (rest := []) F (x7_fallOfYear l E I A L (iMx 0 (a - A 17 (9 + v))) v (by omega) (by omega) hyr) (cwV 2 F.2.2.2.2 gX8_nightsTillFeast_X7_fallOfYear rfl rfl rfl (by decide +kernel) ⟨(Nat.le_of_ble_eq_true rfl), (Nat.le_of_ble_eq_true rfl)⟩) hw (x_recv hw 3 7 rfl rfl) rfl hl.1 rfl (Nat.le_of_ble_eq_true rfl) dX8_nightsTillFeast_44 ⟨Nat.zero_le _, Nat.zero_le _⟩ (fun H locs hw => ?_)
        refine lv_aload_n F.1 F.2.1 dX8_nightsTillFeast_47 rfl (lv_at hl 3 rfl) ?_
        refine x_get F hin8 hw 8 8 rfl rfl 0 (by decide) (by decide +kernel) rfl rfl dX8_nightsTillFeast_48 ?_
        refine lv_aload_n F.1 F.2.1 dX8_nightsTillFeast_51 rfl (lv_at hl 3 rfl) ?_
        refine x_get F hin8 hw 8 8 rfl rfl 1 (by decide) (by decide +kernel) rfl rfl dX8_nightsTillFeast_52 ?_
        refine lv_iload_n F.1 F.2.1 dX8_nightsTillFeast_55 rfl (lv_at hl 5 rfl) ?_
        refine lv_iload F.1 F.2.1 dX8_nightsTillFeast_56 (lv_at hl 1 rfl) ?_
        refine call_N (As := [.int (iI u), .int (iI b)]) (rest := [.ref (eO E 3), .int (iI (if 0 < A 12 v then (iMx 0 (a - A 17 (9 + v))) % A 12 v else 0))]) F (x6_poleOf l E I A L u b (by omega) (by omega) hf) (cwV 2 F.2.2.2.2 gX8_nightsTillFeast_X6_poleOf rfl rfl rfl (by decide +kernel) ⟨(Nat.le_of_ble_eq_true rfl), (Nat.le_of_ble_eq_true rfl)⟩) hw (x_recv hw 4 6 rfl rfl) rfl hl.1 rfl (Nat.le_of_ble_eq_true rfl) dX8_nightsTillFeast_58 ⟨Nat.zero_le _, Nat.zero_le _⟩ (fun H locs hw => ?_)
        refine lv_iload_n F.1 F.2.1 dX8_nightsTillFeast_61 rfl (lv_at hl 5 rfl) ?_
        refine call_N (As := [.int (iI (iMx 0 (b - A 17 (9 + u)))), .int (iI u)]) (rest := [.int (iI (if 0 < A 12 v then (iMx 0 (a - A 17 (9 + v))) % A 12 v else 0))]) F (x7_fallOfYear l E I A L (iMx 0 (b - A 17 (9 + u))) u (by omega) (by omega) hyr) (cwV 2 F.2.2.2.2 gX8_nightsTillFeast_X7_fallOfYear rfl rfl rfl (by decide +kernel) ⟨(Nat.le_of_ble_eq_true rfl), (Nat.le_of_ble_eq_true rfl)⟩) hw (x_recv hw 3 7 rfl rfl) rfl hl.1 rfl (Nat.le_of_ble_eq_true rfl) dX8_nightsTillFeast_62 ⟨Nat.zero_le _, Nat.zero_le _⟩ (fun H locs hw => ?_)
        refine bi_icmp_ne (tgt := 71) F dX8_nightsTillFeast_65 (by decide) (by omega) (fun c_2 => ?_) (fun c_2 => ?_)
        · refine lv_iload_n F.1 F.2.1 dX8_nightsTillFeast_71 rfl (lv_at hl 2 rfl) ?_
          refine lv_aload_n F.1 F.2.1 dX8_nightsTillFeast_72 rfl (lv_at hl 3 rfl) ?_
          refine lv_iload_n F.1 F.2.1 dX8_nightsTillFeast_73 rfl (lv_at hl 4 rfl) ?_
          refine lv_iload F.1 F.2.1 dX8_nightsTillFeast_74 (lv_at hl 0 rfl) ?_
          refine call_P (As := [.int (iI v), .int (iI k)]) (rest := [.int (iI a)]) F (x8_isFallBehind l E I A L v k (by omega) (by omega) (by omega) (by omega) hin0 hff) (cwV 2 F.2.2.2.2 gX8_nightsTillFeast_X8_isFallBehind rfl rfl rfl (by decide +kernel) ⟨(Nat.le_of_ble_eq_true rfl), (Nat.le_of_ble_eq_true rfl)⟩) hw (x_recv hw 8 8 rfl rfl) rfl hl.1 rfl (Nat.le_of_ble_eq_true rfl) dX8_nightsTillFeast_76 ⟨Nat.zero_le _, Nat.zero_le _⟩ (fun q_3 H locs hw => ?_) (fun q_3 H locs hw => ?_)
          · refine bi_if_eq (tgt := 86) F dX8_nightsTillFeast_79 (by decide) (by decide) (fun q => absurd q (by decide)) (fun _ => ?_)
            refine bi_iconst F dX8_nightsTillFeast_82 ?_
            refine lv_goto (tgt := 87) F.1 F.2.1 dX8_nightsTillFeast_83 (by decide) ?_
            refine bi_iadd F dX8_nightsTillFeast_87 ?_
            refine lv_istore_n (lv' := [(3, .int (iI (a + 1))), (5, .int (iI k)), (4, .int (iI b)), (0, .ref (eO E 8)), (1, .int (iI v)), (2, .int (iI u))]) F.1 F.2.1 dX8_nightsTillFeast_88 rfl hl (by decide) rfl (fun ls hl => ?_)
            refine lv_iload F.1 F.2.1 dX8_nightsTillFeast_89 (lv_at hl 2 rfl) ?_
            refine lv_aload_n F.1 F.2.1 dX8_nightsTillFeast_91 rfl (lv_at hl 3 rfl) ?_
            refine lv_iload_n F.1 F.2.1 dX8_nightsTillFeast_92 rfl (lv_at hl 5 rfl) ?_
            refine lv_iload F.1 F.2.1 dX8_nightsTillFeast_93 (lv_at hl 1 rfl) ?_
            refine call_P (As := [.int (iI u), .int (iI k)]) (rest := [.int (iI b)]) F (x8_isFallBehind l E I A L u k (by omega) (by omega) (by omega) (by omega) hin0 hff) (cwV 2 F.2.2.2.2 gX8_nightsTillFeast_X8_isFallBehind rfl rfl rfl (by decide +kernel) ⟨(Nat.le_of_ble_eq_true rfl), (Nat.le_of_ble_eq_true rfl)⟩) hw (x_recv hw 8 8 rfl rfl) rfl hl.1 rfl (Nat.le_of_ble_eq_true rfl) dX8_nightsTillFeast_95 ⟨Nat.zero_le _, Nat.zero_le _⟩ (fun q_5 H locs hw => ?_) (fun q_5 H locs hw => ?_)
            · refine bi_if_eq (tgt := 105) F dX8_nightsTillFeast_98 (by decide) (by decide) (fun q => absurd q (by decide)) (fun _ => ?_)
              refine bi_iconst F dX8_nightsTillFeast_101 ?_
              refine lv_goto (tgt := 106) F.1 F.2.1 dX8_nightsTillFeast_102 (by decide) ?_
              refine bi_iadd F dX8_nightsTillFeast_106 ?_
              refine lv_istore (lv' := [(4, .int (iI (b + 1))), (3, .int (iI (a + 1))), (5, .int (iI k)), (0, .ref (eO E 8)), (1, .int (iI v)), (2, .int (iI u))]) F.1 F.2.1 dX8_nightsTillFeast_107 hl (by decide) rfl (fun ls hl => ?_)
              refine lv_iinc (v := iI (k + 1)) (lv' := [(5, .int (iI (k + 1))), (4, .int (iI (b + 1))), (3, .int (iI (a + 1))), (0, .ref (eO E 8)), (1, .int (iI v)), (2, .int (iI u))]) F.1 F.2.1 dX8_nightsTillFeast_109 hl (k := 2) rfl (iI_add _ _).symm (by decide) rfl (fun ls hl => ?_)
              refine lv_goto (tgt := 22) F.1 F.2.1 dX8_nightsTillFeast_112 (by decide) ?_
              exact ih_22 (a + 1) (b + 1) (k + 1) H locs ls (by omega) (by rw [xFls_s hk.1, ← ha]; first | (rw [if_pos (by assumption)]; done) | (rw [if_neg (by assumption)]; omega)) (by rw [xFls_s hk.1, ← hb]; first | (rw [if_pos (by assumption)]; done) | (rw [if_neg (by assumption)]; omega)) (by rw [hT, hTs (by omega), if_neg (by assumption)]) hw (lv_sub hl [0, 1, 2, 3, 4, 5] rfl) (by omega)
            · refine bi_if_eq (tgt := 105) F dX8_nightsTillFeast_98 (by decide) (by decide) (fun _ => ?_) (fun q => absurd q (by decide))
              refine bi_iconst F dX8_nightsTillFeast_105 ?_
              refine bi_iadd F dX8_nightsTillFeast_106 ?_
              refine lv_istore (lv' := [(4, .int (iI (b + 0))), (3, .int (iI (a + 1))), (5, .int (iI k)), (0, .ref (eO E 8)), (1, .int (iI v)), (2, .int (iI u))]) F.1 F.2.1 dX8_nightsTillFeast_107 hl (by decide) rfl (fun ls hl => ?_)
              refine lv_iinc (v := iI (k + 1)) (lv' := [(5, .int (iI (k + 1))), (4, .int (iI (b + 0))), (3, .int (iI (a + 1))), (0, .ref (eO E 8)), (1, .int (iI v)), (2, .int (iI u))]) F.1 F.2.1 dX8_nightsTillFeast_109 hl (k := 2) rfl (iI_add _ _).symm (by decide) rfl (fun ls hl => ?_)
              refine lv_goto (tgt := 22) F.1 F.2.1 dX8_nightsTillFeast_112 (by decide) ?_
              exact ih_22 (a + 1) (b + 0) (k + 1) H locs ls (by omega) (by rw [xFls_s hk.1, ← ha]; first | (rw [if_pos (by assumption)]; done) | (rw [if_neg (by assumption)]; omega)) (by rw [xFls_s hk.1, ← hb]; first | (rw [if_pos (by assumption)]; done) | (rw [if_neg (by assumption)]; omega)) (by rw [hT, hTs (by omega), if_neg (by assumption)]) hw (lv_sub hl [0, 1, 2, 3, 4, 5] rfl) (by omega)
          · refine bi_if_eq (tgt := 86) F dX8_nightsTillFeast_79 (by decide) (by decide) (fun _ => ?_) (fun q => absurd q (by decide))
            refine bi_iconst F dX8_nightsTillFeast_86 ?_
            refine bi_iadd F dX8_nightsTillFeast_87 ?_
            refine lv_istore_n (lv' := [(3, .int (iI (a + 0))), (5, .int (iI k)), (4, .int (iI b)), (0, .ref (eO E 8)), (1, .int (iI v)), (2, .int (iI u))]) F.1 F.2.1 dX8_nightsTillFeast_88 rfl hl (by decide) rfl (fun ls hl => ?_)
            refine lv_iload F.1 F.2.1 dX8_nightsTillFeast_89 (lv_at hl 2 rfl) ?_
            refine lv_aload_n F.1 F.2.1 dX8_nightsTillFeast_91 rfl (lv_at hl 3 rfl) ?_
            refine lv_iload_n F.1 F.2.1 dX8_nightsTillFeast_92 rfl (lv_at hl 5 rfl) ?_
            refine lv_iload F.1 F.2.1 dX8_nightsTillFeast_93 (lv_at hl 1 rfl) ?_
            refine call_P (As := [.int (iI u), .int (iI k)]) (rest := [.int (iI b)]) F (x8_isFallBehind l E I A L u k (by omega) (by omega) (by omega) (by omega) hin0 hff) (cwV 2 F.2.2.2.2 gX8_nightsTillFeast_X8_isFallBehind rfl rfl rfl (by decide +kernel) ⟨(Nat.le_of_ble_eq_true rfl), (Nat.le_of_ble_eq_true rfl)⟩) hw (x_recv hw 8 8 rfl rfl) rfl hl.1 rfl (Nat.le_of_ble_eq_true rfl) dX8_nightsTillFeast_95 ⟨Nat.zero_le _, Nat.zero_le _⟩ (fun q_9 H locs hw => ?_) (fun q_9 H locs hw => ?_)
            · refine bi_if_eq (tgt := 105) F dX8_nightsTillFeast_98 (by decide) (by decide) (fun q => absurd q (by decide)) (fun _ => ?_)
              refine bi_iconst F dX8_nightsTillFeast_101 ?_
              refine lv_goto (tgt := 106) F.1 F.2.1 dX8_nightsTillFeast_102 (by decide) ?_
              refine bi_iadd F dX8_nightsTillFeast_106 ?_
              refine lv_istore (lv' := [(4, .int (iI (b + 1))), (3, .int (iI (a + 0))), (5, .int (iI k)), (0, .ref (eO E 8)), (1, .int (iI v)), (2, .int (iI u))]) F.1 F.2.1 dX8_nightsTillFeast_107 hl (by decide) rfl (fun ls hl => ?_)
              refine lv_iinc (v := iI (k + 1)) (lv' := [(5, .int (iI (k + 1))), (4, .int (iI (b + 1))), (3, .int (iI (a + 0))), (0, .ref (eO E 8)), (1, .int (iI v)), (2, .int (iI u))]) F.1 F.2.1 dX8_nightsTillFeast_109 hl (k := 2) rfl (iI_add _ _).symm (by decide) rfl (fun ls hl => ?_)
              refine lv_goto (tgt := 22) F.1 F.2.1 dX8_nightsTillFeast_112 (by decide) ?_
              exact ih_22 (a + 0) (b + 1) (k + 1) H locs ls (by omega) (by rw [xFls_s hk.1, ← ha]; first | (rw [if_pos (by assumption)]; done) | (rw [if_neg (by assumption)]; omega)) (by rw [xFls_s hk.1, ← hb]; first | (rw [if_pos (by assumption)]; done) | (rw [if_neg (by assumption)]; omega)) (by rw [hT, hTs (by omega), if_neg (by assumption)]) hw (lv_sub hl [0, 1, 2, 3, 4, 5] rfl) (by omega)
            · refine bi_if_eq (tgt := 105) F dX8_nightsTillFeast_98 (by decide) (by decide) (fun _ => ?_) (fun q => absurd q (by decide))
              refine bi_iconst F dX8_nightsTillFeast_105 ?_
              refine bi_iadd F dX8_nightsTillFeast_106 ?_
              refine lv_istore (lv' := [(4, .int (iI (b + 0))), (3, .int (iI (a + 0))), (5, .int (iI k)), (0, .ref (eO E 8)), (1, .int (iI v)), (2, .int (iI u))]) F.1 F.2.1 dX8_nightsTillFeast_107 hl (by decide) rfl (fun ls hl => ?_)
              refine lv_iinc (v := iI (k + 1)) (lv' := [(5, .int (iI (k + 1))), (4, .int (iI (b + 0))), (3, .int (iI (a + 0))), (0, .ref (eO E 8)), (1, .int (iI v)), (2, .int (iI u))]) F.1 F.2.1 dX8_nightsTillFeast_109 hl (k := 2) rfl (iI_add _ _).symm (by decide) rfl (fun ls hl => ?_)
              refine lv_goto (tgt := 22) F.1 F.2.1 dX8_nightsTillFeast_112 (by decide) ?_
              exact ih_22 (a + 0) (b + 0) (k + 1) H locs ls (by omega) (by rw [xFls_s hk.1, ← ha]; first | (rw [if_pos (by assumption)]; done) | (rw [if_neg (by assumption)]; omega)) (by rw [xFls_s hk.1, ← hb]; first | (rw [if_pos (by assumption)]; done) | (rw [if_neg (by assumption)]; omega)) (by rw [hT, hTs (by omega), if_neg (by assumption)]) hw (lv_sub hl [0, 1, 2, 3, 4, 5] rfl) (by omega)
        · refine lv_iload F.1 F.2.1 dX8_nightsTillFeast_68 (lv_at hl 0 rfl) ?_
          exact hret _ _ _ _ _ (by rw [hT, hTs (by omega), if_pos (by assumption)]) hw dX8_nightsTillFeast_70
  exact loop_22 ((201 - 0 : Int).toNat + 1) (A 17 (1 + v)) (A 17 (1 + u)) 0 H locs ls (by omega) (rfl) (rfl) (rfl) hw (lv_sub hl [0, 1, 2, 3, 4, 5] rfl) (by omega)
set_option maxRecDepth 100000 in
set_option maxHeartbeats 4000000 in
theorem x8_longestWithoutFall (l : Launch) (E : Ev) (I : Nat → Int) (A : Nat → Int → Int) (L : Nat → Int64) (v : Int) (hv : 0 ≤ v ∧ v < 4) (hni : 0 ≤ A 17 0 ∧ A 17 0 ≤ 99000) (hnn : 0 ≤ I 9 ∧ I 9 ≤ 20) (hin0 : ∀ k, 0 ≤ A 9 k ∧ A 9 k ≤ 40) (hff : ∀ k, 0 ≤ A 11 k ∧ A 11 k ≤ 80) : MetN l yX8_longestWithoutFall wsX8_longestWithoutFall ({ frames := 3, cells := 0, slots := 0, locals := 66 } : Room) E [.ref (eO E 8), .int (iI v)] (xW E I A L) ((xLng A (I 9) v 100).1) := by
  refine met_N (cc := cX8_longestWithoutFall) (nL := 5) (by decide) rfl (Nat.le_of_ble_eq_true rfl) ?_
  intro p e s m args below meth c Q H0 A0 H locs ls F hw hl hret
  have F : CallFix p m c cX8_longestWithoutFall 5 s args wsX8_longestWithoutFall RX8 := F
  have hl : lv_has ls 5 [(0, .ref (eO E 8)), (1, .int (iI v))] := hl
  refine bi_iconst F dX8_longestWithoutFall_0 ?_
  refine lv_istore_n (lv' := [(2, .int (iI 0)), (0, .ref (eO E 8)), (1, .int (iI v))]) F.1 F.2.1 dX8_longestWithoutFall_1 rfl hl (by decide) rfl (fun ls hl => ?_)
  refine bi_iconst F dX8_longestWithoutFall_2 ?_
  refine lv_istore_n (lv' := [(3, .int (iI 0)), (2, .int (iI 0)), (0, .ref (eO E 8)), (1, .int (iI v))]) F.1 F.2.1 dX8_longestWithoutFall_3 rfl hl (by decide) rfl (fun ls hl => ?_)
  refine bi_iconst F dX8_longestWithoutFall_4 ?_
  refine lv_istore (lv' := [(4, .int (iI 0)), (3, .int (iI 0)), (2, .int (iI 0)), (0, .ref (eO E 8)), (1, .int (iI v))]) F.1 F.2.1 dX8_longestWithoutFall_5 hl (by decide) rfl (fun ls hl => ?_)
  have loop_7 : ∀ (nf : Nat) (b : Int) (r : Int) (k : Int) (H : Heap) (locs : List Loc) (ls : Array Slot) (hk : 0 ≤ k ∧ k ≤ 100) (hb : (b, r) = xLng A (I 9) v k.toNat) (hb2 : (0 ≤ b ∧ b ≤ 100) ∧ (0 ≤ r ∧ r ≤ k)) (hw : gH E A0 H0 s (xW E I A L) H locs) (hl : lv_has ls 5 [(4, .int (iI k)), (3, .int (iI r)), (2, .int (iI b)), (0, .ref (eO E 8)), (1, .int (iI v))]) (hnf : (100 - k).toNat < nf), W p l e ({ frames := 3, cells := 0, slots := 0, locals := 66 } : Room) s m args below meth c H locs 0 0 Q (F0 m 7 ls []) := by
    intro nf
    induction nf with
    | zero =>
      intro b r k H locs ls hk hb hb2 hw hl hnf
      exact absurd hnf (Nat.not_lt_zero _)
    | succ nf ih_7 =>
      intro b r k H locs ls hk hb hb2 hw hl hnf
      refine lv_iload F.1 F.2.1 dX8_longestWithoutFall_7 (lv_at hl 0 rfl) ?_
      refine bi_bipush F dX8_longestWithoutFall_9 (by decide) ?_
      refine bi_icmp_ge (tgt := 44) F dX8_longestWithoutFall_11 (by decide) (by omega) (fun c_1 => ?_) (fun c_1 => ?_)
      · refine lv_iload_n F.1 F.2.1 dX8_longestWithoutFall_44 rfl (lv_at hl 2 rfl) ?_
        exact hret _ _ _ _ _ (by rw [show xLng A (I 9) v 100 = (b, r) by rw [hb, show k = 100 by omega]; rfl]) hw dX8_longestWithoutFall_45
      · refine lv_aload_n F.1 F.2.1 dX8_longestWithoutFall_14 rfl (lv_at hl 3 rfl) ?_
        refine lv_iload_n F.1 F.2.1 dX8_longestWithoutFall_15 rfl (lv_at hl 4 rfl) ?_
        refine lv_iload F.1 F.2.1 dX8_longestWithoutFall_16 (lv_at hl 0 rfl) ?_
        refine call_P (As := [.int (iI v), .int (iI k)]) (rest := []) F (x8_isFallBehind l E I A L v k (by omega) (by omega) (by omega) (by omega) hin0 hff) (cwV 2 F.2.2.2.2 gX8_longestWithoutFall_X8_isFallBehind rfl rfl rfl (by decide +kernel) ⟨(Nat.le_of_ble_eq_true rfl), (Nat.le_of_ble_eq_true rfl)⟩) hw (x_recv hw 8 8 rfl rfl) rfl hl.1 rfl (Nat.le_of_ble_eq_true rfl) dX8_longestWithoutFall_18 ⟨Nat.zero_le _, Nat.zero_le _⟩ (fun q_2 H locs hw => ?_) (fun q_2 H locs hw => ?_)
        · refine bi_if_eq (tgt := 28) F dX8_longestWithoutFall_21 (by decide) (by decide) (fun q => absurd q (by decide)) (fun _ => ?_)
          refine bi_iconst F dX8_longestWithoutFall_24 ?_
          refine lv_goto (tgt := 31) F.1 F.2.1 dX8_longestWithoutFall_25 (by decide) ?_
          refine lv_istore_n (lv' := [(3, .int (iI 0)), (4, .int (iI k)), (2, .int (iI b)), (0, .ref (eO E 8)), (1, .int (iI v))]) F.1 F.2.1 dX8_longestWithoutFall_31 rfl hl (by decide) rfl (fun ls hl => ?_)
          refine lv_iload_n F.1 F.2.1 dX8_longestWithoutFall_32 rfl (lv_at hl 2 rfl) ?_
          refine lv_iload_n F.1 F.2.1 dX8_longestWithoutFall_33 rfl (lv_at hl 0 rfl) ?_
          refine bi_max F hl.1 (by decide +kernel) (by decide +kernel) (by decide +kernel) (by decide +kernel) (Nat.le_of_ble_eq_true rfl) (Nat.le_of_ble_eq_true rfl) (Nat.zero_le _) (Nat.zero_le _) (by omega) dX8_longestWithoutFall_34 ?_
          have f_4 := iMx_r b 0
          refine lv_istore_n (lv' := [(2, .int (iI (iMx b 0))), (3, .int (iI 0)), (4, .int (iI k)), (0, .ref (eO E 8)), (1, .int (iI v))]) F.1 F.2.1 dX8_longestWithoutFall_37 rfl hl (by decide) rfl (fun ls hl => ?_)
          refine lv_iinc (v := iI (k + 1)) (lv' := [(4, .int (iI (k + 1))), (2, .int (iI (iMx b 0))), (3, .int (iI 0)), (0, .ref (eO E 8)), (1, .int (iI v))]) F.1 F.2.1 dX8_longestWithoutFall_38 hl (k := 2) rfl (iI_add _ _).symm (by decide) rfl (fun ls hl => ?_)
          refine lv_goto (tgt := 7) F.1 F.2.1 dX8_longestWithoutFall_41 (by decide) ?_
          exact ih_7 (iMx b 0) 0 (k + 1) H locs ls (by omega) (by refine Eq.trans ?_ (fld_s (g := fun (b : Int × Int) k => (iMx b.1 (if A 11 v ≤ xAt (A 9) (I 9) (A 17 0) k 0 then 0 else b.2 + 1), if A 11 v ≤ xAt (A 9) (I 9) (A 17 0) k 0 then 0 else b.2 + 1)) (z := (0, 0)) hk.1).symm; rw [show fld _ _ k.toNat = (b, r) from hb.symm]; first | (rw [if_pos (by assumption)]; done) | (rw [if_neg (by assumption)]; done)) (by omega) hw (lv_sub hl [0, 2, 1, 3, 4] rfl) (by omega)
        · refine bi_if_eq (tgt := 28) F dX8_longestWithoutFall_21 (by decide) (by decide) (fun _ => ?_) (fun q => absurd q (by decide))
          refine lv_iload_n F.1 F.2.1 dX8_longestWithoutFall_28 rfl (lv_at hl 1 rfl) ?_
          refine bi_iconst F dX8_longestWithoutFall_29 ?_
          refine bi_iadd F dX8_longestWithoutFall_30 ?_
          refine lv_istore_n (lv' := [(3, .int (iI (r + 1))), (4, .int (iI k)), (2, .int (iI b)), (0, .ref (eO E 8)), (1, .int (iI v))]) F.1 F.2.1 dX8_longestWithoutFall_31 rfl hl (by decide) rfl (fun ls hl => ?_)
          refine lv_iload_n F.1 F.2.1 dX8_longestWithoutFall_32 rfl (lv_at hl 2 rfl) ?_
          refine lv_iload_n F.1 F.2.1 dX8_longestWithoutFall_33 rfl (lv_at hl 0 rfl) ?_
          refine bi_max F hl.1 (by decide +kernel) (by decide +kernel) (by decide +kernel) (by decide +kernel) (Nat.le_of_ble_eq_true rfl) (Nat.le_of_ble_eq_true rfl) (Nat.zero_le _) (Nat.zero_le _) (by omega) dX8_longestWithoutFall_34 ?_
          have f_6 := iMx_r b (r + 1)
          refine lv_istore_n (lv' := [(2, .int (iI (iMx b (r + 1)))), (3, .int (iI (r + 1))), (4, .int (iI k)), (0, .ref (eO E 8)), (1, .int (iI v))]) F.1 F.2.1 dX8_longestWithoutFall_37 rfl hl (by decide) rfl (fun ls hl => ?_)
          refine lv_iinc (v := iI (k + 1)) (lv' := [(4, .int (iI (k + 1))), (2, .int (iI (iMx b (r + 1)))), (3, .int (iI (r + 1))), (0, .ref (eO E 8)), (1, .int (iI v))]) F.1 F.2.1 dX8_longestWithoutFall_38 hl (k := 2) rfl (iI_add _ _).symm (by decide) rfl (fun ls hl => ?_)
          refine lv_goto (tgt := 7) F.1 F.2.1 dX8_longestWithoutFall_41 (by decide) ?_
          exact ih_7 (iMx b (r + 1)) (r + 1) (k + 1) H locs ls (by omega) (by refine Eq.trans ?_ (fld_s (g := fun (b : Int × Int) k => (iMx b.1 (if A 11 v ≤ xAt (A 9) (I 9) (A 17 0) k 0 then 0 else b.2 + 1), if A 11 v ≤ xAt (A 9) (I 9) (A 17 0) k 0 then 0 else b.2 + 1)) (z := (0, 0)) hk.1).symm; rw [show fld _ _ k.toNat = (b, r) from hb.symm]; first | (rw [if_pos (by assumption)]; done) | (rw [if_neg (by assumption)]; done)) (by omega) hw (lv_sub hl [0, 2, 1, 3, 4] rfl) (by omega)
  exact loop_7 ((100 - 0 : Int).toNat + 1) 0 0 0 H locs ls (by omega) (rfl) (by omega) hw (lv_sub hl [0, 1, 2, 3, 4] rfl) (by omega)
