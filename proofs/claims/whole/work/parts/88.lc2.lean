section LC
variable {p : Program} {l : Launch} {e : Env} {s : State} {m : MethodId} {below : List Frame} {meth : Method} {c : Code} {H : Heap} {locs : List Loc} {Q : State → Prop}
variable {ls : Array Slot} {sb L : Nat} {xs : Nat → Int32} {E : Ev} {o1 a1 o2 a2 : Nat → Nat} {b i : Int} {I J : Nat → Int} {A B : Nat → Int → Int} {LL : Nat → Int64}
set_option maxRecDepth 100000 in
set_option maxHeartbeats 4000000 in
theorem lc_pay (C : lw_C p s m c sb L xs) (hl : lv_has ls 4 [(0, .ref sb), (1, .ref (o1 0)), (2, .ref (o2 0)), (3, .int (iI i))]) (hi : 0 ≤ i ∧ i + 4 ≤ (L : Int)) (hb : 0 ≤ b ∧ b ≤ 60000) (S : lw_S E o1 a1 o2 a2 b s H locs I J A B LL)
    (K : ∀ (H : Heap) (locs : List Loc) (I J : Nat → Int) (A B : Nat → Int → Int) (LL : Nat → Int64), lw_S E o1 a1 o2 a2 (b + 100) s H locs I J A B LL → W p l e room_1 s m #[Value.ref sb] below meth c H locs 64 5675 Q (F0 m 1019 ls [])) : W p l e room_1 s m #[Value.ref sb] below meth c H locs 64 5675 Q (F0 m 463 ls []) := by
  obtain ⟨F, hX, hbl, hL⟩ := C
  obtain ⟨hw, hr⟩ := S
  obtain ⟨ox, om, orr⟩ := Rel_ok hb.2 hr
  obtain ⟨hJ0, hJ2, hJ4, hJ5, h11, h12, h13, hs, hs2, hbk, hbk2, hz, hlk, hl0, hJ6, hJ7⟩ := Rel_m hr
  have hk := k_pay hr hb.1 (sI xs (i + 1))
  refine lv_aload_n F.1 F.2.1 dL_law_463 rfl (lv_at hl 1 rfl) ?_
  refine l_ld (j := 1) F hX hbl hL hw.2.2.1 (lv_at hl 0 rfl) (lv_at hl 3 rfl) (by omega) dL_law_464 dL_law_465 dL_law_466 dL_law_467 dL_law_468 ?_
  refine call_I2 (E := eV E o1 a1) (b := o1 0) (As := [.int (iI (sI xs (i + 1)))]) (rest := []) (wr := mW (eV E o2 a2) J B) F (x9_pay l (eV E o1 a1) I A LL (sI xs (i + 1)) (sI_r xs (i + 1)) ox) (cwV 1 F.2.2.2.2 gL_law_X9_pay rfl rfl rfl (by decide +kernel) ⟨(Nat.le_of_ble_eq_true rfl), (Nat.le_of_ble_eq_true rfl)⟩) hw (x_recv (gH_left hw) 0 9 rfl rfl) rfl hl.1 rfl (Nat.le_of_ble_eq_true rfl) dL_law_469 ⟨Nat.le_refl _, Nat.le_refl _⟩ (fun z u H locs hz1 hw => ?_)
  obtain rfl := hz1
  have hw := gH_e (o' := o2) (a' := a2) (gH_swap hw)
  refine lv_aload_n F.1 F.2.1 dL_law_472 rfl (lv_at hl 2 rfl) ?_
  refine l_ld (j := 1) F hX hbl hL hw.2.2.1 (lv_at hl 0 rfl) (lv_at hl 3 rfl) (by omega) dL_law_473 dL_law_474 dL_law_475 dL_law_476 dL_law_477 ?_
  refine call_I2 (E := eV E o2 a2) (b := o2 0) (As := [.int (iI (sI xs (i + 1)))]) (rest := [.int (iI _)]) F (c_pay l (eV E o2 a2) J B (sI xs (i + 1)) (sI_r xs (i + 1)) hJ2 om orr) (cwV 1 F.2.2.2.2 gL_law_X10_pay rfl rfl rfl (by decide +kernel) ⟨(Nat.le_of_ble_eq_true rfl), (Nat.le_of_ble_eq_true rfl)⟩) hw (m_recv (gH_left hw)) rfl hl.1 rfl (Nat.le_of_ble_eq_true rfl) dL_law_478 ⟨Nat.le_refl _, Nat.le_refl _⟩ (fun z2 u2 H locs hz2 hw => ?_)
  obtain rfl := hz2
  have hw := gH_e (o' := o1) (a' := a1) (gH_swap hw)
  exact lv_icmp_eq (tgt := 1019) F.1 F.2.1 dL_law_481 (by decide) (fun _ => K _ _ _ _ _ _ _ ⟨hw, Rel_w (by omega) hk.2⟩) (fun h => absurd (by rw [hk.1]) h)
set_option maxRecDepth 100000 in
set_option maxHeartbeats 4000000 in
theorem lc_lend (C : lw_C p s m c sb L xs) (hl : lv_has ls 4 [(0, .ref sb), (1, .ref (o1 0)), (2, .ref (o2 0)), (3, .int (iI i))]) (hi : 0 ≤ i ∧ i + 4 ≤ (L : Int)) (hb : 0 ≤ b ∧ b ≤ 60000) (S : lw_S E o1 a1 o2 a2 b s H locs I J A B LL)
    (K : ∀ (H : Heap) (locs : List Loc) (I J : Nat → Int) (A B : Nat → Int → Int) (LL : Nat → Int64), lw_S E o1 a1 o2 a2 (b + 100) s H locs I J A B LL → W p l e room_1 s m #[Value.ref sb] below meth c H locs 64 5675 Q (F0 m 1019 ls [])) : W p l e room_1 s m #[Value.ref sb] below meth c H locs 64 5675 Q (F0 m 486 ls []) := by
  obtain ⟨F, hX, hbl, hL⟩ := C
  obtain ⟨hw, hr⟩ := S
  obtain ⟨ox, om, orr⟩ := Rel_ok hb.2 hr
  obtain ⟨hJ0, hJ2, hJ4, hJ5, h11, h12, h13, hs, hs2, hbk, hbk2, hz, hlk, hl0, hJ6, hJ7⟩ := Rel_m hr
  have hk := k_lend hr hb.1 (sI xs (i + 1)) (sI xs (i + 2))
  refine lv_aload_n F.1 F.2.1 dL_law_486 rfl (lv_at hl 1 rfl) ?_
  refine l_ld (j := 1) F hX hbl hL hw.2.2.1 (lv_at hl 0 rfl) (lv_at hl 3 rfl) (by omega) dL_law_487 dL_law_488 dL_law_489 dL_law_490 dL_law_491 ?_
  refine l_ld (j := 2) F hX hbl hL hw.2.2.1 (lv_at hl 0 rfl) (lv_at hl 3 rfl) (by omega) dL_law_492 dL_law_493 dL_law_494 dL_law_495 dL_law_496 ?_
  refine call_I2 (E := eV E o1 a1) (b := o1 0) (As := [.int (iI (sI xs (i + 1))), .int (iI (sI xs (i + 2)))]) (rest := []) (wr := mW (eV E o2 a2) J B) F (x9_lend l (eV E o1 a1) I A LL (sI xs (i + 1)) (sI xs (i + 2)) (sI_r xs (i + 1)) (sI_r xs (i + 2)) ox) (cwV 2 F.2.2.2.2 gL_law_X9_lend rfl rfl rfl (by decide +kernel) ⟨(Nat.le_of_ble_eq_true rfl), (Nat.le_of_ble_eq_true rfl)⟩) hw (x_recv (gH_left hw) 0 9 rfl rfl) rfl hl.1 rfl (Nat.le_of_ble_eq_true rfl) dL_law_497 ⟨Nat.le_refl _, Nat.le_refl _⟩ (fun z u H locs hz1 hw => ?_)
  obtain rfl := hz1
  have hw := gH_e (o' := o2) (a' := a2) (gH_swap hw)
  refine lv_aload_n F.1 F.2.1 dL_law_500 rfl (lv_at hl 2 rfl) ?_
  refine l_ld (j := 1) F hX hbl hL hw.2.2.1 (lv_at hl 0 rfl) (lv_at hl 3 rfl) (by omega) dL_law_501 dL_law_502 dL_law_503 dL_law_504 dL_law_505 ?_
  refine l_ld (j := 2) F hX hbl hL hw.2.2.1 (lv_at hl 0 rfl) (lv_at hl 3 rfl) (by omega) dL_law_506 dL_law_507 dL_law_508 dL_law_509 dL_law_510 ?_
  refine call_I2 (E := eV E o2 a2) (b := o2 0) (As := [.int (iI (sI xs (i + 1))), .int (iI (sI xs (i + 2)))]) (rest := [.int (iI _)]) F (c_lend l (eV E o2 a2) J B (sI xs (i + 1)) (sI xs (i + 2)) (sI_r xs (i + 1)) (sI_r xs (i + 2)) hJ2 om orr) (cwV 2 F.2.2.2.2 gL_law_X10_lend rfl rfl rfl (by decide +kernel) ⟨(Nat.le_of_ble_eq_true rfl), (Nat.le_of_ble_eq_true rfl)⟩) hw (m_recv (gH_left hw)) rfl hl.1 rfl (Nat.le_of_ble_eq_true rfl) dL_law_511 ⟨Nat.le_refl _, Nat.le_refl _⟩ (fun z2 u2 H locs hz2 hw => ?_)
  obtain rfl := hz2
  have hw := gH_e (o' := o1) (a' := a1) (gH_swap hw)
  exact lv_icmp_eq (tgt := 1019) F.1 F.2.1 dL_law_514 (by decide) (fun _ => K _ _ _ _ _ _ _ ⟨hw, Rel_w (by omega) hk.2⟩) (fun h => absurd (by rw [hk.1]) h)
set_option maxRecDepth 100000 in
set_option maxHeartbeats 4000000 in
theorem lc_drift (C : lw_C p s m c sb L xs) (hl : lv_has ls 4 [(0, .ref sb), (1, .ref (o1 0)), (2, .ref (o2 0)), (3, .int (iI i))]) (hi : 0 ≤ i ∧ i + 4 ≤ (L : Int)) (hb : 0 ≤ b ∧ b ≤ 60000) (S : lw_S E o1 a1 o2 a2 b s H locs I J A B LL)
    (K : ∀ (H : Heap) (locs : List Loc) (I J : Nat → Int) (A B : Nat → Int → Int) (LL : Nat → Int64), lw_S E o1 a1 o2 a2 (b + 100) s H locs I J A B LL → W p l e room_1 s m #[Value.ref sb] below meth c H locs 64 5675 Q (F0 m 1019 ls [])) : W p l e room_1 s m #[Value.ref sb] below meth c H locs 64 5675 Q (F0 m 519 ls []) := by
  obtain ⟨F, hX, hbl, hL⟩ := C
  obtain ⟨hw, hr⟩ := S
  obtain ⟨ox, om, orr⟩ := Rel_ok hb.2 hr
  obtain ⟨hJ0, hJ2, hJ4, hJ5, h11, h12, h13, hs, hs2, hbk, hbk2, hz, hlk, hl0, hJ6, hJ7⟩ := Rel_m hr
  have hk := k_drift hr hb (sI xs (i + 1))
  refine lv_aload_n F.1 F.2.1 dL_law_519 rfl (lv_at hl 1 rfl) ?_
  refine l_ld (j := 1) F hX hbl hL hw.2.2.1 (lv_at hl 0 rfl) (lv_at hl 3 rfl) (by omega) dL_law_520 dL_law_521 dL_law_522 dL_law_523 dL_law_524 ?_
  refine call_I2 (E := eV E o1 a1) (b := o1 0) (As := [.int (iI (sI xs (i + 1)))]) (rest := []) (wr := mW (eV E o2 a2) J B) F (x9_drift l (eV E o1 a1) I A LL (sI xs (i + 1)) (sI_r xs (i + 1)) ox) (cwV 1 F.2.2.2.2 gL_law_X9_drift rfl rfl rfl (by decide +kernel) ⟨(Nat.le_of_ble_eq_true rfl), (Nat.le_of_ble_eq_true rfl)⟩) hw (x_recv (gH_left hw) 0 9 rfl rfl) rfl hl.1 rfl (Nat.le_of_ble_eq_true rfl) dL_law_525 ⟨Nat.le_refl _, Nat.le_refl _⟩ (fun z u H locs hz1 hw => ?_)
  obtain rfl := hz1
  have hw := gH_e (o' := o2) (a' := a2) (gH_swap hw)
  refine lv_aload_n F.1 F.2.1 dL_law_528 rfl (lv_at hl 2 rfl) ?_
  refine l_ld (j := 1) F hX hbl hL hw.2.2.1 (lv_at hl 0 rfl) (lv_at hl 3 rfl) (by omega) dL_law_529 dL_law_530 dL_law_531 dL_law_532 dL_law_533 ?_
  refine call_I2 (E := eV E o2 a2) (b := o2 0) (As := [.int (iI (sI xs (i + 1)))]) (rest := [.int (iI _)]) F (c_drift l (eV E o2 a2) J B (sI xs (i + 1)) (sI_r xs (i + 1)) hJ2 om orr) (cwV 1 F.2.2.2.2 gL_law_X10_drift rfl rfl rfl (by decide +kernel) ⟨(Nat.le_of_ble_eq_true rfl), (Nat.le_of_ble_eq_true rfl)⟩) hw (m_recv (gH_left hw)) rfl hl.1 rfl (Nat.le_of_ble_eq_true rfl) dL_law_534 ⟨Nat.le_refl _, Nat.le_refl _⟩ (fun z2 u2 H locs hz2 hw => ?_)
  obtain rfl := hz2
  have hw := gH_e (o' := o1) (a' := a1) (gH_swap hw)
  exact lv_icmp_eq (tgt := 1019) F.1 F.2.1 dL_law_537 (by decide) (fun _ => K _ _ _ _ _ _ _ ⟨hw, Rel_w (by omega) hk.2⟩) (fun h => absurd (by rw [hk.1]) h)
set_option maxRecDepth 100000 in
set_option maxHeartbeats 4000000 in
theorem lc_undo (C : lw_C p s m c sb L xs) (hl : lv_has ls 4 [(0, .ref sb), (1, .ref (o1 0)), (2, .ref (o2 0)), (3, .int (iI i))]) (hi : 0 ≤ i ∧ i + 4 ≤ (L : Int)) (hb : 0 ≤ b ∧ b ≤ 60000) (S : lw_S E o1 a1 o2 a2 b s H locs I J A B LL)
    (K : ∀ (H : Heap) (locs : List Loc) (I J : Nat → Int) (A B : Nat → Int → Int) (LL : Nat → Int64), lw_S E o1 a1 o2 a2 (b + 100) s H locs I J A B LL → W p l e room_1 s m #[Value.ref sb] below meth c H locs 64 5675 Q (F0 m 1019 ls [])) : W p l e room_1 s m #[Value.ref sb] below meth c H locs 64 5675 Q (F0 m 542 ls []) := by
  obtain ⟨F, hX, hbl, hL⟩ := C
  obtain ⟨hw, hr⟩ := S
  obtain ⟨ox, om, orr⟩ := Rel_ok hb.2 hr
  obtain ⟨hJ0, hJ2, hJ4, hJ5, h11, h12, h13, hs, hs2, hbk, hbk2, hz, hlk, hl0, hJ6, hJ7⟩ := Rel_m hr
  have hk := k_undo hr 
  refine lv_aload_n F.1 F.2.1 dL_law_542 rfl (lv_at hl 1 rfl) ?_
  refine call_I2 (E := eV E o1 a1) (b := o1 0) (As := []) (rest := []) (wr := mW (eV E o2 a2) J B) F (x9_undo l (eV E o1 a1) I A LL   ox) (cwV 0 F.2.2.2.2 gL_law_X9_undo rfl rfl rfl (by decide +kernel) ⟨(Nat.le_of_ble_eq_true rfl), (Nat.le_of_ble_eq_true rfl)⟩) hw (x_recv (gH_left hw) 0 9 rfl rfl) rfl hl.1 rfl (Nat.le_of_ble_eq_true rfl) dL_law_543 ⟨Nat.le_refl _, Nat.le_refl _⟩ (fun z u H locs hz1 hw => ?_)
  obtain rfl := hz1
  have hw := gH_e (o' := o2) (a' := a2) (gH_swap hw)
  refine lv_aload_n F.1 F.2.1 dL_law_546 rfl (lv_at hl 2 rfl) ?_
  refine call_I2 (E := eV E o2 a2) (b := o2 0) (As := []) (rest := [.int (iI _)]) F (c_undo l (eV E o2 a2) J B  hJ2) (cwV 0 F.2.2.2.2 gL_law_X10_undo rfl rfl rfl (by decide +kernel) ⟨(Nat.le_of_ble_eq_true rfl), (Nat.le_of_ble_eq_true rfl)⟩) hw (m_recv (gH_left hw)) rfl hl.1 rfl (Nat.le_of_ble_eq_true rfl) dL_law_547 ⟨Nat.le_refl _, Nat.le_refl _⟩ (fun z2 u2 H locs hz2 hw => ?_)
  obtain rfl := hz2
  have hw := gH_e (o' := o1) (a' := a1) (gH_swap hw)
  exact lv_icmp_eq (tgt := 1019) F.1 F.2.1 dL_law_550 (by decide) (fun _ => K _ _ _ _ _ _ _ ⟨hw, Rel_w (by omega) hk.2⟩) (fun h => absurd (by rw [hk.1]) h)
set_option maxRecDepth 100000 in
set_option maxHeartbeats 4000000 in
theorem lc_due (C : lw_C p s m c sb L xs) (hl : lv_has ls 4 [(0, .ref sb), (1, .ref (o1 0)), (2, .ref (o2 0)), (3, .int (iI i))]) (hi : 0 ≤ i ∧ i + 4 ≤ (L : Int)) (hb : 0 ≤ b ∧ b ≤ 60000) (S : lw_S E o1 a1 o2 a2 b s H locs I J A B LL)
    (K : ∀ (H : Heap) (locs : List Loc) (I J : Nat → Int) (A B : Nat → Int → Int) (LL : Nat → Int64), lw_S E o1 a1 o2 a2 (b + 100) s H locs I J A B LL → W p l e room_1 s m #[Value.ref sb] below meth c H locs 64 5675 Q (F0 m 1019 ls [])) : W p l e room_1 s m #[Value.ref sb] below meth c H locs 64 5675 Q (F0 m 555 ls []) := by
  obtain ⟨F, hX, hbl, hL⟩ := C
  obtain ⟨hw, hr⟩ := S
  obtain ⟨ox, om, orr⟩ := Rel_ok hb.2 hr
  obtain ⟨hJ0, hJ2, hJ4, hJ5, h11, h12, h13, hs, hs2, hbk, hbk2, hz, hlk, hl0, hJ6, hJ7⟩ := Rel_m hr
  have hk := k_due hr hb.2 (sI xs (i + 1))
  refine lv_aload_n F.1 F.2.1 dL_law_555 rfl (lv_at hl 1 rfl) ?_
  refine l_ld (j := 1) F hX hbl hL hw.2.2.1 (lv_at hl 0 rfl) (lv_at hl 3 rfl) (by omega) dL_law_556 dL_law_557 dL_law_558 dL_law_559 dL_law_560 ?_
  refine call_I2 (E := eV E o1 a1) (b := o1 0) (As := [.int (iI (sI xs (i + 1)))]) (rest := []) (wr := mW (eV E o2 a2) J B) F (x9_due l (eV E o1 a1) I A LL (sI xs (i + 1)) (sI_r xs (i + 1)) ox) (cwV 1 F.2.2.2.2 gL_law_X9_due rfl rfl rfl (by decide +kernel) ⟨(Nat.le_of_ble_eq_true rfl), (Nat.le_of_ble_eq_true rfl)⟩) hw (x_recv (gH_left hw) 0 9 rfl rfl) rfl hl.1 rfl (Nat.le_of_ble_eq_true rfl) dL_law_561 ⟨Nat.le_refl _, Nat.le_refl _⟩ (fun z u H locs hz1 hw => ?_)
  obtain rfl := hz1
  have hw := gH_e (o' := o2) (a' := a2) (gH_swap hw)
  refine lv_aload_n F.1 F.2.1 dL_law_564 rfl (lv_at hl 2 rfl) ?_
  refine l_ld (j := 1) F hX hbl hL hw.2.2.1 (lv_at hl 0 rfl) (lv_at hl 3 rfl) (by omega) dL_law_565 dL_law_566 dL_law_567 dL_law_568 dL_law_569 ?_
  refine call_I2 (E := eV E o2 a2) (b := o2 0) (As := [.int (iI (sI xs (i + 1)))]) (rest := [.int (iI _)]) F (c_due l (eV E o2 a2) J B (sI xs (i + 1)) (sI_r xs (i + 1)) h13 om orr) (cwV 1 F.2.2.2.2 gL_law_X10_due rfl rfl rfl (by decide +kernel) ⟨(Nat.le_of_ble_eq_true rfl), (Nat.le_of_ble_eq_true rfl)⟩) hw (m_recv (gH_left hw)) rfl hl.1 rfl (Nat.le_of_ble_eq_true rfl) dL_law_570 ⟨Nat.le_refl _, Nat.le_refl _⟩ (fun z2 u2 H locs hz2 hw => ?_)
  obtain ⟨rfl, hs9⟩ := hz2
  have hw := gH_e (o' := o1) (a' := a1) (gH_swap hw)
  exact lv_icmp_eq (tgt := 1019) F.1 F.2.1 dL_law_573 (by decide) (fun _ => K _ _ _ _ _ _ _ ⟨hw, Rel_w (by omega) (Rel_same xSame_rf hs9 hr)⟩) (fun h => absurd (by rw [hk]) h)
set_option maxRecDepth 100000 in
set_option maxHeartbeats 4000000 in
theorem lc_old (C : lw_C p s m c sb L xs) (hl : lv_has ls 4 [(0, .ref sb), (1, .ref (o1 0)), (2, .ref (o2 0)), (3, .int (iI i))]) (hi : 0 ≤ i ∧ i + 4 ≤ (L : Int)) (hb : 0 ≤ b ∧ b ≤ 60000) (S : lw_S E o1 a1 o2 a2 b s H locs I J A B LL)
    (K : ∀ (H : Heap) (locs : List Loc) (I J : Nat → Int) (A B : Nat → Int → Int) (LL : Nat → Int64), lw_S E o1 a1 o2 a2 (b + 100) s H locs I J A B LL → W p l e room_1 s m #[Value.ref sb] below meth c H locs 64 5675 Q (F0 m 1019 ls [])) : W p l e room_1 s m #[Value.ref sb] below meth c H locs 64 5675 Q (F0 m 578 ls []) := by
  obtain ⟨F, hX, hbl, hL⟩ := C
  obtain ⟨hw, hr⟩ := S
  obtain ⟨ox, om, orr⟩ := Rel_ok hb.2 hr
  obtain ⟨hJ0, hJ2, hJ4, hJ5, h11, h12, h13, hs, hs2, hbk, hbk2, hz, hlk, hl0, hJ6, hJ7⟩ := Rel_m hr
  have hk := k_old hr hb.2 (sI xs (i + 1)) (sI xs (i + 2))
  refine lv_aload_n F.1 F.2.1 dL_law_578 rfl (lv_at hl 1 rfl) ?_
  refine l_ld (j := 1) F hX hbl hL hw.2.2.1 (lv_at hl 0 rfl) (lv_at hl 3 rfl) (by omega) dL_law_579 dL_law_580 dL_law_581 dL_law_582 dL_law_583 ?_
  refine l_ld (j := 2) F hX hbl hL hw.2.2.1 (lv_at hl 0 rfl) (lv_at hl 3 rfl) (by omega) dL_law_584 dL_law_585 dL_law_586 dL_law_587 dL_law_588 ?_
  refine call_I2 (E := eV E o1 a1) (b := o1 0) (As := [.int (iI (sI xs (i + 1))), .int (iI (sI xs (i + 2)))]) (rest := []) (wr := mW (eV E o2 a2) J B) F (x9_old l (eV E o1 a1) I A LL (sI xs (i + 1)) (sI xs (i + 2)) (sI_r xs (i + 1)) (sI_r xs (i + 2)) ox) (cwV 2 F.2.2.2.2 gL_law_X9_old rfl rfl rfl (by decide +kernel) ⟨(Nat.le_of_ble_eq_true rfl), (Nat.le_of_ble_eq_true rfl)⟩) hw (x_recv (gH_left hw) 0 9 rfl rfl) rfl hl.1 rfl (Nat.le_of_ble_eq_true rfl) dL_law_589 ⟨Nat.le_refl _, Nat.le_refl _⟩ (fun z u H locs hz1 hw => ?_)
  obtain rfl := hz1
  have hw := gH_e (o' := o2) (a' := a2) (gH_swap hw)
  refine lv_aload_n F.1 F.2.1 dL_law_592 rfl (lv_at hl 2 rfl) ?_
  refine l_ld (j := 1) F hX hbl hL hw.2.2.1 (lv_at hl 0 rfl) (lv_at hl 3 rfl) (by omega) dL_law_593 dL_law_594 dL_law_595 dL_law_596 dL_law_597 ?_
  refine l_ld (j := 2) F hX hbl hL hw.2.2.1 (lv_at hl 0 rfl) (lv_at hl 3 rfl) (by omega) dL_law_598 dL_law_599 dL_law_600 dL_law_601 dL_law_602 ?_
  refine call_I2 (E := eV E o2 a2) (b := o2 0) (As := [.int (iI (sI xs (i + 1))), .int (iI (sI xs (i + 2)))]) (rest := [.int (iI _)]) F (c_old l (eV E o2 a2) J B (sI xs (i + 1)) (sI xs (i + 2)) (sI_r xs (i + 1)) (sI_r xs (i + 2)) h12 om orr) (cwV 2 F.2.2.2.2 gL_law_X10_old rfl rfl rfl (by decide +kernel) ⟨(Nat.le_of_ble_eq_true rfl), (Nat.le_of_ble_eq_true rfl)⟩) hw (m_recv (gH_left hw)) rfl hl.1 rfl (Nat.le_of_ble_eq_true rfl) dL_law_603 ⟨Nat.le_refl _, Nat.le_refl _⟩ (fun z2 u2 H locs hz2 hw => ?_)
  obtain ⟨rfl, hs9⟩ := hz2
  have hw := gH_e (o' := o1) (a' := a1) (gH_swap hw)
  exact lv_icmp_eq (tgt := 1019) F.1 F.2.1 dL_law_606 (by decide) (fun _ => K _ _ _ _ _ _ _ ⟨hw, Rel_w (by omega) (Rel_same xSame_rf hs9 hr)⟩) (fun h => absurd (by rw [hk]) h)
set_option maxRecDepth 100000 in
set_option maxHeartbeats 4000000 in
theorem lc_feast (C : lw_C p s m c sb L xs) (hl : lv_has ls 4 [(0, .ref sb), (1, .ref (o1 0)), (2, .ref (o2 0)), (3, .int (iI i))]) (hi : 0 ≤ i ∧ i + 4 ≤ (L : Int)) (hb : 0 ≤ b ∧ b ≤ 60000) (S : lw_S E o1 a1 o2 a2 b s H locs I J A B LL)
    (K : ∀ (H : Heap) (locs : List Loc) (I J : Nat → Int) (A B : Nat → Int → Int) (LL : Nat → Int64), lw_S E o1 a1 o2 a2 (b + 100) s H locs I J A B LL → W p l e room_1 s m #[Value.ref sb] below meth c H locs 64 5675 Q (F0 m 1019 ls [])) : W p l e room_1 s m #[Value.ref sb] below meth c H locs 64 5675 Q (F0 m 611 ls []) := by
  obtain ⟨F, hX, hbl, hL⟩ := C
  obtain ⟨hw, hr⟩ := S
  obtain ⟨ox, om, orr⟩ := Rel_ok hb.2 hr
  obtain ⟨hJ0, hJ2, hJ4, hJ5, h11, h12, h13, hs, hs2, hbk, hbk2, hz, hlk, hl0, hJ6, hJ7⟩ := Rel_m hr
  have hk := k_feast hr hb.2 (sI xs (i + 1)) (sI xs (i + 2))
  refine lv_aload_n F.1 F.2.1 dL_law_611 rfl (lv_at hl 1 rfl) ?_
  refine l_ld (j := 1) F hX hbl hL hw.2.2.1 (lv_at hl 0 rfl) (lv_at hl 3 rfl) (by omega) dL_law_612 dL_law_613 dL_law_614 dL_law_615 dL_law_616 ?_
  refine l_ld (j := 2) F hX hbl hL hw.2.2.1 (lv_at hl 0 rfl) (lv_at hl 3 rfl) (by omega) dL_law_617 dL_law_618 dL_law_619 dL_law_620 dL_law_621 ?_
  refine call_I2 (E := eV E o1 a1) (b := o1 0) (As := [.int (iI (sI xs (i + 1))), .int (iI (sI xs (i + 2)))]) (rest := []) (wr := mW (eV E o2 a2) J B) F (x9_feast l (eV E o1 a1) I A LL (sI xs (i + 1)) (sI xs (i + 2)) (sI_r xs (i + 1)) (sI_r xs (i + 2)) ox) (cwV 2 F.2.2.2.2 gL_law_X9_feast rfl rfl rfl (by decide +kernel) ⟨(Nat.le_of_ble_eq_true rfl), (Nat.le_of_ble_eq_true rfl)⟩) hw (x_recv (gH_left hw) 0 9 rfl rfl) rfl hl.1 rfl (Nat.le_of_ble_eq_true rfl) dL_law_622 ⟨Nat.le_refl _, Nat.le_refl _⟩ (fun z u H locs hz1 hw => ?_)
  obtain rfl := hz1
  have hw := gH_e (o' := o2) (a' := a2) (gH_swap hw)
  refine lv_aload_n F.1 F.2.1 dL_law_625 rfl (lv_at hl 2 rfl) ?_
  refine l_ld (j := 1) F hX hbl hL hw.2.2.1 (lv_at hl 0 rfl) (lv_at hl 3 rfl) (by omega) dL_law_626 dL_law_627 dL_law_628 dL_law_629 dL_law_630 ?_
  refine l_ld (j := 2) F hX hbl hL hw.2.2.1 (lv_at hl 0 rfl) (lv_at hl 3 rfl) (by omega) dL_law_631 dL_law_632 dL_law_633 dL_law_634 dL_law_635 ?_
  refine call_I2 (E := eV E o2 a2) (b := o2 0) (As := [.int (iI (sI xs (i + 1))), .int (iI (sI xs (i + 2)))]) (rest := [.int (iI _)]) F (c_feast l (eV E o2 a2) J B (sI xs (i + 1)) (sI xs (i + 2)) (sI_r xs (i + 1)) (sI_r xs (i + 2)) h11 om orr) (cwV 2 F.2.2.2.2 gL_law_X10_feast rfl rfl rfl (by decide +kernel) ⟨(Nat.le_of_ble_eq_true rfl), (Nat.le_of_ble_eq_true rfl)⟩) hw (m_recv (gH_left hw)) rfl hl.1 rfl (Nat.le_of_ble_eq_true rfl) dL_law_636 ⟨Nat.le_refl _, Nat.le_refl _⟩ (fun z2 u2 H locs hz2 hw => ?_)
  obtain ⟨rfl, hs9⟩ := hz2
  have hw := gH_e (o' := o1) (a' := a1) (gH_swap hw)
  exact lv_icmp_eq (tgt := 1019) F.1 F.2.1 dL_law_639 (by decide) (fun _ => K _ _ _ _ _ _ _ ⟨hw, Rel_w (by omega) (Rel_same xSame_rf hs9 hr)⟩) (fun h => absurd (by rw [hk]) h)
set_option maxRecDepth 100000 in
set_option maxHeartbeats 4000000 in
theorem lc_mild (C : lw_C p s m c sb L xs) (hl : lv_has ls 4 [(0, .ref sb), (1, .ref (o1 0)), (2, .ref (o2 0)), (3, .int (iI i))]) (hi : 0 ≤ i ∧ i + 4 ≤ (L : Int)) (hb : 0 ≤ b ∧ b ≤ 60000) (S : lw_S E o1 a1 o2 a2 b s H locs I J A B LL)
    (K : ∀ (H : Heap) (locs : List Loc) (I J : Nat → Int) (A B : Nat → Int → Int) (LL : Nat → Int64), lw_S E o1 a1 o2 a2 (b + 100) s H locs I J A B LL → W p l e room_1 s m #[Value.ref sb] below meth c H locs 64 5675 Q (F0 m 1019 ls [])) : W p l e room_1 s m #[Value.ref sb] below meth c H locs 64 5675 Q (F0 m 644 ls []) := by
  obtain ⟨F, hX, hbl, hL⟩ := C
  obtain ⟨hw, hr⟩ := S
  obtain ⟨ox, om, orr⟩ := Rel_ok hb.2 hr
  obtain ⟨hJ0, hJ2, hJ4, hJ5, h11, h12, h13, hs, hs2, hbk, hbk2, hz, hlk, hl0, hJ6, hJ7⟩ := Rel_m hr
  have hk := k_mild hr hb.2 (sI xs (i + 1)) (sI xs (i + 2)) (sI xs (i + 3))
  refine lv_aload_n F.1 F.2.1 dL_law_644 rfl (lv_at hl 1 rfl) ?_
  refine l_ld (j := 1) F hX hbl hL hw.2.2.1 (lv_at hl 0 rfl) (lv_at hl 3 rfl) (by omega) dL_law_645 dL_law_646 dL_law_647 dL_law_648 dL_law_649 ?_
  refine l_ld (j := 2) F hX hbl hL hw.2.2.1 (lv_at hl 0 rfl) (lv_at hl 3 rfl) (by omega) dL_law_650 dL_law_651 dL_law_652 dL_law_653 dL_law_654 ?_
  refine l_ld (j := 3) F hX hbl hL hw.2.2.1 (lv_at hl 0 rfl) (lv_at hl 3 rfl) (by omega) dL_law_655 dL_law_656 dL_law_657 dL_law_658 dL_law_659 ?_
  refine call_I2 (E := eV E o1 a1) (b := o1 0) (As := [.int (iI (sI xs (i + 1))), .int (iI (sI xs (i + 2))), .int (iI (sI xs (i + 3)))]) (rest := []) (wr := mW (eV E o2 a2) J B) F (x9_mild l (eV E o1 a1) I A LL (sI xs (i + 1)) (sI xs (i + 2)) (sI xs (i + 3)) (sI_r xs (i + 1)) (sI_r xs (i + 2)) (sI_r xs (i + 3)) ox) (cwV 3 F.2.2.2.2 gL_law_X9_mild rfl rfl rfl (by decide +kernel) ⟨(Nat.le_of_ble_eq_true rfl), (Nat.le_of_ble_eq_true rfl)⟩) hw (x_recv (gH_left hw) 0 9 rfl rfl) rfl hl.1 rfl (Nat.le_of_ble_eq_true rfl) dL_law_660 ⟨Nat.le_refl _, Nat.le_refl _⟩ (fun z u H locs hz1 hw => ?_)
  obtain rfl := hz1
  have hw := gH_e (o' := o2) (a' := a2) (gH_swap hw)
  refine lv_aload_n F.1 F.2.1 dL_law_663 rfl (lv_at hl 2 rfl) ?_
  refine l_ld (j := 1) F hX hbl hL hw.2.2.1 (lv_at hl 0 rfl) (lv_at hl 3 rfl) (by omega) dL_law_664 dL_law_665 dL_law_666 dL_law_667 dL_law_668 ?_
  refine l_ld (j := 2) F hX hbl hL hw.2.2.1 (lv_at hl 0 rfl) (lv_at hl 3 rfl) (by omega) dL_law_669 dL_law_670 dL_law_671 dL_law_672 dL_law_673 ?_
  refine l_ld (j := 3) F hX hbl hL hw.2.2.1 (lv_at hl 0 rfl) (lv_at hl 3 rfl) (by omega) dL_law_674 dL_law_675 dL_law_676 dL_law_677 dL_law_678 ?_
  refine call_I2 (E := eV E o2 a2) (b := o2 0) (As := [.int (iI (sI xs (i + 1))), .int (iI (sI xs (i + 2))), .int (iI (sI xs (i + 3)))]) (rest := [.int (iI _)]) F (c_mild l (eV E o2 a2) J B (sI xs (i + 1)) (sI xs (i + 2)) (sI xs (i + 3)) (sI_r xs (i + 1)) (sI_r xs (i + 2)) (sI_r xs (i + 3)) h12 om orr) (cwV 3 F.2.2.2.2 gL_law_X10_mild rfl rfl rfl (by decide +kernel) ⟨(Nat.le_of_ble_eq_true rfl), (Nat.le_of_ble_eq_true rfl)⟩) hw (m_recv (gH_left hw)) rfl hl.1 rfl (Nat.le_of_ble_eq_true rfl) dL_law_679 ⟨Nat.le_refl _, Nat.le_refl _⟩ (fun z2 u2 H locs hz2 hw => ?_)
  obtain ⟨rfl, hs9⟩ := hz2
  have hw := gH_e (o' := o1) (a' := a1) (gH_swap hw)
  exact lv_icmp_eq (tgt := 1019) F.1 F.2.1 dL_law_682 (by decide) (fun _ => K _ _ _ _ _ _ _ ⟨hw, Rel_w (by omega) (Rel_same xSame_rf hs9 hr)⟩) (fun h => absurd (by rw [hk]) h)
set_option maxRecDepth 100000 in
set_option maxHeartbeats 4000000 in
theorem lc_mildDebts (C : lw_C p s m c sb L xs) (hl : lv_has ls 4 [(0, .ref sb), (1, .ref (o1 0)), (2, .ref (o2 0)), (3, .int (iI i))]) (hi : 0 ≤ i ∧ i + 4 ≤ (L : Int)) (hb : 0 ≤ b ∧ b ≤ 60000) (S : lw_S E o1 a1 o2 a2 b s H locs I J A B LL)
    (K : ∀ (H : Heap) (locs : List Loc) (I J : Nat → Int) (A B : Nat → Int → Int) (LL : Nat → Int64), lw_S E o1 a1 o2 a2 (b + 100) s H locs I J A B LL → W p l e room_1 s m #[Value.ref sb] below meth c H locs 64 5675 Q (F0 m 1019 ls [])) : W p l e room_1 s m #[Value.ref sb] below meth c H locs 64 5675 Q (F0 m 687 ls []) := by
  obtain ⟨F, hX, hbl, hL⟩ := C
  obtain ⟨hw, hr⟩ := S
  obtain ⟨ox, om, orr⟩ := Rel_ok hb.2 hr
  obtain ⟨hJ0, hJ2, hJ4, hJ5, h11, h12, h13, hs, hs2, hbk, hbk2, hz, hlk, hl0, hJ6, hJ7⟩ := Rel_m hr
  have hk := k_mildDebts hr hb.2 (sI xs (i + 1)) (sI xs (i + 2))
  refine lv_aload_n F.1 F.2.1 dL_law_687 rfl (lv_at hl 1 rfl) ?_
  refine l_ld (j := 1) F hX hbl hL hw.2.2.1 (lv_at hl 0 rfl) (lv_at hl 3 rfl) (by omega) dL_law_688 dL_law_689 dL_law_690 dL_law_691 dL_law_692 ?_
  refine l_ld (j := 2) F hX hbl hL hw.2.2.1 (lv_at hl 0 rfl) (lv_at hl 3 rfl) (by omega) dL_law_693 dL_law_694 dL_law_695 dL_law_696 dL_law_697 ?_
  refine call_I2 (E := eV E o1 a1) (b := o1 0) (As := [.int (iI (sI xs (i + 1))), .int (iI (sI xs (i + 2)))]) (rest := []) (wr := mW (eV E o2 a2) J B) F (x9_mildDebts l (eV E o1 a1) I A LL (sI xs (i + 1)) (sI xs (i + 2)) (sI_r xs (i + 1)) (sI_r xs (i + 2)) ox) (cwV 2 F.2.2.2.2 gL_law_X9_mildDebts rfl rfl rfl (by decide +kernel) ⟨(Nat.le_of_ble_eq_true rfl), (Nat.le_of_ble_eq_true rfl)⟩) hw (x_recv (gH_left hw) 0 9 rfl rfl) rfl hl.1 rfl (Nat.le_of_ble_eq_true rfl) dL_law_698 ⟨Nat.le_refl _, Nat.le_refl _⟩ (fun z u H locs hz1 hw => ?_)
  obtain rfl := hz1
  have hw := gH_e (o' := o2) (a' := a2) (gH_swap hw)
  refine lv_aload_n F.1 F.2.1 dL_law_701 rfl (lv_at hl 2 rfl) ?_
  refine l_ld (j := 1) F hX hbl hL hw.2.2.1 (lv_at hl 0 rfl) (lv_at hl 3 rfl) (by omega) dL_law_702 dL_law_703 dL_law_704 dL_law_705 dL_law_706 ?_
  refine l_ld (j := 2) F hX hbl hL hw.2.2.1 (lv_at hl 0 rfl) (lv_at hl 3 rfl) (by omega) dL_law_707 dL_law_708 dL_law_709 dL_law_710 dL_law_711 ?_
  refine call_I2 (E := eV E o2 a2) (b := o2 0) (As := [.int (iI (sI xs (i + 1))), .int (iI (sI xs (i + 2)))]) (rest := [.int (iI _)]) F (c_mildDebts l (eV E o2 a2) J B (sI xs (i + 1)) (sI xs (i + 2)) (sI_r xs (i + 1)) (sI_r xs (i + 2)) om orr) (cwV 2 F.2.2.2.2 gL_law_X10_mildDebts rfl rfl rfl (by decide +kernel) ⟨(Nat.le_of_ble_eq_true rfl), (Nat.le_of_ble_eq_true rfl)⟩) hw (m_recv (gH_left hw)) rfl hl.1 rfl (Nat.le_of_ble_eq_true rfl) dL_law_712 ⟨Nat.le_refl _, Nat.le_refl _⟩ (fun z2 u2 H locs hz2 hw => ?_)
  obtain ⟨rfl, hs9⟩ := hz2
  have hw := gH_e (o' := o1) (a' := a1) (gH_swap hw)
  exact lv_icmp_eq (tgt := 1019) F.1 F.2.1 dL_law_715 (by decide) (fun _ => K _ _ _ _ _ _ _ ⟨hw, Rel_w (by omega) (Rel_same xSame_rf hs9 hr)⟩) (fun h => absurd (by rw [hk]) h)
set_option maxRecDepth 100000 in
set_option maxHeartbeats 4000000 in
theorem lc_older (C : lw_C p s m c sb L xs) (hl : lv_has ls 4 [(0, .ref sb), (1, .ref (o1 0)), (2, .ref (o2 0)), (3, .int (iI i))]) (hi : 0 ≤ i ∧ i + 4 ≤ (L : Int)) (hb : 0 ≤ b ∧ b ≤ 60000) (S : lw_S E o1 a1 o2 a2 b s H locs I J A B LL)
    (K : ∀ (H : Heap) (locs : List Loc) (I J : Nat → Int) (A B : Nat → Int → Int) (LL : Nat → Int64), lw_S E o1 a1 o2 a2 (b + 100) s H locs I J A B LL → W p l e room_1 s m #[Value.ref sb] below meth c H locs 64 5675 Q (F0 m 1019 ls [])) : W p l e room_1 s m #[Value.ref sb] below meth c H locs 64 5675 Q (F0 m 720 ls []) := by
  obtain ⟨F, hX, hbl, hL⟩ := C
  obtain ⟨hw, hr⟩ := S
  obtain ⟨ox, om, orr⟩ := Rel_ok hb.2 hr
  obtain ⟨hJ0, hJ2, hJ4, hJ5, h11, h12, h13, hs, hs2, hbk, hbk2, hz, hlk, hl0, hJ6, hJ7⟩ := Rel_m hr
  have hk := k_older hr (sI xs (i + 1)) (sI xs (i + 2))
  refine lv_aload_n F.1 F.2.1 dL_law_720 rfl (lv_at hl 1 rfl) ?_
  refine l_ld (j := 1) F hX hbl hL hw.2.2.1 (lv_at hl 0 rfl) (lv_at hl 3 rfl) (by omega) dL_law_721 dL_law_722 dL_law_723 dL_law_724 dL_law_725 ?_
  refine l_ld (j := 2) F hX hbl hL hw.2.2.1 (lv_at hl 0 rfl) (lv_at hl 3 rfl) (by omega) dL_law_726 dL_law_727 dL_law_728 dL_law_729 dL_law_730 ?_
  refine call_I2 (E := eV E o1 a1) (b := o1 0) (As := [.int (iI (sI xs (i + 1))), .int (iI (sI xs (i + 2)))]) (rest := []) (wr := mW (eV E o2 a2) J B) F (x9_older l (eV E o1 a1) I A LL (sI xs (i + 1)) (sI xs (i + 2)) (sI_r xs (i + 1)) (sI_r xs (i + 2)) ox) (cwV 2 F.2.2.2.2 gL_law_X9_older rfl rfl rfl (by decide +kernel) ⟨(Nat.le_of_ble_eq_true rfl), (Nat.le_of_ble_eq_true rfl)⟩) hw (x_recv (gH_left hw) 0 9 rfl rfl) rfl hl.1 rfl (Nat.le_of_ble_eq_true rfl) dL_law_731 ⟨Nat.le_refl _, Nat.le_refl _⟩ (fun z u H locs hz1 hw => ?_)
  obtain rfl := hz1
  have hw := gH_e (o' := o2) (a' := a2) (gH_swap hw)
  refine lv_aload_n F.1 F.2.1 dL_law_734 rfl (lv_at hl 2 rfl) ?_
  refine l_ld (j := 1) F hX hbl hL hw.2.2.1 (lv_at hl 0 rfl) (lv_at hl 3 rfl) (by omega) dL_law_735 dL_law_736 dL_law_737 dL_law_738 dL_law_739 ?_
  refine l_ld (j := 2) F hX hbl hL hw.2.2.1 (lv_at hl 0 rfl) (lv_at hl 3 rfl) (by omega) dL_law_740 dL_law_741 dL_law_742 dL_law_743 dL_law_744 ?_
  refine call_I2 (E := eV E o2 a2) (b := o2 0) (As := [.int (iI (sI xs (i + 1))), .int (iI (sI xs (i + 2)))]) (rest := [.int (iI _)]) F (c_older l (eV E o2 a2) J B (sI xs (i + 1)) (sI xs (i + 2)) (sI_r xs (i + 1)) (sI_r xs (i + 2)) om orr) (cwV 2 F.2.2.2.2 gL_law_X10_older rfl rfl rfl (by decide +kernel) ⟨(Nat.le_of_ble_eq_true rfl), (Nat.le_of_ble_eq_true rfl)⟩) hw (m_recv (gH_left hw)) rfl hl.1 rfl (Nat.le_of_ble_eq_true rfl) dL_law_745 ⟨Nat.le_refl _, Nat.le_refl _⟩ (fun z2 u2 H locs hz2 hw => ?_)
  obtain rfl := hz2
  have hw := gH_e (o' := o1) (a' := a1) (gH_swap hw)
  exact lv_icmp_eq (tgt := 1019) F.1 F.2.1 dL_law_748 (by decide) (fun _ => K _ _ _ _ _ _ _ ⟨hw, Rel_w (by omega) hr⟩) (fun h => absurd (by rw [hk]) h)
set_option maxRecDepth 100000 in
set_option maxHeartbeats 4000000 in
theorem lc_chance (C : lw_C p s m c sb L xs) (hl : lv_has ls 4 [(0, .ref sb), (1, .ref (o1 0)), (2, .ref (o2 0)), (3, .int (iI i))]) (hi : 0 ≤ i ∧ i + 4 ≤ (L : Int)) (hb : 0 ≤ b ∧ b ≤ 60000) (S : lw_S E o1 a1 o2 a2 b s H locs I J A B LL)
    (K : ∀ (H : Heap) (locs : List Loc) (I J : Nat → Int) (A B : Nat → Int → Int) (LL : Nat → Int64), lw_S E o1 a1 o2 a2 (b + 100) s H locs I J A B LL → W p l e room_1 s m #[Value.ref sb] below meth c H locs 64 5675 Q (F0 m 1019 ls [])) : W p l e room_1 s m #[Value.ref sb] below meth c H locs 64 5675 Q (F0 m 753 ls []) := by
  obtain ⟨F, hX, hbl, hL⟩ := C
  obtain ⟨hw, hr⟩ := S
  obtain ⟨ox, om, orr⟩ := Rel_ok hb.2 hr
  obtain ⟨hJ0, hJ2, hJ4, hJ5, h11, h12, h13, hs, hs2, hbk, hbk2, hz, hlk, hl0, hJ6, hJ7⟩ := Rel_m hr
  have hk := k_chance hr (sI xs (i + 1)) (sI xs (i + 2))
  refine lv_aload_n F.1 F.2.1 dL_law_753 rfl (lv_at hl 1 rfl) ?_
  refine l_ld (j := 1) F hX hbl hL hw.2.2.1 (lv_at hl 0 rfl) (lv_at hl 3 rfl) (by omega) dL_law_754 dL_law_755 dL_law_756 dL_law_757 dL_law_758 ?_
  refine l_ld (j := 2) F hX hbl hL hw.2.2.1 (lv_at hl 0 rfl) (lv_at hl 3 rfl) (by omega) dL_law_759 dL_law_760 dL_law_761 dL_law_762 dL_law_763 ?_
  refine call_I2 (E := eV E o1 a1) (b := o1 0) (As := [.int (iI (sI xs (i + 1))), .int (iI (sI xs (i + 2)))]) (rest := []) (wr := mW (eV E o2 a2) J B) F (x9_chance l (eV E o1 a1) I A LL (sI xs (i + 1)) (sI xs (i + 2)) (sI_r xs (i + 1)) (sI_r xs (i + 2)) ox) (cwV 2 F.2.2.2.2 gL_law_X9_chance rfl rfl rfl (by decide +kernel) ⟨(Nat.le_of_ble_eq_true rfl), (Nat.le_of_ble_eq_true rfl)⟩) hw (x_recv (gH_left hw) 0 9 rfl rfl) rfl hl.1 rfl (Nat.le_of_ble_eq_true rfl) dL_law_764 ⟨Nat.le_refl _, Nat.le_refl _⟩ (fun z u H locs hz1 hw => ?_)
  obtain ⟨rfl, hs1⟩ := hz1
  have hw := gH_e (o' := o2) (a' := a2) (gH_swap hw)
  refine lv_aload_n F.1 F.2.1 dL_law_767 rfl (lv_at hl 2 rfl) ?_
  refine l_ld (j := 1) F hX hbl hL hw.2.2.1 (lv_at hl 0 rfl) (lv_at hl 3 rfl) (by omega) dL_law_768 dL_law_769 dL_law_770 dL_law_771 dL_law_772 ?_
  refine l_ld (j := 2) F hX hbl hL hw.2.2.1 (lv_at hl 0 rfl) (lv_at hl 3 rfl) (by omega) dL_law_773 dL_law_774 dL_law_775 dL_law_776 dL_law_777 ?_
  refine call_I2 (E := eV E o2 a2) (b := o2 0) (As := [.int (iI (sI xs (i + 1))), .int (iI (sI xs (i + 2)))]) (rest := [.int (iI _)]) F (c_chance l (eV E o2 a2) J B (sI xs (i + 1)) (sI xs (i + 2)) (sI_r xs (i + 1)) (sI_r xs (i + 2)) h13 hlk om orr) (cwV 2 F.2.2.2.2 gL_law_X10_chance rfl rfl rfl (by decide +kernel) ⟨(Nat.le_of_ble_eq_true rfl), (Nat.le_of_ble_eq_true rfl)⟩) hw (m_recv (gH_left hw)) rfl hl.1 rfl (Nat.le_of_ble_eq_true rfl) dL_law_778 ⟨Nat.le_refl _, Nat.le_refl _⟩ (fun z2 u2 H locs hz2 hw => ?_)
  obtain ⟨rfl, hs9⟩ := hz2
  have hw := gH_e (o' := o1) (a' := a1) (gH_swap hw)
  exact lv_icmp_eq (tgt := 1019) F.1 F.2.1 dL_law_781 (by decide) (fun _ => K _ _ _ _ _ _ _ ⟨hw, Rel_w (by omega) (Rel_same hs1 hs9 hr)⟩) (fun h => absurd (by rw [hk]) h)
end LC
