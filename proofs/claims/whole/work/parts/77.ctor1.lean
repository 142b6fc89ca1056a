/-! what a new object holds -/
def mI0 : Nat → Int := fun k => if k = 1 then -1 else 0
def xI0 : Nat → Int := fun k => if k = 1 then -1 else 0
def zA : Nat → Int → Int := fun _ _ => 0
def zL : Nat → Int64 := fun _ => 0
def eM (E : Ev) (h0 : Nat) (u : Nat × (Nat → Nat)) : Ev := (eD E, fun k => if k = 0 then h0 else u.1, u.2, eI E, eZ E, eL E)
def eX (E : Ev) (h0 : Nat) (u : (Nat → Nat) × (Nat → Nat)) : Ev := (eD E, fun k => if k = 0 then h0 else u.1 k, u.2, eI E, eZ E, eL E)
set_option maxRecDepth 100000 in
set_option maxHeartbeats 4000000 in
theorem i_X7 (l : Launch) (E : Ev) (h0 : Nat) : MetC l yX7_init wsX7_init ({ frames := 1, cells := 8, slots := 54, locals := 12 } : Room) E [.ref h0] [(h0, Sum.inr (7, [.null, .null, .null, .null, .null, .null, .null, .null, .int (iI 0), .int (iI 0), .int (iI 0), .int (iI 0)]))] (fun u : Nat → Nat => [(h0, Sum.inr (7, [.ref (u 0), .ref (u 1), .ref (u 2), .ref (u 3), .ref (u 4), .ref (u 5), .ref (u 6), .ref (u 7), .int (iI 0), .int (iI 0), .int (iI 0), .int (iI 0)])), (u 0, Sum.inl (eI E, 20, Sum.inl (fun _ : Nat => iI 0))), (u 1, Sum.inl (eI E, 4, Sum.inl (fun _ : Nat => iI 0))), (u 2, Sum.inl (eI E, 4, Sum.inl (fun _ : Nat => iI 0))), (u 3, Sum.inl (eI E, 4, Sum.inl (fun _ : Nat => iI 0))), (u 4, Sum.inl (eI E, 6, Sum.inl (fun _ : Nat => iI 0))), (u 5, Sum.inl (eI E, 6, Sum.inl (fun _ : Nat => iI 0))), (u 6, Sum.inl (eI E, 5, Sum.inl (fun _ : Nat => iI 0))), (u 7, Sum.inl (eI E, 5, Sum.inl (fun _ : Nat => iI 0)))]) 8 54 := by
  have hin7 : ∀ w ∈ wsX70, w ∈ wsX7_init := by decide +kernel
  refine met_C (cc := cX7_init) (nL := 1) (by decide) rfl rfl (Nat.le_of_ble_eq_true rfl) ?_
  intro p e s m args below meth c Q H0 A0 H locs ls F hi hw hl hret
  have F : CallFix p m c cX7_init 1 s args wsX7_init RX7 := F
  have hl : lv_has ls 1 [(0, .ref h0)] := hl
  have hw : gH E A0 H0 s [(h0, Sum.inr (7, [.null, .null, .null, .null, .null, .null, .null, .null, .int (iI 0), .int (iI 0), .int (iI 0), .int (iI 0)]))] H locs := hw
  refine lv_aload_n F.1 F.2.1 dX7_init_0 rfl (lv_at hl 0 rfl) ?_
  refine g_obj F hl.1 (by decide +kernel) (by decide +kernel) (List.mem_of_getElem? (i := 3) rfl) (Nat.le_of_ble_eq_true rfl) (Nat.le_of_ble_eq_true rfl) dX7_init_1 ?_
  refine lv_aload_n F.1 F.2.1 dX7_init_4 rfl (lv_at hl 0 rfl) ?_
  refine bi_bipush F dX7_init_5 (by decide) ?_
  refine g_newI F hw 20 (by decide) (by decide) (by decide +kernel) (Nat.le_of_ble_eq_true rfl) (Nat.le_of_ble_eq_true rfl) dX7_init_7 (fun q0 H hw => ?_)
  have hw : gH E A0 H0 s [(h0, Sum.inr (7, [.null, .null, .null, .null, .null, .null, .null, .null, .int (iI 0), .int (iI 0), .int (iI 0), .int (iI 0)])), (q0, Sum.inl (eI E, 20, Sum.inl (fun _ : Nat => iI 0)))] H locs := hw
  refine g_putF (w1 := [(h0, Sum.inr (7, [.ref q0, .null, .null, .null, .null, .null, .null, .null, .int (iI 0), .int (iI 0), .int (iI 0), .int (iI 0)])), (q0, Sum.inl (eI E, 20, Sum.inl (fun _ : Nat => iI 0)))]) (ref := "SnowDays$Tale") (ty := (.array .int)) F hi hw 7 hin7 tyX7 tyX7_ok nmX7 0 rfl rfl 0 (by decide) (by decide +kernel) rfl rfl rfl (by decide +kernel) rfl rfl (Nat.le_of_ble_eq_true rfl) rfl dX7_init_9 (fun H locs hw => ?_)
  refine lv_aload_n F.1 F.2.1 dX7_init_12 rfl (lv_at hl 0 rfl) ?_
  refine bi_iconst F dX7_init_13 ?_
  refine g_newI F hw 4 (by decide) (by decide) (by decide +kernel) (Nat.le_of_ble_eq_true rfl) (Nat.le_of_ble_eq_true rfl) dX7_init_14 (fun q1 H hw => ?_)
  have hw : gH E A0 H0 s [(h0, Sum.inr (7, [.ref q0, .null, .null, .null, .null, .null, .null, .null, .int (iI 0), .int (iI 0), .int (iI 0), .int (iI 0)])), (q0, Sum.inl (eI E, 20, Sum.inl (fun _ : Nat => iI 0))), (q1, Sum.inl (eI E, 4, Sum.inl (fun _ : Nat => iI 0)))] H locs := hw
  refine g_putF (w1 := [(h0, Sum.inr (7, [.ref q0, .ref q1, .null, .null, .null, .null, .null, .null, .int (iI 0), .int (iI 0), .int (iI 0), .int (iI 0)])), (q0, Sum.inl (eI E, 20, Sum.inl (fun _ : Nat => iI 0))), (q1, Sum.inl (eI E, 4, Sum.inl (fun _ : Nat => iI 0)))]) (ref := "SnowDays$Tale") (ty := (.array .int)) F hi hw 7 hin7 tyX7 tyX7_ok nmX7 0 rfl rfl 1 (by decide) (by decide +kernel) rfl rfl rfl (by decide +kernel) rfl rfl (Nat.le_of_ble_eq_true rfl) rfl dX7_init_16 (fun H locs hw => ?_)
  refine lv_aload_n F.1 F.2.1 dX7_init_19 rfl (lv_at hl 0 rfl) ?_
  refine bi_iconst F dX7_init_20 ?_
  refine g_newI F hw 4 (by decide) (by decide) (by decide +kernel) (Nat.le_of_ble_eq_true rfl) (Nat.le_of_ble_eq_true rfl) dX7_init_21 (fun q2 H hw => ?_)
  have hw : gH E A0 H0 s [(h0, Sum.inr (7, [.ref q0, .ref q1, .null, .null, .null, .null, .null, .null, .int (iI 0), .int (iI 0), .int (iI 0), .int (iI 0)])), (q0, Sum.inl (eI E, 20, Sum.inl (fun _ : Nat => iI 0))), (q1, Sum.inl (eI E, 4, Sum.inl (fun _ : Nat => iI 0))), (q2, Sum.inl (eI E, 4, Sum.inl (fun _ : Nat => iI 0)))] H locs := hw
  refine g_putF (w1 := [(h0, Sum.inr (7, [.ref q0, .ref q1, .ref q2, .null, .null, .null, .null, .null, .int (iI 0), .int (iI 0), .int (iI 0), .int (iI 0)])), (q0, Sum.inl (eI E, 20, Sum.inl (fun _ : Nat => iI 0))), (q1, Sum.inl (eI E, 4, Sum.inl (fun _ : Nat => iI 0))), (q2, Sum.inl (eI E, 4, Sum.inl (fun _ : Nat => iI 0)))]) (ref := "SnowDays$Tale") (ty := (.array .int)) F hi hw 7 hin7 tyX7 tyX7_ok nmX7 0 rfl rfl 2 (by decide) (by decide +kernel) rfl rfl rfl (by decide +kernel) rfl rfl (Nat.le_of_ble_eq_true rfl) rfl dX7_init_23 (fun H locs hw => ?_)
  refine lv_aload_n F.1 F.2.1 dX7_init_26 rfl (lv_at hl 0 rfl) ?_
  refine bi_iconst F dX7_init_27 ?_
  refine g_newI F hw 4 (by decide) (by decide) (by decide +kernel) (Nat.le_of_ble_eq_true rfl) (Nat.le_of_ble_eq_true rfl) dX7_init_28 (fun q3 H hw => ?_)
  have hw : gH E A0 H0 s [(h0, Sum.inr (7, [.ref q0, .ref q1, .ref q2, .null, .null, .null, .null, .null, .int (iI 0), .int (iI 0), .int (iI 0), .int (iI 0)])), (q0, Sum.inl (eI E, 20, Sum.inl (fun _ : Nat => iI 0))), (q1, Sum.inl (eI E, 4, Sum.inl (fun _ : Nat => iI 0))), (q2, Sum.inl (eI E, 4, Sum.inl (fun _ : Nat => iI 0))), (q3, Sum.inl (eI E, 4, Sum.inl (fun _ : Nat => iI 0)))] H locs := hw
  refine g_putF (w1 := [(h0, Sum.inr (7, [.ref q0, .ref q1, .ref q2, .ref q3, .null, .null, .null, .null, .int (iI 0), .int (iI 0), .int (iI 0), .int (iI 0)])), (q0, Sum.inl (eI E, 20, Sum.inl (fun _ : Nat => iI 0))), (q1, Sum.inl (eI E, 4, Sum.inl (fun _ : Nat => iI 0))), (q2, Sum.inl (eI E, 4, Sum.inl (fun _ : Nat => iI 0))), (q3, Sum.inl (eI E, 4, Sum.inl (fun _ : Nat => iI 0)))]) (ref := "SnowDays$Tale") (ty := (.array .int)) F hi hw 7 hin7 tyX7 tyX7_ok nmX7 0 rfl rfl 3 (by decide) (by decide +kernel) rfl rfl rfl (by decide +kernel) rfl rfl (Nat.le_of_ble_eq_true rfl) rfl dX7_init_30 (fun H locs hw => ?_)
  refine lv_aload_n F.1 F.2.1 dX7_init_33 rfl (lv_at hl 0 rfl) ?_
  refine bi_bipush F dX7_init_34 (by decide) ?_
  refine g_newI F hw 6 (by decide) (by decide) (by decide +kernel) (Nat.le_of_ble_eq_true rfl) (Nat.le_of_ble_eq_true rfl) dX7_init_36 (fun q4 H hw => ?_)
  have hw : gH E A0 H0 s [(h0, Sum.inr (7, [.ref q0, .ref q1, .ref q2, .ref q3, .null, .null, .null, .null, .int (iI 0), .int (iI 0), .int (iI 0), .int (iI 0)])), (q0, Sum.inl (eI E, 20, Sum.inl (fun _ : Nat => iI 0))), (q1, Sum.inl (eI E, 4, Sum.inl (fun _ : Nat => iI 0))), (q2, Sum.inl (eI E, 4, Sum.inl (fun _ : Nat => iI 0))), (q3, Sum.inl (eI E, 4, Sum.inl (fun _ : Nat => iI 0))), (q4, Sum.inl (eI E, 6, Sum.inl (fun _ : Nat => iI 0)))] H locs := hw
  refine g_putF (w1 := [(h0, Sum.inr (7, [.ref q0, .ref q1, .ref q2, .ref q3, .ref q4, .null, .null, .null, .int (iI 0), .int (iI 0), .int (iI 0), .int (iI 0)])), (q0, Sum.inl (eI E, 20, Sum.inl (fun _ : Nat => iI 0))), (q1, Sum.inl (eI E, 4, Sum.inl (fun _ : Nat => iI 0))), (q2, Sum.inl (eI E, 4, Sum.inl (fun _ : Nat => iI 0))), (q3, Sum.inl (eI E, 4, Sum.inl (fun _ : Nat => iI 0))), (q4, Sum.inl (eI E, 6, Sum.inl (fun _ : Nat => iI 0)))]) (ref := "SnowDays$Tale") (ty := (.array .int)) F hi hw 7 hin7 tyX7 tyX7_ok nmX7 0 rfl rfl 4 (by decide) (by decide +kernel) rfl rfl rfl (by decide +kernel) rfl rfl (Nat.le_of_ble_eq_true rfl) rfl dX7_init_38 (fun H locs hw => ?_)
  refine lv_aload_n F.1 F.2.1 dX7_init_41 rfl (lv_at hl 0 rfl) ?_
  refine bi_bipush F dX7_init_42 (by decide) ?_
  refine g_newI F hw 6 (by decide) (by decide) (by decide +kernel) (Nat.le_of_ble_eq_true rfl) (Nat.le_of_ble_eq_true rfl) dX7_init_44 (fun q5 H hw => ?_)
  have hw : gH E A0 H0 s [(h0, Sum.inr (7, [.ref q0, .ref q1, .ref q2, .ref q3, .ref q4, .null, .null, .null, .int (iI 0), .int (iI 0), .int (iI 0), .int (iI 0)])), (q0, Sum.inl (eI E, 20, Sum.inl (fun _ : Nat => iI 0))), (q1, Sum.inl (eI E, 4, Sum.inl (fun _ : Nat => iI 0))), (q2, Sum.inl (eI E, 4, Sum.inl (fun _ : Nat => iI 0))), (q3, Sum.inl (eI E, 4, Sum.inl (fun _ : Nat => iI 0))), (q4, Sum.inl (eI E, 6, Sum.inl (fun _ : Nat => iI 0))), (q5, Sum.inl (eI E, 6, Sum.inl (fun _ : Nat => iI 0)))] H locs := hw
  refine g_putF (w1 := [(h0, Sum.inr (7, [.ref q0, .ref q1, .ref q2, .ref q3, .ref q4, .ref q5, .null, .null, .int (iI 0), .int (iI 0), .int (iI 0), .int (iI 0)])), (q0, Sum.inl (eI E, 20, Sum.inl (fun _ : Nat => iI 0))), (q1, Sum.inl (eI E, 4, Sum.inl (fun _ : Nat => iI 0))), (q2, Sum.inl (eI E, 4, Sum.inl (fun _ : Nat => iI 0))), (q3, Sum.inl (eI E, 4, Sum.inl (fun _ : Nat => iI 0))), (q4, Sum.inl (eI E, 6, Sum.inl (fun _ : Nat => iI 0))), (q5, Sum.inl (eI E, 6, Sum.inl (fun _ : Nat => iI 0)))]) (ref := "SnowDays$Tale") (ty := (.array .int)) F hi hw 7 hin7 tyX7 tyX7_ok nmX7 0 rfl rfl 5 (by decide) (by decide +kernel) rfl rfl rfl (by decide +kernel) rfl rfl (Nat.le_of_ble_eq_true rfl) rfl dX7_init_46 (fun H locs hw => ?_)
  refine lv_aload_n F.1 F.2.1 dX7_init_49 rfl (lv_at hl 0 rfl) ?_
  refine bi_iconst F dX7_init_50 ?_
  refine g_newI F hw 5 (by decide) (by decide) (by decide +kernel) (Nat.le_of_ble_eq_true rfl) (Nat.le_of_ble_eq_true rfl) dX7_init_51 (fun q6 H hw => ?_)
  have hw : gH E A0 H0 s [(h0, Sum.inr (7, [.ref q0, .ref q1, .ref q2, .ref q3, .ref q4, .ref q5, .null, .null, .int (iI 0), .int (iI 0), .int (iI 0), .int (iI 0)])), (q0, Sum.inl (eI E, 20, Sum.inl (fun _ : Nat => iI 0))), (q1, Sum.inl (eI E, 4, Sum.inl (fun _ : Nat => iI 0))), (q2, Sum.inl (eI E, 4, Sum.inl (fun _ : Nat => iI 0))), (q3, Sum.inl (eI E, 4, Sum.inl (fun _ : Nat => iI 0))), (q4, Sum.inl (eI E, 6, Sum.inl (fun _ : Nat => iI 0))), (q5, Sum.inl (eI E, 6, Sum.inl (fun _ : Nat => iI 0))), (q6, Sum.inl (eI E, 5, Sum.inl (fun _ : Nat => iI 0)))] H locs := hw
  refine g_putF (w1 := [(h0, Sum.inr (7, [.ref q0, .ref q1, .ref q2, .ref q3, .ref q4, .ref q5, .ref q6, .null, .int (iI 0), .int (iI 0), .int (iI 0), .int (iI 0)])), (q0, Sum.inl (eI E, 20, Sum.inl (fun _ : Nat => iI 0))), (q1, Sum.inl (eI E, 4, Sum.inl (fun _ : Nat => iI 0))), (q2, Sum.inl (eI E, 4, Sum.inl (fun _ : Nat => iI 0))), (q3, Sum.inl (eI E, 4, Sum.inl (fun _ : Nat => iI 0))), (q4, Sum.inl (eI E, 6, Sum.inl (fun _ : Nat => iI 0))), (q5, Sum.inl (eI E, 6, Sum.inl (fun _ : Nat => iI 0))), (q6, Sum.inl (eI E, 5, Sum.inl (fun _ : Nat => iI 0)))]) (ref := "SnowDays$Tale") (ty := (.array .int)) F hi hw 7 hin7 tyX7 tyX7_ok nmX7 0 rfl rfl 6 (by decide) (by decide +kernel) rfl rfl rfl (by decide +kernel) rfl rfl (Nat.le_of_ble_eq_true rfl) rfl dX7_init_53 (fun H locs hw => ?_)
  refine lv_aload_n F.1 F.2.1 dX7_init_56 rfl (lv_at hl 0 rfl) ?_
  refine bi_iconst F dX7_init_57 ?_
  refine g_newI F hw 5 (by decide) (by decide) (by decide +kernel) (Nat.le_of_ble_eq_true rfl) (Nat.le_of_ble_eq_true rfl) dX7_init_58 (fun q7 H hw => ?_)
  have hw : gH E A0 H0 s [(h0, Sum.inr (7, [.ref q0, .ref q1, .ref q2, .ref q3, .ref q4, .ref q5, .ref q6, .null, .int (iI 0), .int (iI 0), .int (iI 0), .int (iI 0)])), (q0, Sum.inl (eI E, 20, Sum.inl (fun _ : Nat => iI 0))), (q1, Sum.inl (eI E, 4, Sum.inl (fun _ : Nat => iI 0))), (q2, Sum.inl (eI E, 4, Sum.inl (fun _ : Nat => iI 0))), (q3, Sum.inl (eI E, 4, Sum.inl (fun _ : Nat => iI 0))), (q4, Sum.inl (eI E, 6, Sum.inl (fun _ : Nat => iI 0))), (q5, Sum.inl (eI E, 6, Sum.inl (fun _ : Nat => iI 0))), (q6, Sum.inl (eI E, 5, Sum.inl (fun _ : Nat => iI 0))), (q7, Sum.inl (eI E, 5, Sum.inl (fun _ : Nat => iI 0)))] H locs := hw
  refine g_putF (w1 := [(h0, Sum.inr (7, [.ref q0, .ref q1, .ref q2, .ref q3, .ref q4, .ref q5, .ref q6, .ref q7, .int (iI 0), .int (iI 0), .int (iI 0), .int (iI 0)])), (q0, Sum.inl (eI E, 20, Sum.inl (fun _ : Nat => iI 0))), (q1, Sum.inl (eI E, 4, Sum.inl (fun _ : Nat => iI 0))), (q2, Sum.inl (eI E, 4, Sum.inl (fun _ : Nat => iI 0))), (q3, Sum.inl (eI E, 4, Sum.inl (fun _ : Nat => iI 0))), (q4, Sum.inl (eI E, 6, Sum.inl (fun _ : Nat => iI 0))), (q5, Sum.inl (eI E, 6, Sum.inl (fun _ : Nat => iI 0))), (q6, Sum.inl (eI E, 5, Sum.inl (fun _ : Nat => iI 0))), (q7, Sum.inl (eI E, 5, Sum.inl (fun _ : Nat => iI 0)))]) (ref := "SnowDays$Tale") (ty := (.array .int)) F hi hw 7 hin7 tyX7 tyX7_ok nmX7 0 rfl rfl 7 (by decide) (by decide +kernel) rfl rfl rfl (by decide +kernel) rfl rfl (Nat.le_of_ble_eq_true rfl) rfl dX7_init_60 (fun H locs hw => ?_)
  refine lv_aload_n F.1 F.2.1 dX7_init_63 rfl (lv_at hl 0 rfl) ?_
  refine bi_iconst F dX7_init_64 ?_
  refine g_putI (w1 := [(h0, Sum.inr (7, [.ref q0, .ref q1, .ref q2, .ref q3, .ref q4, .ref q5, .ref q6, .ref q7, .int (iI 0), .int (iI 0), .int (iI 0), .int (iI 0)])), (q0, Sum.inl (eI E, 20, Sum.inl (fun _ : Nat => iI 0))), (q1, Sum.inl (eI E, 4, Sum.inl (fun _ : Nat => iI 0))), (q2, Sum.inl (eI E, 4, Sum.inl (fun _ : Nat => iI 0))), (q3, Sum.inl (eI E, 4, Sum.inl (fun _ : Nat => iI 0))), (q4, Sum.inl (eI E, 6, Sum.inl (fun _ : Nat => iI 0))), (q5, Sum.inl (eI E, 6, Sum.inl (fun _ : Nat => iI 0))), (q6, Sum.inl (eI E, 5, Sum.inl (fun _ : Nat => iI 0))), (q7, Sum.inl (eI E, 5, Sum.inl (fun _ : Nat => iI 0)))]) (ref := "SnowDays$Tale") F hw 7 hin7 tyX7 tyX7_ok nmX7 0 rfl rfl 8 (by decide) (by decide +kernel) rfl rfl (by decide +kernel) (Nat.le_of_ble_eq_true rfl) rfl dX7_init_65 (fun H locs hw => ?_)
  refine lv_aload_n F.1 F.2.1 dX7_init_68 rfl (lv_at hl 0 rfl) ?_
  refine bi_iconst F dX7_init_69 ?_
  refine g_putI (w1 := [(h0, Sum.inr (7, [.ref q0, .ref q1, .ref q2, .ref q3, .ref q4, .ref q5, .ref q6, .ref q7, .int (iI 0), .int (iI 0), .int (iI 0), .int (iI 0)])), (q0, Sum.inl (eI E, 20, Sum.inl (fun _ : Nat => iI 0))), (q1, Sum.inl (eI E, 4, Sum.inl (fun _ : Nat => iI 0))), (q2, Sum.inl (eI E, 4, Sum.inl (fun _ : Nat => iI 0))), (q3, Sum.inl (eI E, 4, Sum.inl (fun _ : Nat => iI 0))), (q4, Sum.inl (eI E, 6, Sum.inl (fun _ : Nat => iI 0))), (q5, Sum.inl (eI E, 6, Sum.inl (fun _ : Nat => iI 0))), (q6, Sum.inl (eI E, 5, Sum.inl (fun _ : Nat => iI 0))), (q7, Sum.inl (eI E, 5, Sum.inl (fun _ : Nat => iI 0)))]) (ref := "SnowDays$Tale") F hw 7 hin7 tyX7 tyX7_ok nmX7 0 rfl rfl 9 (by decide) (by decide +kernel) rfl rfl (by decide +kernel) (Nat.le_of_ble_eq_true rfl) rfl dX7_init_70 (fun H locs hw => ?_)
  refine lv_aload_n F.1 F.2.1 dX7_init_73 rfl (lv_at hl 0 rfl) ?_
  refine bi_iconst F dX7_init_74 ?_
  refine g_putI (w1 := [(h0, Sum.inr (7, [.ref q0, .ref q1, .ref q2, .ref q3, .ref q4, .ref q5, .ref q6, .ref q7, .int (iI 0), .int (iI 0), .int (iI 0), .int (iI 0)])), (q0, Sum.inl (eI E, 20, Sum.inl (fun _ : Nat => iI 0))), (q1, Sum.inl (eI E, 4, Sum.inl (fun _ : Nat => iI 0))), (q2, Sum.inl (eI E, 4, Sum.inl (fun _ : Nat => iI 0))), (q3, Sum.inl (eI E, 4, Sum.inl (fun _ : Nat => iI 0))), (q4, Sum.inl (eI E, 6, Sum.inl (fun _ : Nat => iI 0))), (q5, Sum.inl (eI E, 6, Sum.inl (fun _ : Nat => iI 0))), (q6, Sum.inl (eI E, 5, Sum.inl (fun _ : Nat => iI 0))), (q7, Sum.inl (eI E, 5, Sum.inl (fun _ : Nat => iI 0)))]) (ref := "SnowDays$Tale") F hw 7 hin7 tyX7 tyX7_ok nmX7 0 rfl rfl 10 (by decide) (by decide +kernel) rfl rfl (by decide +kernel) (Nat.le_of_ble_eq_true rfl) rfl dX7_init_75 (fun H locs hw => ?_)
  refine lv_aload_n F.1 F.2.1 dX7_init_78 rfl (lv_at hl 0 rfl) ?_
  refine bi_iconst F dX7_init_79 ?_
  refine g_putI (w1 := [(h0, Sum.inr (7, [.ref q0, .ref q1, .ref q2, .ref q3, .ref q4, .ref q5, .ref q6, .ref q7, .int (iI 0), .int (iI 0), .int (iI 0), .int (iI 0)])), (q0, Sum.inl (eI E, 20, Sum.inl (fun _ : Nat => iI 0))), (q1, Sum.inl (eI E, 4, Sum.inl (fun _ : Nat => iI 0))), (q2, Sum.inl (eI E, 4, Sum.inl (fun _ : Nat => iI 0))), (q3, Sum.inl (eI E, 4, Sum.inl (fun _ : Nat => iI 0))), (q4, Sum.inl (eI E, 6, Sum.inl (fun _ : Nat => iI 0))), (q5, Sum.inl (eI E, 6, Sum.inl (fun _ : Nat => iI 0))), (q6, Sum.inl (eI E, 5, Sum.inl (fun _ : Nat => iI 0))), (q7, Sum.inl (eI E, 5, Sum.inl (fun _ : Nat => iI 0)))]) (ref := "SnowDays$Tale") F hw 7 hin7 tyX7 tyX7_ok nmX7 0 rfl rfl 11 (by decide) (by decide +kernel) rfl rfl (by decide +kernel) (Nat.le_of_ble_eq_true rfl) rfl dX7_init_80 (fun H locs hw => ?_)
  exact hret (fun k => ([q0, q1, q2, q3, q4, q5, q6, q7] : List Nat).getD k 0) H locs _ _ hw dX7_init_83
set_option maxRecDepth 100000 in
set_option maxHeartbeats 4000000 in
theorem i_X6 (l : Launch) (E : Ev) (h0 : Nat) : MetC l yX6_init wsX6_init ({ frames := 1, cells := 1, slots := 35, locals := 12 } : Room) E [.ref h0] [(h0, Sum.inr (6, [.null]))] (fun u : Nat → Nat => [(h0, Sum.inr (6, [.ref (u 0)])), (u 0, Sum.inl (eI E, 35, Sum.inl (fun _ : Nat => iI 0)))]) 1 35 := by
  have hin6 : ∀ w ∈ wsX60, w ∈ wsX6_init := by decide +kernel
  refine met_C (cc := cX6_init) (nL := 1) (by decide) rfl rfl (Nat.le_of_ble_eq_true rfl) ?_
  intro p e s m args below meth c Q H0 A0 H locs ls F hi hw hl hret
  have F : CallFix p m c cX6_init 1 s args wsX6_init RX6 := F
  have hl : lv_has ls 1 [(0, .ref h0)] := hl
  have hw : gH E A0 H0 s [(h0, Sum.inr (6, [.null]))] H locs := hw
  refine lv_aload_n F.1 F.2.1 dX6_init_0 rfl (lv_at hl 0 rfl) ?_
  refine g_obj F hl.1 (by decide +kernel) (by decide +kernel) (List.mem_of_getElem? (i := 3) rfl) (Nat.le_of_ble_eq_true rfl) (Nat.le_of_ble_eq_true rfl) dX6_init_1 ?_
  refine lv_aload_n F.1 F.2.1 dX6_init_4 rfl (lv_at hl 0 rfl) ?_
  refine bi_bipush F dX6_init_5 (by decide) ?_
  refine g_newI F hw 35 (by decide) (by decide) (by decide +kernel) (Nat.le_of_ble_eq_true rfl) (Nat.le_of_ble_eq_true rfl) dX6_init_7 (fun q0 H hw => ?_)
  have hw : gH E A0 H0 s [(h0, Sum.inr (6, [.null])), (q0, Sum.inl (eI E, 35, Sum.inl (fun _ : Nat => iI 0)))] H locs := hw
  refine g_putF (w1 := [(h0, Sum.inr (6, [.ref q0])), (q0, Sum.inl (eI E, 35, Sum.inl (fun _ : Nat => iI 0)))]) (ref := "SnowDays$Standing") (ty := (.array .int)) F hi hw 6 hin6 tyX6 tyX6_ok nmX6 0 rfl rfl 0 (by decide) (by decide +kernel) rfl rfl rfl (by decide +kernel) rfl rfl (Nat.le_of_ble_eq_true rfl) rfl dX6_init_9 (fun H locs hw => ?_)
  exact hret (fun k => ([q0] : List Nat).getD k 0) H locs _ _ hw dX6_init_12
set_option maxRecDepth 100000 in
set_option maxHeartbeats 4000000 in
theorem i_X3 (l : Launch) (E : Ev) (h0 : Nat) : MetC l yX3_init wsX3_init ({ frames := 1, cells := 1, slots := 700, locals := 12 } : Room) E [.ref h0] [(h0, Sum.inr (3, [.int (iI 0), .null, .int (iI 0)]))] (fun u : Nat → Nat => [(h0, Sum.inr (3, [.int (iI 0), .ref (u 0), .int (iI 0)])), (u 0, Sum.inl (eI E, 700, Sum.inl (fun _ : Nat => iI 0)))]) 1 700 := by
  have hin3 : ∀ w ∈ wsX30, w ∈ wsX3_init := by decide +kernel
  refine met_C (cc := cX3_init) (nL := 1) (by decide) rfl rfl (Nat.le_of_ble_eq_true rfl) ?_
  intro p e s m args below meth c Q H0 A0 H locs ls F hi hw hl hret
  have F : CallFix p m c cX3_init 1 s args wsX3_init RX3 := F
  have hl : lv_has ls 1 [(0, .ref h0)] := hl
  have hw : gH E A0 H0 s [(h0, Sum.inr (3, [.int (iI 0), .null, .int (iI 0)]))] H locs := hw
  refine lv_aload_n F.1 F.2.1 dX3_init_0 rfl (lv_at hl 0 rfl) ?_
  refine g_obj F hl.1 (by decide +kernel) (by decide +kernel) (List.mem_of_getElem? (i := 3) rfl) (Nat.le_of_ble_eq_true rfl) (Nat.le_of_ble_eq_true rfl) dX3_init_1 ?_
  refine lv_aload_n F.1 F.2.1 dX3_init_4 rfl (lv_at hl 0 rfl) ?_
  refine bi_iconst F dX3_init_5 ?_
  refine g_putI (w1 := [(h0, Sum.inr (3, [.int (iI 0), .null, .int (iI 0)]))]) (ref := "SnowDays$Past") F hw 3 hin3 tyX3 tyX3_ok nmX3 0 rfl rfl 0 (by decide) (by decide +kernel) rfl rfl (by decide +kernel) (Nat.le_of_ble_eq_true rfl) rfl dX3_init_6 (fun H locs hw => ?_)
  refine lv_aload_n F.1 F.2.1 dX3_init_9 rfl (lv_at hl 0 rfl) ?_
  refine bi_sipush F dX3_init_10 (by decide) ?_
  refine g_newI F hw 700 (by decide) (by decide) (by decide +kernel) (Nat.le_of_ble_eq_true rfl) (Nat.le_of_ble_eq_true rfl) dX3_init_13 (fun q0 H hw => ?_)
  have hw : gH E A0 H0 s [(h0, Sum.inr (3, [.int (iI 0), .null, .int (iI 0)])), (q0, Sum.inl (eI E, 700, Sum.inl (fun _ : Nat => iI 0)))] H locs := hw
  refine g_putF (w1 := [(h0, Sum.inr (3, [.int (iI 0), .ref q0, .int (iI 0)])), (q0, Sum.inl (eI E, 700, Sum.inl (fun _ : Nat => iI 0)))]) (ref := "SnowDays$Past") (ty := (.array .int)) F hi hw 3 hin3 tyX3 tyX3_ok nmX3 0 rfl rfl 1 (by decide) (by decide +kernel) rfl rfl rfl (by decide +kernel) rfl rfl (Nat.le_of_ble_eq_true rfl) rfl dX3_init_15 (fun H locs hw => ?_)
  refine lv_aload_n F.1 F.2.1 dX3_init_18 rfl (lv_at hl 0 rfl) ?_
  refine bi_iconst F dX3_init_19 ?_
  refine g_putI (w1 := [(h0, Sum.inr (3, [.int (iI 0), .ref q0, .int (iI 0)])), (q0, Sum.inl (eI E, 700, Sum.inl (fun _ : Nat => iI 0)))]) (ref := "SnowDays$Past") F hw 3 hin3 tyX3 tyX3_ok nmX3 0 rfl rfl 2 (by decide) (by decide +kernel) rfl rfl (by decide +kernel) (Nat.le_of_ble_eq_true rfl) rfl dX3_init_20 (fun H locs hw => ?_)
  exact hret (fun k => ([q0] : List Nat).getD k 0) H locs _ _ hw dX3_init_23
set_option maxRecDepth 100000 in
set_option maxHeartbeats 4000000 in
theorem i_X2 (l : Launch) (E : Ev) (h0 : Nat) : MetC l yX2_init wsX2_init ({ frames := 1, cells := 3, slots := 74, locals := 12 } : Room) E [.ref h0] [(h0, Sum.inr (2, [.null, .null, .null]))] (fun u : Nat → Nat => [(h0, Sum.inr (2, [.ref (u 0), .ref (u 1), .ref (u 2)])), (u 0, Sum.inl (eZ E, 2, Sum.inl (fun _ : Nat => iI 0))), (u 1, Sum.inl (eI E, 2, Sum.inl (fun _ : Nat => iI 0))), (u 2, Sum.inl (eI E, 70, Sum.inl (fun _ : Nat => iI 0)))]) 3 74 := by
  have hin2 : ∀ w ∈ wsX20, w ∈ wsX2_init := by decide +kernel
  refine met_C (cc := cX2_init) (nL := 1) (by decide) rfl rfl (Nat.le_of_ble_eq_true rfl) ?_
  intro p e s m args below meth c Q H0 A0 H locs ls F hi hw hl hret
  have F : CallFix p m c cX2_init 1 s args wsX2_init RX2 := F
  have hl : lv_has ls 1 [(0, .ref h0)] := hl
  have hw : gH E A0 H0 s [(h0, Sum.inr (2, [.null, .null, .null]))] H locs := hw
  refine lv_aload_n F.1 F.2.1 dX2_init_0 rfl (lv_at hl 0 rfl) ?_
  refine g_obj F hl.1 (by decide +kernel) (by decide +kernel) (List.mem_of_getElem? (i := 3) rfl) (Nat.le_of_ble_eq_true rfl) (Nat.le_of_ble_eq_true rfl) dX2_init_1 ?_
  refine lv_aload_n F.1 F.2.1 dX2_init_4 rfl (lv_at hl 0 rfl) ?_
  refine bi_iconst F dX2_init_5 ?_
  refine g_newZ F hw 2 (by decide) (by decide) (by decide +kernel) (Nat.le_of_ble_eq_true rfl) (Nat.le_of_ble_eq_true rfl) dX2_init_6 (fun q0 H hw => ?_)
  have hw : gH E A0 H0 s [(h0, Sum.inr (2, [.null, .null, .null])), (q0, Sum.inl (eZ E, 2, Sum.inl (fun _ : Nat => iI 0)))] H locs := hw
  refine g_putF (w1 := [(h0, Sum.inr (2, [.ref q0, .null, .null])), (q0, Sum.inl (eZ E, 2, Sum.inl (fun _ : Nat => iI 0)))]) (ref := "SnowDays$Images") (ty := (.array .boolean)) F hi hw 2 hin2 tyX2 tyX2_ok nmX2 0 rfl rfl 0 (by decide) (by decide +kernel) rfl rfl rfl (by decide +kernel) rfl rfl (Nat.le_of_ble_eq_true rfl) rfl dX2_init_8 (fun H locs hw => ?_)
  refine lv_aload_n F.1 F.2.1 dX2_init_11 rfl (lv_at hl 0 rfl) ?_
  refine bi_iconst F dX2_init_12 ?_
  refine g_newI F hw 2 (by decide) (by decide) (by decide +kernel) (Nat.le_of_ble_eq_true rfl) (Nat.le_of_ble_eq_true rfl) dX2_init_13 (fun q1 H hw => ?_)
  have hw : gH E A0 H0 s [(h0, Sum.inr (2, [.ref q0, .null, .null])), (q0, Sum.inl (eZ E, 2, Sum.inl (fun _ : Nat => iI 0))), (q1, Sum.inl (eI E, 2, Sum.inl (fun _ : Nat => iI 0)))] H locs := hw
  refine g_putF (w1 := [(h0, Sum.inr (2, [.ref q0, .ref q1, .null])), (q0, Sum.inl (eZ E, 2, Sum.inl (fun _ : Nat => iI 0))), (q1, Sum.inl (eI E, 2, Sum.inl (fun _ : Nat => iI 0)))]) (ref := "SnowDays$Images") (ty := (.array .int)) F hi hw 2 hin2 tyX2 tyX2_ok nmX2 0 rfl rfl 1 (by decide) (by decide +kernel) rfl rfl rfl (by decide +kernel) rfl rfl (Nat.le_of_ble_eq_true rfl) rfl dX2_init_15 (fun H locs hw => ?_)
  refine lv_aload_n F.1 F.2.1 dX2_init_18 rfl (lv_at hl 0 rfl) ?_
  refine bi_bipush F dX2_init_19 (by decide) ?_
  refine g_newI F hw 70 (by decide) (by decide) (by decide +kernel) (Nat.le_of_ble_eq_true rfl) (Nat.le_of_ble_eq_true rfl) dX2_init_21 (fun q2 H hw => ?_)
  have hw : gH E A0 H0 s [(h0, Sum.inr (2, [.ref q0, .ref q1, .null])), (q0, Sum.inl (eZ E, 2, Sum.inl (fun _ : Nat => iI 0))), (q1, Sum.inl (eI E, 2, Sum.inl (fun _ : Nat => iI 0))), (q2, Sum.inl (eI E, 70, Sum.inl (fun _ : Nat => iI 0)))] H locs := hw
  refine g_putF (w1 := [(h0, Sum.inr (2, [.ref q0, .ref q1, .ref q2])), (q0, Sum.inl (eZ E, 2, Sum.inl (fun _ : Nat => iI 0))), (q1, Sum.inl (eI E, 2, Sum.inl (fun _ : Nat => iI 0))), (q2, Sum.inl (eI E, 70, Sum.inl (fun _ : Nat => iI 0)))]) (ref := "SnowDays$Images") (ty := (.array .int)) F hi hw 2 hin2 tyX2 tyX2_ok nmX2 0 rfl rfl 2 (by decide) (by decide +kernel) rfl rfl rfl (by decide +kernel) rfl rfl (Nat.le_of_ble_eq_true rfl) rfl dX2_init_23 (fun H locs hw => ?_)
  exact hret (fun k => ([q0, q1, q2] : List Nat).getD k 0) H locs _ _ hw dX2_init_26
set_option maxRecDepth 100000 in
set_option maxHeartbeats 4000000 in
theorem i_X1 (l : Launch) (E : Ev) (h0 : Nat) : MetC l yX1_init wsX1_init ({ frames := 1, cells := 0, slots := 0, locals := 12 } : Room) E [.ref h0] [(h0, Sum.inr (1, [.int (iI 0)]))] (fun u : Nat → Nat => [(h0, Sum.inr (1, [.int (iI 0)]))]) 0 0 := by
  have hin1 : ∀ w ∈ wsX10, w ∈ wsX1_init := by decide +kernel
  refine met_C (cc := cX1_init) (nL := 1) (by decide) rfl rfl (Nat.le_of_ble_eq_true rfl) ?_
  intro p e s m args below meth c Q H0 A0 H locs ls F hi hw hl hret
  have F : CallFix p m c cX1_init 1 s args wsX1_init RX1 := F
  have hl : lv_has ls 1 [(0, .ref h0)] := hl
  have hw : gH E A0 H0 s [(h0, Sum.inr (1, [.int (iI 0)]))] H locs := hw
  refine lv_aload_n F.1 F.2.1 dX1_init_0 rfl (lv_at hl 0 rfl) ?_
  refine g_obj F hl.1 (by decide +kernel) (by decide +kernel) (List.mem_of_getElem? (i := 3) rfl) (Nat.le_of_ble_eq_true rfl) (Nat.le_of_ble_eq_true rfl) dX1_init_1 ?_
  refine lv_aload_n F.1 F.2.1 dX1_init_4 rfl (lv_at hl 0 rfl) ?_
  refine bi_iconst F dX1_init_5 ?_
  refine g_putI (w1 := [(h0, Sum.inr (1, [.int (iI 0)]))]) (ref := "SnowDays$Dice") F hw 1 hin1 tyX1 tyX1_ok nmX1 0 rfl rfl 0 (by decide) (by decide +kernel) rfl rfl (by decide +kernel) (Nat.le_of_ble_eq_true rfl) rfl dX1_init_6 (fun H locs hw => ?_)
  exact hret (fun k => ([] : List Nat).getD k 0) H locs _ _ hw dX1_init_9
set_option maxRecDepth 100000 in
set_option maxHeartbeats 4000000 in
theorem i_X8 (l : Launch) (E : Ev) (h0 : Nat) (r1 r2 : Nat) : MetC l yX8_init wsX8_init ({ frames := 1, cells := 2, slots := 1004, locals := 12 } : Room) E [.ref h0, .ref r1, .ref r2] [(h0, Sum.inr (8, [.null, .null, .null, .null]))] (fun u : Nat → Nat => [(h0, Sum.inr (8, [.ref r1, .ref r2, .ref (u 0), .ref (u 1)])), (u 0, Sum.inl (eI E, 1000, Sum.inl (fun _ : Nat => iI 0))), (u 1, Sum.inl (eL E, 4, Sum.inr (Sum.inl (fun _ : Nat => (0 : Int64)))))]) 2 1004 := by
  have hin8 : ∀ w ∈ wsX80, w ∈ wsX8_init := by decide +kernel
  refine met_C (cc := cX8_init) (nL := 3) (by decide) rfl rfl (Nat.le_of_ble_eq_true rfl) ?_
  intro p e s m args below meth c Q H0 A0 H locs ls F hi hw hl hret
  have F : CallFix p m c cX8_init 3 s args wsX8_init RX8 := F
  have hl : lv_has ls 3 [(0, .ref h0), (1, .ref r1), (2, .ref r2)] := hl
  have hw : gH E A0 H0 s [(h0, Sum.inr (8, [.null, .null, .null, .null]))] H locs := hw
  refine lv_aload_n F.1 F.2.1 dX8_init_0 rfl (lv_at hl 0 rfl) ?_
  refine g_obj F hl.1 (by decide +kernel) (by decide +kernel) (List.mem_of_getElem? (i := 3) rfl) (Nat.le_of_ble_eq_true rfl) (Nat.le_of_ble_eq_true rfl) dX8_init_1 ?_
  refine lv_aload_n F.1 F.2.1 dX8_init_4 rfl (lv_at hl 0 rfl) ?_
  refine bi_sipush F dX8_init_5 (by decide) ?_
  refine g_newI F hw 1000 (by decide) (by decide) (by decide +kernel) (Nat.le_of_ble_eq_true rfl) (Nat.le_of_ble_eq_true rfl) dX8_init_8 (fun q0 H hw => ?_)
  have hw : gH E A0 H0 s [(h0, Sum.inr (8, [.null, .null, .null, .null])), (q0, Sum.inl (eI E, 1000, Sum.inl (fun _ : Nat => iI 0)))] H locs := hw
  refine g_putF (w1 := [(h0, Sum.inr (8, [.null, .null, .ref q0, .null])), (q0, Sum.inl (eI E, 1000, Sum.inl (fun _ : Nat => iI 0)))]) (ref := "SnowDays$Trial") (ty := (.array .int)) F hi hw 8 hin8 tyX8 tyX8_ok nmX8 0 rfl rfl 2 (by decide) (by decide +kernel) rfl rfl rfl (by decide +kernel) rfl rfl (Nat.le_of_ble_eq_true rfl) rfl dX8_init_10 (fun H locs hw => ?_)
  refine lv_aload_n F.1 F.2.1 dX8_init_13 rfl (lv_at hl 0 rfl) ?_
  refine bi_iconst F dX8_init_14 ?_
  refine g_newL F hw 4 (by decide) (by decide) (by decide +kernel) (Nat.le_of_ble_eq_true rfl) (Nat.le_of_ble_eq_true rfl) dX8_init_15 (fun q1 H hw => ?_)
  have hw : gH E A0 H0 s [(h0, Sum.inr (8, [.null, .null, .ref q0, .null])), (q0, Sum.inl (eI E, 1000, Sum.inl (fun _ : Nat => iI 0))), (q1, Sum.inl (eL E, 4, Sum.inr (Sum.inl (fun _ : Nat => (0 : Int64)))))] H locs := hw
  refine g_putF (w1 := [(h0, Sum.inr (8, [.null, .null, .ref q0, .ref q1])), (q0, Sum.inl (eI E, 1000, Sum.inl (fun _ : Nat => iI 0))), (q1, Sum.inl (eL E, 4, Sum.inr (Sum.inl (fun _ : Nat => (0 : Int64)))))]) (ref := "SnowDays$Trial") (ty := (.array .long)) F hi hw 8 hin8 tyX8 tyX8_ok nmX8 0 rfl rfl 3 (by decide) (by decide +kernel) rfl rfl rfl (by decide +kernel) rfl rfl (Nat.le_of_ble_eq_true rfl) rfl dX8_init_17 (fun H locs hw => ?_)
  refine lv_aload_n F.1 F.2.1 dX8_init_20 rfl (lv_at hl 0 rfl) ?_
  refine lv_aload_n F.1 F.2.1 dX8_init_21 rfl (lv_at hl 1 rfl) ?_
  refine g_putF (w1 := [(h0, Sum.inr (8, [.ref r1, .null, .ref q0, .ref q1])), (q0, Sum.inl (eI E, 1000, Sum.inl (fun _ : Nat => iI 0))), (q1, Sum.inl (eL E, 4, Sum.inr (Sum.inl (fun _ : Nat => (0 : Int64)))))]) (ref := "SnowDays$Trial") (ty := (.object "SnowDays$Tale")) F hi hw 8 hin8 tyX8 tyX8_ok nmX8 0 rfl rfl 0 (by decide) (by decide +kernel) rfl rfl rfl (by decide +kernel) rfl rfl (Nat.le_of_ble_eq_true rfl) rfl dX8_init_22 (fun H locs hw => ?_)
  refine lv_aload_n F.1 F.2.1 dX8_init_25 rfl (lv_at hl 0 rfl) ?_
  refine lv_aload_n F.1 F.2.1 dX8_init_26 rfl (lv_at hl 2 rfl) ?_
  refine g_putF (w1 := [(h0, Sum.inr (8, [.ref r1, .ref r2, .ref q0, .ref q1])), (q0, Sum.inl (eI E, 1000, Sum.inl (fun _ : Nat => iI 0))), (q1, Sum.inl (eL E, 4, Sum.inr (Sum.inl (fun _ : Nat => (0 : Int64)))))]) (ref := "SnowDays$Trial") (ty := (.object "SnowDays$Standing")) F hi hw 8 hin8 tyX8 tyX8_ok nmX8 0 rfl rfl 1 (by decide) (by decide +kernel) rfl rfl rfl (by decide +kernel) rfl rfl (Nat.le_of_ble_eq_true rfl) rfl dX8_init_27 (fun H locs hw => ?_)
  exact hret (fun k => ([q0, q1] : List Nat).getD k 0) H locs _ _ hw dX8_init_30
set_option maxRecDepth 100000 in
set_option maxHeartbeats 4000000 in
theorem i_X5 (l : Launch) (E : Ev) (h0 : Nat) (r1 r2 : Nat) : MetC l yX5_init wsX5_init ({ frames := 1, cells := 4, slots := 92, locals := 12 } : Room) E [.ref h0, .ref r1, .ref r2] [(h0, Sum.inr (5, [.int (iI 0), .null, .null, .null, .null, .null, .null]))] (fun u : Nat → Nat => [(h0, Sum.inr (5, [.int (iI 0), .ref r1, .ref r2, .ref (u 0), .ref (u 1), .ref (u 2), .ref (u 3)])), (u 0, Sum.inl (eI E, 6, Sum.inl (fun _ : Nat => iI 0))), (u 1, Sum.inl (eI E, 6, Sum.inl (fun _ : Nat => iI 0))), (u 2, Sum.inl (eI E, 40, Sum.inl (fun _ : Nat => iI 0))), (u 3, Sum.inl (eI E, 40, Sum.inl (fun _ : Nat => iI 0)))]) 4 92 := by
  have hin5 : ∀ w ∈ wsX50, w ∈ wsX5_init := by decide +kernel
  refine met_C (cc := cX5_init) (nL := 3) (by decide) rfl rfl (Nat.le_of_ble_eq_true rfl) ?_
  intro p e s m args below meth c Q H0 A0 H locs ls F hi hw hl hret
  have F : CallFix p m c cX5_init 3 s args wsX5_init RX5 := F
  have hl : lv_has ls 3 [(0, .ref h0), (1, .ref r1), (2, .ref r2)] := hl
  have hw : gH E A0 H0 s [(h0, Sum.inr (5, [.int (iI 0), .null, .null, .null, .null, .null, .null]))] H locs := hw
  refine lv_aload_n F.1 F.2.1 dX5_init_0 rfl (lv_at hl 0 rfl) ?_
  refine g_obj F hl.1 (by decide +kernel) (by decide +kernel) (List.mem_of_getElem? (i := 3) rfl) (Nat.le_of_ble_eq_true rfl) (Nat.le_of_ble_eq_true rfl) dX5_init_1 ?_
  refine lv_aload_n F.1 F.2.1 dX5_init_4 rfl (lv_at hl 0 rfl) ?_
  refine bi_iconst F dX5_init_5 ?_
  refine g_putI (w1 := [(h0, Sum.inr (5, [.int (iI 0), .null, .null, .null, .null, .null, .null]))]) (ref := "SnowDays$Sayings") F hw 5 hin5 tyX5 tyX5_ok nmX5 0 rfl rfl 0 (by decide) (by decide +kernel) rfl rfl (by decide +kernel) (Nat.le_of_ble_eq_true rfl) rfl dX5_init_6 (fun H locs hw => ?_)
  refine lv_aload_n F.1 F.2.1 dX5_init_9 rfl (lv_at hl 0 rfl) ?_
  refine bi_bipush F dX5_init_10 (by decide) ?_
  refine g_newI F hw 6 (by decide) (by decide) (by decide +kernel) (Nat.le_of_ble_eq_true rfl) (Nat.le_of_ble_eq_true rfl) dX5_init_12 (fun q0 H hw => ?_)
  have hw : gH E A0 H0 s [(h0, Sum.inr (5, [.int (iI 0), .null, .null, .null, .null, .null, .null])), (q0, Sum.inl (eI E, 6, Sum.inl (fun _ : Nat => iI 0)))] H locs := hw
  refine g_putF (w1 := [(h0, Sum.inr (5, [.int (iI 0), .null, .null, .ref q0, .null, .null, .null])), (q0, Sum.inl (eI E, 6, Sum.inl (fun _ : Nat => iI 0)))]) (ref := "SnowDays$Sayings") (ty := (.array .int)) F hi hw 5 hin5 tyX5 tyX5_ok nmX5 0 rfl rfl 3 (by decide) (by decide +kernel) rfl rfl rfl (by decide +kernel) rfl rfl (Nat.le_of_ble_eq_true rfl) rfl dX5_init_14 (fun H locs hw => ?_)
  refine lv_aload_n F.1 F.2.1 dX5_init_17 rfl (lv_at hl 0 rfl) ?_
  refine bi_bipush F dX5_init_18 (by decide) ?_
  refine g_newI F hw 6 (by decide) (by decide) (by decide +kernel) (Nat.le_of_ble_eq_true rfl) (Nat.le_of_ble_eq_true rfl) dX5_init_20 (fun q1 H hw => ?_)
  have hw : gH E A0 H0 s [(h0, Sum.inr (5, [.int (iI 0), .null, .null, .ref q0, .null, .null, .null])), (q0, Sum.inl (eI E, 6, Sum.inl (fun _ : Nat => iI 0))), (q1, Sum.inl (eI E, 6, Sum.inl (fun _ : Nat => iI 0)))] H locs := hw
  refine g_putF (w1 := [(h0, Sum.inr (5, [.int (iI 0), .null, .null, .ref q0, .ref q1, .null, .null])), (q0, Sum.inl (eI E, 6, Sum.inl (fun _ : Nat => iI 0))), (q1, Sum.inl (eI E, 6, Sum.inl (fun _ : Nat => iI 0)))]) (ref := "SnowDays$Sayings") (ty := (.array .int)) F hi hw 5 hin5 tyX5 tyX5_ok nmX5 0 rfl rfl 4 (by decide) (by decide +kernel) rfl rfl rfl (by decide +kernel) rfl rfl (Nat.le_of_ble_eq_true rfl) rfl dX5_init_22 (fun H locs hw => ?_)
  refine lv_aload_n F.1 F.2.1 dX5_init_25 rfl (lv_at hl 0 rfl) ?_
  refine bi_bipush F dX5_init_26 (by decide) ?_
  refine g_newI F hw 40 (by decide) (by decide) (by decide +kernel) (Nat.le_of_ble_eq_true rfl) (Nat.le_of_ble_eq_true rfl) dX5_init_28 (fun q2 H hw => ?_)
  have hw : gH E A0 H0 s [(h0, Sum.inr (5, [.int (iI 0), .null, .null, .ref q0, .ref q1, .null, .null])), (q0, Sum.inl (eI E, 6, Sum.inl (fun _ : Nat => iI 0))), (q1, Sum.inl (eI E, 6, Sum.inl (fun _ : Nat => iI 0))), (q2, Sum.inl (eI E, 40, Sum.inl (fun _ : Nat => iI 0)))] H locs := hw
  refine g_putF (w1 := [(h0, Sum.inr (5, [.int (iI 0), .null, .null, .ref q0, .ref q1, .ref q2, .null])), (q0, Sum.inl (eI E, 6, Sum.inl (fun _ : Nat => iI 0))), (q1, Sum.inl (eI E, 6, Sum.inl (fun _ : Nat => iI 0))), (q2, Sum.inl (eI E, 40, Sum.inl (fun _ : Nat => iI 0)))]) (ref := "SnowDays$Sayings") (ty := (.array .int)) F hi hw 5 hin5 tyX5 tyX5_ok nmX5 0 rfl rfl 5 (by decide) (by decide +kernel) rfl rfl rfl (by decide +kernel) rfl rfl (Nat.le_of_ble_eq_true rfl) rfl dX5_init_30 (fun H locs hw => ?_)
  refine lv_aload_n F.1 F.2.1 dX5_init_33 rfl (lv_at hl 0 rfl) ?_
  refine bi_bipush F dX5_init_34 (by decide) ?_
  refine g_newI F hw 40 (by decide) (by decide) (by decide +kernel) (Nat.le_of_ble_eq_true rfl) (Nat.le_of_ble_eq_true rfl) dX5_init_36 (fun q3 H hw => ?_)
  have hw : gH E A0 H0 s [(h0, Sum.inr (5, [.int (iI 0), .null, .null, .ref q0, .ref q1, .ref q2, .null])), (q0, Sum.inl (eI E, 6, Sum.inl (fun _ : Nat => iI 0))), (q1, Sum.inl (eI E, 6, Sum.inl (fun _ : Nat => iI 0))), (q2, Sum.inl (eI E, 40, Sum.inl (fun _ : Nat => iI 0))), (q3, Sum.inl (eI E, 40, Sum.inl (fun _ : Nat => iI 0)))] H locs := hw
  refine g_putF (w1 := [(h0, Sum.inr (5, [.int (iI 0), .null, .null, .ref q0, .ref q1, .ref q2, .ref q3])), (q0, Sum.inl (eI E, 6, Sum.inl (fun _ : Nat => iI 0))), (q1, Sum.inl (eI E, 6, Sum.inl (fun _ : Nat => iI 0))), (q2, Sum.inl (eI E, 40, Sum.inl (fun _ : Nat => iI 0))), (q3, Sum.inl (eI E, 40, Sum.inl (fun _ : Nat => iI 0)))]) (ref := "SnowDays$Sayings") (ty := (.array .int)) F hi hw 5 hin5 tyX5 tyX5_ok nmX5 0 rfl rfl 6 (by decide) (by decide +kernel) rfl rfl rfl (by decide +kernel) rfl rfl (Nat.le_of_ble_eq_true rfl) rfl dX5_init_38 (fun H locs hw => ?_)
  refine lv_aload_n F.1 F.2.1 dX5_init_41 rfl (lv_at hl 0 rfl) ?_
  refine lv_aload_n F.1 F.2.1 dX5_init_42 rfl (lv_at hl 1 rfl) ?_
  refine g_putF (w1 := [(h0, Sum.inr (5, [.int (iI 0), .ref r1, .null, .ref q0, .ref q1, .ref q2, .ref q3])), (q0, Sum.inl (eI E, 6, Sum.inl (fun _ : Nat => iI 0))), (q1, Sum.inl (eI E, 6, Sum.inl (fun _ : Nat => iI 0))), (q2, Sum.inl (eI E, 40, Sum.inl (fun _ : Nat => iI 0))), (q3, Sum.inl (eI E, 40, Sum.inl (fun _ : Nat => iI 0)))]) (ref := "SnowDays$Sayings") (ty := (.object "SnowDays$Tale")) F hi hw 5 hin5 tyX5 tyX5_ok nmX5 0 rfl rfl 1 (by decide) (by decide +kernel) rfl rfl rfl (by decide +kernel) rfl rfl (Nat.le_of_ble_eq_true rfl) rfl dX5_init_43 (fun H locs hw => ?_)
  refine lv_aload_n F.1 F.2.1 dX5_init_46 rfl (lv_at hl 0 rfl) ?_
  refine lv_aload_n F.1 F.2.1 dX5_init_47 rfl (lv_at hl 2 rfl) ?_
  refine g_putF (w1 := [(h0, Sum.inr (5, [.int (iI 0), .ref r1, .ref r2, .ref q0, .ref q1, .ref q2, .ref q3])), (q0, Sum.inl (eI E, 6, Sum.inl (fun _ : Nat => iI 0))), (q1, Sum.inl (eI E, 6, Sum.inl (fun _ : Nat => iI 0))), (q2, Sum.inl (eI E, 40, Sum.inl (fun _ : Nat => iI 0))), (q3, Sum.inl (eI E, 40, Sum.inl (fun _ : Nat => iI 0)))]) (ref := "SnowDays$Sayings") (ty := (.object "SnowDays$Standing")) F hi hw 5 hin5 tyX5 tyX5_ok nmX5 0 rfl rfl 2 (by decide) (by decide +kernel) rfl rfl rfl (by decide +kernel) rfl rfl (Nat.le_of_ble_eq_true rfl) rfl dX5_init_48 (fun H locs hw => ?_)
  exact hret (fun k => ([q0, q1, q2, q3] : List Nat).getD k 0) H locs _ _ hw dX5_init_51
set_option maxRecDepth 100000 in
set_option maxHeartbeats 4000000 in
theorem i_X0 (l : Launch) (E : Ev) (h0 : Nat) (r1 : Nat) : MetC l yX0_init wsX0_init ({ frames := 1, cells := 2, slots := 30, locals := 12 } : Room) E [.ref h0, .ref r1] [(h0, Sum.inr (0, [.int (iI 0), .null, .null, .null]))] (fun u : Nat → Nat => [(h0, Sum.inr (0, [.int (iI 0), .ref r1, .ref (u 0), .ref (u 1)])), (u 0, Sum.inl (eI E, 15, Sum.inl (fun _ : Nat => iI 0))), (u 1, Sum.inl (eI E, 15, Sum.inl (fun _ : Nat => iI 0)))]) 2 30 := by
  have hin0 : ∀ w ∈ wsX00, w ∈ wsX0_init := by decide +kernel
  refine met_C (cc := cX0_init) (nL := 2) (by decide) rfl rfl (Nat.le_of_ble_eq_true rfl) ?_
  intro p e s m args below meth c Q H0 A0 H locs ls F hi hw hl hret
  have F : CallFix p m c cX0_init 2 s args wsX0_init RX0 := F
  have hl : lv_has ls 2 [(0, .ref h0), (1, .ref r1)] := hl
  have hw : gH E A0 H0 s [(h0, Sum.inr (0, [.int (iI 0), .null, .null, .null]))] H locs := hw
  refine lv_aload_n F.1 F.2.1 dX0_init_0 rfl (lv_at hl 0 rfl) ?_
  refine g_obj F hl.1 (by decide +kernel) (by decide +kernel) (List.mem_of_getElem? (i := 3) rfl) (Nat.le_of_ble_eq_true rfl) (Nat.le_of_ble_eq_true rfl) dX0_init_1 ?_
  refine lv_aload_n F.1 F.2.1 dX0_init_4 rfl (lv_at hl 0 rfl) ?_
  refine bi_iconst F dX0_init_5 ?_
  refine g_putI (w1 := [(h0, Sum.inr (0, [.int (iI 0), .null, .null, .null]))]) (ref := "SnowDays$Book") F hw 0 hin0 tyX0 tyX0_ok nmX0 0 rfl rfl 0 (by decide) (by decide +kernel) rfl rfl (by decide +kernel) (Nat.le_of_ble_eq_true rfl) rfl dX0_init_6 (fun H locs hw => ?_)
  refine lv_aload_n F.1 F.2.1 dX0_init_9 rfl (lv_at hl 0 rfl) ?_
  refine bi_bipush F dX0_init_10 (by decide) ?_
  refine g_newI F hw 15 (by decide) (by decide) (by decide +kernel) (Nat.le_of_ble_eq_true rfl) (Nat.le_of_ble_eq_true rfl) dX0_init_12 (fun q0 H hw => ?_)
  have hw : gH E A0 H0 s [(h0, Sum.inr (0, [.int (iI 0), .null, .null, .null])), (q0, Sum.inl (eI E, 15, Sum.inl (fun _ : Nat => iI 0)))] H locs := hw
  refine g_putF (w1 := [(h0, Sum.inr (0, [.int (iI 0), .null, .ref q0, .null])), (q0, Sum.inl (eI E, 15, Sum.inl (fun _ : Nat => iI 0)))]) (ref := "SnowDays$Book") (ty := (.array .int)) F hi hw 0 hin0 tyX0 tyX0_ok nmX0 0 rfl rfl 2 (by decide) (by decide +kernel) rfl rfl rfl (by decide +kernel) rfl rfl (Nat.le_of_ble_eq_true rfl) rfl dX0_init_14 (fun H locs hw => ?_)
  refine lv_aload_n F.1 F.2.1 dX0_init_17 rfl (lv_at hl 0 rfl) ?_
  refine bi_bipush F dX0_init_18 (by decide) ?_
  refine g_newI F hw 15 (by decide) (by decide) (by decide +kernel) (Nat.le_of_ble_eq_true rfl) (Nat.le_of_ble_eq_true rfl) dX0_init_20 (fun q1 H hw => ?_)
  have hw : gH E A0 H0 s [(h0, Sum.inr (0, [.int (iI 0), .null, .ref q0, .null])), (q0, Sum.inl (eI E, 15, Sum.inl (fun _ : Nat => iI 0))), (q1, Sum.inl (eI E, 15, Sum.inl (fun _ : Nat => iI 0)))] H locs := hw
  refine g_putF (w1 := [(h0, Sum.inr (0, [.int (iI 0), .null, .ref q0, .ref q1])), (q0, Sum.inl (eI E, 15, Sum.inl (fun _ : Nat => iI 0))), (q1, Sum.inl (eI E, 15, Sum.inl (fun _ : Nat => iI 0)))]) (ref := "SnowDays$Book") (ty := (.array .int)) F hi hw 0 hin0 tyX0 tyX0_ok nmX0 0 rfl rfl 3 (by decide) (by decide +kernel) rfl rfl rfl (by decide +kernel) rfl rfl (Nat.le_of_ble_eq_true rfl) rfl dX0_init_22 (fun H locs hw => ?_)
  refine lv_aload_n F.1 F.2.1 dX0_init_25 rfl (lv_at hl 0 rfl) ?_
  refine lv_aload_n F.1 F.2.1 dX0_init_26 rfl (lv_at hl 1 rfl) ?_
  refine g_putF (w1 := [(h0, Sum.inr (0, [.int (iI 0), .ref r1, .ref q0, .ref q1])), (q0, Sum.inl (eI E, 15, Sum.inl (fun _ : Nat => iI 0))), (q1, Sum.inl (eI E, 15, Sum.inl (fun _ : Nat => iI 0)))]) (ref := "SnowDays$Book") (ty := (.object "SnowDays$Standing")) F hi hw 0 hin0 tyX0 tyX0_ok nmX0 0 rfl rfl 1 (by decide) (by decide +kernel) rfl rfl rfl (by decide +kernel) rfl rfl (Nat.le_of_ble_eq_true rfl) rfl dX0_init_27 (fun H locs hw => ?_)
  exact hret (fun k => ([q0, q1] : List Nat).getD k 0) H locs _ _ hw dX0_init_30
set_option maxRecDepth 100000 in
set_option maxHeartbeats 4000000 in
theorem i_X4 (l : Launch) (E : Ev) (h0 : Nat) (r1 : Nat) : MetC l yX4_init wsX4_init ({ frames := 2, cells := 9, slots := 66, locals := 32 } : Room) E [.ref h0, .ref r1] [(h0, Sum.inr (4, [.null, .int (iI 0), .null, .int (iI 0), .int (iI 0), .int (iI 0)]))] (fun u : Nat → Nat => [(h0, Sum.inr (4, [.ref (u 0), .int (iI (-1)), .ref r1, .int (iI 0), .int (iI 0), .int (iI 0)])), (u 0, Sum.inr (7, [.ref (u 1), .ref (u 2), .ref (u 3), .ref (u 4), .ref (u 5), .ref (u 6), .ref (u 7), .ref (u 8), .int (iI 0), .int (iI 0), .int (iI 0), .int (iI 0)])), (u 1, Sum.inl (eI E, 20, Sum.inl (fun _ : Nat => iI 0))), (u 2, Sum.inl (eI E, 4, Sum.inl (fun _ : Nat => iI 0))), (u 3, Sum.inl (eI E, 4, Sum.inl (fun _ : Nat => iI 0))), (u 4, Sum.inl (eI E, 4, Sum.inl (fun _ : Nat => iI 0))), (u 5, Sum.inl (eI E, 6, Sum.inl (fun _ : Nat => iI 0))), (u 6, Sum.inl (eI E, 6, Sum.inl (fun _ : Nat => iI 0))), (u 7, Sum.inl (eI E, 5, Sum.inl (fun _ : Nat => iI 0))), (u 8, Sum.inl (eI E, 5, Sum.inl (fun _ : Nat => iI 0)))]) 9 66 := by
  have hin4 : ∀ w ∈ wsX40, w ∈ wsX4_init := by decide +kernel
  have hin7 : ∀ w ∈ wsX70, w ∈ wsX4_init := by decide +kernel
  refine met_C (cc := cX4_init) (nL := 2) (by decide) rfl rfl (Nat.le_of_ble_eq_true rfl) ?_
  intro p e s m args below meth c Q H0 A0 H locs ls F hi hw hl hret
  have F : CallFix p m c cX4_init 2 s args wsX4_init RX4 := F
  have hl : lv_has ls 2 [(0, .ref h0), (1, .ref r1)] := hl
  have hw : gH E A0 H0 s [(h0, Sum.inr (4, [.null, .int (iI 0), .null, .int (iI 0), .int (iI 0), .int (iI 0)]))] H locs := hw
  refine lv_aload_n F.1 F.2.1 dX4_init_0 rfl (lv_at hl 0 rfl) ?_
  refine g_obj F hl.1 (by decide +kernel) (by decide +kernel) (List.mem_of_getElem? (i := 3) rfl) (Nat.le_of_ble_eq_true rfl) (Nat.le_of_ble_eq_true rfl) dX4_init_1 ?_
  refine lv_aload_n F.1 F.2.1 dX4_init_4 rfl (lv_at hl 0 rfl) ?_
  refine g_new F hw 7 hin7 tyX7 tyX7_ok (by decide +kernel) (by decide +kernel) (by decide +kernel) rfl [.null, .null, .null, .null, .null, .null, .null, .null, .int (iI 0), .int (iI 0), .int (iI 0), .int (iI 0)] (fun j hj => by rcases (show j = 0 ∨ j = 1 ∨ j = 2 ∨ j = 3 ∨ j = 4 ∨ j = 5 ∨ j = 6 ∨ j = 7 ∨ j = 8 ∨ j = 9 ∨ j = 10 ∨ j = 11 by omega) with rfl | rfl | rfl | rfl | rfl | rfl | rfl | rfl | rfl | rfl | rfl | rfl <;> rfl) (Nat.le_of_ble_eq_true rfl) (Nat.le_of_ble_eq_true rfl) dX4_init_5 (fun q0 H hw => ?_)
  have hw : gH E A0 H0 s [(h0, Sum.inr (4, [.null, .int (iI 0), .null, .int (iI 0), .int (iI 0), .int (iI 0)])), (q0, Sum.inr (7, [.null, .null, .null, .null, .null, .null, .null, .null, .int (iI 0), .int (iI 0), .int (iI 0), .int (iI 0)]))] H locs := hw
  refine lv_dup F.1 F.2.1 dX4_init_8 rfl ?_
  refine call_CN (As := []) (rest := [.ref q0, .ref h0]) (wr := [(h0, Sum.inr (4, [.null, .int (iI 0), .null, .int (iI 0), .int (iI 0), .int (iI 0)]))]) F (i_X7 l E q0) (host := "SnowDays") (by decide +kernel) gX4_init_X7_init_n11 rfl rfl rfl (by decide +kernel) (by decide +kernel) rfl (by decide +kernel) ⟨(Nat.le_of_ble_eq_true rfl), (Nat.le_of_ble_eq_true rfl)⟩ hw [1] [0] (by decide) rfl rfl (by decide) (by decide) rfl hl.1 rfl (Nat.le_of_ble_eq_true rfl) dX4_init_9 ⟨(Nat.le_of_ble_eq_true rfl), (Nat.le_of_ble_eq_true rfl)⟩ (fun u11 H locs hw => ?_)
  have hw : gH E A0 H0 s [(h0, Sum.inr (4, [.null, .int (iI 0), .null, .int (iI 0), .int (iI 0), .int (iI 0)])), (q0, Sum.inr (7, [.ref (u11 0), .ref (u11 1), .ref (u11 2), .ref (u11 3), .ref (u11 4), .ref (u11 5), .ref (u11 6), .ref (u11 7), .int (iI 0), .int (iI 0), .int (iI 0), .int (iI 0)])), ((u11 0), Sum.inl (eI E, 20, Sum.inl (fun _ : Nat => iI 0))), ((u11 1), Sum.inl (eI E, 4, Sum.inl (fun _ : Nat => iI 0))), ((u11 2), Sum.inl (eI E, 4, Sum.inl (fun _ : Nat => iI 0))), ((u11 3), Sum.inl (eI E, 4, Sum.inl (fun _ : Nat => iI 0))), ((u11 4), Sum.inl (eI E, 6, Sum.inl (fun _ : Nat => iI 0))), ((u11 5), Sum.inl (eI E, 6, Sum.inl (fun _ : Nat => iI 0))), ((u11 6), Sum.inl (eI E, 5, Sum.inl (fun _ : Nat => iI 0))), ((u11 7), Sum.inl (eI E, 5, Sum.inl (fun _ : Nat => iI 0)))] H locs := hw
  refine g_putF (w1 := [(h0, Sum.inr (4, [.ref q0, .int (iI 0), .null, .int (iI 0), .int (iI 0), .int (iI 0)])), (q0, Sum.inr (7, [.ref (u11 0), .ref (u11 1), .ref (u11 2), .ref (u11 3), .ref (u11 4), .ref (u11 5), .ref (u11 6), .ref (u11 7), .int (iI 0), .int (iI 0), .int (iI 0), .int (iI 0)])), ((u11 0), Sum.inl (eI E, 20, Sum.inl (fun _ : Nat => iI 0))), ((u11 1), Sum.inl (eI E, 4, Sum.inl (fun _ : Nat => iI 0))), ((u11 2), Sum.inl (eI E, 4, Sum.inl (fun _ : Nat => iI 0))), ((u11 3), Sum.inl (eI E, 4, Sum.inl (fun _ : Nat => iI 0))), ((u11 4), Sum.inl (eI E, 6, Sum.inl (fun _ : Nat => iI 0))), ((u11 5), Sum.inl (eI E, 6, Sum.inl (fun _ : Nat => iI 0))), ((u11 6), Sum.inl (eI E, 5, Sum.inl (fun _ : Nat => iI 0))), ((u11 7), Sum.inl (eI E, 5, Sum.inl (fun _ : Nat => iI 0)))]) (ref := "SnowDays$Reader") (ty := (.object "SnowDays$Tale")) F hi hw 4 hin4 tyX4 tyX4_ok nmX4 0 rfl rfl 0 (by decide) (by decide +kernel) rfl rfl rfl (by decide +kernel) rfl rfl (Nat.le_of_ble_eq_true rfl) rfl dX4_init_12 (fun H locs hw => ?_)
  refine lv_aload_n F.1 F.2.1 dX4_init_15 rfl (lv_at hl 0 rfl) ?_
  refine bi_iconst F dX4_init_16 ?_
  refine g_putI (w1 := [(h0, Sum.inr (4, [.ref q0, .int (iI (-1)), .null, .int (iI 0), .int (iI 0), .int (iI 0)])), (q0, Sum.inr (7, [.ref (u11 0), .ref (u11 1), .ref (u11 2), .ref (u11 3), .ref (u11 4), .ref (u11 5), .ref (u11 6), .ref (u11 7), .int (iI 0), .int (iI 0), .int (iI 0), .int (iI 0)])), ((u11 0), Sum.inl (eI E, 20, Sum.inl (fun _ : Nat => iI 0))), ((u11 1), Sum.inl (eI E, 4, Sum.inl (fun _ : Nat => iI 0))), ((u11 2), Sum.inl (eI E, 4, Sum.inl (fun _ : Nat => iI 0))), ((u11 3), Sum.inl (eI E, 4, Sum.inl (fun _ : Nat => iI 0))), ((u11 4), Sum.inl (eI E, 6, Sum.inl (fun _ : Nat => iI 0))), ((u11 5), Sum.inl (eI E, 6, Sum.inl (fun _ : Nat => iI 0))), ((u11 6), Sum.inl (eI E, 5, Sum.inl (fun _ : Nat => iI 0))), ((u11 7), Sum.inl (eI E, 5, Sum.inl (fun _ : Nat => iI 0)))]) (ref := "SnowDays$Reader") F hw 4 hin4 tyX4 tyX4_ok nmX4 0 rfl rfl 1 (by decide) (by decide +kernel) rfl rfl (by decide +kernel) (Nat.le_of_ble_eq_true rfl) rfl dX4_init_17 (fun H locs hw => ?_)
  refine lv_aload_n F.1 F.2.1 dX4_init_20 rfl (lv_at hl 0 rfl) ?_
  refine bi_iconst F dX4_init_21 ?_
  refine g_putI (w1 := [(h0, Sum.inr (4, [.ref q0, .int (iI (-1)), .null, .int (iI 0), .int (iI 0), .int (iI 0)])), (q0, Sum.inr (7, [.ref (u11 0), .ref (u11 1), .ref (u11 2), .ref (u11 3), .ref (u11 4), .ref (u11 5), .ref (u11 6), .ref (u11 7), .int (iI 0), .int (iI 0), .int (iI 0), .int (iI 0)])), ((u11 0), Sum.inl (eI E, 20, Sum.inl (fun _ : Nat => iI 0))), ((u11 1), Sum.inl (eI E, 4, Sum.inl (fun _ : Nat => iI 0))), ((u11 2), Sum.inl (eI E, 4, Sum.inl (fun _ : Nat => iI 0))), ((u11 3), Sum.inl (eI E, 4, Sum.inl (fun _ : Nat => iI 0))), ((u11 4), Sum.inl (eI E, 6, Sum.inl (fun _ : Nat => iI 0))), ((u11 5), Sum.inl (eI E, 6, Sum.inl (fun _ : Nat => iI 0))), ((u11 6), Sum.inl (eI E, 5, Sum.inl (fun _ : Nat => iI 0))), ((u11 7), Sum.inl (eI E, 5, Sum.inl (fun _ : Nat => iI 0)))]) (ref := "SnowDays$Reader") F hw 4 hin4 tyX4 tyX4_ok nmX4 0 rfl rfl 3 (by decide) (by decide +kernel) rfl rfl (by decide +kernel) (Nat.le_of_ble_eq_true rfl) rfl dX4_init_22 (fun H locs hw => ?_)
  refine lv_aload_n F.1 F.2.1 dX4_init_25 rfl (lv_at hl 0 rfl) ?_
  refine bi_iconst F dX4_init_26 ?_
  refine g_putI (w1 := [(h0, Sum.inr (4, [.ref q0, .int (iI (-1)), .null, .int (iI 0), .int (iI 0), .int (iI 0)])), (q0, Sum.inr (7, [.ref (u11 0), .ref (u11 1), .ref (u11 2), .ref (u11 3), .ref (u11 4), .ref (u11 5), .ref (u11 6), .ref (u11 7), .int (iI 0), .int (iI 0), .int (iI 0), .int (iI 0)])), ((u11 0), Sum.inl (eI E, 20, Sum.inl (fun _ : Nat => iI 0))), ((u11 1), Sum.inl (eI E, 4, Sum.inl (fun _ : Nat => iI 0))), ((u11 2), Sum.inl (eI E, 4, Sum.inl (fun _ : Nat => iI 0))), ((u11 3), Sum.inl (eI E, 4, Sum.inl (fun _ : Nat => iI 0))), ((u11 4), Sum.inl (eI E, 6, Sum.inl (fun _ : Nat => iI 0))), ((u11 5), Sum.inl (eI E, 6, Sum.inl (fun _ : Nat => iI 0))), ((u11 6), Sum.inl (eI E, 5, Sum.inl (fun _ : Nat => iI 0))), ((u11 7), Sum.inl (eI E, 5, Sum.inl (fun _ : Nat => iI 0)))]) (ref := "SnowDays$Reader") F hw 4 hin4 tyX4 tyX4_ok nmX4 0 rfl rfl 4 (by decide) (by decide +kernel) rfl rfl (by decide +kernel) (Nat.le_of_ble_eq_true rfl) rfl dX4_init_27 (fun H locs hw => ?_)
  refine lv_aload_n F.1 F.2.1 dX4_init_30 rfl (lv_at hl 0 rfl) ?_
  refine bi_iconst F dX4_init_31 ?_
  refine g_putI (w1 := [(h0, Sum.inr (4, [.ref q0, .int (iI (-1)), .null, .int (iI 0), .int (iI 0), .int (iI 0)])), (q0, Sum.inr (7, [.ref (u11 0), .ref (u11 1), .ref (u11 2), .ref (u11 3), .ref (u11 4), .ref (u11 5), .ref (u11 6), .ref (u11 7), .int (iI 0), .int (iI 0), .int (iI 0), .int (iI 0)])), ((u11 0), Sum.inl (eI E, 20, Sum.inl (fun _ : Nat => iI 0))), ((u11 1), Sum.inl (eI E, 4, Sum.inl (fun _ : Nat => iI 0))), ((u11 2), Sum.inl (eI E, 4, Sum.inl (fun _ : Nat => iI 0))), ((u11 3), Sum.inl (eI E, 4, Sum.inl (fun _ : Nat => iI 0))), ((u11 4), Sum.inl (eI E, 6, Sum.inl (fun _ : Nat => iI 0))), ((u11 5), Sum.inl (eI E, 6, Sum.inl (fun _ : Nat => iI 0))), ((u11 6), Sum.inl (eI E, 5, Sum.inl (fun _ : Nat => iI 0))), ((u11 7), Sum.inl (eI E, 5, Sum.inl (fun _ : Nat => iI 0)))]) (ref := "SnowDays$Reader") F hw 4 hin4 tyX4 tyX4_ok nmX4 0 rfl rfl 5 (by decide) (by decide +kernel) rfl rfl (by decide +kernel) (Nat.le_of_ble_eq_true rfl) rfl dX4_init_32 (fun H locs hw => ?_)
  refine lv_aload_n F.1 F.2.1 dX4_init_35 rfl (lv_at hl 0 rfl) ?_
  refine lv_aload_n F.1 F.2.1 dX4_init_36 rfl (lv_at hl 1 rfl) ?_
  refine g_putF (w1 := [(h0, Sum.inr (4, [.ref q0, .int (iI (-1)), .ref r1, .int (iI 0), .int (iI 0), .int (iI 0)])), (q0, Sum.inr (7, [.ref (u11 0), .ref (u11 1), .ref (u11 2), .ref (u11 3), .ref (u11 4), .ref (u11 5), .ref (u11 6), .ref (u11 7), .int (iI 0), .int (iI 0), .int (iI 0), .int (iI 0)])), ((u11 0), Sum.inl (eI E, 20, Sum.inl (fun _ : Nat => iI 0))), ((u11 1), Sum.inl (eI E, 4, Sum.inl (fun _ : Nat => iI 0))), ((u11 2), Sum.inl (eI E, 4, Sum.inl (fun _ : Nat => iI 0))), ((u11 3), Sum.inl (eI E, 4, Sum.inl (fun _ : Nat => iI 0))), ((u11 4), Sum.inl (eI E, 6, Sum.inl (fun _ : Nat => iI 0))), ((u11 5), Sum.inl (eI E, 6, Sum.inl (fun _ : Nat => iI 0))), ((u11 6), Sum.inl (eI E, 5, Sum.inl (fun _ : Nat => iI 0))), ((u11 7), Sum.inl (eI E, 5, Sum.inl (fun _ : Nat => iI 0)))]) (ref := "SnowDays$Reader") (ty := (.array .int)) F hi hw 4 hin4 tyX4 tyX4_ok nmX4 0 rfl rfl 2 (by decide) (by decide +kernel) rfl rfl rfl (by decide +kernel) rfl rfl (Nat.le_of_ble_eq_true rfl) rfl dX4_init_37 (fun H locs hw => ?_)
  exact hret (fun k => ([q0, (u11 0), (u11 1), (u11 2), (u11 3), (u11 4), (u11 5), (u11 6), (u11 7)] : List Nat).getD k 0) H locs _ _ hw dX4_init_40
