section LC
variable {p : Program} {l : Launch} {e : Env} {s : State} {m : MethodId} {below : List Frame} {meth : Method} {c : Code} {H : Heap} {locs : List Loc} {Q : State → Prop}
variable {ls : Array Slot} {sb L : Nat} {xs : Nat → Int32} {E : Ev} {o1 a1 o2 a2 : Nat → Nat} {b i : Int} {I J : Nat → Int} {A B : Nat → Int → Int} {LL : Nat → Int64}
set_option maxRecDepth 100000 in
set_option maxHeartbeats 4000000 in
theorem lc_poles (C : lw_C p s m c sb L xs) (hl : lv_has ls 4 [(0, .ref sb), (1, .ref (o1 0)), (2, .ref (o2 0)), (3, .int (iI i))]) (hi : 0 ≤ i ∧ i + 4 ≤ (L : Int)) (hb : 0 ≤ b ∧ b ≤ 60000) (S : lw_S E o1 a1 o2 a2 b s H locs I J A B LL)
    (K : ∀ (H : Heap) (locs : List Loc) (I J : Nat → Int) (A B : Nat → Int → Int) (LL : Nat → Int64), lw_S E o1 a1 o2 a2 (b + 100) s H locs I J A B LL → W p l e room_1 s m #[Value.ref sb] below meth c H locs 64 5675 Q (F0 m 1019 ls [])) : W p l e room_1 s m #[Value.ref sb] below meth c H locs 64 5675 Q (F0 m 786 ls []) := by
  obtain ⟨F, hX, hbl, hL⟩ := C
  obtain ⟨hw, hr⟩ := S
  obtain ⟨ox, om, orr⟩ := Rel_ok hb.2 hr
  obtain ⟨hJ0, hJ2, hJ4, hJ5, h11, h12, h13, hs, hs2, hbk, hbk2, hz, hlk, hl0, hJ6, hJ7⟩ := Rel_m hr
  have hk := k_poles hr 
  refine lv_aload_n F.1 F.2.1 dL_law_786 rfl (lv_at hl 1 rfl) ?_
  refine call_I2 (E := eV E o1 a1) (b := o1 0) (As := []) (rest := []) (wr := mW (eV E o2 a2) J B) F (x9_poles l (eV E o1 a1) I A LL   ox) (cwV 0 F.2.2.2.2 gL_law_X9_poles rfl rfl rfl (by decide +kernel) ⟨(Nat.le_of_ble_eq_true rfl), (Nat.le_of_ble_eq_true rfl)⟩) hw (x_recv (gH_left hw) 0 9 rfl rfl) rfl hl.1 rfl (Nat.le_of_ble_eq_true rfl) dL_law_787 ⟨Nat.le_refl _, Nat.le_refl _⟩ (fun z u H locs hz1 hw => ?_)
  obtain ⟨rfl, hs1⟩ := hz1
  have hw := gH_e (o' := o2) (a' := a2) (gH_swap hw)
  refine lv_aload_n F.1 F.2.1 dL_law_790 rfl (lv_at hl 2 rfl) ?_
  refine call_I2 (E := eV E o2 a2) (b := o2 0) (As := []) (rest := [.int (iI _)]) F (c_poles l (eV E o2 a2) J B  h11 om orr) (cwV 0 F.2.2.2.2 gL_law_X10_poles rfl rfl rfl (by decide +kernel) ⟨(Nat.le_of_ble_eq_true rfl), (Nat.le_of_ble_eq_true rfl)⟩) hw (m_recv (gH_left hw)) rfl hl.1 rfl (Nat.le_of_ble_eq_true rfl) dL_law_791 ⟨Nat.le_refl _, Nat.le_refl _⟩ (fun z2 u2 H locs hz2 hw => ?_)
  obtain rfl := hz2
  have hw := gH_e (o' := o1) (a' := a1) (gH_swap hw)
  exact lv_icmp_eq (tgt := 1019) F.1 F.2.1 dL_law_794 (by decide) (fun _ => K _ _ _ _ _ _ _ ⟨hw, Rel_w (by omega) (Rel_same hs1 mSame_rf hr)⟩) (fun h => absurd (by rw [hk]) h)
set_option maxRecDepth 100000 in
set_option maxHeartbeats 4000000 in
theorem lc_longest (C : lw_C p s m c sb L xs) (hl : lv_has ls 4 [(0, .ref sb), (1, .ref (o1 0)), (2, .ref (o2 0)), (3, .int (iI i))]) (hi : 0 ≤ i ∧ i + 4 ≤ (L : Int)) (hb : 0 ≤ b ∧ b ≤ 60000) (S : lw_S E o1 a1 o2 a2 b s H locs I J A B LL)
    (K : ∀ (H : Heap) (locs : List Loc) (I J : Nat → Int) (A B : Nat → Int → Int) (LL : Nat → Int64), lw_S E o1 a1 o2 a2 (b + 100) s H locs I J A B LL → W p l e room_1 s m #[Value.ref sb] below meth c H locs 64 5675 Q (F0 m 1019 ls [])) : W p l e room_1 s m #[Value.ref sb] below meth c H locs 64 5675 Q (F0 m 799 ls []) := by
  obtain ⟨F, hX, hbl, hL⟩ := C
  obtain ⟨hw, hr⟩ := S
  obtain ⟨ox, om, orr⟩ := Rel_ok hb.2 hr
  obtain ⟨hJ0, hJ2, hJ4, hJ5, h11, h12, h13, hs, hs2, hbk, hbk2, hz, hlk, hl0, hJ6, hJ7⟩ := Rel_m hr
  have hk := k_longest hr (sI xs (i + 1))
  refine lv_aload_n F.1 F.2.1 dL_law_799 rfl (lv_at hl 1 rfl) ?_
  refine l_ld (j := 1) F hX hbl hL hw.2.2.1 (lv_at hl 0 rfl) (lv_at hl 3 rfl) (by omega) dL_law_800 dL_law_801 dL_law_802 dL_law_803 dL_law_804 ?_
  refine call_I2 (E := eV E o1 a1) (b := o1 0) (As := [.int (iI (sI xs (i + 1)))]) (rest := []) (wr := mW (eV E o2 a2) J B) F (x9_longest l (eV E o1 a1) I A LL (sI xs (i + 1)) (sI_r xs (i + 1)) ox) (cwV 1 F.2.2.2.2 gL_law_X9_longest rfl rfl rfl (by decide +kernel) ⟨(Nat.le_of_ble_eq_true rfl), (Nat.le_of_ble_eq_true rfl)⟩) hw (x_recv (gH_left hw) 0 9 rfl rfl) rfl hl.1 rfl (Nat.le_of_ble_eq_true rfl) dL_law_805 ⟨Nat.le_refl _, Nat.le_refl _⟩ (fun z u H locs hz1 hw => ?_)
  obtain rfl := hz1
  have hw := gH_e (o' := o2) (a' := a2) (gH_swap hw)
  refine lv_aload_n F.1 F.2.1 dL_law_808 rfl (lv_at hl 2 rfl) ?_
  refine l_ld (j := 1) F hX hbl hL hw.2.2.1 (lv_at hl 0 rfl) (lv_at hl 3 rfl) (by omega) dL_law_809 dL_law_810 dL_law_811 dL_law_812 dL_law_813 ?_
  refine call_I2 (E := eV E o2 a2) (b := o2 0) (As := [.int (iI (sI xs (i + 1)))]) (rest := [.int (iI _)]) F (c_longest l (eV E o2 a2) J B (sI xs (i + 1)) (sI_r xs (i + 1)) h11 om orr) (cwV 1 F.2.2.2.2 gL_law_X10_longest rfl rfl rfl (by decide +kernel) ⟨(Nat.le_of_ble_eq_true rfl), (Nat.le_of_ble_eq_true rfl)⟩) hw (m_recv (gH_left hw)) rfl hl.1 rfl (Nat.le_of_ble_eq_true rfl) dL_law_814 ⟨Nat.le_refl _, Nat.le_refl _⟩ (fun z2 u2 H locs hz2 hw => ?_)
  obtain rfl := hz2
  have hw := gH_e (o' := o1) (a' := a1) (gH_swap hw)
  exact lv_icmp_eq (tgt := 1019) F.1 F.2.1 dL_law_817 (by decide) (fun _ => K _ _ _ _ _ _ _ ⟨hw, Rel_w (by omega) hr⟩) (fun h => absurd (by rw [hk]) h)
set_option maxRecDepth 100000 in
set_option maxHeartbeats 4000000 in
theorem lc_say (C : lw_C p s m c sb L xs) (hl : lv_has ls 4 [(0, .ref sb), (1, .ref (o1 0)), (2, .ref (o2 0)), (3, .int (iI i))]) (hi : 0 ≤ i ∧ i + 4 ≤ (L : Int)) (hb : 0 ≤ b ∧ b ≤ 60000) (S : lw_S E o1 a1 o2 a2 b s H locs I J A B LL)
    (K : ∀ (H : Heap) (locs : List Loc) (I J : Nat → Int) (A B : Nat → Int → Int) (LL : Nat → Int64), lw_S E o1 a1 o2 a2 (b + 100) s H locs I J A B LL → W p l e room_1 s m #[Value.ref sb] below meth c H locs 64 5675 Q (F0 m 1019 ls [])) : W p l e room_1 s m #[Value.ref sb] below meth c H locs 64 5675 Q (F0 m 822 ls []) := by
  obtain ⟨F, hX, hbl, hL⟩ := C
  obtain ⟨hw, hr⟩ := S
  obtain ⟨ox, om, orr⟩ := Rel_ok hb.2 hr
  obtain ⟨hJ0, hJ2, hJ4, hJ5, h11, h12, h13, hs, hs2, hbk, hbk2, hz, hlk, hl0, hJ6, hJ7⟩ := Rel_m hr
  have hk := k_say hr (sI xs (i + 1)) (sI xs (i + 2))
  refine lv_aload_n F.1 F.2.1 dL_law_822 rfl (lv_at hl 1 rfl) ?_
  refine l_ld (j := 1) F hX hbl hL hw.2.2.1 (lv_at hl 0 rfl) (lv_at hl 3 rfl) (by omega) dL_law_823 dL_law_824 dL_law_825 dL_law_826 dL_law_827 ?_
  refine l_ld (j := 2) F hX hbl hL hw.2.2.1 (lv_at hl 0 rfl) (lv_at hl 3 rfl) (by omega) dL_law_828 dL_law_829 dL_law_830 dL_law_831 dL_law_832 ?_
  refine call_I2 (E := eV E o1 a1) (b := o1 0) (As := [.int (iI (sI xs (i + 1))), .int (iI (sI xs (i + 2)))]) (rest := []) (wr := mW (eV E o2 a2) J B) F (x9_say l (eV E o1 a1) I A LL (sI xs (i + 1)) (sI xs (i + 2)) (sI_r xs (i + 1)) (sI_r xs (i + 2)) ox) (cwV 2 F.2.2.2.2 gL_law_X9_say rfl rfl rfl (by decide +kernel) ⟨(Nat.le_of_ble_eq_true rfl), (Nat.le_of_ble_eq_true rfl)⟩) hw (x_recv (gH_left hw) 0 9 rfl rfl) rfl hl.1 rfl (Nat.le_of_ble_eq_true rfl) dL_law_833 ⟨Nat.le_refl _, Nat.le_refl _⟩ (fun z u H locs hz1 hw => ?_)
  obtain rfl := hz1
  have hw := gH_e (o' := o2) (a' := a2) (gH_swap hw)
  refine lv_aload_n F.1 F.2.1 dL_law_836 rfl (lv_at hl 2 rfl) ?_
  refine l_ld (j := 1) F hX hbl hL hw.2.2.1 (lv_at hl 0 rfl) (lv_at hl 3 rfl) (by omega) dL_law_837 dL_law_838 dL_law_839 dL_law_840 dL_law_841 ?_
  refine l_ld (j := 2) F hX hbl hL hw.2.2.1 (lv_at hl 0 rfl) (lv_at hl 3 rfl) (by omega) dL_law_842 dL_law_843 dL_law_844 dL_law_845 dL_law_846 ?_
  refine call_I2 (E := eV E o2 a2) (b := o2 0) (As := [.int (iI (sI xs (i + 1))), .int (iI (sI xs (i + 2)))]) (rest := [.int (iI _)]) F (c_say l (eV E o2 a2) J B (sI xs (i + 1)) (sI xs (i + 2)) (sI_r xs (i + 1)) (sI_r xs (i + 2)) om hJ4) (cwV 2 F.2.2.2.2 gL_law_X10_say rfl rfl rfl (by decide +kernel) ⟨(Nat.le_of_ble_eq_true rfl), (Nat.le_of_ble_eq_true rfl)⟩) hw (m_recv (gH_left hw)) rfl hl.1 rfl (Nat.le_of_ble_eq_true rfl) dL_law_847 ⟨Nat.le_refl _, Nat.le_refl _⟩ (fun z2 u2 H locs hz2 hw => ?_)
  obtain rfl := hz2
  have hw := gH_e (o' := o1) (a' := a1) (gH_swap hw)
  exact lv_icmp_eq (tgt := 1019) F.1 F.2.1 dL_law_850 (by decide) (fun _ => K _ _ _ _ _ _ _ ⟨hw, Rel_w (by omega) hk.2⟩) (fun h => absurd (by rw [hk.1]) h)
set_option maxRecDepth 100000 in
set_option maxHeartbeats 4000000 in
theorem lc_sawn (C : lw_C p s m c sb L xs) (hl : lv_has ls 4 [(0, .ref sb), (1, .ref (o1 0)), (2, .ref (o2 0)), (3, .int (iI i))]) (hi : 0 ≤ i ∧ i + 4 ≤ (L : Int)) (hb : 0 ≤ b ∧ b ≤ 60000) (S : lw_S E o1 a1 o2 a2 b s H locs I J A B LL)
    (K : ∀ (H : Heap) (locs : List Loc) (I J : Nat → Int) (A B : Nat → Int → Int) (LL : Nat → Int64), lw_S E o1 a1 o2 a2 (b + 100) s H locs I J A B LL → W p l e room_1 s m #[Value.ref sb] below meth c H locs 64 5675 Q (F0 m 1019 ls [])) : W p l e room_1 s m #[Value.ref sb] below meth c H locs 64 5675 Q (F0 m 855 ls []) := by
  obtain ⟨F, hX, hbl, hL⟩ := C
  obtain ⟨hw, hr⟩ := S
  obtain ⟨ox, om, orr⟩ := Rel_ok hb.2 hr
  obtain ⟨hJ0, hJ2, hJ4, hJ5, h11, h12, h13, hs, hs2, hbk, hbk2, hz, hlk, hl0, hJ6, hJ7⟩ := Rel_m hr
  have hk := k_sawn hr (sI xs (i + 1))
  refine lv_aload_n F.1 F.2.1 dL_law_855 rfl (lv_at hl 1 rfl) ?_
  refine l_ld (j := 1) F hX hbl hL hw.2.2.1 (lv_at hl 0 rfl) (lv_at hl 3 rfl) (by omega) dL_law_856 dL_law_857 dL_law_858 dL_law_859 dL_law_860 ?_
  refine call_I2 (E := eV E o1 a1) (b := o1 0) (As := [.int (iI (sI xs (i + 1)))]) (rest := []) (wr := mW (eV E o2 a2) J B) F (x9_sawn l (eV E o1 a1) I A LL (sI xs (i + 1)) (sI_r xs (i + 1)) ox) (cwV 1 F.2.2.2.2 gL_law_X9_sawn rfl rfl rfl (by decide +kernel) ⟨(Nat.le_of_ble_eq_true rfl), (Nat.le_of_ble_eq_true rfl)⟩) hw (x_recv (gH_left hw) 0 9 rfl rfl) rfl hl.1 rfl (Nat.le_of_ble_eq_true rfl) dL_law_861 ⟨Nat.le_refl _, Nat.le_refl _⟩ (fun z u H locs hz1 hw => ?_)
  obtain ⟨rfl, hs1⟩ := hz1
  have hw := gH_e (o' := o2) (a' := a2) (gH_swap hw)
  refine lv_aload_n F.1 F.2.1 dL_law_864 rfl (lv_at hl 2 rfl) ?_
  refine l_ld (j := 1) F hX hbl hL hw.2.2.1 (lv_at hl 0 rfl) (lv_at hl 3 rfl) (by omega) dL_law_865 dL_law_866 dL_law_867 dL_law_868 dL_law_869 ?_
  refine call_I2 (E := eV E o2 a2) (b := o2 0) (As := [.int (iI (sI xs (i + 1)))]) (rest := [.int (iI _)]) F (c_sawn l (eV E o2 a2) J B (sI xs (i + 1)) (sI_r xs (i + 1)) hJ4 hs hs2 om orr) (cwV 1 F.2.2.2.2 gL_law_X10_sawn rfl rfl rfl (by decide +kernel) ⟨(Nat.le_of_ble_eq_true rfl), (Nat.le_of_ble_eq_true rfl)⟩) hw (m_recv (gH_left hw)) rfl hl.1 rfl (Nat.le_of_ble_eq_true rfl) dL_law_870 ⟨Nat.le_refl _, Nat.le_refl _⟩ (fun z2 u2 H locs hz2 hw => ?_)
  obtain ⟨rfl, hs9⟩ := hz2
  have hw := gH_e (o' := o1) (a' := a1) (gH_swap hw)
  exact lv_icmp_eq (tgt := 1019) F.1 F.2.1 dL_law_873 (by decide) (fun _ => K _ _ _ _ _ _ _ ⟨hw, Rel_w (by omega) (Rel_same hs1 hs9 hr)⟩) (fun h => absurd (by rw [hk]) h)
set_option maxRecDepth 100000 in
set_option maxHeartbeats 4000000 in
theorem lc_ask (C : lw_C p s m c sb L xs) (hl : lv_has ls 4 [(0, .ref sb), (1, .ref (o1 0)), (2, .ref (o2 0)), (3, .int (iI i))]) (hi : 0 ≤ i ∧ i + 4 ≤ (L : Int)) (hb : 0 ≤ b ∧ b ≤ 60000) (S : lw_S E o1 a1 o2 a2 b s H locs I J A B LL) (han : ∀ k, -2147483648 ≤ A 25 k ∧ A 25 k ≤ 2147483647)
    (K : ∀ (H : Heap) (locs : List Loc) (I J : Nat → Int) (A B : Nat → Int → Int) (LL : Nat → Int64), lw_S E o1 a1 o2 a2 (b + 100) s H locs I J A B LL → W p l e room_1 s m #[Value.ref sb] below meth c H locs 64 5675 Q (F0 m 1019 ls [])) : W p l e room_1 s m #[Value.ref sb] below meth c H locs 64 5675 Q (F0 m 878 ls []) := by
  obtain ⟨F, hX, hbl, hL⟩ := C
  obtain ⟨hw, hr⟩ := S
  obtain ⟨ox, om, orr⟩ := Rel_ok hb.2 hr
  obtain ⟨hJ0, hJ2, hJ4, hJ5, h11, h12, h13, hs, hs2, hbk, hbk2, hz, hlk, hl0, hJ6, hJ7⟩ := Rel_m hr
  have hk := k_ask hr 
  refine lv_aload_n F.1 F.2.1 dL_law_878 rfl (lv_at hl 1 rfl) ?_
  refine call_I2 (E := eV E o1 a1) (b := o1 0) (As := []) (rest := []) (wr := mW (eV E o2 a2) J B) F (x9_ask l (eV E o1 a1) I A LL   ox han) (cwV 0 F.2.2.2.2 gL_law_X9_ask rfl rfl rfl (by decide +kernel) ⟨(Nat.le_of_ble_eq_true rfl), (Nat.le_of_ble_eq_true rfl)⟩) hw (x_recv (gH_left hw) 0 9 rfl rfl) rfl hl.1 rfl (Nat.le_of_ble_eq_true rfl) dL_law_879 ⟨Nat.le_refl _, Nat.le_refl _⟩ (fun z u H locs hz1 hw => ?_)
  obtain ⟨rfl, hs1⟩ := hz1
  have hw := gH_e (o' := o2) (a' := a2) (gH_swap hw)
  refine lv_aload_n F.1 F.2.1 dL_law_882 rfl (lv_at hl 2 rfl) ?_
  refine call_I2 (E := eV E o2 a2) (b := o2 0) (As := []) (rest := [.int (iI _)]) F (c_ask l (eV E o2 a2) J B  hJ4 hs hs2 om orr) (cwV 0 F.2.2.2.2 gL_law_X10_ask rfl rfl rfl (by decide +kernel) ⟨(Nat.le_of_ble_eq_true rfl), (Nat.le_of_ble_eq_true rfl)⟩) hw (m_recv (gH_left hw)) rfl hl.1 rfl (Nat.le_of_ble_eq_true rfl) dL_law_883 ⟨Nat.le_refl _, Nat.le_refl _⟩ (fun z2 u2 H locs hz2 hw => ?_)
  obtain ⟨rfl, hs9⟩ := hz2
  have hw := gH_e (o' := o1) (a' := a1) (gH_swap hw)
  exact lv_icmp_eq (tgt := 1019) F.1 F.2.1 dL_law_886 (by decide) (fun _ => K _ _ _ _ _ _ _ ⟨hw, Rel_w (by omega) (Rel_same hs1 hs9 hr)⟩) (fun h => absurd (by rw [hk]) h)
set_option maxRecDepth 100000 in
set_option maxHeartbeats 4000000 in
theorem lc_write (C : lw_C p s m c sb L xs) (hl : lv_has ls 4 [(0, .ref sb), (1, .ref (o1 0)), (2, .ref (o2 0)), (3, .int (iI i))]) (hi : 0 ≤ i ∧ i + 4 ≤ (L : Int)) (hb : 0 ≤ b ∧ b ≤ 60000) (S : lw_S E o1 a1 o2 a2 b s H locs I J A B LL)
    (K : ∀ (H : Heap) (locs : List Loc) (I J : Nat → Int) (A B : Nat → Int → Int) (LL : Nat → Int64), lw_S E o1 a1 o2 a2 (b + 100) s H locs I J A B LL → W p l e room_1 s m #[Value.ref sb] below meth c H locs 64 5675 Q (F0 m 1019 ls [])) : W p l e room_1 s m #[Value.ref sb] below meth c H locs 64 5675 Q (F0 m 891 ls []) := by
  obtain ⟨F, hX, hbl, hL⟩ := C
  obtain ⟨hw, hr⟩ := S
  obtain ⟨ox, om, orr⟩ := Rel_ok hb.2 hr
  obtain ⟨hJ0, hJ2, hJ4, hJ5, h11, h12, h13, hs, hs2, hbk, hbk2, hz, hlk, hl0, hJ6, hJ7⟩ := Rel_m hr
  have hk := k_write hr (sI xs (i + 1)) (sI xs (i + 2))
  refine lv_aload_n F.1 F.2.1 dL_law_891 rfl (lv_at hl 1 rfl) ?_
  refine l_ld (j := 1) F hX hbl hL hw.2.2.1 (lv_at hl 0 rfl) (lv_at hl 3 rfl) (by omega) dL_law_892 dL_law_893 dL_law_894 dL_law_895 dL_law_896 ?_
  refine l_ld (j := 2) F hX hbl hL hw.2.2.1 (lv_at hl 0 rfl) (lv_at hl 3 rfl) (by omega) dL_law_897 dL_law_898 dL_law_899 dL_law_900 dL_law_901 ?_
  refine call_I2 (E := eV E o1 a1) (b := o1 0) (As := [.int (iI (sI xs (i + 1))), .int (iI (sI xs (i + 2)))]) (rest := []) (wr := mW (eV E o2 a2) J B) F (x9_write l (eV E o1 a1) I A LL (sI xs (i + 1)) (sI xs (i + 2)) (sI_r xs (i + 1)) (sI_r xs (i + 2)) ox) (cwV 2 F.2.2.2.2 gL_law_X9_write rfl rfl rfl (by decide +kernel) ⟨(Nat.le_of_ble_eq_true rfl), (Nat.le_of_ble_eq_true rfl)⟩) hw (x_recv (gH_left hw) 0 9 rfl rfl) rfl hl.1 rfl (Nat.le_of_ble_eq_true rfl) dL_law_902 ⟨Nat.le_refl _, Nat.le_refl _⟩ (fun z u H locs hz1 hw => ?_)
  obtain rfl := hz1
  have hw := gH_e (o' := o2) (a' := a2) (gH_swap hw)
  refine lv_aload_n F.1 F.2.1 dL_law_905 rfl (lv_at hl 2 rfl) ?_
  refine l_ld (j := 1) F hX hbl hL hw.2.2.1 (lv_at hl 0 rfl) (lv_at hl 3 rfl) (by omega) dL_law_906 dL_law_907 dL_law_908 dL_law_909 dL_law_910 ?_
  refine l_ld (j := 2) F hX hbl hL hw.2.2.1 (lv_at hl 0 rfl) (lv_at hl 3 rfl) (by omega) dL_law_911 dL_law_912 dL_law_913 dL_law_914 dL_law_915 ?_
  refine call_I2 (E := eV E o2 a2) (b := o2 0) (As := [.int (iI (sI xs (i + 1))), .int (iI (sI xs (i + 2)))]) (rest := [.int (iI _)]) F (c_write l (eV E o2 a2) J B (sI xs (i + 1)) (sI xs (i + 2)) (sI_r xs (i + 1)) (sI_r xs (i + 2)) om hJ5) (cwV 2 F.2.2.2.2 gL_law_X10_write rfl rfl rfl (by decide +kernel) ⟨(Nat.le_of_ble_eq_true rfl), (Nat.le_of_ble_eq_true rfl)⟩) hw (m_recv (gH_left hw)) rfl hl.1 rfl (Nat.le_of_ble_eq_true rfl) dL_law_916 ⟨Nat.le_refl _, Nat.le_refl _⟩ (fun z2 u2 H locs hz2 hw => ?_)
  obtain rfl := hz2
  have hw := gH_e (o' := o1) (a' := a1) (gH_swap hw)
  exact lv_icmp_eq (tgt := 1019) F.1 F.2.1 dL_law_919 (by decide) (fun _ => K _ _ _ _ _ _ _ ⟨hw, Rel_w (by omega) hk.2⟩) (fun h => absurd (by rw [hk.1]) h)
set_option maxRecDepth 100000 in
set_option maxHeartbeats 4000000 in
theorem lc_tear (C : lw_C p s m c sb L xs) (hl : lv_has ls 4 [(0, .ref sb), (1, .ref (o1 0)), (2, .ref (o2 0)), (3, .int (iI i))]) (hi : 0 ≤ i ∧ i + 4 ≤ (L : Int)) (hb : 0 ≤ b ∧ b ≤ 60000) (S : lw_S E o1 a1 o2 a2 b s H locs I J A B LL)
    (K : ∀ (H : Heap) (locs : List Loc) (I J : Nat → Int) (A B : Nat → Int → Int) (LL : Nat → Int64), lw_S E o1 a1 o2 a2 (b + 100) s H locs I J A B LL → W p l e room_1 s m #[Value.ref sb] below meth c H locs 64 5675 Q (F0 m 1019 ls [])) : W p l e room_1 s m #[Value.ref sb] below meth c H locs 64 5675 Q (F0 m 924 ls []) := by
  obtain ⟨F, hX, hbl, hL⟩ := C
  obtain ⟨hw, hr⟩ := S
  obtain ⟨ox, om, orr⟩ := Rel_ok hb.2 hr
  obtain ⟨hJ0, hJ2, hJ4, hJ5, h11, h12, h13, hs, hs2, hbk, hbk2, hz, hlk, hl0, hJ6, hJ7⟩ := Rel_m hr
  have hk := k_tear hr 
  refine lv_aload_n F.1 F.2.1 dL_law_924 rfl (lv_at hl 1 rfl) ?_
  refine call_I2 (E := eV E o1 a1) (b := o1 0) (As := []) (rest := []) (wr := mW (eV E o2 a2) J B) F (x9_tear l (eV E o1 a1) I A LL   ox) (cwV 0 F.2.2.2.2 gL_law_X9_tear rfl rfl rfl (by decide +kernel) ⟨(Nat.le_of_ble_eq_true rfl), (Nat.le_of_ble_eq_true rfl)⟩) hw (x_recv (gH_left hw) 0 9 rfl rfl) rfl hl.1 rfl (Nat.le_of_ble_eq_true rfl) dL_law_925 ⟨Nat.le_refl _, Nat.le_refl _⟩ (fun z u H locs hz1 hw => ?_)
  obtain rfl := hz1
  have hw := gH_e (o' := o2) (a' := a2) (gH_swap hw)
  refine lv_aload_n F.1 F.2.1 dL_law_928 rfl (lv_at hl 2 rfl) ?_
  refine call_I2 (E := eV E o2 a2) (b := o2 0) (As := []) (rest := [.int (iI _)]) F (c_tear l (eV E o2 a2) J B  ) (cwV 0 F.2.2.2.2 gL_law_X10_tear rfl rfl rfl (by decide +kernel) ⟨(Nat.le_of_ble_eq_true rfl), (Nat.le_of_ble_eq_true rfl)⟩) hw (m_recv (gH_left hw)) rfl hl.1 rfl (Nat.le_of_ble_eq_true rfl) dL_law_929 ⟨Nat.le_refl _, Nat.le_refl _⟩ (fun z2 u2 H locs hz2 hw => ?_)
  obtain rfl := hz2
  have hw := gH_e (o' := o1) (a' := a1) (gH_swap hw)
  exact lv_icmp_eq (tgt := 1019) F.1 F.2.1 dL_law_932 (by decide) (fun _ => K _ _ _ _ _ _ _ ⟨hw, Rel_w (by omega) hk.2⟩) (fun h => absurd (by rw [hk.1]) h)
set_option maxRecDepth 100000 in
set_option maxHeartbeats 4000000 in
theorem lc_judge (C : lw_C p s m c sb L xs) (hl : lv_has ls 4 [(0, .ref sb), (1, .ref (o1 0)), (2, .ref (o2 0)), (3, .int (iI i))]) (hi : 0 ≤ i ∧ i + 4 ≤ (L : Int)) (hb : 0 ≤ b ∧ b ≤ 60000) (S : lw_S E o1 a1 o2 a2 b s H locs I J A B LL)
    (K : ∀ (H : Heap) (locs : List Loc) (I J : Nat → Int) (A B : Nat → Int → Int) (LL : Nat → Int64), lw_S E o1 a1 o2 a2 (b + 100) s H locs I J A B LL → W p l e room_1 s m #[Value.ref sb] below meth c H locs 64 5675 Q (F0 m 1019 ls [])) : W p l e room_1 s m #[Value.ref sb] below meth c H locs 64 5675 Q (F0 m 937 ls []) := by
  obtain ⟨F, hX, hbl, hL⟩ := C
  obtain ⟨hw, hr⟩ := S
  obtain ⟨ox, om, orr⟩ := Rel_ok hb.2 hr
  obtain ⟨hJ0, hJ2, hJ4, hJ5, h11, h12, h13, hs, hs2, hbk, hbk2, hz, hlk, hl0, hJ6, hJ7⟩ := Rel_m hr
  have hk := k_judge hr 
  refine lv_aload_n F.1 F.2.1 dL_law_937 rfl (lv_at hl 1 rfl) ?_
  refine call_I2 (E := eV E o1 a1) (b := o1 0) (As := []) (rest := []) (wr := mW (eV E o2 a2) J B) F (x9_judge l (eV E o1 a1) I A LL   ox) (cwV 0 F.2.2.2.2 gL_law_X9_judge rfl rfl rfl (by decide +kernel) ⟨(Nat.le_of_ble_eq_true rfl), (Nat.le_of_ble_eq_true rfl)⟩) hw (x_recv (gH_left hw) 0 9 rfl rfl) rfl hl.1 rfl (Nat.le_of_ble_eq_true rfl) dL_law_938 ⟨Nat.le_refl _, Nat.le_refl _⟩ (fun z u H locs hz1 hw => ?_)
  obtain rfl := hz1
  have hw := gH_e (o' := o2) (a' := a2) (gH_swap hw)
  refine lv_aload_n F.1 F.2.1 dL_law_941 rfl (lv_at hl 2 rfl) ?_
  refine call_I2 (E := eV E o2 a2) (b := o2 0) (As := []) (rest := [.int (iI _)]) F (c_judge l (eV E o2 a2) J B  hJ5 hbk hbk2 om orr) (cwV 0 F.2.2.2.2 gL_law_X10_judge rfl rfl rfl (by decide +kernel) ⟨(Nat.le_of_ble_eq_true rfl), (Nat.le_of_ble_eq_true rfl)⟩) hw (m_recv (gH_left hw)) rfl hl.1 rfl (Nat.le_of_ble_eq_true rfl) dL_law_942 ⟨Nat.le_refl _, Nat.le_refl _⟩ (fun z2 u2 H locs hz2 hw => ?_)
  obtain rfl := hz2
  have hw := gH_e (o' := o1) (a' := a1) (gH_swap hw)
  exact lv_icmp_eq (tgt := 1019) F.1 F.2.1 dL_law_945 (by decide) (fun _ => K _ _ _ _ _ _ _ ⟨hw, Rel_w (by omega) hr⟩) (fun h => absurd (by rw [hk]) h)
set_option maxRecDepth 100000 in
set_option maxHeartbeats 4000000 in
theorem lc_seed (C : lw_C p s m c sb L xs) (hl : lv_has ls 4 [(0, .ref sb), (1, .ref (o1 0)), (2, .ref (o2 0)), (3, .int (iI i))]) (hi : 0 ≤ i ∧ i + 4 ≤ (L : Int)) (hb : 0 ≤ b ∧ b ≤ 60000) (S : lw_S E o1 a1 o2 a2 b s H locs I J A B LL)
    (K : ∀ (H : Heap) (locs : List Loc) (I J : Nat → Int) (A B : Nat → Int → Int) (LL : Nat → Int64), lw_S E o1 a1 o2 a2 (b + 100) s H locs I J A B LL → W p l e room_1 s m #[Value.ref sb] below meth c H locs 64 5675 Q (F0 m 1019 ls [])) : W p l e room_1 s m #[Value.ref sb] below meth c H locs 64 5675 Q (F0 m 950 ls []) := by
  obtain ⟨F, hX, hbl, hL⟩ := C
  obtain ⟨hw, hr⟩ := S
  obtain ⟨ox, om, orr⟩ := Rel_ok hb.2 hr
  obtain ⟨hJ0, hJ2, hJ4, hJ5, h11, h12, h13, hs, hs2, hbk, hbk2, hz, hlk, hl0, hJ6, hJ7⟩ := Rel_m hr
  have hk := k_seed hr (sI xs (i + 1))
  refine lv_aload_n F.1 F.2.1 dL_law_950 rfl (lv_at hl 1 rfl) ?_
  refine l_ld (j := 1) F hX hbl hL hw.2.2.1 (lv_at hl 0 rfl) (lv_at hl 3 rfl) (by omega) dL_law_951 dL_law_952 dL_law_953 dL_law_954 dL_law_955 ?_
  refine call_I2 (E := eV E o1 a1) (b := o1 0) (As := [.int (iI (sI xs (i + 1)))]) (rest := []) (wr := mW (eV E o2 a2) J B) F (x9_seed l (eV E o1 a1) I A LL (sI xs (i + 1)) (sI_r xs (i + 1)) ox) (cwV 1 F.2.2.2.2 gL_law_X9_seed rfl rfl rfl (by decide +kernel) ⟨(Nat.le_of_ble_eq_true rfl), (Nat.le_of_ble_eq_true rfl)⟩) hw (x_recv (gH_left hw) 0 9 rfl rfl) rfl hl.1 rfl (Nat.le_of_ble_eq_true rfl) dL_law_956 ⟨Nat.le_refl _, Nat.le_refl _⟩ (fun z u H locs hz1 hw => ?_)
  obtain rfl := hz1
  have hw := gH_e (o' := o2) (a' := a2) (gH_swap hw)
  refine lv_aload_n F.1 F.2.1 dL_law_959 rfl (lv_at hl 2 rfl) ?_
  refine l_ld (j := 1) F hX hbl hL hw.2.2.1 (lv_at hl 0 rfl) (lv_at hl 3 rfl) (by omega) dL_law_960 dL_law_961 dL_law_962 dL_law_963 dL_law_964 ?_
  refine call_I2 (E := eV E o2 a2) (b := o2 0) (As := [.int (iI (sI xs (i + 1)))]) (rest := [.int (iI _)]) F (c_seed l (eV E o2 a2) J B (sI xs (i + 1)) (sI_r xs (i + 1))) (cwV 1 F.2.2.2.2 gL_law_X10_seed rfl rfl rfl (by decide +kernel) ⟨(Nat.le_of_ble_eq_true rfl), (Nat.le_of_ble_eq_true rfl)⟩) hw (m_recv (gH_left hw)) rfl hl.1 rfl (Nat.le_of_ble_eq_true rfl) dL_law_965 ⟨Nat.le_refl _, Nat.le_refl _⟩ (fun z2 u2 H locs hz2 hw => ?_)
  obtain rfl := hz2
  have hw := gH_e (o' := o1) (a' := a1) (gH_swap hw)
  exact lv_icmp_eq (tgt := 1019) F.1 F.2.1 dL_law_968 (by decide) (fun _ => K _ _ _ _ _ _ _ ⟨hw, Rel_w (by omega) hk.2⟩) (fun h => absurd (by rw [hk.1]) h)
set_option maxRecDepth 100000 in
set_option maxHeartbeats 4000000 in
theorem lc_keep (C : lw_C p s m c sb L xs) (hl : lv_has ls 4 [(0, .ref sb), (1, .ref (o1 0)), (2, .ref (o2 0)), (3, .int (iI i))]) (hi : 0 ≤ i ∧ i + 4 ≤ (L : Int)) (hb : 0 ≤ b ∧ b ≤ 60000) (S : lw_S E o1 a1 o2 a2 b s H locs I J A B LL)
    (K : ∀ (H : Heap) (locs : List Loc) (I J : Nat → Int) (A B : Nat → Int → Int) (LL : Nat → Int64), lw_S E o1 a1 o2 a2 (b + 100) s H locs I J A B LL → W p l e room_1 s m #[Value.ref sb] below meth c H locs 64 5675 Q (F0 m 1019 ls [])) : W p l e room_1 s m #[Value.ref sb] below meth c H locs 64 5675 Q (F0 m 973 ls []) := by
  obtain ⟨F, hX, hbl, hL⟩ := C
  obtain ⟨hw, hr⟩ := S
  obtain ⟨ox, om, orr⟩ := Rel_ok hb.2 hr
  obtain ⟨hJ0, hJ2, hJ4, hJ5, h11, h12, h13, hs, hs2, hbk, hbk2, hz, hlk, hl0, hJ6, hJ7⟩ := Rel_m hr
  have hk := k_keep hr (sI xs (i + 1))
  refine lv_aload_n F.1 F.2.1 dL_law_973 rfl (lv_at hl 1 rfl) ?_
  refine l_ld (j := 1) F hX hbl hL hw.2.2.1 (lv_at hl 0 rfl) (lv_at hl 3 rfl) (by omega) dL_law_974 dL_law_975 dL_law_976 dL_law_977 dL_law_978 ?_
  refine call_I2 (E := eV E o1 a1) (b := o1 0) (As := [.int (iI (sI xs (i + 1)))]) (rest := []) (wr := mW (eV E o2 a2) J B) F (x9_keep l (eV E o1 a1) I A LL (sI xs (i + 1)) (sI_r xs (i + 1)) ox) (cwV 1 F.2.2.2.2 gL_law_X9_keep rfl rfl rfl (by decide +kernel) ⟨(Nat.le_of_ble_eq_true rfl), (Nat.le_of_ble_eq_true rfl)⟩) hw (x_recv (gH_left hw) 0 9 rfl rfl) rfl hl.1 rfl (Nat.le_of_ble_eq_true rfl) dL_law_979 ⟨Nat.le_refl _, Nat.le_refl _⟩ (fun z u H locs hz1 hw => ?_)
  obtain rfl := hz1
  have hw := gH_e (o' := o2) (a' := a2) (gH_swap hw)
  refine lv_aload_n F.1 F.2.1 dL_law_982 rfl (lv_at hl 2 rfl) ?_
  refine l_ld (j := 1) F hX hbl hL hw.2.2.1 (lv_at hl 0 rfl) (lv_at hl 3 rfl) (by omega) dL_law_983 dL_law_984 dL_law_985 dL_law_986 dL_law_987 ?_
  refine call_I2 (E := eV E o2 a2) (b := o2 0) (As := [.int (iI (sI xs (i + 1)))]) (rest := [.int (iI _)]) F (c_keep l (eV E o2 a2) J B (sI xs (i + 1)) (sI_r xs (i + 1))) (cwV 1 F.2.2.2.2 gL_law_X10_keep rfl rfl rfl (by decide +kernel) ⟨(Nat.le_of_ble_eq_true rfl), (Nat.le_of_ble_eq_true rfl)⟩) hw (m_recv (gH_left hw)) rfl hl.1 rfl (Nat.le_of_ble_eq_true rfl) dL_law_988 ⟨Nat.le_refl _, Nat.le_refl _⟩ (fun z2 u2 H locs hz2 hw => ?_)
  obtain rfl := hz2
  have hw := gH_e (o' := o1) (a' := a1) (gH_swap hw)
  exact lv_icmp_eq (tgt := 1019) F.1 F.2.1 dL_law_991 (by decide) (fun _ => K _ _ _ _ _ _ _ ⟨hw, Rel_w (by omega) hk.2⟩) (fun h => absurd (by rw [hk.1]) h)
set_option maxRecDepth 100000 in
set_option maxHeartbeats 4000000 in
theorem lc_goBack (C : lw_C p s m c sb L xs) (hl : lv_has ls 4 [(0, .ref sb), (1, .ref (o1 0)), (2, .ref (o2 0)), (3, .int (iI i))]) (hi : 0 ≤ i ∧ i + 4 ≤ (L : Int)) (hb : 0 ≤ b ∧ b ≤ 60000) (S : lw_S E o1 a1 o2 a2 b s H locs I J A B LL)
    (K : ∀ (H : Heap) (locs : List Loc) (I J : Nat → Int) (A B : Nat → Int → Int) (LL : Nat → Int64), lw_S E o1 a1 o2 a2 (b + 100) s H locs I J A B LL → W p l e room_1 s m #[Value.ref sb] below meth c H locs 64 5675 Q (F0 m 1019 ls [])) : W p l e room_1 s m #[Value.ref sb] below meth c H locs 64 5675 Q (F0 m 996 ls []) := by
  obtain ⟨F, hX, hbl, hL⟩ := C
  obtain ⟨hw, hr⟩ := S
  obtain ⟨ox, om, orr⟩ := Rel_ok hb.2 hr
  obtain ⟨hJ0, hJ2, hJ4, hJ5, h11, h12, h13, hs, hs2, hbk, hbk2, hz, hlk, hl0, hJ6, hJ7⟩ := Rel_m hr
  have hk := k_goBack hr (sI xs (i + 1))
  refine lv_aload_n F.1 F.2.1 dL_law_996 rfl (lv_at hl 1 rfl) ?_
  refine l_ld (j := 1) F hX hbl hL hw.2.2.1 (lv_at hl 0 rfl) (lv_at hl 3 rfl) (by omega) dL_law_997 dL_law_998 dL_law_999 dL_law_1000 dL_law_1001 ?_
  refine call_I2 (E := eV E o1 a1) (b := o1 0) (As := [.int (iI (sI xs (i + 1)))]) (rest := []) (wr := mW (eV E o2 a2) J B) F (x9_goBack l (eV E o1 a1) I A LL (sI xs (i + 1)) (sI_r xs (i + 1)) ox) (cwV 1 F.2.2.2.2 gL_law_X9_goBack rfl rfl rfl (by decide +kernel) ⟨(Nat.le_of_ble_eq_true rfl), (Nat.le_of_ble_eq_true rfl)⟩) hw (x_recv (gH_left hw) 0 9 rfl rfl) rfl hl.1 rfl (Nat.le_of_ble_eq_true rfl) dL_law_1002 ⟨Nat.le_refl _, Nat.le_refl _⟩ (fun z u H locs hz1 hw => ?_)
  obtain rfl := hz1
  have hw := gH_e (o' := o2) (a' := a2) (gH_swap hw)
  refine lv_aload_n F.1 F.2.1 dL_law_1005 rfl (lv_at hl 2 rfl) ?_
  refine l_ld (j := 1) F hX hbl hL hw.2.2.1 (lv_at hl 0 rfl) (lv_at hl 3 rfl) (by omega) dL_law_1006 dL_law_1007 dL_law_1008 dL_law_1009 dL_law_1010 ?_
  refine call_I2 (E := eV E o2 a2) (b := o2 0) (As := [.int (iI (sI xs (i + 1)))]) (rest := [.int (iI _)]) F (c_goBack l (eV E o2 a2) J B (sI xs (i + 1)) (sI_r xs (i + 1)) (hz _)) (cwV 1 F.2.2.2.2 gL_law_X10_goBack rfl rfl rfl (by decide +kernel) ⟨(Nat.le_of_ble_eq_true rfl), (Nat.le_of_ble_eq_true rfl)⟩) hw (m_recv (gH_left hw)) rfl hl.1 rfl (Nat.le_of_ble_eq_true rfl) dL_law_1011 ⟨Nat.le_refl _, Nat.le_refl _⟩ (fun z2 u2 H locs hz2 hw => ?_)
  obtain rfl := hz2
  have hw := gH_e (o' := o1) (a' := a1) (gH_swap hw)
  exact lv_icmp_eq (tgt := 1019) F.1 F.2.1 dL_law_1014 (by decide) (fun _ => K _ _ _ _ _ _ _ ⟨hw, Rel_w (by omega) hk.2⟩) (fun h => absurd (by rw [hk.1]) h)
end LC
