section LC
variable {p : Program} {l : Launch} {e : Env} {s : State} {m : MethodId} {below : List Frame} {meth : Method} {c : Code} {H : Heap} {locs : List Loc} {Q : State → Prop}
variable {ls : Array Slot} {sb L : Nat} {xs : Nat → Int32} {E : Ev} {o1 a1 o2 a2 : Nat → Nat} {b i : Int} {I J : Nat → Int} {A B : Nat → Int → Int} {LL : Nat → Int64}
set_option maxRecDepth 100000 in
set_option maxHeartbeats 4000000 in
theorem lc_feed (C : lw_C p s m c sb L xs) (hl : lv_has ls 4 [(0, .ref sb), (1, .ref (o1 0)), (2, .ref (o2 0)), (3, .int (iI i))]) (hi : 0 ≤ i ∧ i + 4 ≤ (L : Int)) (hb : 0 ≤ b ∧ b ≤ 60000) (S : lw_S E o1 a1 o2 a2 b s H locs I J A B LL)
    (K : ∀ (H : Heap) (locs : List Loc) (I J : Nat → Int) (A B : Nat → Int → Int) (LL : Nat → Int64), lw_S E o1 a1 o2 a2 (b + 100) s H locs I J A B LL → W p l e room_1 s m #[Value.ref sb] below meth c H locs 64 5675 Q (F0 m 1019 ls [])) : W p l e room_1 s m #[Value.ref sb] below meth c H locs 64 5675 Q (F0 m 180 ls []) := by
  obtain ⟨F, hX, hbl, hL⟩ := C
  obtain ⟨hw, hr⟩ := S
  obtain ⟨ox, om, orr⟩ := Rel_ok hb.2 hr
  obtain ⟨hJ0, hJ2, hJ4, hJ5, h11, h12, h13, hs, hs2, hbk, hbk2, hz, hlk, hl0, hJ6, hJ7⟩ := Rel_m hr
  have hk := k_feed hr (sI xs (i + 1))
  refine lv_aload_n F.1 F.2.1 dL_law_180 rfl (lv_at hl 1 rfl) ?_
  refine l_ld (j := 1) F hX hbl hL hw.2.2.1 (lv_at hl 0 rfl) (lv_at hl 3 rfl) (by omega) dL_law_181 dL_law_182 dL_law_183 dL_law_184 dL_law_185 ?_
  refine call_I2 (E := eV E o1 a1) (b := o1 0) (As := [.int (iI (sI xs (i + 1)))]) (rest := []) (wr := mW (eV E o2 a2) J B) F (x9_feed l (eV E o1 a1) I A LL (sI xs (i + 1)) (sI_r xs (i + 1)) ox) (cwV 1 F.2.2.2.2 gL_law_X9_feed rfl rfl rfl (by decide +kernel) ⟨(Nat.le_of_ble_eq_true rfl), (Nat.le_of_ble_eq_true rfl)⟩) hw (x_recv (gH_left hw) 0 9 rfl rfl) rfl hl.1 rfl (Nat.le_of_ble_eq_true rfl) dL_law_186 ⟨Nat.le_refl _, Nat.le_refl _⟩ (fun z u H locs hz1 hw => ?_)
  obtain rfl := hz1
  have hw := gH_e (o' := o2) (a' := a2) (gH_swap hw)
  refine lv_aload_n F.1 F.2.1 dL_law_189 rfl (lv_at hl 2 rfl) ?_
  refine l_ld (j := 1) F hX hbl hL hw.2.2.1 (lv_at hl 0 rfl) (lv_at hl 3 rfl) (by omega) dL_law_190 dL_law_191 dL_law_192 dL_law_193 dL_law_194 ?_
  refine call_I2 (E := eV E o2 a2) (b := o2 0) (As := [.int (iI (sI xs (i + 1)))]) (rest := [.int (iI _)]) F (c_feed l (eV E o2 a2) J B (sI xs (i + 1)) (sI_r xs (i + 1)) hJ0) (cwV 1 F.2.2.2.2 gL_law_X10_feed rfl rfl rfl (by decide +kernel) ⟨(Nat.le_of_ble_eq_true rfl), (Nat.le_of_ble_eq_true rfl)⟩) hw (m_recv (gH_left hw)) rfl hl.1 rfl (Nat.le_of_ble_eq_true rfl) dL_law_195 ⟨Nat.le_refl _, Nat.le_refl _⟩ (fun z2 u2 H locs hz2 hw => ?_)
  obtain rfl := hz2
  have hw := gH_e (o' := o1) (a' := a1) (gH_swap hw)
  exact lv_icmp_eq (tgt := 1019) F.1 F.2.1 dL_law_198 (by decide) (fun _ => K _ _ _ _ _ _ _ ⟨hw, Rel_w (by omega) hk.2⟩) (fun h => absurd (by rw [hk.1]) h)
set_option maxRecDepth 100000 in
set_option maxHeartbeats 4000000 in
theorem lc_valley (C : lw_C p s m c sb L xs) (hl : lv_has ls 4 [(0, .ref sb), (1, .ref (o1 0)), (2, .ref (o2 0)), (3, .int (iI i))]) (hi : 0 ≤ i ∧ i + 4 ≤ (L : Int)) (hb : 0 ≤ b ∧ b ≤ 60000) (S : lw_S E o1 a1 o2 a2 b s H locs I J A B LL)
    (K : ∀ (H : Heap) (locs : List Loc) (I J : Nat → Int) (A B : Nat → Int → Int) (LL : Nat → Int64), lw_S E o1 a1 o2 a2 (b + 100) s H locs I J A B LL → W p l e room_1 s m #[Value.ref sb] below meth c H locs 64 5675 Q (F0 m 1019 ls [])) : W p l e room_1 s m #[Value.ref sb] below meth c H locs 64 5675 Q (F0 m 203 ls []) := by
  obtain ⟨F, hX, hbl, hL⟩ := C
  obtain ⟨hw, hr⟩ := S
  obtain ⟨ox, om, orr⟩ := Rel_ok hb.2 hr
  obtain ⟨hJ0, hJ2, hJ4, hJ5, h11, h12, h13, hs, hs2, hbk, hbk2, hz, hlk, hl0, hJ6, hJ7⟩ := Rel_m hr
  have hk := k_valley hr hb.1
  refine lv_aload_n F.1 F.2.1 dL_law_203 rfl (lv_at hl 1 rfl) ?_
  refine call_I2 (E := eV E o1 a1) (b := o1 0) (As := []) (rest := []) (wr := mW (eV E o2 a2) J B) F (x9_valley l (eV E o1 a1) I A LL   ox) (cwV 0 F.2.2.2.2 gL_law_X9_valley rfl rfl rfl (by decide +kernel) ⟨(Nat.le_of_ble_eq_true rfl), (Nat.le_of_ble_eq_true rfl)⟩) hw (x_recv (gH_left hw) 0 9 rfl rfl) rfl hl.1 rfl (Nat.le_of_ble_eq_true rfl) dL_law_204 ⟨Nat.le_refl _, Nat.le_refl _⟩ (fun z u H locs hz1 hw => ?_)
  obtain rfl := hz1
  have hw := gH_e (o' := o2) (a' := a2) (gH_swap hw)
  refine lv_aload_n F.1 F.2.1 dL_law_207 rfl (lv_at hl 2 rfl) ?_
  have hM := j_valley l (eV E o2 a2) J B (J 6) (J 7) hJ0 hl0 hJ6 hJ7
  rw [jI_id] at hM
  refine call_I2 (E := eV E o2 a2) (b := o2 0) (As := []) (rest := [.int (iI _)]) F hM (cwV 0 F.2.2.2.2 gL_law_X10_valley rfl rfl rfl (by decide +kernel) ⟨(Nat.le_of_ble_eq_true rfl), (Nat.le_of_ble_eq_true rfl)⟩) hw (m_recv (gH_left hw)) rfl hl.1 rfl (Nat.le_of_ble_eq_true rfl) dL_law_208 ⟨Nat.le_refl _, Nat.le_refl _⟩ (fun z2 u2 H locs hz2 hw => ?_)
  obtain rfl := hz2
  have hw := gH_e (o' := o1) (a' := a1) (gH_swap hw)
  exact lv_icmp_eq (tgt := 1019) F.1 F.2.1 dL_law_211 (by decide) (fun _ => K _ _ _ _ _ _ _ ⟨hw, Rel_w (by omega) hk.2⟩) (fun h => absurd (by rw [hk.1]) h)
set_option maxRecDepth 100000 in
set_option maxHeartbeats 4000000 in
theorem lc_fault (C : lw_C p s m c sb L xs) (hl : lv_has ls 4 [(0, .ref sb), (1, .ref (o1 0)), (2, .ref (o2 0)), (3, .int (iI i))]) (hi : 0 ≤ i ∧ i + 4 ≤ (L : Int)) (hb : 0 ≤ b ∧ b ≤ 60000) (S : lw_S E o1 a1 o2 a2 b s H locs I J A B LL)
    (K : ∀ (H : Heap) (locs : List Loc) (I J : Nat → Int) (A B : Nat → Int → Int) (LL : Nat → Int64), lw_S E o1 a1 o2 a2 (b + 100) s H locs I J A B LL → W p l e room_1 s m #[Value.ref sb] below meth c H locs 64 5675 Q (F0 m 1019 ls [])) : W p l e room_1 s m #[Value.ref sb] below meth c H locs 64 5675 Q (F0 m 216 ls []) := by
  obtain ⟨F, hX, hbl, hL⟩ := C
  obtain ⟨hw, hr⟩ := S
  obtain ⟨ox, om, orr⟩ := Rel_ok hb.2 hr
  obtain ⟨hJ0, hJ2, hJ4, hJ5, h11, h12, h13, hs, hs2, hbk, hbk2, hz, hlk, hl0, hJ6, hJ7⟩ := Rel_m hr
  have hk := k_fault hr 
  refine lv_aload_n F.1 F.2.1 dL_law_216 rfl (lv_at hl 1 rfl) ?_
  refine call_I2 (E := eV E o1 a1) (b := o1 0) (As := []) (rest := []) (wr := mW (eV E o2 a2) J B) F (x9_fault l (eV E o1 a1) I A LL   ox) (cwV 0 F.2.2.2.2 gL_law_X9_fault rfl rfl rfl (by decide +kernel) ⟨(Nat.le_of_ble_eq_true rfl), (Nat.le_of_ble_eq_true rfl)⟩) hw (x_recv (gH_left hw) 0 9 rfl rfl) rfl hl.1 rfl (Nat.le_of_ble_eq_true rfl) dL_law_217 ⟨Nat.le_refl _, Nat.le_refl _⟩ (fun z u H locs hz1 hw => ?_)
  obtain rfl := hz1
  have hw := gH_e (o' := o2) (a' := a2) (gH_swap hw)
  refine lv_aload_n F.1 F.2.1 dL_law_220 rfl (lv_at hl 2 rfl) ?_
  refine call_I2 (E := eV E o2 a2) (b := o2 0) (As := []) (rest := [.int (iI _)]) F (c_fault l (eV E o2 a2) J B  ) (cwV 0 F.2.2.2.2 gL_law_X10_fault rfl rfl rfl (by decide +kernel) ⟨(Nat.le_of_ble_eq_true rfl), (Nat.le_of_ble_eq_true rfl)⟩) hw (m_recv (gH_left hw)) rfl hl.1 rfl (Nat.le_of_ble_eq_true rfl) dL_law_221 ⟨Nat.le_refl _, Nat.le_refl _⟩ (fun z2 u2 H locs hz2 hw => ?_)
  obtain rfl := hz2
  have hw := gH_e (o' := o1) (a' := a1) (gH_swap hw)
  exact lv_icmp_eq (tgt := 1019) F.1 F.2.1 dL_law_224 (by decide) (fun _ => K _ _ _ _ _ _ _ ⟨hw, Rel_w (by omega) hr⟩) (fun h => absurd (by rw [hk]) h)
set_option maxRecDepth 100000 in
set_option maxHeartbeats 4000000 in
theorem lc_told (C : lw_C p s m c sb L xs) (hl : lv_has ls 4 [(0, .ref sb), (1, .ref (o1 0)), (2, .ref (o2 0)), (3, .int (iI i))]) (hi : 0 ≤ i ∧ i + 4 ≤ (L : Int)) (hb : 0 ≤ b ∧ b ≤ 60000) (S : lw_S E o1 a1 o2 a2 b s H locs I J A B LL)
    (K : ∀ (H : Heap) (locs : List Loc) (I J : Nat → Int) (A B : Nat → Int → Int) (LL : Nat → Int64), lw_S E o1 a1 o2 a2 (b + 100) s H locs I J A B LL → W p l e room_1 s m #[Value.ref sb] below meth c H locs 64 5675 Q (F0 m 1019 ls [])) : W p l e room_1 s m #[Value.ref sb] below meth c H locs 64 5675 Q (F0 m 229 ls []) := by
  obtain ⟨F, hX, hbl, hL⟩ := C
  obtain ⟨hw, hr⟩ := S
  obtain ⟨ox, om, orr⟩ := Rel_ok hb.2 hr
  obtain ⟨hJ0, hJ2, hJ4, hJ5, h11, h12, h13, hs, hs2, hbk, hbk2, hz, hlk, hl0, hJ6, hJ7⟩ := Rel_m hr
  have hk := k_told hr (sI xs (i + 1))
  refine lv_aload_n F.1 F.2.1 dL_law_229 rfl (lv_at hl 1 rfl) ?_
  refine l_ld (j := 1) F hX hbl hL hw.2.2.1 (lv_at hl 0 rfl) (lv_at hl 3 rfl) (by omega) dL_law_230 dL_law_231 dL_law_232 dL_law_233 dL_law_234 ?_
  refine call_I2 (E := eV E o1 a1) (b := o1 0) (As := [.int (iI (sI xs (i + 1)))]) (rest := []) (wr := mW (eV E o2 a2) J B) F (x9_told l (eV E o1 a1) I A LL (sI xs (i + 1)) (sI_r xs (i + 1)) ox) (cwV 1 F.2.2.2.2 gL_law_X9_told rfl rfl rfl (by decide +kernel) ⟨(Nat.le_of_ble_eq_true rfl), (Nat.le_of_ble_eq_true rfl)⟩) hw (x_recv (gH_left hw) 0 9 rfl rfl) rfl hl.1 rfl (Nat.le_of_ble_eq_true rfl) dL_law_235 ⟨Nat.le_refl _, Nat.le_refl _⟩ (fun z u H locs hz1 hw => ?_)
  obtain rfl := hz1
  have hw := gH_e (o' := o2) (a' := a2) (gH_swap hw)
  refine lv_aload_n F.1 F.2.1 dL_law_238 rfl (lv_at hl 2 rfl) ?_
  refine l_ld (j := 1) F hX hbl hL hw.2.2.1 (lv_at hl 0 rfl) (lv_at hl 3 rfl) (by omega) dL_law_239 dL_law_240 dL_law_241 dL_law_242 dL_law_243 ?_
  refine call_I2 (E := eV E o2 a2) (b := o2 0) (As := [.int (iI (sI xs (i + 1)))]) (rest := [.int (iI _)]) F (c_told l (eV E o2 a2) J B (sI xs (i + 1)) (sI_r xs (i + 1)) om orr) (cwV 1 F.2.2.2.2 gL_law_X10_told rfl rfl rfl (by decide +kernel) ⟨(Nat.le_of_ble_eq_true rfl), (Nat.le_of_ble_eq_true rfl)⟩) hw (m_recv (gH_left hw)) rfl hl.1 rfl (Nat.le_of_ble_eq_true rfl) dL_law_244 ⟨Nat.le_refl _, Nat.le_refl _⟩ (fun z2 u2 H locs hz2 hw => ?_)
  obtain rfl := hz2
  have hw := gH_e (o' := o1) (a' := a1) (gH_swap hw)
  exact lv_icmp_eq (tgt := 1019) F.1 F.2.1 dL_law_247 (by decide) (fun _ => K _ _ _ _ _ _ _ ⟨hw, Rel_w (by omega) hr⟩) (fun h => absurd (by rw [hk]) h)
set_option maxRecDepth 100000 in
set_option maxHeartbeats 4000000 in
theorem lc_winter (C : lw_C p s m c sb L xs) (hl : lv_has ls 4 [(0, .ref sb), (1, .ref (o1 0)), (2, .ref (o2 0)), (3, .int (iI i))]) (hi : 0 ≤ i ∧ i + 4 ≤ (L : Int)) (hb : 0 ≤ b ∧ b ≤ 60000) (S : lw_S E o1 a1 o2 a2 b s H locs I J A B LL)
    (K : ∀ (H : Heap) (locs : List Loc) (I J : Nat → Int) (A B : Nat → Int → Int) (LL : Nat → Int64), lw_S E o1 a1 o2 a2 (b + 100) s H locs I J A B LL → W p l e room_1 s m #[Value.ref sb] below meth c H locs 64 5675 Q (F0 m 1019 ls [])) : W p l e room_1 s m #[Value.ref sb] below meth c H locs 64 5675 Q (F0 m 252 ls []) := by
  obtain ⟨F, hX, hbl, hL⟩ := C
  obtain ⟨hw, hr⟩ := S
  obtain ⟨ox, om, orr⟩ := Rel_ok hb.2 hr
  obtain ⟨hJ0, hJ2, hJ4, hJ5, h11, h12, h13, hs, hs2, hbk, hbk2, hz, hlk, hl0, hJ6, hJ7⟩ := Rel_m hr
  have hk := k_winter hr (sI xs (i + 1))
  refine lv_aload_n F.1 F.2.1 dL_law_252 rfl (lv_at hl 1 rfl) ?_
  refine l_ld (j := 1) F hX hbl hL hw.2.2.1 (lv_at hl 0 rfl) (lv_at hl 3 rfl) (by omega) dL_law_253 dL_law_254 dL_law_255 dL_law_256 dL_law_257 ?_
  refine call_I2 (E := eV E o1 a1) (b := o1 0) (As := [.int (iI (sI xs (i + 1)))]) (rest := []) (wr := mW (eV E o2 a2) J B) F (x9_winter l (eV E o1 a1) I A LL (sI xs (i + 1)) (sI_r xs (i + 1)) ox) (cwV 1 F.2.2.2.2 gL_law_X9_winter rfl rfl rfl (by decide +kernel) ⟨(Nat.le_of_ble_eq_true rfl), (Nat.le_of_ble_eq_true rfl)⟩) hw (x_recv (gH_left hw) 0 9 rfl rfl) rfl hl.1 rfl (Nat.le_of_ble_eq_true rfl) dL_law_258 ⟨Nat.le_refl _, Nat.le_refl _⟩ (fun z u H locs hz1 hw => ?_)
  obtain rfl := hz1
  have hw := gH_e (o' := o2) (a' := a2) (gH_swap hw)
  refine lv_aload_n F.1 F.2.1 dL_law_261 rfl (lv_at hl 2 rfl) ?_
  refine l_ld (j := 1) F hX hbl hL hw.2.2.1 (lv_at hl 0 rfl) (lv_at hl 3 rfl) (by omega) dL_law_262 dL_law_263 dL_law_264 dL_law_265 dL_law_266 ?_
  refine call_I2 (E := eV E o2 a2) (b := o2 0) (As := [.int (iI (sI xs (i + 1)))]) (rest := [.int (iI _)]) F (c_winter l (eV E o2 a2) J B (sI xs (i + 1)) (sI_r xs (i + 1)) om) (cwV 1 F.2.2.2.2 gL_law_X10_winter rfl rfl rfl (by decide +kernel) ⟨(Nat.le_of_ble_eq_true rfl), (Nat.le_of_ble_eq_true rfl)⟩) hw (m_recv (gH_left hw)) rfl hl.1 rfl (Nat.le_of_ble_eq_true rfl) dL_law_267 ⟨Nat.le_refl _, Nat.le_refl _⟩ (fun z2 u2 H locs hz2 hw => ?_)
  obtain rfl := hz2
  have hw := gH_e (o' := o1) (a' := a1) (gH_swap hw)
  exact lv_icmp_eq (tgt := 1019) F.1 F.2.1 dL_law_270 (by decide) (fun _ => K _ _ _ _ _ _ _ ⟨hw, Rel_w (by omega) hr⟩) (fun h => absurd (by rw [hk]) h)
set_option maxRecDepth 100000 in
set_option maxHeartbeats 4000000 in
theorem lc_village (C : lw_C p s m c sb L xs) (hl : lv_has ls 4 [(0, .ref sb), (1, .ref (o1 0)), (2, .ref (o2 0)), (3, .int (iI i))]) (hi : 0 ≤ i ∧ i + 4 ≤ (L : Int)) (hb : 0 ≤ b ∧ b ≤ 60000) (S : lw_S E o1 a1 o2 a2 b s H locs I J A B LL)
    (K : ∀ (H : Heap) (locs : List Loc) (I J : Nat → Int) (A B : Nat → Int → Int) (LL : Nat → Int64), lw_S E o1 a1 o2 a2 (b + 100) s H locs I J A B LL → W p l e room_1 s m #[Value.ref sb] below meth c H locs 64 5675 Q (F0 m 1019 ls [])) : W p l e room_1 s m #[Value.ref sb] below meth c H locs 64 5675 Q (F0 m 275 ls []) := by
  obtain ⟨F, hX, hbl, hL⟩ := C
  obtain ⟨hw, hr⟩ := S
  obtain ⟨ox, om, orr⟩ := Rel_ok hb.2 hr
  obtain ⟨hJ0, hJ2, hJ4, hJ5, h11, h12, h13, hs, hs2, hbk, hbk2, hz, hlk, hl0, hJ6, hJ7⟩ := Rel_m hr
  have hk := k_village hr hb.2 (sI xs (i + 1)) (sI xs (i + 2))
  refine lv_aload_n F.1 F.2.1 dL_law_275 rfl (lv_at hl 1 rfl) ?_
  refine l_ld (j := 1) F hX hbl hL hw.2.2.1 (lv_at hl 0 rfl) (lv_at hl 3 rfl) (by omega) dL_law_276 dL_law_277 dL_law_278 dL_law_279 dL_law_280 ?_
  refine l_ld (j := 2) F hX hbl hL hw.2.2.1 (lv_at hl 0 rfl) (lv_at hl 3 rfl) (by omega) dL_law_281 dL_law_282 dL_law_283 dL_law_284 dL_law_285 ?_
  refine call_I2 (E := eV E o1 a1) (b := o1 0) (As := [.int (iI (sI xs (i + 1))), .int (iI (sI xs (i + 2)))]) (rest := []) (wr := mW (eV E o2 a2) J B) F (x9_village l (eV E o1 a1) I A LL (sI xs (i + 1)) (sI xs (i + 2)) (sI_r xs (i + 1)) (sI_r xs (i + 2)) ox) (cwV 2 F.2.2.2.2 gL_law_X9_village rfl rfl rfl (by decide +kernel) ⟨(Nat.le_of_ble_eq_true rfl), (Nat.le_of_ble_eq_true rfl)⟩) hw (x_recv (gH_left hw) 0 9 rfl rfl) rfl hl.1 rfl (Nat.le_of_ble_eq_true rfl) dL_law_286 ⟨Nat.le_refl _, Nat.le_refl _⟩ (fun z u H locs hz1 hw => ?_)
  obtain rfl := hz1
  have hw := gH_e (o' := o2) (a' := a2) (gH_swap hw)
  refine lv_aload_n F.1 F.2.1 dL_law_289 rfl (lv_at hl 2 rfl) ?_
  refine l_ld (j := 1) F hX hbl hL hw.2.2.1 (lv_at hl 0 rfl) (lv_at hl 3 rfl) (by omega) dL_law_290 dL_law_291 dL_law_292 dL_law_293 dL_law_294 ?_
  refine l_ld (j := 2) F hX hbl hL hw.2.2.1 (lv_at hl 0 rfl) (lv_at hl 3 rfl) (by omega) dL_law_295 dL_law_296 dL_law_297 dL_law_298 dL_law_299 ?_
  refine call_I2 (E := eV E o2 a2) (b := o2 0) (As := [.int (iI (sI xs (i + 1))), .int (iI (sI xs (i + 2)))]) (rest := [.int (iI _)]) F (c_village l (eV E o2 a2) J B (sI xs (i + 1)) (sI xs (i + 2)) (sI_r xs (i + 1)) (sI_r xs (i + 2)) om orr) (cwV 2 F.2.2.2.2 gL_law_X10_village rfl rfl rfl (by decide +kernel) ⟨(Nat.le_of_ble_eq_true rfl), (Nat.le_of_ble_eq_true rfl)⟩) hw (m_recv (gH_left hw)) rfl hl.1 rfl (Nat.le_of_ble_eq_true rfl) dL_law_300 ⟨Nat.le_refl _, Nat.le_refl _⟩ (fun z2 u2 H locs hz2 hw => ?_)
  obtain rfl := hz2
  have hw := gH_e (o' := o1) (a' := a1) (gH_swap hw)
  exact lv_icmp_eq (tgt := 1019) F.1 F.2.1 dL_law_303 (by decide) (fun _ => K _ _ _ _ _ _ _ ⟨hw, Rel_w (by omega) hr⟩) (fun h => absurd (by rw [hk]) h)
set_option maxRecDepth 100000 in
set_option maxHeartbeats 4000000 in
theorem lc_person (C : lw_C p s m c sb L xs) (hl : lv_has ls 4 [(0, .ref sb), (1, .ref (o1 0)), (2, .ref (o2 0)), (3, .int (iI i))]) (hi : 0 ≤ i ∧ i + 4 ≤ (L : Int)) (hb : 0 ≤ b ∧ b ≤ 60000) (S : lw_S E o1 a1 o2 a2 b s H locs I J A B LL)
    (K : ∀ (H : Heap) (locs : List Loc) (I J : Nat → Int) (A B : Nat → Int → Int) (LL : Nat → Int64), lw_S E o1 a1 o2 a2 (b + 100) s H locs I J A B LL → W p l e room_1 s m #[Value.ref sb] below meth c H locs 64 5675 Q (F0 m 1019 ls [])) : W p l e room_1 s m #[Value.ref sb] below meth c H locs 64 5675 Q (F0 m 308 ls []) := by
  obtain ⟨F, hX, hbl, hL⟩ := C
  obtain ⟨hw, hr⟩ := S
  obtain ⟨ox, om, orr⟩ := Rel_ok hb.2 hr
  obtain ⟨hJ0, hJ2, hJ4, hJ5, h11, h12, h13, hs, hs2, hbk, hbk2, hz, hlk, hl0, hJ6, hJ7⟩ := Rel_m hr
  have hk := k_person hr (sI xs (i + 1)) (sI xs (i + 2))
  refine lv_aload_n F.1 F.2.1 dL_law_308 rfl (lv_at hl 1 rfl) ?_
  refine l_ld (j := 1) F hX hbl hL hw.2.2.1 (lv_at hl 0 rfl) (lv_at hl 3 rfl) (by omega) dL_law_309 dL_law_310 dL_law_311 dL_law_312 dL_law_313 ?_
  refine l_ld (j := 2) F hX hbl hL hw.2.2.1 (lv_at hl 0 rfl) (lv_at hl 3 rfl) (by omega) dL_law_314 dL_law_315 dL_law_316 dL_law_317 dL_law_318 ?_
  refine call_I2 (E := eV E o1 a1) (b := o1 0) (As := [.int (iI (sI xs (i + 1))), .int (iI (sI xs (i + 2)))]) (rest := []) (wr := mW (eV E o2 a2) J B) F (x9_person l (eV E o1 a1) I A LL (sI xs (i + 1)) (sI xs (i + 2)) (sI_r xs (i + 1)) (sI_r xs (i + 2)) ox) (cwV 2 F.2.2.2.2 gL_law_X9_person rfl rfl rfl (by decide +kernel) ⟨(Nat.le_of_ble_eq_true rfl), (Nat.le_of_ble_eq_true rfl)⟩) hw (x_recv (gH_left hw) 0 9 rfl rfl) rfl hl.1 rfl (Nat.le_of_ble_eq_true rfl) dL_law_319 ⟨Nat.le_refl _, Nat.le_refl _⟩ (fun z u H locs hz1 hw => ?_)
  obtain rfl := hz1
  have hw := gH_e (o' := o2) (a' := a2) (gH_swap hw)
  refine lv_aload_n F.1 F.2.1 dL_law_322 rfl (lv_at hl 2 rfl) ?_
  refine l_ld (j := 1) F hX hbl hL hw.2.2.1 (lv_at hl 0 rfl) (lv_at hl 3 rfl) (by omega) dL_law_323 dL_law_324 dL_law_325 dL_law_326 dL_law_327 ?_
  refine l_ld (j := 2) F hX hbl hL hw.2.2.1 (lv_at hl 0 rfl) (lv_at hl 3 rfl) (by omega) dL_law_328 dL_law_329 dL_law_330 dL_law_331 dL_law_332 ?_
  refine call_I2 (E := eV E o2 a2) (b := o2 0) (As := [.int (iI (sI xs (i + 1))), .int (iI (sI xs (i + 2)))]) (rest := [.int (iI _)]) F (c_person l (eV E o2 a2) J B (sI xs (i + 1)) (sI xs (i + 2)) (sI_r xs (i + 1)) (sI_r xs (i + 2)) om orr) (cwV 2 F.2.2.2.2 gL_law_X10_person rfl rfl rfl (by decide +kernel) ⟨(Nat.le_of_ble_eq_true rfl), (Nat.le_of_ble_eq_true rfl)⟩) hw (m_recv (gH_left hw)) rfl hl.1 rfl (Nat.le_of_ble_eq_true rfl) dL_law_333 ⟨Nat.le_refl _, Nat.le_refl _⟩ (fun z2 u2 H locs hz2 hw => ?_)
  obtain rfl := hz2
  have hw := gH_e (o' := o1) (a' := a1) (gH_swap hw)
  exact lv_icmp_eq (tgt := 1019) F.1 F.2.1 dL_law_336 (by decide) (fun _ => K _ _ _ _ _ _ _ ⟨hw, Rel_w (by omega) hr⟩) (fun h => absurd (by rw [hk]) h)
set_option maxRecDepth 100000 in
set_option maxHeartbeats 4000000 in
theorem lc_debt (C : lw_C p s m c sb L xs) (hl : lv_has ls 4 [(0, .ref sb), (1, .ref (o1 0)), (2, .ref (o2 0)), (3, .int (iI i))]) (hi : 0 ≤ i ∧ i + 4 ≤ (L : Int)) (hb : 0 ≤ b ∧ b ≤ 60000) (S : lw_S E o1 a1 o2 a2 b s H locs I J A B LL)
    (K : ∀ (H : Heap) (locs : List Loc) (I J : Nat → Int) (A B : Nat → Int → Int) (LL : Nat → Int64), lw_S E o1 a1 o2 a2 (b + 100) s H locs I J A B LL → W p l e room_1 s m #[Value.ref sb] below meth c H locs 64 5675 Q (F0 m 1019 ls [])) : W p l e room_1 s m #[Value.ref sb] below meth c H locs 64 5675 Q (F0 m 341 ls []) := by
  obtain ⟨F, hX, hbl, hL⟩ := C
  obtain ⟨hw, hr⟩ := S
  obtain ⟨ox, om, orr⟩ := Rel_ok hb.2 hr
  obtain ⟨hJ0, hJ2, hJ4, hJ5, h11, h12, h13, hs, hs2, hbk, hbk2, hz, hlk, hl0, hJ6, hJ7⟩ := Rel_m hr
  have hk := k_debt hr (sI xs (i + 1)) (sI xs (i + 2))
  refine lv_aload_n F.1 F.2.1 dL_law_341 rfl (lv_at hl 1 rfl) ?_
  refine l_ld (j := 1) F hX hbl hL hw.2.2.1 (lv_at hl 0 rfl) (lv_at hl 3 rfl) (by omega) dL_law_342 dL_law_343 dL_law_344 dL_law_345 dL_law_346 ?_
  refine l_ld (j := 2) F hX hbl hL hw.2.2.1 (lv_at hl 0 rfl) (lv_at hl 3 rfl) (by omega) dL_law_347 dL_law_348 dL_law_349 dL_law_350 dL_law_351 ?_
  refine call_I2 (E := eV E o1 a1) (b := o1 0) (As := [.int (iI (sI xs (i + 1))), .int (iI (sI xs (i + 2)))]) (rest := []) (wr := mW (eV E o2 a2) J B) F (x9_debt l (eV E o1 a1) I A LL (sI xs (i + 1)) (sI xs (i + 2)) (sI_r xs (i + 1)) (sI_r xs (i + 2)) ox) (cwV 2 F.2.2.2.2 gL_law_X9_debt rfl rfl rfl (by decide +kernel) ⟨(Nat.le_of_ble_eq_true rfl), (Nat.le_of_ble_eq_true rfl)⟩) hw (x_recv (gH_left hw) 0 9 rfl rfl) rfl hl.1 rfl (Nat.le_of_ble_eq_true rfl) dL_law_352 ⟨Nat.le_refl _, Nat.le_refl _⟩ (fun z u H locs hz1 hw => ?_)
  obtain rfl := hz1
  have hw := gH_e (o' := o2) (a' := a2) (gH_swap hw)
  refine lv_aload_n F.1 F.2.1 dL_law_355 rfl (lv_at hl 2 rfl) ?_
  refine l_ld (j := 1) F hX hbl hL hw.2.2.1 (lv_at hl 0 rfl) (lv_at hl 3 rfl) (by omega) dL_law_356 dL_law_357 dL_law_358 dL_law_359 dL_law_360 ?_
  refine l_ld (j := 2) F hX hbl hL hw.2.2.1 (lv_at hl 0 rfl) (lv_at hl 3 rfl) (by omega) dL_law_361 dL_law_362 dL_law_363 dL_law_364 dL_law_365 ?_
  refine call_I2 (E := eV E o2 a2) (b := o2 0) (As := [.int (iI (sI xs (i + 1))), .int (iI (sI xs (i + 2)))]) (rest := [.int (iI _)]) F (c_debt l (eV E o2 a2) J B (sI xs (i + 1)) (sI xs (i + 2)) (sI_r xs (i + 1)) (sI_r xs (i + 2)) om orr) (cwV 2 F.2.2.2.2 gL_law_X10_debt rfl rfl rfl (by decide +kernel) ⟨(Nat.le_of_ble_eq_true rfl), (Nat.le_of_ble_eq_true rfl)⟩) hw (m_recv (gH_left hw)) rfl hl.1 rfl (Nat.le_of_ble_eq_true rfl) dL_law_366 ⟨Nat.le_refl _, Nat.le_refl _⟩ (fun z2 u2 H locs hz2 hw => ?_)
  obtain rfl := hz2
  have hw := gH_e (o' := o1) (a' := a1) (gH_swap hw)
  exact lv_icmp_eq (tgt := 1019) F.1 F.2.1 dL_law_369 (by decide) (fun _ => K _ _ _ _ _ _ _ ⟨hw, Rel_w (by omega) hr⟩) (fun h => absurd (by rw [hk]) h)
set_option maxRecDepth 100000 in
set_option maxHeartbeats 4000000 in
theorem lc_night (C : lw_C p s m c sb L xs) (hl : lv_has ls 4 [(0, .ref sb), (1, .ref (o1 0)), (2, .ref (o2 0)), (3, .int (iI i))]) (hi : 0 ≤ i ∧ i + 4 ≤ (L : Int)) (hb : 0 ≤ b ∧ b ≤ 60000) (S : lw_S E o1 a1 o2 a2 b s H locs I J A B LL)
    (K : ∀ (H : Heap) (locs : List Loc) (I J : Nat → Int) (A B : Nat → Int → Int) (LL : Nat → Int64), lw_S E o1 a1 o2 a2 (b + 100) s H locs I J A B LL → W p l e room_1 s m #[Value.ref sb] below meth c H locs 64 5675 Q (F0 m 1019 ls [])) : W p l e room_1 s m #[Value.ref sb] below meth c H locs 64 5675 Q (F0 m 374 ls []) := by
  obtain ⟨F, hX, hbl, hL⟩ := C
  obtain ⟨hw, hr⟩ := S
  obtain ⟨ox, om, orr⟩ := Rel_ok hb.2 hr
  obtain ⟨hJ0, hJ2, hJ4, hJ5, h11, h12, h13, hs, hs2, hbk, hbk2, hz, hlk, hl0, hJ6, hJ7⟩ := Rel_m hr
  have hk := k_night hr hb.2 (sI xs (i + 1))
  refine lv_aload_n F.1 F.2.1 dL_law_374 rfl (lv_at hl 1 rfl) ?_
  refine l_ld (j := 1) F hX hbl hL hw.2.2.1 (lv_at hl 0 rfl) (lv_at hl 3 rfl) (by omega) dL_law_375 dL_law_376 dL_law_377 dL_law_378 dL_law_379 ?_
  refine call_I2 (E := eV E o1 a1) (b := o1 0) (As := [.int (iI (sI xs (i + 1)))]) (rest := []) (wr := mW (eV E o2 a2) J B) F (x9_night l (eV E o1 a1) I A LL (sI xs (i + 1)) (sI_r xs (i + 1)) ox) (cwV 1 F.2.2.2.2 gL_law_X9_night rfl rfl rfl (by decide +kernel) ⟨(Nat.le_of_ble_eq_true rfl), (Nat.le_of_ble_eq_true rfl)⟩) hw (x_recv (gH_left hw) 0 9 rfl rfl) rfl hl.1 rfl (Nat.le_of_ble_eq_true rfl) dL_law_380 ⟨Nat.le_refl _, Nat.le_refl _⟩ (fun z u H locs hz1 hw => ?_)
  obtain rfl := hz1
  have hw := gH_e (o' := o2) (a' := a2) (gH_swap hw)
  refine lv_aload_n F.1 F.2.1 dL_law_383 rfl (lv_at hl 2 rfl) ?_
  refine l_ld (j := 1) F hX hbl hL hw.2.2.1 (lv_at hl 0 rfl) (lv_at hl 3 rfl) (by omega) dL_law_384 dL_law_385 dL_law_386 dL_law_387 dL_law_388 ?_
  refine call_I2 (E := eV E o2 a2) (b := o2 0) (As := [.int (iI (sI xs (i + 1)))]) (rest := [.int (iI _)]) F (c_night l (eV E o2 a2) J B (sI xs (i + 1)) (sI_r xs (i + 1)) hJ2 om orr) (cwV 1 F.2.2.2.2 gL_law_X10_night rfl rfl rfl (by decide +kernel) ⟨(Nat.le_of_ble_eq_true rfl), (Nat.le_of_ble_eq_true rfl)⟩) hw (m_recv (gH_left hw)) rfl hl.1 rfl (Nat.le_of_ble_eq_true rfl) dL_law_389 ⟨Nat.le_refl _, Nat.le_refl _⟩ (fun z2 u2 H locs hz2 hw => ?_)
  obtain rfl := hz2
  have hw := gH_e (o' := o1) (a' := a1) (gH_swap hw)
  exact lv_icmp_eq (tgt := 1019) F.1 F.2.1 dL_law_392 (by decide) (fun _ => K _ _ _ _ _ _ _ ⟨hw, Rel_w (by omega) hk.2⟩) (fun h => absurd (by rw [hk.1]) h)
set_option maxRecDepth 100000 in
set_option maxHeartbeats 4000000 in
theorem lc_move (C : lw_C p s m c sb L xs) (hl : lv_has ls 4 [(0, .ref sb), (1, .ref (o1 0)), (2, .ref (o2 0)), (3, .int (iI i))]) (hi : 0 ≤ i ∧ i + 4 ≤ (L : Int)) (hb : 0 ≤ b ∧ b ≤ 60000) (S : lw_S E o1 a1 o2 a2 b s H locs I J A B LL)
    (K : ∀ (H : Heap) (locs : List Loc) (I J : Nat → Int) (A B : Nat → Int → Int) (LL : Nat → Int64), lw_S E o1 a1 o2 a2 (b + 100) s H locs I J A B LL → W p l e room_1 s m #[Value.ref sb] below meth c H locs 64 5675 Q (F0 m 1019 ls [])) : W p l e room_1 s m #[Value.ref sb] below meth c H locs 64 5675 Q (F0 m 397 ls []) := by
  obtain ⟨F, hX, hbl, hL⟩ := C
  obtain ⟨hw, hr⟩ := S
  obtain ⟨ox, om, orr⟩ := Rel_ok hb.2 hr
  obtain ⟨hJ0, hJ2, hJ4, hJ5, h11, h12, h13, hs, hs2, hbk, hbk2, hz, hlk, hl0, hJ6, hJ7⟩ := Rel_m hr
  have hk := k_move hr hb.1 (sI xs (i + 1)) (sI xs (i + 2))
  refine lv_aload_n F.1 F.2.1 dL_law_397 rfl (lv_at hl 1 rfl) ?_
  refine l_ld (j := 1) F hX hbl hL hw.2.2.1 (lv_at hl 0 rfl) (lv_at hl 3 rfl) (by omega) dL_law_398 dL_law_399 dL_law_400 dL_law_401 dL_law_402 ?_
  refine l_ld (j := 2) F hX hbl hL hw.2.2.1 (lv_at hl 0 rfl) (lv_at hl 3 rfl) (by omega) dL_law_403 dL_law_404 dL_law_405 dL_law_406 dL_law_407 ?_
  refine call_I2 (E := eV E o1 a1) (b := o1 0) (As := [.int (iI (sI xs (i + 1))), .int (iI (sI xs (i + 2)))]) (rest := []) (wr := mW (eV E o2 a2) J B) F (x9_move l (eV E o1 a1) I A LL (sI xs (i + 1)) (sI xs (i + 2)) (sI_r xs (i + 1)) (sI_r xs (i + 2)) ox) (cwV 2 F.2.2.2.2 gL_law_X9_move rfl rfl rfl (by decide +kernel) ⟨(Nat.le_of_ble_eq_true rfl), (Nat.le_of_ble_eq_true rfl)⟩) hw (x_recv (gH_left hw) 0 9 rfl rfl) rfl hl.1 rfl (Nat.le_of_ble_eq_true rfl) dL_law_408 ⟨Nat.le_refl _, Nat.le_refl _⟩ (fun z u H locs hz1 hw => ?_)
  obtain rfl := hz1
  have hw := gH_e (o' := o2) (a' := a2) (gH_swap hw)
  refine lv_aload_n F.1 F.2.1 dL_law_411 rfl (lv_at hl 2 rfl) ?_
  refine l_ld (j := 1) F hX hbl hL hw.2.2.1 (lv_at hl 0 rfl) (lv_at hl 3 rfl) (by omega) dL_law_412 dL_law_413 dL_law_414 dL_law_415 dL_law_416 ?_
  refine l_ld (j := 2) F hX hbl hL hw.2.2.1 (lv_at hl 0 rfl) (lv_at hl 3 rfl) (by omega) dL_law_417 dL_law_418 dL_law_419 dL_law_420 dL_law_421 ?_
  refine call_I2 (E := eV E o2 a2) (b := o2 0) (As := [.int (iI (sI xs (i + 1))), .int (iI (sI xs (i + 2)))]) (rest := [.int (iI _)]) F (c_move l (eV E o2 a2) J B (sI xs (i + 1)) (sI xs (i + 2)) (sI_r xs (i + 1)) (sI_r xs (i + 2)) hJ2 om orr) (cwV 2 F.2.2.2.2 gL_law_X10_move rfl rfl rfl (by decide +kernel) ⟨(Nat.le_of_ble_eq_true rfl), (Nat.le_of_ble_eq_true rfl)⟩) hw (m_recv (gH_left hw)) rfl hl.1 rfl (Nat.le_of_ble_eq_true rfl) dL_law_422 ⟨Nat.le_refl _, Nat.le_refl _⟩ (fun z2 u2 H locs hz2 hw => ?_)
  obtain rfl := hz2
  have hw := gH_e (o' := o1) (a' := a1) (gH_swap hw)
  exact lv_icmp_eq (tgt := 1019) F.1 F.2.1 dL_law_425 (by decide) (fun _ => K _ _ _ _ _ _ _ ⟨hw, Rel_w (by omega) hk.2⟩) (fun h => absurd (by rw [hk.1]) h)
set_option maxRecDepth 100000 in
set_option maxHeartbeats 4000000 in
theorem lc_saw (C : lw_C p s m c sb L xs) (hl : lv_has ls 4 [(0, .ref sb), (1, .ref (o1 0)), (2, .ref (o2 0)), (3, .int (iI i))]) (hi : 0 ≤ i ∧ i + 4 ≤ (L : Int)) (hb : 0 ≤ b ∧ b ≤ 60000) (S : lw_S E o1 a1 o2 a2 b s H locs I J A B LL)
    (K : ∀ (H : Heap) (locs : List Loc) (I J : Nat → Int) (A B : Nat → Int → Int) (LL : Nat → Int64), lw_S E o1 a1 o2 a2 (b + 100) s H locs I J A B LL → W p l e room_1 s m #[Value.ref sb] below meth c H locs 64 5675 Q (F0 m 1019 ls [])) : W p l e room_1 s m #[Value.ref sb] below meth c H locs 64 5675 Q (F0 m 430 ls []) := by
  obtain ⟨F, hX, hbl, hL⟩ := C
  obtain ⟨hw, hr⟩ := S
  obtain ⟨ox, om, orr⟩ := Rel_ok hb.2 hr
  obtain ⟨hJ0, hJ2, hJ4, hJ5, h11, h12, h13, hs, hs2, hbk, hbk2, hz, hlk, hl0, hJ6, hJ7⟩ := Rel_m hr
  have hk := k_saw hr hb.1 (sI xs (i + 1)) (sI xs (i + 2))
  refine lv_aload_n F.1 F.2.1 dL_law_430 rfl (lv_at hl 1 rfl) ?_
  refine l_ld (j := 1) F hX hbl hL hw.2.2.1 (lv_at hl 0 rfl) (lv_at hl 3 rfl) (by omega) dL_law_431 dL_law_432 dL_law_433 dL_law_434 dL_law_435 ?_
  refine l_ld (j := 2) F hX hbl hL hw.2.2.1 (lv_at hl 0 rfl) (lv_at hl 3 rfl) (by omega) dL_law_436 dL_law_437 dL_law_438 dL_law_439 dL_law_440 ?_
  refine call_I2 (E := eV E o1 a1) (b := o1 0) (As := [.int (iI (sI xs (i + 1))), .int (iI (sI xs (i + 2)))]) (rest := []) (wr := mW (eV E o2 a2) J B) F (x9_saw l (eV E o1 a1) I A LL (sI xs (i + 1)) (sI xs (i + 2)) (sI_r xs (i + 1)) (sI_r xs (i + 2)) ox) (cwV 2 F.2.2.2.2 gL_law_X9_saw rfl rfl rfl (by decide +kernel) ⟨(Nat.le_of_ble_eq_true rfl), (Nat.le_of_ble_eq_true rfl)⟩) hw (x_recv (gH_left hw) 0 9 rfl rfl) rfl hl.1 rfl (Nat.le_of_ble_eq_true rfl) dL_law_441 ⟨Nat.le_refl _, Nat.le_refl _⟩ (fun z u H locs hz1 hw => ?_)
  obtain rfl := hz1
  have hw := gH_e (o' := o2) (a' := a2) (gH_swap hw)
  refine lv_aload_n F.1 F.2.1 dL_law_444 rfl (lv_at hl 2 rfl) ?_
  refine l_ld (j := 1) F hX hbl hL hw.2.2.1 (lv_at hl 0 rfl) (lv_at hl 3 rfl) (by omega) dL_law_445 dL_law_446 dL_law_447 dL_law_448 dL_law_449 ?_
  refine l_ld (j := 2) F hX hbl hL hw.2.2.1 (lv_at hl 0 rfl) (lv_at hl 3 rfl) (by omega) dL_law_450 dL_law_451 dL_law_452 dL_law_453 dL_law_454 ?_
  refine call_I2 (E := eV E o2 a2) (b := o2 0) (As := [.int (iI (sI xs (i + 1))), .int (iI (sI xs (i + 2)))]) (rest := [.int (iI _)]) F (c_saw l (eV E o2 a2) J B (sI xs (i + 1)) (sI xs (i + 2)) (sI_r xs (i + 1)) (sI_r xs (i + 2)) hJ2 om orr) (cwV 2 F.2.2.2.2 gL_law_X10_saw rfl rfl rfl (by decide +kernel) ⟨(Nat.le_of_ble_eq_true rfl), (Nat.le_of_ble_eq_true rfl)⟩) hw (m_recv (gH_left hw)) rfl hl.1 rfl (Nat.le_of_ble_eq_true rfl) dL_law_455 ⟨Nat.le_refl _, Nat.le_refl _⟩ (fun z2 u2 H locs hz2 hw => ?_)
  obtain rfl := hz2
  have hw := gH_e (o' := o1) (a' := a1) (gH_swap hw)
  exact lv_icmp_eq (tgt := 1019) F.1 F.2.1 dL_law_458 (by decide) (fun _ => K _ _ _ _ _ _ _ ⟨hw, Rel_w (by omega) hk.2⟩) (fun h => absurd (by rw [hk.1]) h)
end LC
