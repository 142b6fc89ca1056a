section LP
variable {p : Program} {l : Launch} {e : Env} {s : State} {m : MethodId} {below : List Frame} {meth : Method} {c : Code} {H : Heap} {locs : List Loc} {Q : State → Prop}
variable {ls : Array Slot} {sb L : Nat} {xs : Nat → Int32} {E : Ev} {o1 a1 o2 a2 : Nat → Nat} {b i : Int} {I J : Nat → Int} {A B : Nat → Int → Int} {LL : Nat → Int64}
set_option maxRecDepth 100000 in
set_option maxHeartbeats 4000000 in
/-- one turn: by the call that the script spells -/
theorem law_turn (C : lw_C p s m c sb L xs) (hl : lv_has ls 4 [(0, .ref sb), (1, .ref (o1 0)), (2, .ref (o2 0)), (3, .int (iI i))]) (hi : 0 ≤ i ∧ i + 4 ≤ (L : Int)) (hb : 0 ≤ b ∧ b ≤ 60000) (S : lw_S E o1 a1 o2 a2 b s H locs I J A B LL)
    (K : ∀ (H : Heap) (locs : List Loc) (I J : Nat → Int) (A B : Nat → Int → Int) (LL : Nat → Int64), lw_S E o1 a1 o2 a2 (b + 100) s H locs I J A B LL → W p l e room_1 s m #[Value.ref sb] below meth c H locs 64 5675 Q (F0 m 1019 ls [])) : W p l e room_1 s m #[Value.ref sb] below meth c H locs 64 5675 Q (F0 m 26 ls []) := by
  have F := C.1
  have hL := C.2.2.2
  refine lv_aload_n F.1 F.2.1 dL_law_26 rfl (lv_at hl 0 rfl) ?_
  refine lv_iload_n F.1 F.2.1 dL_law_27 rfl (lv_at hl 3 rfl) ?_
  refine l_sld F C.2.1 C.2.2.1 hL S.1.2.2.1 (by omega) dL_law_28 ?_
  refine bi_bipush F dL_law_29 (by decide) ?_
  refine bi_iand F dL_law_31 ?_
  have hkr := iAnd_r (sI xs i) 63
  generalize iAnd (sI xs i) 63 = k at hkr ⊢
  by_cases h0 : k = 0
  · subst h0
    exact bi_tabIn (tgt := 180) (off := 148) F dL_law_32 (by decide) (by decide) rfl (by decide) (lc_feed C hl hi hb S K)
  by_cases h1 : k = 1
  · subst h1
    exact bi_tabIn (tgt := 203) (off := 171) F dL_law_32 (by decide) (by decide) rfl (by decide) (lc_valley C hl hi hb S K)
  by_cases h2 : k = 2
  · subst h2
    exact bi_tabIn (tgt := 216) (off := 184) F dL_law_32 (by decide) (by decide) rfl (by decide) (lc_fault C hl hi hb S K)
  by_cases h3 : k = 3
  · subst h3
    exact bi_tabIn (tgt := 229) (off := 197) F dL_law_32 (by decide) (by decide) rfl (by decide) (lc_told C hl hi hb S K)
  by_cases h4 : k = 4
  · subst h4
    exact bi_tabIn (tgt := 252) (off := 220) F dL_law_32 (by decide) (by decide) rfl (by decide) (lc_winter C hl hi hb S K)
  by_cases h5 : k = 5
  · subst h5
    exact bi_tabIn (tgt := 275) (off := 243) F dL_law_32 (by decide) (by decide) rfl (by decide) (lc_village C hl hi hb S K)
  by_cases h6 : k = 6
  · subst h6
    exact bi_tabIn (tgt := 308) (off := 276) F dL_law_32 (by decide) (by decide) rfl (by decide) (lc_person C hl hi hb S K)
  by_cases h7 : k = 7
  · subst h7
    exact bi_tabIn (tgt := 341) (off := 309) F dL_law_32 (by decide) (by decide) rfl (by decide) (lc_debt C hl hi hb S K)
  by_cases h8 : k = 8
  · subst h8
    exact bi_tabIn (tgt := 374) (off := 342) F dL_law_32 (by decide) (by decide) rfl (by decide) (lc_night C hl hi hb S K)
  by_cases h9 : k = 9
  · subst h9
    exact bi_tabIn (tgt := 397) (off := 365) F dL_law_32 (by decide) (by decide) rfl (by decide) (lc_move C hl hi hb S K)
  by_cases h10 : k = 10
  · subst h10
    exact bi_tabIn (tgt := 430) (off := 398) F dL_law_32 (by decide) (by decide) rfl (by decide) (lc_saw C hl hi hb S K)
  by_cases h11 : k = 11
  · subst h11
    exact bi_tabIn (tgt := 463) (off := 431) F dL_law_32 (by decide) (by decide) rfl (by decide) (lc_pay C hl hi hb S K)
  by_cases h12 : k = 12
  · subst h12
    exact bi_tabIn (tgt := 486) (off := 454) F dL_law_32 (by decide) (by decide) rfl (by decide) (lc_lend C hl hi hb S K)
  by_cases h13 : k = 13
  · subst h13
    exact bi_tabIn (tgt := 519) (off := 487) F dL_law_32 (by decide) (by decide) rfl (by decide) (lc_drift C hl hi hb S K)
  by_cases h14 : k = 14
  · subst h14
    exact bi_tabIn (tgt := 542) (off := 510) F dL_law_32 (by decide) (by decide) rfl (by decide) (lc_undo C hl hi hb S K)
  by_cases h15 : k = 15
  · subst h15
    exact bi_tabIn (tgt := 555) (off := 523) F dL_law_32 (by decide) (by decide) rfl (by decide) (lc_due C hl hi hb S K)
  by_cases h16 : k = 16
  · subst h16
    exact bi_tabIn (tgt := 578) (off := 546) F dL_law_32 (by decide) (by decide) rfl (by decide) (lc_old C hl hi hb S K)
  by_cases h17 : k = 17
  · subst h17
    exact bi_tabIn (tgt := 611) (off := 579) F dL_law_32 (by decide) (by decide) rfl (by decide) (lc_feast C hl hi hb S K)
  by_cases h18 : k = 18
  · subst h18
    exact bi_tabIn (tgt := 644) (off := 612) F dL_law_32 (by decide) (by decide) rfl (by decide) (lc_mild C hl hi hb S K)
  by_cases h19 : k = 19
  · subst h19
    exact bi_tabIn (tgt := 687) (off := 655) F dL_law_32 (by decide) (by decide) rfl (by decide) (lc_mildDebts C hl hi hb S K)
  by_cases h20 : k = 20
  · subst h20
    exact bi_tabIn (tgt := 720) (off := 688) F dL_law_32 (by decide) (by decide) rfl (by decide) (lc_older C hl hi hb S K)
  by_cases h21 : k = 21
  · subst h21
    exact bi_tabIn (tgt := 753) (off := 721) F dL_law_32 (by decide) (by decide) rfl (by decide) (lc_chance C hl hi hb S K)
  by_cases h22 : k = 22
  · subst h22
    exact bi_tabIn (tgt := 786) (off := 754) F dL_law_32 (by decide) (by decide) rfl (by decide) (lc_poles C hl hi hb S K)
  by_cases h23 : k = 23
  · subst h23
    exact bi_tabIn (tgt := 799) (off := 767) F dL_law_32 (by decide) (by decide) rfl (by decide) (lc_longest C hl hi hb S K)
  by_cases h24 : k = 24
  · subst h24
    exact bi_tabIn (tgt := 822) (off := 790) F dL_law_32 (by decide) (by decide) rfl (by decide) (lc_say C hl hi hb S K)
  by_cases h25 : k = 25
  · subst h25
    exact bi_tabIn (tgt := 855) (off := 823) F dL_law_32 (by decide) (by decide) rfl (by decide) (lc_sawn C hl hi hb S K)
  by_cases h26 : k = 26
  · subst h26
    exact bi_tabIn (tgt := 878) (off := 846) F dL_law_32 (by decide) (by decide) rfl (by decide) (lc_ask C hl hi hb (A := xNo A) ⟨by rw [xW_n]; exact S.1, Rel_same xNo_s mSame_rf S.2⟩ xNo_r K)
  by_cases h27 : k = 27
  · subst h27
    exact bi_tabIn (tgt := 891) (off := 859) F dL_law_32 (by decide) (by decide) rfl (by decide) (lc_write C hl hi hb S K)
  by_cases h28 : k = 28
  · subst h28
    exact bi_tabIn (tgt := 924) (off := 892) F dL_law_32 (by decide) (by decide) rfl (by decide) (lc_tear C hl hi hb S K)
  by_cases h29 : k = 29
  · subst h29
    exact bi_tabIn (tgt := 937) (off := 905) F dL_law_32 (by decide) (by decide) rfl (by decide) (lc_judge C hl hi hb S K)
  by_cases h30 : k = 30
  · subst h30
    exact bi_tabIn (tgt := 950) (off := 918) F dL_law_32 (by decide) (by decide) rfl (by decide) (lc_seed C hl hi hb S K)
  by_cases h31 : k = 31
  · subst h31
    exact bi_tabIn (tgt := 973) (off := 941) F dL_law_32 (by decide) (by decide) rfl (by decide) (lc_keep C hl hi hb S K)
  by_cases h32 : k = 32
  · subst h32
    exact bi_tabIn (tgt := 996) (off := 964) F dL_law_32 (by decide) (by decide) rfl (by decide) (lc_goBack C hl hi hb S K)
  exact bi_tabOut (tgt := 1019) F dL_law_32 hkr (by omega) (by decide) (K _ _ _ _ _ _ _ ⟨S.1, Rel_w (by omega) S.2⟩)
set_option maxRecDepth 100000 in
set_option maxHeartbeats 4000000 in
theorem law_loop (hx : p.tables.exec = Jvm.exec) (hbc : c.code = code) (hrt : meth.sig.returnType = ret) (hlocks : meth.locks = false) (C : lw_C p s m c sb L xs) (n : Nat) : ∀ (t : Int) (H : Heap) (locs : List Loc) (ls : Array Slot) (I J : Nat → Int) (A B : Nat → Int → Int) (LL : Nat → Int64), 0 ≤ t → t + n = 513 → t ≤ 512 → lv_has ls 4 [(0, .ref sb), (1, .ref (o1 0)), (2, .ref (o2 0)), (3, .int (iI (4 * t)))] → lw_S E o1 a1 o2 a2 (100 * t) s H locs I J A B LL →
    W p l e room_1 s m #[Value.ref sb] below meth c H locs 64 5675 (lw_Z below #[Value.ref sb] s) (F0 m 18 ls []) := by
  induction n with
  | zero => intro t H locs ls I J A B LL h0 h1 h2; omega
  | succ n ih =>
    intro t H locs ls I J A B LL h0 h1 h2 hl S
    have F := C.1
    have hL := C.2.2.2
    refine lv_iload_n F.1 F.2.1 dL_law_18 rfl (lv_at hl 3 rfl) ?_
    refine lv_aload_n F.1 F.2.1 dL_law_19 rfl (lv_at hl 0 rfl) ?_
    refine va_slen F.1 F.2.1 C.2.1 C.2.2.1 (Nat.not_le.mpr C.2.2.1) S.1.2.2.1 dL_law_20 ?_
    rw [iI_nat]
    refine bi_iconst F dL_law_21 ?_
    refine bi_isub F dL_law_22 ?_
    refine bi_icmp_gt (tgt := 1025) F dL_law_23 (by decide) (by omega) (fun hc => ?_) (fun hc => ?_)
    · refine lv_iconst (v := 1) F.1 F.2.1 dL_law_1025 (by decide) ?_
      refine va_forget (fun q hq => S.1.2.2.1.2.2 q hq) ?_
      exact lw_ret hx hbc hrt hlocks dL_law_1026
    · refine law_turn C hl (by omega) (by omega) S (fun H locs I J A B LL S => ?_)
      refine lv_iinc (v := iI (4 * t + 4)) (lv' := [(3, .int (iI (4 * t + 4))), (0, .ref sb), (1, .ref (o1 0)), (2, .ref (o2 0))]) F.1 F.2.1 dL_law_1019 hl (k := 3) rfl (iI_add _ _).symm (by decide) rfl (fun ls hl => ?_)
      refine lv_goto (tgt := 18) F.1 F.2.1 dL_law_1022 (by decide) ?_
      rw [show 4 * t + 4 = 4 * (t + 1) by omega] at hl
      rw [show 100 * t + 100 = 100 * (t + 1) by omega] at S
      exact ih (t + 1) H locs ls I J A B LL (by omega) (by omega) (by omega) (lv_sub hl [1, 2, 3, 0] rfl) S
end LP
