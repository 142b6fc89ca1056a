/-! BOTH SIDES: a row of what stands (f the reference's, h the class's); b is how much was sawed at most -/
def mm1 (z : Int) : Int := if z < 1 then 1 else z
def rU (b : Int) : Int := 363399 + b
def Row (nv np nd : Int) (Pl : Int → Int) (b : Int) (f h : Int → Int) : Prop :=
  (0 ≤ f 0 ∧ f 0 ≤ 9060) ∧ (∀ k, 0 ≤ f k ∧ f k ≤ 363399 + b) ∧ (∀ k, 0 ≤ h k ∧ h k ≤ 363399 + b) ∧ (∀ k, 0 ≤ k ∧ k < 35 → f k ≤ 999 + 40 * f 0 + b) ∧
  (∀ q, 0 ≤ q ∧ q < np → f (13 + 2 * q) < nv) ∧ (∀ q, 0 ≤ q ∧ q < 6 → f (13 + 2 * q) ≤ 3) ∧ (∀ d, 0 ≤ d ∧ d < 5 → f (25 + 2 * d) ≤ 999) ∧ (∀ d, 0 ≤ d ∧ d < nd → f (25 + 2 * d + 1) ≤ f (1 + 3 * Pl (2 * d) + 2)) ∧
  (h 0 = f 0) ∧ (∀ v, 0 ≤ v ∧ v < 4 → h (1 + v) = f (1 + 3 * v) ∧ h (5 + v) = f (1 + 3 * v + 2) ∧ h (9 + v) = f (1 + 3 * v + 1)) ∧
  (∀ q, 0 ≤ q ∧ q < 6 → h (13 + q) = f (13 + 2 * q) ∧ h (19 + q) = f (13 + 2 * q + 1)) ∧
  (∀ d, 0 ≤ d ∧ d < 5 → h (25 + d) = f (25 + 2 * d) ∧ (f (25 + 2 * d) ≠ 0 → h (30 + d) = f (25 + 2 * d + 1)))
theorem Row_w {nv np nd b b' : Int} {Pl f h : Int → Int} (hb : b ≤ b') (H : Row nv np nd Pl b f h) : Row nv np nd Pl b' f h := by
  obtain ⟨h1, h2, h3, h4, h5⟩ := H
  exact ⟨h1, fun k => by have := h2 k; omega, fun k => by have := h3 k; omega, fun k hk => by have := h4 k hk; omega, h5⟩
/-- the tale: F falls from, D dry, of the class; V villages of the reference -/
def TalV (nv : Int) (F D Y V : Int → Int) : Prop := (0 ≤ nv ∧ nv ≤ 4) ∧ (∀ k, 0 ≤ V k ∧ V k ≤ 40) ∧ ∀ v, 0 ≤ v ∧ v < nv → D v = V (5 * v) ∧ F v = V (5 * v) + mm1 (mMid V v) ∧ Y v = V (5 * v + 4)
theorem fo_eq {nv x v : Int} {F D Y V : Int → Int} (H : TalV nv F D Y V) (hv : 0 ≤ v ∧ v < nv) : iMx 0 (x - D v) = mFo V x v := by
  rw [(H.2.2 v hv).1]
  unfold iMx mFo
  by_cases h : V (5 * v) < x
  · rw [if_pos h, if_pos (by omega)]
  · rw [if_neg h, if_neg (by omega)]
theorem fall_eq {nv x v : Int} {F D Y V : Int → Int} (H : TalV nv F D Y V) (hv : 0 ≤ v ∧ v < nv) : (F v ≤ x ↔ mFall V x v) := by
  rw [(H.2.2 v hv).2.1]
  have h0 := H.2.1 (5 * v)
  have hm := mMid_r (V := V) (v := v) H.2.1
  unfold mFall mFo mm1
  by_cases h : V (5 * v) < x
  · rw [if_pos h]
    split <;> omega
  · rw [if_neg h]
    split <;> omega
theorem le1_eq {nv x v : Int} {F D Y V : Int → Int} (H : TalV nv F D Y V) (hv : 0 ≤ v ∧ v < nv) : le1 (F v) x = mFallI V x v := by
  by_cases h : F v ≤ x
  · rw [le1_t h, mFallI_t ((fall_eq H hv).mp h)]
  · rw [le1_f h, mFallI_f (fun q => h ((fall_eq H hv).mpr q))]
theorem hm_eq {nv x w : Int} {F D Y V : Int → Int} (H : TalV nv F D Y V) (hw : 0 ≤ w ∧ w < nv) : xHm F x nv w = mFallI V x w := by
  by_cases h : F w ≤ x
  · rw [xHm_t hw h, mFallI_t ((fall_eq H hw).mp h)]
  · rw [xHm_f (fun q => h q.2), mFallI_f (fun q => h ((fall_eq H hw).mpr q))]
/-- the reference's night, place by place -/
theorem ps_0 {V f : Int → Int} {x nv np : Int} : mPass V f x nv np 0 = f 0 + 1 := up1_s
theorem ps_a {V f : Int → Int} {x nv np v : Int} (hv : 0 ≤ v ∧ v < nv) : mPass V f x nv np (1 + 3 * v) = f (1 + 3 * v) + mFallI V x v := by
  unfold mPass
  rw [up1_n (by omega), mPsV_a (by omega), show (1 + 3 * v - 1) / 3 = v by omega]
theorem ps_b {V f : Int → Int} {x nv np v b : Int} (hv : 0 ≤ v ∧ v < nv) (hV : ∀ k, 0 ≤ V k ∧ V k ≤ 40) (hx : 0 ≤ x ∧ x ≤ 40) (hf : f (1 + 3 * v + 2) ≤ 363399 + b) (hb : b ≤ 600000) : mPass V f x nv np (1 + 3 * v + 2) = f (1 + 3 * v + 2) + mFo V x v := by
  have h1 := mFo_40 (V := V) (x := x) (v := v) hV (by omega)
  unfold mPass
  rw [up1_n (by omega), mPsV_b (by omega), show (1 + 3 * v + 2 - 3) / 3 = v by omega, if_neg (by omega)]
theorem ps_c {V f : Int → Int} {x nv np v : Int} (hv : 0 ≤ v ∧ v < 4) : mPass V f x nv np (1 + 3 * v + 1) = f (1 + 3 * v + 1) := by
  unfold mPass
  rw [up1_n (by omega), mPsV_c (by omega), mPsP_old (by omega)]
theorem ps_n {V f : Int → Int} {x nv np k : Int} (h1 : 1 + 3 * nv ≤ k) (h2 : k < 13 ∨ 13 + 2 * np ≤ k ∨ k % 2 = 1) (h0 : 1 ≤ k) : mPass V f x nv np k = f k := by
  unfold mPass
  rw [up1_n (by omega), mPsV_c (by omega), mPsP_old (by omega)]
theorem ps_neg {V f : Int → Int} {x nv np k : Int} (h : k < 0) : mPass V f x nv np k = f k := by
  unfold mPass
  rw [up1_n (by omega), mPsV_c (by omega), mPsP_old (by omega)]
theorem ps_q {V f : Int → Int} {x nv np q : Int} (hn : nv ≤ 4) (hq : 0 ≤ q ∧ q < np) : mPass V f x nv np (13 + 2 * q + 1) = f (13 + 2 * q + 1) + mFallI V x (f (13 + 2 * q)) := by
  unfold mPass
  rw [up1_n (by omega), mPsV_c (by omega)]
  unfold mPsP
  rw [if_pos (by omega), show 13 + 2 * q + 1 - 1 = 13 + 2 * q by omega]
/-- the class's -/
theorem sn_a {F D h : Int → Int} {x nv np v : Int} (hnv : 0 ≤ nv ∧ nv ≤ 4) (hnp : 0 ≤ np ∧ np ≤ 6) (hv : 0 ≤ v ∧ v < nv) : xSnow F D nv np x h (1 + v) = h (1 + v) + le1 (F v) x := by
  rw [xSnow_at hnv hnp, up1_n (by omega), xPs_a (by omega), show 1 + v - 1 = v by omega]
theorem sn_b {F D h : Int → Int} {x nv np v : Int} (hnv : 0 ≤ nv ∧ nv ≤ 4) (hnp : 0 ≤ np ∧ np ≤ 6) (hv : 0 ≤ v ∧ v < nv) : xSnow F D nv np x h (5 + v) = h (5 + v) + iMx 0 (x - D v) := by
  rw [xSnow_at hnv hnp, up1_n (by omega), xPs_b (by omega) (by omega), show 5 + v - 5 = v by omega]
theorem sn_q {F D h : Int → Int} {x nv np q : Int} (hnv : 0 ≤ nv ∧ nv ≤ 4) (hnp : 0 ≤ np ∧ np ≤ 6) (hq : 0 ≤ q ∧ q < np) : xSnow F D nv np x h (19 + q) = h (19 + q) + xHm F x nv (h (13 + q)) := by
  rw [xSnow_at hnv hnp, up1_n (by omega), xPs_c (by omega) (by omega), show 19 + q - 6 = 13 + q by omega]
theorem sn_n {F D h : Int → Int} {x nv np k : Int} (hnv : 0 ≤ nv ∧ nv ≤ 4) (hnp : 0 ≤ np ∧ np ≤ 6) (h0 : k ≠ 0) (h1 : ¬ (1 ≤ k ∧ k < 1 + nv)) (h2 : ¬ (5 ≤ k ∧ k < 5 + nv)) (h3 : ¬ (19 ≤ k ∧ k < 19 + np)) : xSnow F D nv np x h k = h k := by
  rw [xSnow_at hnv hnp, up1_n h0, xPs_d h1 h2 h3]
theorem ps_le {V f : Int → Int} {x nv np b : Int} (hn : nv ≤ 4) (hV : ∀ k, 0 ≤ V k ∧ V k ≤ 40) (hx : 0 ≤ x ∧ x ≤ 40) (hf : ∀ k, 0 ≤ f k ∧ f k ≤ 363399 + b) (hb : b ≤ 600000) (k : Int) : f k ≤ mPass V f x nv np k ∧ mPass V f x nv np k ≤ f k + 40 := by
  have h1 := hf k
  unfold mPass up1
  split
  · rename_i h; subst h; omega
  · unfold mPsV
    split
    · have := mFallI_r (V := V) (x := x) (v := (k - 1) / 3)
      omega
    · split
      · have := mFo_40 (V := V) (x := x) (v := (k - 3) / 3) hV (by omega)
        split <;> omega
      · unfold mPsP
        split
        · have := mFallI_r (V := V) (x := x) (v := f (k - 1))
          omega
        · omega
theorem Row_pass {nv np nd b x : Int} {Pl F D Y V f h : Int → Int} (T : TalV nv F D Y V) (hnp : 0 ≤ np ∧ np ≤ 6) (hPl : ∀ d, 0 ≤ d ∧ d < nd → 0 ≤ Pl (2 * d) ∧ Pl (2 * d) < nv) (hnd : nd ≤ 5) (hx : 0 ≤ x ∧ x ≤ 40) (hb : b ≤ 600000) (h9 : f 0 < 9060) (H : Row nv np nd Pl b f h) : Row nv np nd Pl b (mPass V f x nv np) (xSnow F D nv np x h) := by
  obtain ⟨h1, h2, h3, h4, h5, h6, h7, h8, g0, gv, gq, gd⟩ := H
  have hnv := T.1
  have hps := fun k => ps_le (V := V) (f := f) (x := x) (nv := nv) (np := np) hnv.2 T.2.1 hx h2 hb k
  have hfi := fun w => mFallI_r (V := V) (x := x) (v := w)
  have c4 : ∀ k, 0 ≤ k ∧ k < 35 → mPass V f x nv np k ≤ 999 + 40 * (f 0 + 1) + b := fun k hk => by
    have a1 := h4 k hk
    have a2 := hps k
    omega
  have cv : ∀ v, 0 ≤ v ∧ v < 4 → xSnow F D nv np x h (1 + v) = mPass V f x nv np (1 + 3 * v) ∧ xSnow F D nv np x h (5 + v) = mPass V f x nv np (1 + 3 * v + 2) ∧ xSnow F D nv np x h (9 + v) = mPass V f x nv np (1 + 3 * v + 1) := fun v hv => by
    obtain ⟨e1, e2, e3⟩ := gv v hv
    refine ⟨?_, ?_, ?_⟩
    · by_cases hq : v < nv
      · rw [sn_a hnv hnp ⟨hv.1, hq⟩, ps_a ⟨hv.1, hq⟩, e1, le1_eq T ⟨hv.1, hq⟩]
      · rw [sn_n hnv hnp (by omega) (by omega) (by omega) (by omega), ps_n (by omega) (by omega) (by omega), e1]
    · by_cases hq : v < nv
      · rw [sn_b hnv hnp ⟨hv.1, hq⟩, ps_b ⟨hv.1, hq⟩ T.2.1 hx (h2 _).2 hb, e2, fo_eq T ⟨hv.1, hq⟩]
      · rw [sn_n hnv hnp (by omega) (by omega) (by omega) (by omega), ps_n (by omega) (by omega) (by omega), e2]
    · rw [sn_n hnv hnp (by omega) (by omega) (by omega) (by omega), ps_c hv, e3]
  have ch : ∀ q, 0 ≤ q ∧ q < 6 → mPass V f x nv np (13 + 2 * q) = f (13 + 2 * q) := fun q hq => ps_n (by omega) (by omega) (by omega)
  have cq : ∀ q, 0 ≤ q ∧ q < 6 → xSnow F D nv np x h (13 + q) = mPass V f x nv np (13 + 2 * q) ∧ xSnow F D nv np x h (19 + q) = mPass V f x nv np (13 + 2 * q + 1) := fun q hq => by
    obtain ⟨e1, e2⟩ := gq q hq
    refine ⟨?_, ?_⟩
    · rw [sn_n hnv hnp (by omega) (by omega) (by omega) (by omega), ch q hq, e1]
    · by_cases hp : q < np
      · have hw := h5 q ⟨hq.1, hp⟩
        have hw0 := h2 (13 + 2 * q)
        rw [sn_q hnv hnp ⟨hq.1, hp⟩, ps_q hnv.2 ⟨hq.1, hp⟩, e1, e2, hm_eq T ⟨hw0.1, hw⟩]
      · rw [sn_n hnv hnp (by omega) (by omega) (by omega) (by omega), ps_n (by omega) (by omega) (by omega), e2]
  have c0 : xSnow F D nv np x h 0 = mPass V f x nv np 0 := by rw [xSnow_0 hnv hnp, ps_0, g0]
  have cd : ∀ k, 25 ≤ k → mPass V f x nv np k = f k := fun k hk => ps_n (by omega) (by omega) (by omega)
  have cdh : ∀ k, 25 ≤ k → xSnow F D nv np x h k = h k := fun k hk => sn_n hnv hnp (by omega) (by omega) (by omega) (by omega)
  have fu : ∀ k, 0 ≤ mPass V f x nv np k ∧ mPass V f x nv np k ≤ 363399 + b := fun k => by
    have a1 := hps k
    have a2 := h2 k
    by_cases hk : 0 ≤ k ∧ k < 35
    · have a3 := c4 k hk; omega
    · by_cases hk2 : k < 0
      · rw [ps_neg hk2]; exact a2
      · rw [cd k (by omega)]; exact a2
  refine ⟨by rw [ps_0]; omega, fu, fun k => ?_, fun k hk => by rw [ps_0]; exact c4 k hk, fun q hq => ?_, fun q hq => by rw [ch q hq]; exact h6 q hq, fun d hd => by rw [cd _ (by omega)]; exact h7 d hd, fun d hd => ?_, c0, cv, cq, fun d hd => ?_⟩
  · by_cases k0 : k = 0
    · subst k0; rw [c0]; exact fu 0
    by_cases k1 : 1 ≤ k ∧ k < 5
    · have := (cv (k - 1) (by omega)).1
      rw [show 1 + (k - 1) = k by omega] at this
      rw [this]; exact fu _
    by_cases k2 : 5 ≤ k ∧ k < 9
    · have := (cv (k - 5) (by omega)).2.1
      rw [show 5 + (k - 5) = k by omega] at this
      rw [this]; exact fu _
    by_cases k3 : 19 ≤ k ∧ k < 25
    · have := (cq (k - 19) (by omega)).2
      rw [show 19 + (k - 19) = k by omega] at this
      rw [this]; exact fu _
    · rw [sn_n hnv hnp k0 (by omega) (by omega) (by omega)]; exact h3 k
  · rw [ch q (by omega)]; exact h5 q hq
  · have hp := hPl d hd
    have a1 := h8 d hd
    have a2 := hps (1 + 3 * Pl (2 * d) + 2)
    rw [cd _ (by omega)]
    omega
  · rw [cd _ (by omega), cdh _ (by omega), cd _ (by omega), cdh _ (by omega)]
    exact gd d hd
