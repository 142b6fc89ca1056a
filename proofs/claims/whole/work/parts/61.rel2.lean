theorem Row_saw {nv np nd b v k : Int} {Pl f h : Int → Int} (hv : 0 ≤ v ∧ v < 4) (hk : 0 ≤ k) (hPl : ∀ d, 0 ≤ d ∧ d < nd → 0 ≤ Pl (2 * d) ∧ Pl (2 * d) < nv) (hnd : nd ≤ 5) (H : Row nv np nd Pl b f h) : Row nv np nd Pl (b + k) (up1 f (1 + 3 * v + 1) (f (1 + 3 * v + 1) + k)) (up1 h (9 + v) (h (9 + v) + k)) := by
  obtain ⟨h1, h2, h3, h4, h5, h6, h7, h8, g0, gv, gq, gd⟩ := H
  refine ⟨by rw [up1_n (by omega)]; exact h1, fun t => ?_, fun t => ?_, fun t ht => ?_, fun q hq => ?_, fun q hq => ?_, fun d hd => ?_, fun d hd => ?_, ?_, fun u hu => ?_, fun q hq => ?_, fun d hd => ?_⟩
  · have a1 := h2 t
    have a2 := h2 (1 + 3 * v + 1)
    unfold up1
    split <;> omega
  · have a1 := h3 t
    have a2 := h3 (9 + v)
    unfold up1
    split <;> omega
  · rw [up1_n (show (0 : Int) ≠ 1 + 3 * v + 1 by omega)]
    have a1 := h4 t ht
    have a2 := h4 (1 + 3 * v + 1) (by omega)
    unfold up1
    split <;> omega
  · by_cases hq6 : q < 6
    · have := h6 q ⟨hq.1, hq6⟩
      rw [up1_n (by omega)]; exact h5 q hq
    · rw [up1_n (by omega)]; exact h5 q hq
  · rw [up1_n (by omega)]; exact h6 q hq
  · rw [up1_n (by omega)]; exact h7 d hd
  · have hp := hPl d hd
    rw [up1_n (by omega), up1_n (by omega)]; exact h8 d hd
  · rw [up1_n (by omega), up1_n (by omega)]; exact g0
  · obtain ⟨e1, e2, e3⟩ := gv u hu
    refine ⟨by rw [up1_n (by omega), up1_n (by omega)]; exact e1, by rw [up1_n (by omega), up1_n (by omega)]; exact e2, ?_⟩
    by_cases huv : u = v
    · subst huv; rw [up1_s, up1_s, e3]
    · rw [up1_n (by omega), up1_n (by omega)]; exact e3
  · rw [up1_n (by omega), up1_n (by omega), up1_n (by omega), up1_n (by omega)]; exact gq q hq
  · rw [up1_n (by omega), up1_n (by omega), up1_n (by omega), up1_n (by omega)]; exact gd d hd
theorem Row_move {nv np nd b v p : Int} {Pl f h : Int → Int} (hb : 0 ≤ b) (hp : 0 ≤ p ∧ p < 6) (hv : 0 ≤ v ∧ v < nv) (hnv : nv ≤ 4) (hPl : ∀ d, 0 ≤ d ∧ d < nd → 0 ≤ Pl (2 * d) ∧ Pl (2 * d) < nv) (hnd : nd ≤ 5) (H : Row nv np nd Pl b f h) : Row nv np nd Pl b (up1 f (13 + 2 * p) v) (up1 h (13 + p) v) := by
  obtain ⟨h1, h2, h3, h4, h5, h6, h7, h8, g0, gv, gq, gd⟩ := H
  refine ⟨by rw [up1_n (by omega)]; exact h1, fun t => ?_, fun t => ?_, fun t ht => ?_, fun q hq => ?_, fun q hq => ?_, fun d hd => ?_, fun d hd => ?_, ?_, fun u hu => ?_, fun q hq => ?_, fun d hd => ?_⟩
  · have a1 := h2 t
    unfold up1
    split <;> omega
  · have a1 := h3 t
    unfold up1
    split <;> omega
  · rw [up1_n (show (0 : Int) ≠ 13 + 2 * p by omega)]
    have a1 := h4 t ht
    unfold up1
    split <;> omega
  · by_cases e : q = p
    · subst e; rw [up1_s]; exact hv.2
    · rw [up1_n (by omega)]; exact h5 q hq
  · by_cases e : q = p
    · subst e; rw [up1_s]; omega
    · rw [up1_n (by omega)]; exact h6 q hq
  · rw [up1_n (by omega)]; exact h7 d hd
  · have hp := hPl d hd
    rw [up1_n (by omega), up1_n (by omega)]; exact h8 d hd
  · rw [up1_n (by omega), up1_n (by omega)]; exact g0
  · rw [up1_n (by omega), up1_n (by omega), up1_n (by omega), up1_n (by omega), up1_n (by omega), up1_n (by omega)]; exact gv u hu
  · obtain ⟨e1, e2⟩ := gq q hq
    refine ⟨?_, by rw [up1_n (by omega), up1_n (by omega)]; exact e2⟩
    by_cases e : q = p
    · subst e; rw [up1_s, up1_s]
    · rw [up1_n (by omega), up1_n (by omega)]; exact e1
  · rw [up1_n (by omega), up1_n (by omega), up1_n (by omega), up1_n (by omega)]; exact gd d hd
theorem Row_pay {nv np nd b d : Int} {Pl f h : Int → Int} (hb : 0 ≤ b) (hd0 : 0 ≤ d ∧ d < 5) (hnv : nv ≤ 4) (hPl : ∀ d, 0 ≤ d ∧ d < nd → 0 ≤ Pl (2 * d) ∧ Pl (2 * d) < nv) (hnd : nd ≤ 5) (H : Row nv np nd Pl b f h) : Row nv np nd Pl b (up1 (up1 f (25 + 2 * d) 0) (25 + 2 * d + 1) 0) (up1 h (25 + d) 0) := by
  obtain ⟨h1, h2, h3, h4, h5, h6, h7, h8, g0, gv, gq, gd⟩ := H
  refine ⟨by rw [up1_n (by omega), up1_n (by omega)]; exact h1, fun t => ?_, fun t => ?_, fun t ht => ?_, fun q hq => ?_, fun q hq => ?_, fun d' hd => ?_, fun d' hd => ?_, ?_, fun u hu => ?_, fun q hq => ?_, fun d' hd => ?_⟩
  · have a1 := h2 t
    unfold up1
    split
    · omega
    · split <;> omega
  · have a1 := h3 t
    unfold up1
    split <;> omega
  · rw [up1_n (show (0 : Int) ≠ 25 + 2 * d + 1 by omega), up1_n (show (0 : Int) ≠ 25 + 2 * d by omega)]
    have a1 := h4 t ht
    unfold up1
    split
    · omega
    · split <;> omega
  · by_cases hq6 : q < 6
    · rw [up1_n (by omega), up1_n (by omega)]; exact h5 q hq
    · unfold up1
      split
      · have := h5 q hq; have := h2 (13 + 2 * q); omega
      · split
        · have := h5 q hq; have := h2 (13 + 2 * q); omega
        · exact h5 q hq
  · rw [up1_n (by omega), up1_n (by omega)]; exact h6 q hq
  · have a1 := h7 d' hd
    rw [up1_n (by omega)]
    unfold up1
    split <;> omega
  · have hp := hPl d' hd
    have a1 := h8 d' hd
    have a2 := h2 (1 + 3 * Pl (2 * d') + 2)
    rw [up1_n (show 1 + 3 * Pl (2 * d') + 2 ≠ 25 + 2 * d + 1 by omega), up1_n (show 1 + 3 * Pl (2 * d') + 2 ≠ 25 + 2 * d by omega)]
    unfold up1
    split
    · omega
    · split <;> omega
  · rw [up1_n (by omega), up1_n (by omega), up1_n (by omega)]; exact g0
  · rw [up1_n (by omega), up1_n (by omega), up1_n (by omega), up1_n (by omega), up1_n (by omega), up1_n (by omega), up1_n (by omega), up1_n (by omega), up1_n (by omega)]; exact gv u hu
  · rw [up1_n (by omega), up1_n (by omega), up1_n (by omega), up1_n (by omega), up1_n (by omega), up1_n (by omega)]; exact gq q hq
  · obtain ⟨e1, e2⟩ := gd d' hd
    by_cases e : d' = d
    · subst e
      rw [up1_n (show 25 + 2 * d' ≠ 25 + 2 * d' + 1 by omega), up1_s, up1_s]
      exact ⟨rfl, fun q => absurd rfl q⟩
    · rw [up1_n (by omega), up1_n (by omega), up1_n (by omega), up1_n (by omega), up1_n (by omega), up1_n (by omega)]
      exact ⟨e1, e2⟩
theorem Row_lend {nv np nd b d x : Int} {Pl f h : Int → Int} (hb : 0 ≤ b) (hd0 : 0 ≤ d ∧ d < nd) (hx : 1 ≤ x ∧ x ≤ 999) (hnv : nv ≤ 4) (hnp : np ≤ 6) (hPl : ∀ d, 0 ≤ d ∧ d < nd → 0 ≤ Pl (2 * d) ∧ Pl (2 * d) < nv) (hnd : nd ≤ 5) (H : Row nv np nd Pl b f h) : Row nv np nd Pl b (up1 (up1 f (25 + 2 * d) x) (25 + 2 * d + 1) (f (1 + 3 * Pl (2 * d) + 2))) (up1 (up1 h (25 + d) x) (30 + d) (h (5 + Pl (2 * d)))) := by
  obtain ⟨h1, h2, h3, h4, h5, h6, h7, h8, g0, gv, gq, gd⟩ := H
  have hpd := hPl d hd0
  have b1 := h2 (1 + 3 * Pl (2 * d) + 2)
  have b2 := h3 (5 + Pl (2 * d))
  refine ⟨by rw [up1_n (by omega), up1_n (by omega)]; exact h1, fun t => ?_, fun t => ?_, fun t ht => ?_, fun q hq => ?_, fun q hq => ?_, fun d' hd => ?_, fun d' hd => ?_, ?_, fun u hu => ?_, fun q hq => ?_, fun d' hd => ?_⟩
  · have a1 := h2 t
    unfold up1
    split
    · omega
    · split <;> omega
  · have a1 := h3 t
    unfold up1
    split
    · omega
    · split <;> omega
  · rw [up1_n (show (0 : Int) ≠ 25 + 2 * d + 1 by omega), up1_n (show (0 : Int) ≠ 25 + 2 * d by omega)]
    have a1 := h4 t ht
    have a2 := h4 (1 + 3 * Pl (2 * d) + 2) (by omega)
    unfold up1
    split
    · omega
    · split <;> omega
  · rw [up1_n (by omega), up1_n (by omega)]; exact h5 q hq
  · rw [up1_n (by omega), up1_n (by omega)]; exact h6 q hq
  · have a1 := h7 d' hd
    rw [up1_n (by omega)]
    unfold up1
    split <;> omega
  · have hp := hPl d' hd
    have a1 := h8 d' hd
    rw [up1_n (show 1 + 3 * Pl (2 * d') + 2 ≠ 25 + 2 * d + 1 by omega), up1_n (show 1 + 3 * Pl (2 * d') + 2 ≠ 25 + 2 * d by omega)]
    by_cases e : d' = d
    · subst e; rw [up1_s]; omega
    · rw [up1_n (by omega), up1_n (by omega)]; exact a1
  · rw [up1_n (by omega), up1_n (by omega), up1_n (by omega), up1_n (by omega)]; exact g0
  · rw [up1_n (by omega), up1_n (by omega), up1_n (by omega), up1_n (by omega), up1_n (by omega), up1_n (by omega), up1_n (by omega), up1_n (by omega), up1_n (by omega), up1_n (by omega), up1_n (by omega), up1_n (by omega)]; exact gv u hu
  · rw [up1_n (by omega), up1_n (by omega), up1_n (by omega), up1_n (by omega), up1_n (by omega), up1_n (by omega), up1_n (by omega), up1_n (by omega)]; exact gq q hq
  · obtain ⟨e1, e2⟩ := gd d' hd
    by_cases e : d' = d
    · subst e
      rw [up1_n (show 25 + d' ≠ 30 + d' by omega), up1_s, up1_n (show 25 + 2 * d' ≠ 25 + 2 * d' + 1 by omega), up1_s, up1_s, up1_s]
      exact ⟨rfl, fun _ => (gv _ (by omega)).2.1⟩
    · rw [up1_n (by omega), up1_n (by omega), up1_n (by omega), up1_n (by omega), up1_n (by omega), up1_n (by omega), up1_n (by omega), up1_n (by omega)]
      exact ⟨e1, e2⟩
