theorem stA_eq {B C : Nat → Int → Int} {j : Nat} {M : Int → Int} (h : ∀ i, i ≠ j → B i = C i) : stA B j M = stA C j M := by
  funext i
  by_cases hi : i = j
  · subst hi; rw [stA_s, stA_s]
  · rw [stA_n hi, stA_n hi, h i hi]
theorem rOk_up1 {nv np B : Int} {f : Int → Int} {k : Int} (h : rOk nv np f B) (hk : k < 13) : rOk nv np (up1 f k (f k + 1)) (B + 1) := rOk_up h (by have := h.1 k; omega) hk
