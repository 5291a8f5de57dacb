/-! THE MODEL: what it notes of an evening, step by step -/
section J22
variable {w : Nat → Int} {p : Nat}
def shL (w : Nat → Int) (i : Nat) : Nat → Int := fun k => if 92 ≤ k ∧ k < 92 + i then w (k + 13) else w k
theorem shL_0 : shL w 0 = w := by
  funext k
  unfold shL
  rw [if_neg (by omega)]
theorem shL_hi {i k : Nat} (h : k < 92 ∨ 92 + i ≤ k) : shL w i k = w k := by
  unfold shL
  rw [if_neg (by omega)]
theorem shL_s {i : Nat} : upf (shL w i) (92 + i) (w (92 + i + 13)) = shL w (i + 1) := by
  funext k
  unfold upf shL
  by_cases h : k = 92 + i
  · rw [if_pos h, if_pos (by omega), h]
  · rw [if_neg h]
    by_cases h2 : 92 ≤ k ∧ k < 92 + i
    · rw [if_pos h2, if_pos (by omega)]
    · rw [if_neg h2, if_neg (by omega)]
theorem shL_end : upf (shL w 91) 3 7 = shW w := by
  funext k
  unfold upf shL shW
  by_cases h : k = 3
  · rw [if_pos h]
  · rw [if_neg h]
def pB (w : Nat → Int) (p i : Nat) : Nat → Int := fun k => if 92 + 13 * p ≤ k ∧ k < 92 + 13 * p + i then w (4 + 3 * (k - 92 - 13 * p)) else w k
theorem pB_0 : pB w p 0 = w := by
  funext k
  unfold pB
  rw [if_neg (by omega)]
theorem pB_lo {i k : Nat} (h : k < 92) : pB w p i k = w k := by
  unfold pB
  rw [if_neg (by omega)]
theorem pB_s {i : Nat} : upf (pB w p i) (92 + 13 * p + i) (w (4 + 3 * i)) = pB w p (i + 1) := by
  funext k
  unfold upf pB
  by_cases h : k = 92 + 13 * p + i
  · rw [if_pos h, if_pos (by omega), show k - 92 - 13 * p = i by omega]
  · rw [if_neg h]
    by_cases h2 : 92 + 13 * p ≤ k ∧ k < 92 + 13 * p + i
    · rw [if_pos h2, if_pos (by omega)]
    · rw [if_neg h2, if_neg (by omega)]
end J22
