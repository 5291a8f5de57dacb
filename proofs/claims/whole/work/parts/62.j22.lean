/-! THE MODEL: what it notes of an evening, step by step -/
section J22
variable {w : Nat → Int} {p : Nat}
def shL (w : Nat → Int) (i : Nat) : Nat → Int := fun k => if 92 ≤ k ∧ k < 92 + i then w (k + 13) else w k
theorem shL_0 : shL w 0 = w := by
  funext k
  unfold shL
  rw [if_neg (by omega)]
theorem shL_hi {i k : Nat} (h : k < 92 ∨ 92 + i ≤ k) : shL w i k = w k := by
  unfold shL
  rw [if_neg (by omega)]
theorem shL_s {i : Nat} : upf (shL w i) (92 + i) (w (92 + i + 13)) = shL w (i + 1) := by
  funext k
  unfold upf shL
  by_cases h : k = 92 + i
  · rw [if_pos h, if_pos (by omega), h]
  · rw [if_neg h]
    by_cases h2 : 92 ≤ k ∧ k < 92 + i
    · rw [if_pos h2, if_pos (by omega)]
    · rw [if_neg h2, if_neg (by omega)]
theorem shL_end : upf (shL w 91) 3 7 = shW w := by
  funext k
  unfold upf shL shW
  by_cases h : k = 3
  · rw [if_pos h]
  · rw [if_neg h]
def pB (w : Nat → Int) (p i : Nat) : Nat → Int := fun k => if 92 + 13 * p ≤ k ∧ k < 92 + 13 * p + i then w (4 + 3 * (k - 92 - 13 * p)) else w k
theorem pB_0 : pB w p 0 = w := by
  funext k
  unfold pB
  rw [if_neg (by omega)]
theorem pB_lo {i k : Nat} (h : k < 92) : pB w p i k = w k := by
  unfold pB
  rw [if_neg (by omega)]
theorem pB_s {i : Nat} : upf (pB w p i) (92 + 13 * p + i) (w (4 + 3 * i)) = pB w p (i + 1) := by
  funext k
  unfold upf pB
  by_cases h : k = 92 + 13 * p + i
  · rw [if_pos h, if_pos (by omega), show k - 92 - 13 * p = i by omega]
  · rw [if_neg h]
    by_cases h2 : 92 + 13 * p ≤ k ∧ k < 92 + 13 * p + i
    · rw [if_pos h2, if_pos (by omega)]
    · rw [if_neg h2, if_neg (by omega)]
def pN (w : Nat → Int) (p c : Nat) : Nat → Int := fun k => if 98 + 13 * p ≤ k ∧ k < 98 + 13 * p + c then w (60 + 5 * ((k - 98 - 13 * p) / 3) + (k - 98 - 13 * p) % 3) else pB w p 6 k
theorem pN_0 : pB w p 6 = pN w p 0 := by
  funext k
  unfold pN
  rw [if_neg (by omega)]
theorem pN_lo {c k : Nat} (h : k < 92) : pN w p c k = w k := by
  unfold pN
  rw [if_neg (by omega), pB_lo h]
theorem pN_s {i j : Nat} (hj : j < 3) : upf (pN w p (3 * i + j)) (98 + 13 * p + 3 * i + j) (w (60 + 5 * i + j)) = pN w p (3 * i + (j + 1)) := by
  funext k
  unfold upf
  by_cases h : k = 98 + 13 * p + 3 * i + j
  · rw [if_pos h]
    unfold pN
    rw [if_pos (by omega), show (k - 98 - 13 * p) / 3 = i by omega, show (k - 98 - 13 * p) % 3 = j by omega]
  · rw [if_neg h]
    unfold pN
    by_cases h2 : 98 + 13 * p ≤ k ∧ k < 98 + 13 * p + (3 * i + j)
    · rw [if_pos h2, if_pos (by omega)]
    · rw [if_neg h2, if_neg (by omega)]
theorem pN_end : upf (upf (pN w p 6) (104 + 13 * p) (w 1)) 3 (p + 1) = putE w p := by
  funext k
  unfold upf
  by_cases h3 : k = 3
  · rw [if_pos h3]
    unfold putE
    rw [if_pos h3]
  · rw [if_neg h3]
    by_cases hd : k = 104 + 13 * p
    · rw [if_pos hd]
      unfold putE
      rw [if_neg h3, if_pos hd]
    · rw [if_neg hd]
      unfold pN pB putE
      by_cases a : 92 + 13 * p ≤ k ∧ k < 98 + 13 * p
      · rw [if_neg (by omega), if_pos (by omega), if_neg h3, if_neg hd, if_pos a]
      · by_cases b : 98 + 13 * p ≤ k ∧ k < 101 + 13 * p
        · rw [if_pos (by omega), if_neg h3, if_neg hd, if_neg a, if_pos b, show 60 + 5 * ((k - 98 - 13 * p) / 3) + (k - 98 - 13 * p) % 3 = 60 + (k - 98 - 13 * p) by omega]
        · by_cases c : 101 + 13 * p ≤ k ∧ k < 104 + 13 * p
          · rw [if_pos (by omega), if_neg h3, if_neg hd, if_neg a, if_neg b, if_pos c, show 60 + 5 * ((k - 98 - 13 * p) / 3) + (k - 98 - 13 * p) % 3 = 65 + (k - 101 - 13 * p) by omega]
          · rw [if_neg (by omega), if_neg (by omega), if_neg h3, if_neg hd, if_neg a, if_neg b, if_neg c]
end J22
