/-! THE MODEL: an evening, bird by bird; rows of the world with what is far beside -/
section J25
variable {d k : Nat} {M : Nat → Nat → Int} {Qp : PQ} {w f : Nat → Int}
theorem mFar_at {j : Nat} : mRow (mRow M 269 w) 276 f 269 j = w j := by rw [mRow_ne (by omega), mRow_same]
theorem mFar_269 : mRow (mRow M 269 w) 276 f 269 = w := by rw [mRow_row_ne (by omega), mRow_row_eq]
theorem mFar_f {j : Nat} : mRow (mRow M 269 w) 276 f 276 j = f j := mRow_same
theorem mFar_st {j : Nat} {v : Int} : mSt (mRow (mRow M 269 w) 276 f) 269 j v = mRow (mRow M 269 (upf w j v)) 276 f := by
  funext a x
  unfold mSt mRow upf
  by_cases z : a = 269
  · subst z
    simp
  · simp [z]
theorem upf_comm {g : Nat → Int} {i j : Nat} {a b : Int} (h : i ≠ j) : upf (upf g i a) j b = upf (upf g j b) i a := by
  funext x
  unfold upf
  by_cases e : x = i
  · rw [if_pos e, if_neg (by omega), if_pos e]
  · rw [if_neg e, if_neg e]
def ncl (w : Nat → Int) (i : Nat) : Nat → Int := opTell w i (-1) 0 0
theorem ncl_ne {i j : Nat} (h : j < 60 + 5 * i ∨ 63 + 5 * i ≤ j) : ncl w i j = w j := tell_ne h
theorem WI_ncl {i : Nat} (h : WI w) (hi : i < 2) : WI (ncl w i) := WI_tell h hi (Or.inl ⟨rfl, rfl, rfl⟩)
theorem ncl_id {i : Nat} (h1 : w (60 + 5 * i) = -1) (h2 : w (61 + 5 * i) = 0) (h3 : w (62 + 5 * i) = 0) : ncl w i = w := by
  have e : opTell w i (-1) 0 0 = opTell w i (w (60 + 5 * i)) (w (61 + 5 * i)) (w (62 + 5 * i)) := by rw [h1, h2, h3]
  unfold ncl
  rw [e]
  unfold opTell
  rw [upf_self, upf_self, upf_self]
/-- the model's row behind bird i -/
def mBd (w : Nat → Int) (i : Nat) : Nat → Int := ncl (birdE w i) i
theorem mBd_no {i : Nat} (h : WI w) (hi : i < 2) (h1 : w (60 + 5 * i) = -1) : mBd w i = w := by
  have t := (h.2.2.2.1 i hi).2.2
  unfold mBd birdE
  rw [if_pos h1]
  rcases t with ⟨a, b, c⟩ | ⟨a, b, c, e⟩
  · exact ncl_id a b c
  · omega
theorem mBd_yes {i : Nat} (h1 : w (60 + 5 * i) ≠ -1) : mBd w i = upf (upf (upf (upf w (4 + 3 * (w (60 + 5 * i)).toNat) (newB w (w (60 + 5 * i)).toNat i)) (60 + 5 * i) (-1)) (61 + 5 * i) 0) (62 + 5 * i) 0 := by
  unfold mBd birdE
  rw [if_neg h1]
  rfl
theorem WI_mBd {i : Nat} (h : WI w) (hi : i < 2) : WI (mBd w i) := WI_ncl (WI_birdE h hi) hi
theorem mBd_ne {i j : Nat} (h : WI w) (hi : i < 2) (hj : j < 4 ∨ (22 ≤ j ∧ j < 60)) : mBd w i j = w j := by
  unfold mBd
  rw [ncl_ne (by omega), birdE_ne h hi (by omega)]
theorem mBd_far {i : Nat} (h : WI w) (hi : i < 2) : ∀ x, farW (mBd w i) x = farW w x := farW_eq h.1.1 (mBd_ne h hi (by omega)) (fun k q q2 => mBd_ne h hi (by omega))
theorem newB_ncl {l : Nat} (h : WI w) (hl : l < 6) : newB (ncl w 0) l 1 = newB w l 1 := by
  have e : ∀ j, (j < 60 ∨ 63 ≤ j) → ncl w 0 j = w j := fun j hj => ncl_ne (by omega)
  have hf : farW (ncl w 0) l = farW w l := farW_eq h.1.1 (e 0 (by omega)) (fun k q q2 => e k (by omega)) l
  unfold newB
  rw [hf, e (5 + 3 * l) (by omega), e (6 + 3 * l) (by omega), e (4 + 3 * l) (by omega), e (62 + 5 * 1) (by omega), e (61 + 5 * 1) (by omega), e (59 + 5 * 1) (by omega)]
theorem birdE_ncl (h : WI w) : birdE (ncl w 0) 1 = ncl (birdE w 1) 0 := by
  have e : ncl w 0 (60 + 5 * 1) = w (60 + 5 * 1) := ncl_ne (by omega)
  have t := (h.2.2.2.1 1 (by omega)).2.2
  have hI1 := h.1
  unfold WIa at hI1
  unfold birdE
  rw [e]
  by_cases q : w (60 + 5 * 1) = -1
  · rw [if_pos q, if_pos q]
  · rw [if_neg q, if_neg q]
    have hl : (w (60 + 5 * 1)).toNat < 6 := by
      rcases t with ⟨a, b, c⟩ | ⟨a, b, c, e⟩ <;> omega
    rw [newB_ncl h hl]
    generalize newB w (w (60 + 5 * 1)).toNat 1 = V
    generalize (w (60 + 5 * 1)).toNat = L at hl
    unfold ncl opTell
    rw [upf_comm (i := 62 + 5 * 0) (by omega), upf_comm (i := 61 + 5 * 0) (by omega), upf_comm (i := 60 + 5 * 0) (by omega)]
theorem ncl_clr : ncl (ncl w 0) 1 = clrE w := rfl
theorem dayK_clr {n : Nat} : dayK (clrE w) n = clrE (dayK w n) := by
  have e : ∀ (u : Nat → Int) j, j < 60 → clrE u j = u j := fun u j hj => by
    unfold clrE
    (repeat (first | rw [upf_ne (by omega)] | rw [upf_same]))
  funext x
  by_cases hx : x < 60
  · rw [e _ x hx]
    by_cases q : 4 ≤ x ∧ x < 22 ∧ (x - 4) % 3 = 0 ∧ (x - 4) / 3 < n
    · have a : ∀ u : Nat → Int, dayK u n x = dayF (u x) (u (x + 1)) (u (x + 2)) := fun u => if_pos q
      rw [a, a, e _ _ hx, e _ _ (by omega), e _ _ (by omega)]
    · have a : ∀ u : Nat → Int, dayK u n x = u x := fun u => if_neg q
      rw [a, a, e _ _ hx]
  · rw [dayK_ne (by omega)]
    unfold clrE
    simp only [upf, dayK_ne (w := w) (i := n) (k := x) (by omega)]
theorem dayK_s {i : Nat} (hi : i < 6) : upf (dayK w i) (4 + 3 * i) (dayF (dayK w i (4 + 3 * i)) (dayK w i (5 + 3 * i)) (dayK w i (6 + 3 * i))) = dayK w (i + 1) := by
  funext x
  by_cases q : x = 4 + 3 * i
  · subst q
    rw [upf_same, dayK_b hi, if_neg (by omega), dayK_ne (by omega), dayK_ne (by omega), dayK_b hi, if_pos (by omega)]
  · rw [upf_ne q]
    by_cases q2 : 4 ≤ x ∧ x < 22 ∧ (x - 4) % 3 = 0 ∧ (x - 4) / 3 < i
    · have a : dayK w i x = dayF (w x) (w (x + 1)) (w (x + 2)) := if_pos q2
      have b : dayK w (i + 1) x = dayF (w x) (w (x + 1)) (w (x + 2)) := if_pos (by omega)
      rw [a, b]
    · have a : dayK w i x = w x := if_neg q2
      have b : dayK w (i + 1) x = w x := if_neg (by omega)
      rw [a, b]
theorem mEve_eq (h : WI w) : upf (dayK (mBd (mBd (opKeep w) 0) 1) (w 0).toNat) 1 (w 1 + 1) = opEve w := by
  have e : mBd (mBd (opKeep w) 0) 1 = clrE (birdE (birdE (opKeep w) 0) 1) := by
    show ncl (birdE (ncl (birdE (opKeep w) 0) 0) 1) 1 = _
    rw [birdE_ncl (WI_birdE (WI_keep h) (by omega)), ncl_clr]
  rw [e, dayK_clr]
  rfl
end J25
