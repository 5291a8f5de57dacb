/-! BOTH: liars -/
section J20
variable {d k : Nat} {M : Nat → Nat → Int} {Qp : PQ} {w : Nat → Int}
def allF (w : Nat → Int) : Nat → Int
  | 0 => 15
  | L + 1 => if mayP w L then bAnd (allF w L) L else allF w L
theorem allF_b : ∀ L, L ≤ 16 → ∃ a : Nat, allF w L = a ∧ a < 16
  | 0, _ => ⟨15, rfl, by omega⟩
  | L + 1, h => by
    obtain ⟨a, e, ha⟩ := allF_b L (by omega)
    unfold allF
    split
    · refine ⟨a &&& L, ?_, Nat.lt_of_le_of_lt Nat.and_le_left ha⟩
      rw [e, bAnd_nat (by omega) (by omega)]
    · exact ⟨a, e, ha⟩
theorem liar_eq : ∀ L, L ≤ 16 → (0 ≤ liarN w L ∧ liarN w L ≤ L) ∧ (liarN w L = 0 → allF w L = 15) ∧ liarA w L = if liarN w L = 0 then -1 else allF w L
  | 0, _ => ⟨⟨by show (0 : Int) ≤ 0; omega, by show (0 : Int) ≤ 0; omega⟩, fun _ => rfl, rfl⟩
  | L + 1, h => by
    obtain ⟨b, h15, e⟩ := liar_eq L (by omega)
    obtain ⟨a, ea, ha⟩ := allF_b (w := w) L (by omega)
    unfold liarN allF liarA
    by_cases q : mayP w L
    · rw [if_pos q, if_pos q, if_pos q]
      refine ⟨by omega, fun z => by omega, ?_⟩
      rw [if_neg (show ¬ liarN w L + 1 = 0 by omega), e]
      by_cases z : liarN w L = 0
      · rw [if_pos z, if_pos rfl, h15 z]
        have := bAnd_nat (a := 15) (b := L) (by omega) (by omega)
        rw [show ((15 : Nat) : Int) = 15 from rfl] at this
        rw [this]
        have : L < 16 := by omega
        have e15 : 15 &&& L = L := by
          have h2 : L &&& (2 ^ 4 - 1) = L % 2 ^ 4 := Nat.and_two_pow_sub_one_eq_mod L 4
          rw [show 2 ^ 4 - 1 = 15 from rfl] at h2
          rw [Nat.and_comm, h2]
          omega
        rw [e15]
      · rw [if_neg z, if_neg (by omega)]
    · rw [if_neg q, if_neg q, if_neg q, Int.add_zero]
      exact ⟨by omega, h15, e⟩
end J20
