/-! PLAN: what both reckon -/
def vsF (w : Nat → Int) (i x : Nat) (b : Int) : Int := tideF b (if 8 ≤ b then plainF (farW w x) (w (59 + 5 * i)) else 16 - plainF (farW w x) (w (59 + 5 * i)))
def leF (w : Nat → Int) (x : Nat) (b : Int) : Int := doubtF (dayF b (w (5 + 3 * x)) (w (6 + 3 * x)))
def vA (w A : Nat → Int) (a b x : Nat) : Int := if x = a then vsF w 0 x (A x) else if x = b then vsF w 1 x (A x) else A x
def ahF (w A : Nat → Int) (a b x : Nat) : Int := dayF (vA w A a b x) (w (5 + 3 * x)) (w (6 + 3 * x))
def dP (w : Nat → Int) (L : Nat) (A : Nat → Int) : Nat → Int
  | 0 => 0
  | x + 1 => dP w L A x + (if btI (L : Int) (x : Int) = 1 then leF w x (A x) else 0)
def gP (w A : Nat → Int) (i x : Nat) : Int := if x = 7 then 0 else leF w x (A x) - leF w x (vsF w i x (A x))
abbrev PA (w A : Nat → Int) : Prop := ∀ x : Nat, (x : Int) < w 0 → P16 (A x)
section J39
variable {w A : Nat → Int} {L : Nat}
theorem vs_b {i x : Nat} {b : Int} (hI : WI w) (hi : i < 2) (hx : x < 6) (hf : farW w x ≠ -1) (hb : P16 b) : P16 (vsF w i x b) := by
  have hI1 := hI.1
  unfold WIa at hI1
  have hfb := farW_b hI1.1 hI.2.2.1 hx
  have ib := hI.2.2.2.1 i hi
  have hp := plainB (show 0 ≤ farW w x by omega) (show 0 < w (59 + 5 * i) by omega)
  unfold vsF
  split
  · exact tideB hb (by omega)
  · exact tideB hb (by omega)
theorem le_b {x : Nat} {b : Int} (hI : WI w) (hx : x < 6) (hb : P16 b) : 0 ≤ leF w x b ∧ leF w x b ≤ 8 := by
  have h := hI.2.1 x hx
  exact doubtB (dayB hb h.2.1 h.2.2)
theorem vA_b {a b : Nat} (hI : WI w) (hp : opP (opB w L 0) (opB w L 1) a b) (hA : PA w A) : PA w (vA w A a b) := fun x hx => by
  have hI1 := hI.1
  unfold WIa at hI1
  unfold vA
  by_cases q : x = a
  · rw [if_pos q]
    have := opB_land (show a ≠ 7 by omega) hp.1
    exact vs_b hI (by omega) (by omega) (by rw [q]; exact this.2.1.1) (hA x hx)
  · rw [if_neg q]
    by_cases q2 : x = b
    · rw [if_pos q2]
      have := opB_land (show b ≠ 7 by omega) hp.2.1
      exact vs_b hI (by omega) (by omega) (by rw [q2]; exact this.2.1.1) (hA x hx)
    · rw [if_neg q2]
      exact hA x hx
theorem ah_b {a b : Nat} (hI : WI w) (hp : opP (opB w L 0) (opB w L 1) a b) (hA : PA w A) : PA w (ahF w A a b) := fun x hx => by
  have hI1 := hI.1
  unfold WIa at hI1
  have h := hI.2.1 x (by omega)
  exact dayB (vA_b hI hp hA x hx) h.2.1 h.2.2
theorem dP_b (hI : WI w) (hA : PA w A) : ∀ m : Nat, (m : Int) ≤ w 0 → 0 ≤ dP w L A m ∧ dP w L A m ≤ 8 * m
  | 0, _ => ⟨Int.le_refl _, Int.le_refl _⟩
  | m + 1, hm => by
    have hI1 := hI.1
    unfold WIa at hI1
    have ih := dP_b hI hA m (by omega)
    have b := le_b hI (show m < 6 by omega) (hA m (by omega))
    show 0 ≤ dP w L A m + (if btI (L : Int) (m : Int) = 1 then leF w m (A m) else 0) ∧ dP w L A m + (if btI (L : Int) (m : Int) = 1 then leF w m (A m) else 0) ≤ 8 * ((m + 1 : Nat) : Int)
    split <;> omega
theorem gP_b {i x : Nat} (hI : WI w) (hi : i < 2) (ho : btI (opB w L i : Nat) (x : Int) = 1) (hA : PA w A) : -8 ≤ gP w A i x ∧ gP w A i x ≤ 8 := by
  have hI1 := hI.1
  unfold WIa at hI1
  unfold gP
  by_cases q : x = 7
  · rw [if_pos q]
    omega
  · rw [if_neg q]
    have hl := opB_land q ho
    have a := le_b hI (show x < 6 by omega) (hA x (by omega))
    have b := le_b hI (show x < 6 by omega) (vs_b hI hi (show x < 6 by omega) hl.2.1.1 (hA x (by omega)))
    omega
/-- what two flights take from the doubts adds up -/
theorem dP_v {a b : Nat} (hI : WI w) (hp : opP (opB w L 0) (opB w L 1) a b) : dP w L (vA w A a b) (w 0).toNat = dP w L A (w 0).toNat - (gP w A 0 a + gP w A 1 b) := by
  have hI1 := hI.1
  unfold WIa at hI1
  have key : ∀ m : Nat, m ≤ 6 → dP w L (vA w A a b) m = dP w L A m - ((if a < m then gP w A 0 a else 0) + (if b < m then gP w A 1 b else 0)) := by
    intro m
    induction m with
    | zero => intro _; rfl
    | succ m ih =>
      intro hm
      have e := ih (by omega)
      have s1 : dP w L (vA w A a b) (m + 1) = dP w L (vA w A a b) m + (if btI (L : Int) (m : Int) = 1 then leF w m (vA w A a b m) else 0) := rfl
      have s2 : dP w L A (m + 1) = dP w L A m + (if btI (L : Int) (m : Int) = 1 then leF w m (A m) else 0) := rfl
      rw [s1, s2, e]
      by_cases qa : m = a
      · subst qa
        have hl := opB_land (show m ≠ 7 by omega) hp.1
        have hb : m ≠ b := by have := hp.2.2; omega
        have v : vA w A m b m = vsF w 0 m (A m) := if_pos rfl
        have g : gP w A 0 m = leF w m (A m) - leF w m (vsF w 0 m (A m)) := if_neg (by omega)
        rw [if_pos hl.2.2, if_pos hl.2.2, v, if_neg (Nat.lt_irrefl m), if_pos (Nat.lt_succ_self m), g]
        by_cases qb : b < m
        · rw [if_pos qb, if_pos (by omega)]
          omega
        · rw [if_neg qb, if_neg (by omega)]
          omega
      · by_cases qb : m = b
        · subst qb
          have hl := opB_land (show m ≠ 7 by omega) hp.2.1
          have v : vA w A a m m = vsF w 1 m (A m) := by
            unfold vA
            rw [if_neg qa, if_pos rfl]
          have g : gP w A 1 m = leF w m (A m) - leF w m (vsF w 1 m (A m)) := if_neg (by omega)
          rw [if_pos hl.2.2, if_pos hl.2.2, v, if_neg (Nat.lt_irrefl m), if_pos (Nat.lt_succ_self m), g]
          by_cases qa2 : a < m
          · rw [if_pos qa2, if_pos (by omega)]
            omega
          · rw [if_neg qa2, if_neg (by omega)]
            omega
        · have v : vA w A a b m = A m := by
            unfold vA
            rw [if_neg qa, if_neg qb]
          have ca : (a < m + 1) = (a < m) := propext ⟨fun h => by omega, fun h => by omega⟩
          have cb : (b < m + 1) = (b < m) := propext ⟨fun h => by omega, fun h => by omega⟩
          simp only [v, ca, cb]
          omega
  rw [key _ (by omega)]
  have za : (if a < (w 0).toNat then gP w A 0 a else 0) = gP w A 0 a := by
    by_cases q : a = 7
    · rw [if_neg (by omega), q]
      rfl
    · rw [if_pos (opB_land q hp.1).1]
  have zb : (if b < (w 0).toNat then gP w A 1 b else 0) = gP w A 1 b := by
    by_cases q : b = 7
    · rw [if_neg (by omega), q]
      rfl
    · rw [if_pos (opB_land q hp.2.1).1]
  rw [za, zb]
end J39
abbrev Pc1 (o0 o1 c : Nat) : Prop := opP o0 o1 (c / 8) (c % 8)
def mnF (o0 o1 : Nat) (S : Nat → Int) : Nat → Int × Int
  | 0 => (-1, 0)
  | c + 1 => if Pc1 o0 o1 c ∧ ((mnF o0 o1 S c).1 = -1 ∨ S c < (mnF o0 o1 S c).2) then ((c : Int), S c) else mnF o0 o1 S c
def m2F (o0 o1 : Nat) (S : Nat → Nat → Int) : Nat → Int × Int
  | 0 => (-1, 0)
  | c + 1 => if (Pc1 o0 o1 (c / 64) ∧ Pc1 o0 o1 (c % 64)) ∧ ((m2F o0 o1 S c).1 = -1 ∨ S (c / 64) (c % 64) < (m2F o0 o1 S c).2) then ((c : Int), S (c / 64) (c % 64)) else m2F o0 o1 S c
theorem mn_i {o0 o1 : Nat} {S : Nat → Int} : ∀ c, ((mnF o0 o1 S c).1 = -1 ∧ ∀ x, x < c → ¬ Pc1 o0 o1 x) ∨ ∃ y, y < c ∧ Pc1 o0 o1 y ∧ mnF o0 o1 S c = ((y : Int), S y)
  | 0 => Or.inl ⟨rfl, fun x hx => by omega⟩
  | c + 1 => by
    unfold mnF
    by_cases q : Pc1 o0 o1 c ∧ ((mnF o0 o1 S c).1 = -1 ∨ S c < (mnF o0 o1 S c).2)
    · rw [if_pos q]
      exact Or.inr ⟨c, by omega, q.1, rfl⟩
    · rw [if_neg q]
      rcases mn_i (o0 := o0) (o1 := o1) (S := S) c with ⟨h1, h2⟩ | ⟨y, h1, h2, h3⟩
      · refine Or.inl ⟨h1, fun x hx hp => ?_⟩
        by_cases e : x = c
        · subst e
          exact q ⟨hp, Or.inl h1⟩
        · exact h2 x (by omega) hp
      · exact Or.inr ⟨y, by omega, h2, h3⟩
theorem m2_i {o0 o1 : Nat} {S : Nat → Nat → Int} : ∀ c, ((m2F o0 o1 S c).1 = -1 ∧ ∀ x, x < c → ¬ (Pc1 o0 o1 (x / 64) ∧ Pc1 o0 o1 (x % 64))) ∨ ∃ y, y < c ∧ (Pc1 o0 o1 (y / 64) ∧ Pc1 o0 o1 (y % 64)) ∧ m2F o0 o1 S c = ((y : Int), S (y / 64) (y % 64))
  | 0 => Or.inl ⟨rfl, fun x hx => by omega⟩
  | c + 1 => by
    unfold m2F
    by_cases q : (Pc1 o0 o1 (c / 64) ∧ Pc1 o0 o1 (c % 64)) ∧ ((m2F o0 o1 S c).1 = -1 ∨ S (c / 64) (c % 64) < (m2F o0 o1 S c).2)
    · rw [if_pos q]
      exact Or.inr ⟨c, by omega, q.1, rfl⟩
    · rw [if_neg q]
      rcases m2_i (o0 := o0) (o1 := o1) (S := S) c with ⟨h1, h2⟩ | ⟨y, h1, h2, h3⟩
      · refine Or.inl ⟨h1, fun x hx hp => ?_⟩
        by_cases e : x = c
        · subst e
          exact q ⟨hp, Or.inl h1⟩
        · exact h2 x (by omega) hp
      · exact Or.inr ⟨y, by omega, h2, h3⟩
theorem mn_bp {o0 o1 : Nat} {S : Nat → Int} {g0 g1 : Nat → Int} {D : Int} (hS : ∀ c, c < 64 → Pc1 o0 o1 c → S c = D - (g0 (c / 8) + g1 (c % 8))) : ∀ c, c ≤ 64 → ((mnF o0 o1 S c).1 = -1 ∧ (bpF o0 o1 g0 g1 c).1 = -1) ∨ ∃ y, y < c ∧ Pc1 o0 o1 y ∧ mnF o0 o1 S c = ((y : Int), S y) ∧ bpF o0 o1 g0 g1 c = (10 * ((y / 8 : Nat) : Int) + ((y % 8 : Nat) : Int), g0 (y / 8) + g1 (y % 8))
  | 0, _ => Or.inl ⟨rfl, rfl⟩
  | c + 1, hc => by
    have ih := mn_bp hS c (by omega)
    unfold mnF bpF
    by_cases q : Pc1 o0 o1 c
    · have sc := hS c (by omega) q
      rcases ih with ⟨h1, h2⟩ | ⟨y, h1, h2, h3, h4⟩
      · rw [if_pos ⟨q, Or.inl h1⟩, if_pos ⟨q, Or.inl h2⟩]
        exact Or.inr ⟨c, by omega, q, rfl, rfl⟩
      · have sy := hS y (by omega) h2
        rw [h3, h4]
        simp only
        by_cases z : S c < S y
        · rw [if_pos ⟨q, Or.inr z⟩, if_pos ⟨q, Or.inr (by omega)⟩]
          exact Or.inr ⟨c, by omega, q, rfl, rfl⟩
        · rw [if_neg (fun h => by have := h.2; omega), if_neg (fun h => by have := h.2; omega)]
          exact Or.inr ⟨y, by omega, h2, rfl, rfl⟩
    · rw [if_neg (fun h => q h.1), if_neg (fun h => q h.1)]
      rcases ih with h | ⟨y, h1, h2⟩
      · exact Or.inl h
      · exact Or.inr ⟨y, by omega, h2⟩
theorem m2_blk {o0 o1 k : Nat} {S : Nat → Nat → Int} : ∀ j, j ≤ 64 → m2F o0 o1 S (64 * k + j) = if Pc1 o0 o1 k ∧ (mnF o0 o1 (S k) j).1 ≠ -1 ∧ ((m2F o0 o1 S (64 * k)).1 = -1 ∨ (mnF o0 o1 (S k) j).2 < (m2F o0 o1 S (64 * k)).2) then (64 * (k : Int) + (mnF o0 o1 (S k) j).1, (mnF o0 o1 (S k) j).2) else m2F o0 o1 S (64 * k)
  | 0, _ => by
    rw [if_neg (fun h => h.2.1 rfl)]
    rfl
  | j + 1, hj => by
    have ih := m2_blk (o0 := o0) (o1 := o1) (k := k) (S := S) j (by omega)
    have e1 : (64 * k + j) / 64 = k := by omega
    have e2 : (64 * k + j) % 64 = j := by omega
    have mb : -1 ≤ (mnF o0 o1 (S k) j).1 := by
      rcases mn_i (o0 := o0) (o1 := o1) (S := S k) j with ⟨h1, h2⟩ | ⟨y, h1, h2, h3⟩
      · omega
      · rw [h3]
        simp only
        omega
    have sL : m2F o0 o1 S (64 * k + (j + 1)) = if (Pc1 o0 o1 k ∧ Pc1 o0 o1 j) ∧ ((m2F o0 o1 S (64 * k + j)).1 = -1 ∨ S k j < (m2F o0 o1 S (64 * k + j)).2) then (((64 * k + j : Nat) : Int), S k j) else m2F o0 o1 S (64 * k + j) := by
      show m2F o0 o1 S ((64 * k + j) + 1) = _
      rw [m2F, e1, e2]
    have sR : mnF o0 o1 (S k) (j + 1) = if Pc1 o0 o1 j ∧ ((mnF o0 o1 (S k) j).1 = -1 ∨ S k j < (mnF o0 o1 (S k) j).2) then ((j : Int), S k j) else mnF o0 o1 (S k) j := rfl
    have ec : ((64 * k + j : Nat) : Int) = 64 * (k : Int) + (j : Int) := by omega
    generalize m2F o0 o1 S (64 * k + (j + 1)) = X at *
    generalize m2F o0 o1 S (64 * k + j) = Y at *
    generalize m2F o0 o1 S (64 * k) = s0 at *
    generalize mnF o0 o1 (S k) (j + 1) = V at *
    generalize mnF o0 o1 (S k) j = u at *
    generalize S k j = T at *
    rw [sL]
    by_cases hk : Pc1 o0 o1 k
    · by_cases hj2 : Pc1 o0 o1 j
      · by_cases hC : u.1 ≠ -1 ∧ (s0.1 = -1 ∨ u.2 < s0.2)
        · rw [if_pos ⟨hk, hC⟩] at ih
          rw [ih]
          simp only
          by_cases z : T < u.2
          · rw [if_pos ⟨hj2, Or.inr z⟩] at sR
            rw [sR, if_pos ⟨⟨hk, hj2⟩, Or.inr z⟩, if_pos ⟨hk, by simp only; omega, by simp only; omega⟩, ec]
          · rw [if_neg (fun h => by have := h.2; omega)] at sR
            rw [sR, if_neg (fun h => by have := h.2; omega), if_pos ⟨hk, hC⟩]
        · rw [if_neg (fun h => hC h.2)] at ih
          rw [ih]
          by_cases z : s0.1 = -1 ∨ T < s0.2
          · rw [if_pos ⟨hj2, by omega⟩] at sR
            rw [sR, if_pos ⟨⟨hk, hj2⟩, z⟩, if_pos ⟨hk, by simp only; omega, z⟩, ec]
          · rw [if_neg (fun h => z h.2)]
            by_cases z2 : u.1 = -1 ∨ T < u.2
            · rw [if_pos ⟨hj2, z2⟩] at sR
              rw [sR, if_neg (fun h => z h.2.2)]
            · rw [if_neg (fun h => z2 h.2)] at sR
              rw [sR, if_neg (fun h => hC h.2)]
      · rw [if_neg (fun h => hj2 h.1)] at sR
        rw [sR, if_neg (fun h => hj2 h.1.2), ih]
    · rw [if_neg (fun h => hk h.1)] at ih
      rw [if_neg (fun h => hk h.1.1), if_neg (fun h => hk h.1), ih]
