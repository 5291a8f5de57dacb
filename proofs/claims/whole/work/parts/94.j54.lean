/-! THE TEXT: what both read -/
abbrev bt (T : Nat → Int) (n : Nat) (k : Nat) : Int := if k < n then T k else -1
def soF (c : Int) : Int := if c < 0 then 0 else if 97 ≤ c ∧ c ≤ 122 then 1 else if 48 ≤ c ∧ c ≤ 57 then 2 else if c = 59 then 3 else 4
def skF (B : Nat → Int) : Nat → Nat → Nat
  | 0, p => p
  | f + 1, p => if B p = 32 then skF B f (p + 1) else p
def exF (B : Nat → Int) (so : Int) : Nat → Nat → Nat
  | 0, p => p
  | f + 1, p => if soF (B p) = so then exF B so f (p + 1) else p
def tS (B : Nat → Int) (p : Nat) : Nat := skF B 200 p
def tO (B : Nat → Int) (p : Nat) : Int := soF (B (tS B p))
def tE (B : Nat → Int) (p : Nat) : Nat := if tO B p = 0 then tS B p else if tO B p = 1 ∨ tO B p = 2 then exF B (tO B p) 200 (tS B p + 1) else tS B p + 1
theorem soF_b (c : Int) : 0 ≤ soF c ∧ soF c ≤ 4 := by
  unfold soF
  repeat' split
  all_goals omega
theorem soF_0 {c : Int} : soF c = 0 ↔ c < 0 := by
  unfold soF
  repeat' split
  all_goals omega
theorem soF_1 {c : Int} : soF c = 1 ↔ 97 ≤ c ∧ c ≤ 122 := by
  unfold soF
  repeat' split
  all_goals omega
theorem soF_2 {c : Int} : soF c = 2 ↔ 48 ≤ c ∧ c ≤ 57 := by
  unfold soF
  repeat' split
  all_goals omega
theorem soF_3 {c : Int} : soF c = 3 ↔ c = 59 := by
  unfold soF
  repeat' split
  all_goals omega
section J54
variable {T : Nat → Int} {n : Nat}
theorem bt_n {k : Nat} (h : n ≤ k) : bt T n k = -1 := if_neg (by omega)
theorem bt_lt {k : Nat} (h : k < n) : bt T n k = T k := if_pos h
theorem skF_p : ∀ f p, p ≤ n → n < p + f → p ≤ skF (bt T n) f p ∧ skF (bt T n) f p ≤ n ∧ bt T n (skF (bt T n) f p) ≠ 32 ∧ ∀ j, p ≤ j → j < skF (bt T n) f p → bt T n j = 32
  | 0, p, h, h2 => by omega
  | f + 1, p, h, h2 => by
    unfold skF
    by_cases q : bt T n p = 32
    · rw [if_pos q]
      have hp : p < n := Nat.lt_of_not_le (fun z => by rw [bt_n z] at q; omega)
      obtain ⟨a, b, c, d⟩ := skF_p f (p + 1) (by omega) (by omega)
      refine ⟨by omega, b, c, fun j hj hj2 => ?_⟩
      by_cases e : j = p
      · rw [e]
        exact q
      · exact d j (by omega) hj2
    · rw [if_neg q]
      exact ⟨Nat.le_refl _, h, q, fun j hj hj2 => by omega⟩
theorem exF_p {so : Int} (hso : so ≠ 0) : ∀ f p, p ≤ n → n < p + f → p ≤ exF (bt T n) so f p ∧ exF (bt T n) so f p ≤ n ∧ soF (bt T n (exF (bt T n) so f p)) ≠ so ∧ ∀ j, p ≤ j → j < exF (bt T n) so f p → soF (bt T n j) = so
  | 0, p, h, h2 => by omega
  | f + 1, p, h, h2 => by
    unfold exF
    by_cases q : soF (bt T n p) = so
    · rw [if_pos q]
      have hp : p < n := Nat.lt_of_not_le (fun z => by
        rw [bt_n z] at q
        have : soF (-1) = 0 := rfl
        omega)
      obtain ⟨a, b, c, d⟩ := exF_p hso f (p + 1) (by omega) (by omega)
      refine ⟨by omega, b, c, fun j hj hj2 => ?_⟩
      by_cases e : j = p
      · rw [e]
        exact q
      · exact d j (by omega) hj2
    · rw [if_neg q]
      exact ⟨Nat.le_refl _, h, q, fun j hj hj2 => by omega⟩
abbrev TB (T : Nat → Int) (n : Nat) : Prop := ∀ j, j < n → 0 ≤ T j ∧ T j ≤ 127
/-- a token's start -/
theorem tS_p {p : Nat} (hp : p ≤ n) (hn : n ≤ 150) : p ≤ tS (bt T n) p ∧ tS (bt T n) p ≤ n ∧ bt T n (tS (bt T n) p) ≠ 32 ∧ ∀ j, p ≤ j → j < tS (bt T n) p → bt T n j = 32 := skF_p (T := T) (n := n) 200 p hp (by omega)
theorem tO_0 {p : Nat} (hT : TB T n) (hp : p ≤ n) (hn : n ≤ 150) : tO (bt T n) p = 0 ↔ tS (bt T n) p = n := by
  have hs := tS_p (T := T) hp hn
  unfold tO
  rw [soF_0]
  constructor
  · intro h
    apply Classical.byContradiction
    intro z
    rw [bt_lt (show tS (bt T n) p < n by omega)] at h
    have := hT (tS (bt T n) p) (by omega)
    omega
  · intro h
    rw [h, bt_n (Nat.le_refl _)]
    omega
/-- a token's end -/
theorem tE_p {p : Nat} (hT : TB T n) (hp : p ≤ n) (hn : n ≤ 150) : (tO (bt T n) p = 0 → tE (bt T n) p = tS (bt T n) p) ∧ (tO (bt T n) p ≠ 0 → tS (bt T n) p < tE (bt T n) p ∧ tE (bt T n) p ≤ n ∧ (∀ j, tS (bt T n) p ≤ j → j < tE (bt T n) p → soF (bt T n j) = tO (bt T n) p) ∧ ((tO (bt T n) p = 1 ∨ tO (bt T n) p = 2) → soF (bt T n (tE (bt T n) p)) ≠ tO (bt T n) p) ∧ (¬ (tO (bt T n) p = 1 ∨ tO (bt T n) p = 2) → tE (bt T n) p = tS (bt T n) p + 1)) := by
  have hs := tS_p (T := T) hp hn
  have h0 := tO_0 hT hp hn
  refine ⟨fun h => if_pos h, fun h => ?_⟩
  have hlt : tS (bt T n) p < n := by omega
  by_cases q : tO (bt T n) p = 1 ∨ tO (bt T n) p = 2
  · have e : tE (bt T n) p = exF (bt T n) (tO (bt T n) p) 200 (tS (bt T n) p + 1) := by
      unfold tE
      rw [if_neg h, if_pos q]
    obtain ⟨a, b, c, d⟩ := exF_p (T := T) (n := n) h 200 (tS (bt T n) p + 1) (by omega) (by omega)
    rw [← e] at a b c d
    refine ⟨by omega, b, fun j hj hj2 => ?_, fun _ => c, fun z => absurd q z⟩
    by_cases e2 : j = tS (bt T n) p
    · rw [e2]
      rfl
    · exact d j (by omega) hj2
  · have e : tE (bt T n) p = tS (bt T n) p + 1 := by
      unfold tE
      rw [if_neg h, if_neg q]
    refine ⟨by omega, by omega, fun j hj hj2 => ?_, fun z => absurd z q, fun _ => e⟩
    have e2 : j = tS (bt T n) p := by omega
    rw [e2]
    rfl
theorem tE_b {p : Nat} (hT : TB T n) (hp : p ≤ n) (hn : n ≤ 150) : tS (bt T n) p ≤ tE (bt T n) p ∧ tE (bt T n) p ≤ n := by
  have hs := tS_p (T := T) hp hn
  have he := tE_p hT hp hn
  by_cases q : tO (bt T n) p = 0
  · have := he.1 q
    omega
  · have := he.2 q
    omega
end J54
abbrev isWd (B : Nat → Int) (s e i : Nat) : Prop := e = s + lenS.getD i 0 ∧ ∀ j, j < lenS.getD i 0 → B (s + j) = byT i j
def wdF (B : Nat → Int) (s e : Nat) : Int := if isWd B s e 0 then 0 else if isWd B s e 1 then 1 else if isWd B s e 2 then 2 else if isWd B s e 3 then 3 else if isWd B s e 4 then 4 else -1
theorem wdF_b {B : Nat → Int} {s e : Nat} : -1 ≤ wdF B s e ∧ wdF B s e ≤ 4 := by
  unfold wdF
  repeat' split
  all_goals omega
def wtF (B : Nat → Int) (p : Nat) : Int := if tO B p = 1 then wdF B (tS B p) (tE B p) else -1
def nvF (B : Nat → Int) (s e : Nat) : Int := if e = s + 1 then B s - 48 else 10 * (B s - 48) + (B (s + 1) - 48)
def rnF (B : Nat → Int) : Nat → Nat → Int × (Nat × List Int)
  | 0, p => if tO B p = 3 then (1, tE B p, []) else (0, tS B p, [])
  | k + 1, p => if tO B p = 2 ∧ tE B p ≤ tS B p + 2 then ((rnF B k (tE B p)).1, (rnF B k (tE B p)).2.1, nvF B (tS B p) (tE B p) :: (rnF B k (tE B p)).2.2) else (0, tS B p, [])
def kF (wd : Int) : Nat := if wd = 0 then 1 else if wd = 1 then 2 else 3
theorem rnF_b {T : Nat → Int} {n : Nat} (hT : TB T n) (hn : n ≤ 150) : ∀ k p, p ≤ n → ((rnF (bt T n) k p).1 = 0 ∨ (rnF (bt T n) k p).1 = 1) ∧ p ≤ (rnF (bt T n) k p).2.1 ∧ (rnF (bt T n) k p).2.1 ≤ n ∧ ((rnF (bt T n) k p).1 = 1 → p < (rnF (bt T n) k p).2.1) ∧ ∀ j, 0 ≤ (rnF (bt T n) k p).2.2.getD j 0 ∧ (rnF (bt T n) k p).2.2.getD j 0 ≤ 99
  | 0, p, hp => by
    have hs := tS_p (T := T) hp hn
    have he := tE_p hT hp hn
    have hb := tE_b hT hp hn
    unfold rnF
    by_cases q : tO (bt T n) p = 3
    · rw [if_pos q]
      have := he.2 (by omega)
      exact ⟨Or.inr rfl, by show p ≤ tE (bt T n) p; omega, by show tE (bt T n) p ≤ n; omega, fun _ => by show p < tE (bt T n) p; omega, fun j => ⟨Int.le_refl _, by show (0 : Int) ≤ 99; omega⟩⟩
    · rw [if_neg q]
      exact ⟨Or.inl rfl, by show p ≤ tS (bt T n) p; omega, by show tS (bt T n) p ≤ n; omega, fun h => (by cases h), fun j => ⟨Int.le_refl _, by show (0 : Int) ≤ 99; omega⟩⟩
  | k + 1, p, hp => by
    have hs := tS_p (T := T) hp hn
    have he := tE_p hT hp hn
    have hb := tE_b hT hp hn
    unfold rnF
    by_cases q : tO (bt T n) p = 2 ∧ tE (bt T n) p ≤ tS (bt T n) p + 2
    · rw [if_pos q]
      have h2 := he.2 (by omega)
      obtain ⟨i1, i2, i3, i4, i5⟩ := rnF_b hT hn k (tE (bt T n) p) (by omega)
      refine ⟨i1, by show p ≤ (rnF (bt T n) k (tE (bt T n) p)).2.1; omega, i3, fun h => by show p < (rnF (bt T n) k (tE (bt T n) p)).2.1; omega, fun j => ?_⟩
      match j with
      | 0 =>
        show 0 ≤ nvF (bt T n) (tS (bt T n) p) (tE (bt T n) p) ∧ nvF (bt T n) (tS (bt T n) p) (tE (bt T n) p) ≤ 99
        have d0 := soF_2.mp ((h2.2.2.1 (tS (bt T n) p) (by omega) (by omega)).trans q.1)
        unfold nvF
        by_cases z : tE (bt T n) p = tS (bt T n) p + 1
        · rw [if_pos z]
          omega
        · rw [if_neg z]
          have d1 := soF_2.mp ((h2.2.2.1 (tS (bt T n) p + 1) (by omega) (by omega)).trans q.1)
          omega
      | j + 1 => exact i5 j
    · rw [if_neg q]
      exact ⟨Or.inl rfl, by show p ≤ tS (bt T n) p; omega, by show tS (bt T n) p ≤ n; omega, fun h => (by cases h), fun j => ⟨Int.le_refl _, by show (0 : Int) ≤ 99; omega⟩⟩
/-! items -/
abbrev mayI (w : Nat → Int) (wd x y z : Int) : Prop := (wd = 0 ∧ (1 ≤ x ∧ x ≤ 6)) ∨ (wd = 1 ∧ ((0 ≤ x ∧ x < w 0) ∧ 0 ≤ y ∧ y ≤ 16)) ∨ (wd = 2 ∧ ((0 ≤ x ∧ x < w 0) ∧ (0 ≤ y ∧ y ≤ 16) ∧ 0 ≤ z ∧ z ≤ 16)) ∨ (wd = 3 ∧ (((0 ≤ x ∧ x < w 0) ∧ (0 ≤ y ∧ y < w 0) ∧ x ≠ y) ∧ 0 ≤ z ∧ z ≤ 9)) ∨ (wd = 4 ∧ ((0 ≤ x ∧ x ≤ 1) ∧ (0 ≤ y ∧ y ≤ 40) ∧ 1 ≤ z ∧ z ≤ 9))
def doI (w : Nat → Int) (wd x y z : Int) : Nat → Int := if wd = 0 then opNew w x else if wd = 1 then opBel w x.toNat y else if wd = 2 then opChg w x.toNat y z else if wd = 3 then opWay w x.toNat y.toNat z else opBird w x.toNat y z
theorem WI_do {w : Nat → Int} {wd x y z : Int} (h : wd = 0 ∨ WI w) (hm : mayI w wd x y z) : WI (doI w wd x y z) := by
  unfold doI
  rcases hm with ⟨e, m⟩ | ⟨e, m⟩ | ⟨e, m⟩ | ⟨e, m⟩ | ⟨e, m⟩
  · rw [if_pos e]
    exact WI_new m
  all_goals
    have hI : WI w := by
      rcases h with h | h
      · omega
      · exact h
    have hI1 := hI.1
    unfold WIa at hI1
  · rw [if_neg (by omega), if_pos e]
    exact WI_bel hI (by omega) m.2
  · rw [if_neg (by omega), if_neg (by omega), if_pos e]
    exact WI_chg hI (by omega) m.2.1 m.2.2
  · rw [if_neg (by omega), if_neg (by omega), if_neg (by omega), if_pos e]
    exact WI_way hI (by omega) (by omega) m.2
  · rw [if_neg (by omega), if_neg (by omega), if_neg (by omega), if_neg (by omega)]
    exact WI_bird hI (by omega) m.2.1 m.2.2
/-- the text read: the answer, the row -/
def rdF (B : Nat → Int) : Nat → Nat → Nat → Int → (Nat → Int) → Int × (Nat → Int)
  | 0, _, _, _, w => (0, w)
  | f + 1, p, it, rf, w =>
    if tO B p = 0 ∧ it ≠ 0 then ((if rf = -1 then (it : Int) else -1000 - rf), w)
    else if wtF B p = -1 ∨ ¬ (wtF B p = 0 ↔ it = 0) then (-10 - (tS B p : Int), w)
    else if (rnF B (kF (wtF B p)) (tE B p)).1 = 0 then (-10 - ((rnF B (kF (wtF B p)) (tE B p)).2.1 : Int), w)
    else if rf = -1 then (if mayI w (wtF B p) ((rnF B (kF (wtF B p)) (tE B p)).2.2.getD 0 0) ((rnF B (kF (wtF B p)) (tE B p)).2.2.getD 1 0) ((rnF B (kF (wtF B p)) (tE B p)).2.2.getD 2 0) then rdF B f (rnF B (kF (wtF B p)) (tE B p)).2.1 (it + 1) (-1) (doI w (wtF B p) ((rnF B (kF (wtF B p)) (tE B p)).2.2.getD 0 0) ((rnF B (kF (wtF B p)) (tE B p)).2.2.getD 1 0) ((rnF B (kF (wtF B p)) (tE B p)).2.2.getD 2 0)) else rdF B f (rnF B (kF (wtF B p)) (tE B p)).2.1 (it + 1) it w)
    else rdF B f (rnF B (kF (wtF B p)) (tE B p)).2.1 (it + 1) rf w
