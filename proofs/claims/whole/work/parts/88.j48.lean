/-! ROUNDS: what both reckon -/
/-- the lands seen from day s on in len days -/
def sn (f : Nat → Nat) (m s : Nat) : Nat → Nat
  | 0 => 0
  | len + 1 => sn f m s len ||| 2 ^ f ((s + len) % m)
/-- told, but not seen -/
def mk (L S : Nat) : Nat := L ^^^ (L &&& S)
def mkT : Bool := (List.range 64).all fun L => (List.range 64).all fun S => decide (bAnd (L : Int) (bXor (S : Int) (-1)) = (mk L S : Nat)) && decide (mk L S = 0 ↔ L &&& S = L)
theorem mkT_ok : mkT = true := by decide +kernel
theorem mk_b {L S : Nat} (hL : L < 64) (hS : S < 64) : bAnd (L : Int) (bXor (S : Int) (-1)) = (mk L S : Nat) ∧ (mk L S = 0 ↔ L &&& S = L) := by
  have h := mkT_ok
  unfold mkT at h
  have h1 := List.all_eq_true.mp h L (List.mem_range.mpr hL)
  have h2 := List.all_eq_true.mp h1 S (List.mem_range.mpr hS)
  rw [Bool.and_eq_true, decide_eq_true_eq, decide_eq_true_eq] at h2
  exact h2
theorem mk_lt {L S : Nat} (hL : L < 64) : mk L S < 64 := Nat.xor_lt_two_pow (show L < 2 ^ 6 from hL) (show L &&& S < 2 ^ 6 from Nat.lt_of_le_of_lt Nat.and_le_left hL)
theorem mk_bit {L S x : Nat} : (mk L S).testBit x = (L.testBit x && !S.testBit x) := by
  unfold mk
  rw [Nat.testBit_xor, Nat.testBit_and]
  cases L.testBit x <;> cases S.testBit x <;> rfl
theorem and_sub {L S : Nat} : L &&& S = L ↔ ∀ x, L.testBit x = true → S.testBit x = true := by
  constructor
  · intro h x hx
    rw [← h, Nat.testBit_and, Bool.and_eq_true] at hx
    exact hx.2
  · intro h
    apply Nat.eq_of_testBit_eq
    intro x
    rw [Nat.testBit_and]
    cases e : L.testBit x
    · rfl
    · rw [h x e]
      rfl
theorem sn_lt {f : Nat → Nat} {m s : Nat} (hm : 0 < m) (hf : ∀ j, j < m → f j < 6) : ∀ len, sn f m s len < 64
  | 0 => by show 0 < 64; omega
  | len + 1 => by
    have ih := sn_lt (s := s) hm hf len
    have p := p2i (hf ((s + len) % m) (Nat.mod_lt _ hm))
    exact Nat.or_lt_two_pow (show sn f m s len < 2 ^ 6 from ih) (by omega)
theorem sn_bit {f : Nat → Nat} {m s x : Nat} : ∀ len, (sn f m s len).testBit x = true ↔ ∃ j, j < len ∧ f ((s + j) % m) = x
  | 0 => by
    constructor
    · intro h
      have : sn f m s 0 = 0 := rfl
      rw [this, Nat.zero_testBit] at h
      cases h
    · rintro ⟨j, h, _⟩
      omega
  | len + 1 => by
    have ih := sn_bit (f := f) (m := m) (s := s) (x := x) len
    show (sn f m s len ||| 2 ^ f ((s + len) % m)).testBit x = true ↔ _
    rw [Nat.testBit_or, Bool.or_eq_true, ih, Nat.testBit_two_pow, decide_eq_true_eq]
    constructor
    · rintro (⟨j, h, h2⟩ | h)
      · exact ⟨j, by omega, h2⟩
      · exact ⟨len, by omega, h⟩
    · rintro ⟨j, h, h2⟩
      by_cases e : j = len
      · subst e
        exact Or.inr h2
      · exact Or.inl ⟨j, by omega, h2⟩
theorem sn_ext {f g : Nat → Nat} {m s : Nat} : ∀ len, (∀ j, j < len → f ((s + j) % m) = g ((s + j) % m)) → sn f m s len = sn g m s len
  | 0, _ => rfl
  | len + 1, h => by
    show sn f m s len ||| 2 ^ f ((s + len) % m) = sn g m s len ||| 2 ^ g ((s + len) % m)
    rw [sn_ext len (fun j hj => h j (by omega)), h len (by omega)]
/-- days behind the m-th are the same ones again -/
theorem sn_wrap {f : Nat → Nat} {m s k : Nat} (hm : 0 < m) : sn f m s k = sn f m s (min k m) := by
  apply Nat.eq_of_testBit_eq
  intro x
  apply Bool.eq_iff_iff.mpr
  rw [sn_bit, sn_bit]
  constructor
  · rintro ⟨j, h, h2⟩
    refine ⟨j % m, ?_, ?_⟩
    · have a : j % m ≤ j := Nat.mod_le _ _
      have b : j % m < m := Nat.mod_lt _ hm
      omega
    · rw [Nat.add_mod_mod]
      exact h2
  · rintro ⟨j, h, h2⟩
    exact ⟨j, by omega, h2⟩
/-- a day more takes one bit at most -/
theorem popN_one {A B : Int} {a : Nat} (h : ∀ x : Nat, x ≠ a → btI A (x : Int) = btI B (x : Int)) : ∀ n : Nat, popN A n ≤ popN B n + (if a < n then 1 else 0)
  | 0 => by show (0 : Int) ≤ 0 + _; split <;> omega
  | n + 1 => by
    have ih := popN_one h n
    have bA := btI_01 A (n : Int)
    have bB := btI_01 B (n : Int)
    show popN A n + btI A (n : Int) ≤ popN B n + btI B (n : Int) + _
    by_cases e : n = a
    · subst e
      rw [if_neg (by omega)] at ih
      rw [if_pos (by omega)]
      omega
    · rw [h n e]
      by_cases z : a < n
      · rw [if_pos z] at ih
        rw [if_pos (by omega)]
        omega
      · rw [if_neg z] at ih
        rw [if_neg (by omega)]
        omega
theorem pig1 {f : Nat → Nat} {L m s len : Nat} : popN (mk L (sn f m s len) : Nat) 6 ≤ popN (mk L (sn f m s (len + 1)) : Nat) 6 + 1 := by
  have key : ∀ x : Nat, x ≠ f ((s + len) % m) → btI (mk L (sn f m s len) : Nat) (x : Int) = btI (mk L (sn f m s (len + 1)) : Nat) (x : Int) := by
    intro x hx
    have e : (mk L (sn f m s len)).testBit x = (mk L (sn f m s (len + 1))).testBit x := by
      rw [mk_bit, mk_bit]
      show _ = (L.testBit x && !(sn f m s len ||| 2 ^ f ((s + len) % m)).testBit x)
      rw [Nat.testBit_or, Nat.testBit_two_pow]
      have : decide (f ((s + len) % m) = x) = false := decide_eq_false (fun h => hx h.symm)
      rw [this, Bool.or_false]
    have a := btI_tb (s := mk L (sn f m s len)) (x := x)
    have b := btI_tb (s := mk L (sn f m s (len + 1))) (x := x)
    rw [e] at a
    have c := btI_01 (mk L (sn f m s len) : Nat) (x : Int)
    have d := btI_01 (mk L (sn f m s (len + 1)) : Nat) (x : Int)
    have ab := a.trans b.symm
    omega
  have := popN_one key 6
  split at this <;> omega
theorem pig {f : Nat → Nat} {L m s len : Nat} : ∀ r : Nat, popN (mk L (sn f m s len) : Nat) 6 ≤ popN (mk L (sn f m s (len + r)) : Nat) 6 + r
  | 0 => by
    show _ ≤ _ + (0 : Int)
    rw [Nat.add_zero]
    omega
  | r + 1 => by
    have ih := pig (f := f) (L := L) (m := m) (s := s) (len := len) r
    have p := pig1 (f := f) (L := L) (m := m) (s := s) (len := len + r)
    rw [← Nat.add_assoc]
    have : ((r + 1 : Nat) : Int) = (r : Int) + 1 := by omega
    rw [this]
    omega
/-- what isn't seen yet has days left, where the whole window sees all -/
theorem pig_ok {f : Nat → Nat} {L m s len win : Nat} (hl : len ≤ win) (hL : L < 64) (h64 : sn f m s win < 64) (h : L &&& sn f m s win = L) : popN (mk L (sn f m s len) : Nat) 6 ≤ (win : Int) - len := by
  have p := pig (f := f) (L := L) (m := m) (s := s) (len := len) (win - len)
  rw [show len + (win - len) = win by omega] at p
  have z := (mk_b hL h64).2.mpr h
  rw [z] at p
  have e : popN ((0 : Nat) : Int) 6 = 0 := by decide
  rw [e] at p
  omega
/-! digits of a code -/
def dg (m c j : Nat) : Nat := c / 6 ^ (m - 1 - j) % 6
theorem dg_lt {m c j : Nat} : dg m c j < 6 := Nat.mod_lt _ (by omega)
theorem dg_pre {m day n c pv j : Nat} (hdn : day + n = m) (hj : j < day) (h : c / 6 ^ n = pv) : dg m c j = pv / 6 ^ (day - 1 - j) % 6 := by
  unfold dg
  rw [show m - 1 - j = n + (day - 1 - j) by omega, Nat.pow_add, ← Nat.div_div_eq_div_mul, h]
theorem dg_day {m day n c : Nat} (hdn : day + (n + 1) = m) : dg m c day = c / 6 ^ n % 6 := by
  unfold dg
  rw [show m - 1 - day = n by omega]
theorem dg_sub {n c : Nat} : c / 6 ^ (n + 1) = c / 6 ^ n / 6 := by
  rw [Nat.pow_succ, ← Nat.div_div_eq_div_mul]
theorem dg_ext {day pv x j : Nat} (hj : j < day) (hx : x < 6) : (6 * pv + x) / 6 ^ (day - j) % 6 = pv / 6 ^ (day - 1 - j) % 6 := by
  rw [show day - j = (day - 1 - j) + 1 by omega, Nat.pow_succ, Nat.mul_comm (6 ^ (day - 1 - j)) 6, ← Nat.div_div_eq_div_mul, show (6 * pv + x) / 6 = pv by omega]
theorem dg_mono {n c c' : Nat} (h : c' < c) : c' / 6 ^ n ≤ c / 6 ^ n := Nat.div_le_div_right (by omega)
/-- a row that will do -/
def vl (rch L m win c : Nat) : Prop := (∀ j, j < m → btI (rch : Int) (dg m c j : Nat) = 1) ∧ ∀ s, s < m → L &&& sn (dg m c) m s win = L
