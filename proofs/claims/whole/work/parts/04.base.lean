/-! THE WORLD OF THE PURE MACHINE over the machine's heap, and what keeps it -/
abbrev PE : Type := va_G × ((Nat → ClassId) × (Nat × ((Nat → Nat) × (Nat → Nat))))
def eD (E : PE) : va_G := E.1
def eA (E : PE) : Nat → ClassId := E.2.1
def eB (E : PE) : Nat := E.2.2.1
def eX (E : PE) : Nat → Nat := E.2.2.2.1
def eV (E : PE) : Nat → Nat := E.2.2.2.2
def pad (E : PE) (k : Nat) : Nat := if k < 1000 then eB E + k else eX E k
def NC : Nat := 278
def tyE (E : PE) : List (ClassId × FieldType) := [(eA E 8, .int), (eA E 9, .boolean), (eA E 10, .char), (eA E 11, .object RX6), (eA E 12, .object RX1), (eA E 13, .array .int)]
def pfs (E : PE) (k : Nat) (h : PMem) : List Bool → Nat → List Value
  | [], _ => []
  | b :: r, j => (if b then va_rf ((h.2.1 k j).map (pad E)) else .int (pI (h.2.2 k j))) :: pfs E k h r (j + 1)
def pcell (E : PE) (h : PMem) (k : Nat) : va_E := if (SK k).1 < 8 then .inr ((SK k).1, pfs E k h (fldB (SK k).1) 0) else if (SK k).1 < 11 then .inl (eA E (SK k).1, (SK k).2, .inl (fun j => pI (h.2.2 k j))) else .inl (eA E (SK k).1, (SK k).2, .inr (.inr (.inr (.inr (fun j => (h.2.1 k j).map (pad E))))))
abbrev pA (E : PE) : Nat → Prop := fun q => eB E ≤ q
/-- int[][] is there already -/
def pAO (s : State) : Prop := (Cond.arrayOver (.array .int)).before #[] s = true
theorem pAO.moved {s U : State} (hvm : s.vm.Alike U.vm) (h : pAO s) : pAO U := by
  have h1 : (Cond.arrayOver (.array .int)).before #[] (s.setVm U.vm) = true := by rw [Cond.arrayOver_setVmC hvm]; exact h
  unfold pAO
  unfold Cond.before Cond.holds at h1 ⊢
  simp only [Cond.value] at h1 ⊢
  exact h1
def SF (E : PE) (h : PMem) (s : State) (H : Heap) : Prop :=
  va_X (eX E 1000) (h.2.2 999 0).toNat (fun j => pI (h.2.2 1000 j)) s H ∧ (0 ≤ h.2.2 999 0 ∧ h.2.2 999 0 ≤ 2560) ∧ eX E 1000 < eB E ∧ vk_S 5 lenS bytS (fun i => eX E (1001 + i)) (eV E) (pA E) s H ∧ va_Z "java/lang/String" "COMPACT_STRINGS" "Z" (.int 1) (pA E) s H ∧ va_Zq "jdk/internal/util/Preconditions" "SIOOBE_FORMATTER" "Ljava/util/function/BiFunction;" (pA E) s H ∧ (∀ q ∈ txS, vk_R RX5 q.1 q.2.1 (eX E q.2.2) s) ∧ (va_AO RX6 s ∧ va_AO RX1 s ∧ pAO s)
def Rl (E : PE) (s : State) (H : Heap) (h : PMem) : Prop :=
  va_K (eD E) vwCl (tyE E) s ∧ H.size = eB E + h.1 ∧ h.1 ≤ NC ∧ (∀ k, k < h.1 → va_at (eD E) vwCl (eB E + k, pcell E h k) H) ∧ SF E h s H ∧ (∀ w ∈ NWL, va_Nw w s)
theorem nw_warm {w : Cond} {s U : State} (hw : isNest w = true) (hW : s.WarmedH U.vm) (h : va_Nw w s) : va_Nw w U := by
  cases w <;> first | exact va_Nw.warmF hW h | exact va_Nw.warmM hW h | cases hw
theorem SF.warm {E : PE} {h : PMem} {s U : State} {H : Heap} (hW : s.WarmedH U.vm) (hS : SF E h s H) : SF E h U H := by
  obtain ⟨h1, h2, h3, h4, h5, h6, h7, h8, h9, h10⟩ := hS
  exact ⟨h1.moved hW.alike, h2, h3, h4.moved hW.alike, h5.moved hW.alike, h6.moved hW.alike, fun q hq => (h7 q hq).warm hW, h8.moved hW.alike, h9.moved hW.alike, h10.moved hW.alike⟩
theorem Rl.warm {E : PE} {h : PMem} {s U : State} {H : Heap} (hW : s.WarmedH U.vm) (hR : Rl E s H h) : Rl E U H h := by
  obtain ⟨h1, h2, h3, h4, h5, h6⟩ := hR
  exact ⟨va_K.moved hW.alike h1, h2, h3, h4, h5.warm hW, fun w hw => nw_warm (List.mem_filter.mp hw).2 hW (h6 w hw)⟩
/-- back from the state behind a call -/
theorem Rl.back {E : PE} {h h' : PMem} {s t : State} {H H' : Heap} (hR : Rl E s H h) (hvm : s.vm.Alike t.vm) (hT : Rl E t H' h') : Rl E s H' h' := by
  obtain ⟨h1, -, -, -, ⟨-, -, -, -, -, -, k7⟩, h6⟩ := hR
  obtain ⟨-, g2, g3, g4, ⟨q1, q2, q3, q4, q5, q6, -⟩, -⟩ := hT
  exact ⟨h1, g2, g3, g4, ⟨q1.moved hvm.symm, q2, q3, q4.moved hvm.symm, q5.moved hvm.symm, q6.moved hvm.symm, k7⟩, h6⟩
/-- the outer facts stay when only cells from the base on have changed, and the script's picture hasn't -/
theorem SF.kept {E : PE} {h h' : PMem} {s : State} {H H1 : Heap} (hS : SF E h s H) (hq : ∀ a : Nat, a < H.size → ¬ eB E ≤ a → H1[a]? = H[a]?) (hb : eB E ≤ H.size) (e1 : h'.2.2 999 0 = h.2.2 999 0) (e2 : ∀ j, h'.2.2 1000 j = h.2.2 1000 j) : SF E h' s H1 := by
  obtain ⟨h1, h2, h3, h4, h5, h6, h7⟩ := hS
  refine ⟨?_, by rw [e1]; exact h2, h3, h4.kept hq, h5.kept hq, h6.kept hq, h7⟩
  rw [e1, show (fun j => pI (h'.2.2 1000 j)) = (fun j => pI (h.2.2 1000 j)) from funext fun j => by rw [e2]]
  exact h1.kept (hq _ (by omega) (by omega))
/-- one cell has changed -/
theorem Rl.put {E : PE} {h h' : PMem} {s : State} {H H1 : Heap} {a : Nat} (hR : Rl E s H h) (ha : a < h.1) (hn : h'.1 = h.1) (hz : H1.size = H.size) (ho : ∀ q : Nat, q ≠ eB E + a → H1[q]? = H[q]?) (hc : va_at (eD E) vwCl (eB E + a, pcell E h' a) H1) (hk : ∀ k, k ≠ a → pcell E h' k = pcell E h k) (e1 : h'.2.2 999 0 = h.2.2 999 0) (e2 : ∀ j, h'.2.2 1000 j = h.2.2 1000 j) : Rl E s H1 h' := by
  obtain ⟨h1, h2, h3, h4, h5, h6⟩ := hR
  refine ⟨h1, by rw [hz, h2, hn], by rw [hn]; exact h3, fun k hk' => ?_, h5.kept (fun q _ hq => ho q (by omega)) (by omega) e1 e2, h6⟩
  by_cases hka : k = a
  · subst hka; exact hc
  · rw [hk k hka]
    exact (h4 k (by omega)).kept (ho _ (show eB E + k ≠ eB E + a by omega))
theorem pfs_get {E : PE} {k : Nat} {h : PMem} : ∀ (l : List Bool) (j i : Nat) (b : Bool), l[i]? = some b → (pfs E k h l j)[i]? = some (if b then va_rf ((h.2.1 k (j + i)).map (pad E)) else .int (pI (h.2.2 k (j + i))))
  | [], _, i, b, hb => by simp at hb
  | c :: l, j, 0, b, hb => by
    simp only [List.getElem?_cons_zero, Option.some.injEq] at hb
    subst hb
    rfl
  | c :: l, j, i + 1, b, hb => by
    simp only [List.getElem?_cons_succ] at hb
    have := pfs_get (E := E) (k := k) (h := h) l (j + 1) i b hb
    simp only [pfs, List.getElem?_cons_succ]
    rw [this, show j + 1 + i = j + (i + 1) by omega]
theorem pfs_len {E : PE} {k : Nat} {h : PMem} : ∀ (l : List Bool) (j : Nat), (pfs E k h l j).length = l.length
  | [], _ => rfl
  | c :: l, j => by simp [pfs, pfs_len l (j + 1)]
theorem pfs_congr {E : PE} {k : Nat} {h h' : PMem} (e1 : ∀ j, h'.2.1 k j = h.2.1 k j) (e2 : ∀ j, h'.2.2 k j = h.2.2 k j) : ∀ (l : List Bool) (j : Nat), pfs E k h' l j = pfs E k h l j
  | [], _ => rfl
  | c :: l, j => by simp only [pfs]; rw [e1, e2, pfs_congr e1 e2 l (j + 1)]
theorem pcell_congr {E : PE} {k : Nat} {h h' : PMem} (e1 : ∀ j, h'.2.1 k j = h.2.1 k j) (e2 : ∀ j, h'.2.2 k j = h.2.2 k j) : pcell E h' k = pcell E h k := by
  simp only [pcell, pfs_congr e1 e2, e1, e2]
/-- one field set -/
theorem pfs_set {E : PE} {k : Nat} {h h' : PMem} {i : Nat} (e1 : ∀ j, j ≠ i → h'.2.1 k j = h.2.1 k j) (e2 : ∀ j, j ≠ i → h'.2.2 k j = h.2.2 k j) : ∀ (l : List Bool) (j p : Nat) (b : Bool), i = j + p → l[p]? = some b → pfs E k h' l j = (pfs E k h l j).set p (if b then va_rf ((h'.2.1 k i).map (pad E)) else .int (pI (h'.2.2 k i)))
  | [], _, p, b, _, hb => by simp at hb
  | c :: l, j, 0, b, hp, hb => by
    simp only [List.getElem?_cons_zero, Option.some.injEq] at hb
    subst hb
    have hj : i = j := by omega
    subst hj
    simp only [pfs, List.set_cons_zero, List.cons.injEq, true_and]
    have key : ∀ (l : List Bool) (q : Nat), i < q → pfs E k h' l q = pfs E k h l q := by
      intro l
      induction l with
      | nil => intro q _; rfl
      | cons c l ih => intro q hq; simp only [pfs]; rw [e1 q (by omega), e2 q (by omega), ih (q + 1) (by omega)]
    exact key l (i + 1) (by omega)
  | c :: l, j, p + 1, b, hp, hb => by
    simp only [List.getElem?_cons_succ] at hb
    simp only [pfs, List.set_cons_succ]
    rw [e1 j (by omega), e2 j (by omega), pfs_set e1 e2 l (j + 1) p b (by omega) hb]
/-! locals -/
def alst (E : PE) (ls : List (Option PV)) : List (Nat × Value) := (List.range ls.length).filterMap (fun i => match ls[i]? with
  | some (some v) => some (i, pv (pad E) v)
  | _ => none)
theorem mem_alst {E : PE} {ls : List (Option PV)} {j : Nat} {w : Value} : (j, w) ∈ alst E ls ↔ ∃ u, ls[j]? = some (some u) ∧ w = pv (pad E) u := by
  unfold alst
  rw [List.mem_filterMap]
  constructor
  · rintro ⟨i, hi, he⟩
    split at he
    · rename_i v hv
      simp only [Option.some.injEq, Prod.mk.injEq] at he
      obtain ⟨rfl, rfl⟩ := he
      exact ⟨v, hv, rfl⟩
    · cases he
  · rintro ⟨u, hu, rfl⟩
    refine ⟨j, List.mem_range.mpr (List.getElem?_eq_some_iff.mp hu).1, ?_⟩
    rw [hu]
def HL (E : PE) (nL : Nat) (lsA : Array Slot) (ls : List (Option PV)) : Prop := lv_has lsA nL (alst E ls) ∧ ls.length = nL
theorem HL.at {E : PE} {nL : Nat} {lsA : Array Slot} {ls : List (Option PV)} (h : HL E nL lsA ls) {i : Nat} {v : PV} (hv : ls[i]? = some (some v)) : lsA[i]? = some (.val (pv (pad E) v)) := h.1.2.2 (i, _) (mem_alst.mpr ⟨v, hv, rfl⟩)
theorem pv_cat {E : PE} (v : PV) : (pv (pad E) v).category = pcat v := by
  rcases v with z | z | (_ | k) <;> rfl
theorem nlb_ok {ls : List (Option PV)} {i j : Nat} {u : PV} (h : nlb ls i = true) (hj : ls[j]? = some (some u)) (hi : j + 1 = i) : pcat u ≠ 2 := by
  subst hi
  simp only [nlb, hj] at h
  rcases u with z | z | (_ | k)
  · simp [pcat]
  · cases h
  · simp [pcat]
  · simp [pcat]
theorem HL.set1 {E : PE} {nL : Nat} {lsA lsB : Array Slot} {ls : List (Option PV)} {i : Nat} {v : PV} (h : HL E nL lsA ls) (hi : i < ls.length) (hn : nlb ls i = true) (hB : lv_has lsB nL ((i, pv (pad E) v) :: (alst E ls).filter (fun q => !(q.1 == i) && !(q.1 + 1 == i && q.2.category == 2)))) : HL E nL lsB (ls.set i (some v)) := by
  refine ⟨⟨hB.1, hB.2.1, fun q hq => hB.2.2 q ?_⟩, by rw [List.length_set]; exact h.2⟩
  obtain ⟨j, w⟩ := q
  obtain ⟨u, hu, rfl⟩ := mem_alst.mp hq
  by_cases hj : j = i
  · subst hj
    rw [List.getElem?_set_self hi] at hu
    cases hu
    exact List.mem_cons_self
  · rw [List.getElem?_set_ne (Ne.symm hj)] at hu
    refine List.mem_cons_of_mem _ (List.mem_filter.mpr ⟨mem_alst.mpr ⟨u, hu, rfl⟩, ?_⟩)
    simp only [Bool.and_eq_true, Bool.not_eq_true', beq_eq_false_iff_ne, ne_eq, Bool.and_eq_false_iff]
    refine ⟨hj, ?_⟩
    by_cases h1 : j + 1 = i
    · right
      rw [pv_cat]
      exact nlb_ok hn hu h1
    · exact Or.inl h1
theorem HL.set2 {E : PE} {nL : Nat} {lsA lsB : Array Slot} {ls : List (Option PV)} {i : Nat} {v : PV} (h : HL E nL lsA ls) (hi : i + 1 < ls.length) (hn : nlb ls i = true) (hB : lv_has lsB nL ((i, pv (pad E) v) :: (alst E ls).filter (fun q => !(q.1 == i) && (!(q.1 == i + 1) && !(q.1 + 1 == i && q.2.category == 2))))) : HL E nL lsB ((ls.set i (some v)).set (i + 1) none) := by
  refine ⟨⟨hB.1, hB.2.1, fun q hq => hB.2.2 q ?_⟩, by rw [List.length_set, List.length_set]; exact h.2⟩
  obtain ⟨j, w⟩ := q
  obtain ⟨u, hu, rfl⟩ := mem_alst.mp hq
  by_cases hj2 : j = i + 1
  · subst hj2
    rw [List.getElem?_set_self (by rw [List.length_set]; exact hi)] at hu
    cases hu
  · rw [List.getElem?_set_ne (Ne.symm hj2)] at hu
    by_cases hj : j = i
    · subst hj
      rw [List.getElem?_set_self (by omega)] at hu
      cases hu
      exact List.mem_cons_self
    · rw [List.getElem?_set_ne (Ne.symm hj)] at hu
      refine List.mem_cons_of_mem _ (List.mem_filter.mpr ⟨mem_alst.mpr ⟨u, hu, rfl⟩, ?_⟩)
      simp only [Bool.and_eq_true, Bool.not_eq_true', beq_eq_false_iff_ne, ne_eq, Bool.and_eq_false_iff]
      refine ⟨hj, hj2, ?_⟩
      by_cases h1 : j + 1 = i
      · right
        rw [pv_cat]
        exact nlb_ok hn hu h1
      · exact Or.inl h1
/-! numbers -/
theorem pI_add (x y : Int) : pI (x + y) = pI x + pI y := Int32.ofInt_add x y
theorem pI_sub (x y : Int) : pI (x - y) = pI x - pI y := Int32.ofInt_sub x y
theorem pI_mul (x y : Int) : pI (x * y) = pI x * pI y := Int32.ofInt_mul x y
theorem pL_add (x y : Int) : pL (x + y) = pL x + pL y := Int64.ofInt_add x y
theorem pL_sub (x y : Int) : pL (x - y) = pL x - pL y := Int64.ofInt_sub x y
theorem pL_mul (x y : Int) : pL (x * y) = pL x * pL y := Int64.ofInt_mul x y
theorem pI_toInt {x : Int} (h : inR x) : (pI x).toInt = x := Int32.toInt_ofInt_of_le h.1 (by have := h.2; omega)
theorem pL_toInt {x : Int} (h : inL x) : (pL x).toInt = x := Int64.toInt_ofInt_of_le h.1 (by have := h.2; omega)
theorem pI_eta (x : Int32) : pI x.toInt = x := Int32.ofInt_toInt x
theorem pI_eqI {x y : Int} (hx : inR x) (hy : inR y) : pI x = pI y ↔ x = y := ⟨fun h => by have := congrArg Int32.toInt h; rwa [pI_toInt hx, pI_toInt hy] at this, fun h => by rw [h]⟩
theorem pI_ltI {x y : Int} (hx : inR x) (hy : inR y) : pI x < pI y ↔ x < y := by rw [Int32.lt_iff_toInt_lt, pI_toInt hx, pI_toInt hy]
theorem pI_leI {x y : Int} (hx : inR x) (hy : inR y) : pI x ≤ pI y ↔ x ≤ y := by rw [Int32.le_iff_toInt_le, pI_toInt hx, pI_toInt hy]
theorem inR0 : inR 0 := by unfold inR; omega
theorem pI_ix {i : Int} {n : Nat} (h : ixIn i n) (hn : n < 2 ^ 31) : vp_in (pI i) n ∧ (pI i).toNatClampNeg = i.toNat := by
  have hr : inR i := ⟨by have := h.1; omega, by have := h.2; omega⟩
  have e : (pI i).toNatClampNeg = i.toNat := by show ((pI i).toInt).toNat = _; rw [pI_toInt hr]
  refine ⟨?_, e⟩
  unfold vp_in
  rw [e, show ((0 : Int32)) = pI 0 from rfl, pI_ltI hr inR0]
  have := h.1
  have := h.2
  omega
theorem pI_div {x y : Int} (hx : 0 ≤ x ∧ x ≤ 2147483647) (hy : 0 < y ∧ y ≤ 2147483647) : pI x / pI y = pI (x / y) ∧ ¬ pI y = 0 := by
  have rx : inR x := ⟨by omega, hx.2⟩
  have ry : inR y := ⟨by omega, hy.2⟩
  have h0 : 0 ≤ x / y := Int.ediv_nonneg hx.1 (by omega)
  have h1 : x / y ≤ x := Int.ediv_le_self y hx.1
  refine ⟨Int32.toInt_inj.mp ?_, fun h => ?_⟩
  · rw [Int32.toInt_div, pI_toInt rx, pI_toInt ry, pI_toInt (x := x / y) ⟨by omega, by omega⟩, Int.tdiv_eq_ediv_of_nonneg hx.1]
    exact Int.bmod_eq_of_le (by omega) (by omega)
  · rw [show ((0 : Int32)) = pI 0 from rfl, pI_eqI ry inR0] at h
    omega
theorem pI_mod {x y : Int} (hx : 0 ≤ x ∧ x ≤ 2147483647) (hy : 0 < y ∧ y ≤ 2147483647) : pI x % pI y = pI (x % y) := by
  have rx : inR x := ⟨by omega, hx.2⟩
  have ry : inR y := ⟨by omega, hy.2⟩
  have h0 : 0 ≤ x % y := Int.emod_nonneg x (by omega)
  have h1 : x % y < y := Int.emod_lt_of_pos x hy.1
  refine Int32.toInt_inj.mp ?_
  rw [Int32.toInt_mod, pI_toInt rx, pI_toInt ry, pI_toInt (x := x % y) ⟨by omega, by omega⟩, Int.tmod_eq_emod_of_nonneg hx.1]
theorem pL_div {x y : Int} (hx : 0 ≤ x ∧ x ≤ 9223372036854775807) (hy : 0 < y ∧ y ≤ 9223372036854775807) : pL x / pL y = pL (x / y) ∧ ¬ pL y = 0 := by
  have rx : inL x := ⟨by omega, hx.2⟩
  have ry : inL y := ⟨by omega, hy.2⟩
  have h0 : 0 ≤ x / y := Int.ediv_nonneg hx.1 (by omega)
  have h1 : x / y ≤ x := Int.ediv_le_self y hx.1
  refine ⟨Int64.toInt_inj.mp ?_, fun h => ?_⟩
  · rw [Int64.toInt_div, pL_toInt rx, pL_toInt ry, pL_toInt (x := x / y) ⟨by omega, by omega⟩, Int.tdiv_eq_ediv_of_nonneg hx.1]
    exact Int.bmod_eq_of_le (by omega) (by omega)
  · have := congrArg Int64.toInt h
    rw [pL_toInt ry] at this
    simp at this
    omega
theorem pL_mod {x y : Int} (hx : 0 ≤ x ∧ x ≤ 9223372036854775807) (hy : 0 < y ∧ y ≤ 9223372036854775807) : pL x % pL y = pL (x % y) := by
  have rx : inL x := ⟨by omega, hx.2⟩
  have ry : inL y := ⟨by omega, hy.2⟩
  have h0 : 0 ≤ x % y := Int.emod_nonneg x (by omega)
  have h1 : x % y < y := Int.emod_lt_of_pos x hy.1
  refine Int64.toInt_inj.mp ?_
  rw [Int64.toInt_mod, pL_toInt rx, pL_toInt ry, pL_toInt (x := x % y) ⟨by omega, by omega⟩, Int.tmod_eq_emod_of_nonneg hx.1]
theorem pL_cmp {x y : Int} (hx : inL x) (hy : inL y) : lg_cmp (pL x) (pL y) = pI (lCmp x y) := by
  unfold lg_cmp lCmp
  have e1 : pL x > pL y ↔ x > y := by
    show pL y < pL x ↔ y < x
    rw [Int64.lt_iff_toInt_lt, pL_toInt hx, pL_toInt hy]
  have e2 : pL x = pL y ↔ x = y := ⟨fun h => by have := congrArg Int64.toInt h; rwa [pL_toInt hx, pL_toInt hy] at this, fun h => by rw [h]⟩
  by_cases h1 : x > y
  · rw [if_pos (e1.mpr h1), if_pos h1]; rfl
  · rw [if_neg (fun h => h1 (e1.mp h)), if_neg h1]
    by_cases h2 : x = y
    · rw [if_pos (e2.mpr h2), if_pos h2]; rfl
    · rw [if_neg (fun h => h2 (e2.mp h)), if_neg h2]; rfl
theorem pL_cmp2 {x y : Int} (h : x = y ∨ (inL x ∧ inL y)) : lg_cmp (pL x) (pL y) = pI (lCmp x y) := by
  rcases h with rfl | ⟨h1, h2⟩
  · unfold lg_cmp lCmp
    have e : ¬ pL x > pL x := by
      show ¬ pL x < pL x
      rw [Int64.lt_iff_toInt_lt]
      omega
    rw [if_neg e, if_pos rfl, if_neg (by omega), if_pos rfl]
    rfl
  · exact pL_cmp h1 h2
theorem pI_64 {x : Int} (hx : inR x) : (pI x).toInt64 = pL x := by
  refine Int64.toInt_inj.mp ?_
  rw [Int32.toInt_toInt64, pI_toInt hx, pL_toInt (x := x) ⟨by have := hx.1; omega, by have := hx.2; omega⟩]
theorem pI_c {x : Int} (hx : 0 ≤ x ∧ x ≤ 65535) : ((pI x).toUInt32 % 65536).toInt32 = pI x := by
  obtain ⟨n, rfl⟩ := Int.eq_ofNat_of_zero_le hx.1
  have hn : n < 65536 := by have := hx.2; omega
  have e : pI (n : Int) = nI n := by
    refine Int32.toInt_inj.mp ?_
    rw [pI_toInt ⟨by omega, by omega⟩, nI_toInt (by omega)]
  rw [e, pk_char, pk_tn (by omega), Nat.mod_eq_of_lt hn]
theorem pcats_eq {E : PE} : ∀ (st : List PV), ((st.map (pv (pad E))).map fun v => v.category).sum = pcats st
  | [] => rfl
  | v :: r => by simp only [List.map_cons, List.sum_cons, pcats, pv_cat]; rw [pcats_eq r]
