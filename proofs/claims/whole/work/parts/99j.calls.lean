/-! CALLS OF THE LAW: the script's picture stays what it was -/
theorem va_X_eq {b L L' : Nat} {xs xs' : Nat → Int32} {s s' : State} {H : Heap} (h : va_X b L xs s H) (h' : va_X b L' xs' s' H) : L = L' ∧ ∀ j, j < L → xs j = xs' j := by
  obtain ⟨c, h1, -, -, h4, h5⟩ := h
  obtain ⟨c', k1, -, -, k4, k5⟩ := h'
  cases h1.symm.trans k1
  refine ⟨h4.symm.trans k4, fun j hj => ?_⟩
  have := (h5 j hj).symm.trans (k5 j (by omega))
  simp only [Option.some.injEq, Value.int.injEq] at this
  exact this
abbrev SE (M1 M2 : Nat → Nat → Int) : Prop := (∀ a, a < 278 → M1 a = M2 a) ∧ M1 999 0 = M2 999 0 ∧ ∀ j : Nat, (j : Int) < M1 999 0 → pI (M1 1000 j) = pI (M2 1000 j)
theorem Rl_SE {E : PE} {s : State} {H : Heap} {n : Nat} {R : Nat → Nat → Option Nat} {M1 M2 : Nat → Nat → Int} (h : SE M1 M2) (hR : Rl E s H (n, R, M2)) : Rl E s H (n, R, M1) := by
  obtain ⟨h1, h2, h3, h4, ⟨⟨scr, a1, a2, a3, a4, a5⟩, q2, q3, q4⟩, h6⟩ := hR
  have h3' : n ≤ 278 := h3
  refine ⟨h1, h2, h3, fun k hk => ?_, ⟨⟨scr, a1, a2, a3, ?_, fun j hj => ?_⟩, ?_, q3, q4⟩, h6⟩
  · have hk' : k < n := hk
    have e : pcell E (n, R, M1) k = pcell E (n, R, M2) k := pcell_congr (fun j => rfl) (fun j => by show M1 k j = M2 k j; rw [h.1 k (by omega)])
    rw [e]
    exact h4 k hk
  · show _ = (M1 999 0).toNat
    rw [h.2.1]
    exact a4
  · have hj' : j < (M1 999 0).toNat := hj
    show _ = some (Value.int (pI (M1 1000 j)))
    rw [h.2.2 j (by omega)]
    exact a5 j (by show j < (M2 999 0).toNat; rw [← h.2.1]; exact hj')
  · show 0 ≤ M1 999 0 ∧ M1 999 0 ≤ 2560
    rw [h.2.1]
    exact q2
theorem CallE {d mid n : Nat} {av : List PV} {R : Nat → Nat → Option Nat} {M1 M2 : Nat → Nat → Int} {Q : PQ} (h : SE M1 M2) (H : CallP d mid av (n, R, M2) Q) : CallP d mid av (n, R, M1) Q := fun l E =>
  MetFree.mono (H l E) (fun _ _ hp => ⟨hp.1, Rl_SE (M1 := M2) (M2 := M1) ⟨fun a ha => (h.1 a ha).symm, h.2.1.symm, fun j hj => (h.2.2 j (by rw [h.2.1]; exact hj)).symm⟩ hp.2⟩) (fun _ _ _ _ _ _ => trivial) (fun _ _ _ _ _ hq => hq)
theorem CallS {d mid n : Nat} {av : List PV} {R : Nat → Nat → Option Nat} {M : Nat → Nat → Int} {Q : PQ} (H : CallP d mid av (n, R, M) (fun v h' => ∀ M'', (∀ a, 278 ≤ a → M'' a = M a) → SE M'' h'.2.2 → Q v (h'.1, h'.2.1, M''))) : CallP d mid av (n, R, M) Q := fun l E => by
  refine MetFree.mono (H l E) (fun _ _ hp => hp) (fun _ _ _ _ _ _ => trivial) (fun a s o t hp hq => ?_)
  obtain ⟨⟨⟨v, h', ⟨q1, q2⟩, q3, q4⟩, hF⟩, hE⟩ := hq
  refine ⟨⟨⟨v, (h'.1, h'.2.1, fun a => if a < 278 then h'.2.2 a else M a), ⟨q1, ?_⟩, q3, ?_⟩, hF⟩, hE⟩
  all_goals
    have hR := hp.2
    obtain ⟨-, r2, -, -, ⟨x1, x2, x3, -⟩, -⟩ := hR
    obtain ⟨-, -, -, -, ⟨y1, y2, -⟩, -⟩ := id q4
    have r2' : s.heap.size = eB E + n := r2
    have x1' := x1.kept (hF.2 (eX E 1000) (by omega) (by show ¬ eB E ≤ _; omega))
    obtain ⟨g1, g2⟩ := va_X_eq x1' y1
    have x2' : 0 ≤ M 999 0 ∧ M 999 0 ≤ 2560 := x2
    have g1' : (M 999 0).toNat = (h'.2.2 999 0).toNat := g1
    have hSE : SE (fun a => if a < 278 then h'.2.2 a else M a) h'.2.2 := by
      refine ⟨fun a ha => if_pos ha, ?_, fun j hj => ?_⟩
      · show (if 999 < 278 then h'.2.2 999 else M 999) 0 = _
        rw [if_neg (by omega)]
        omega
      · have hj' : (j : Int) < (if 999 < 278 then h'.2.2 999 else M 999) 0 := hj
        rw [if_neg (by omega)] at hj'
        show pI ((if 1000 < 278 then h'.2.2 1000 else M 1000) j) = _
        rw [if_neg (by omega)]
        exact g2 j (by show j < (M 999 0).toNat; omega)
  · exact q2 _ (fun a ha => if_neg (by omega)) hSE
  · exact Rl_SE hSE q4
theorem JL {d mid mid2 k : Nat} {args args2 : List PV} {M : Nat → Nat → Int} (hJ : JP d mid mid2 args args2 k M) {Q : PQ} (h : ∀ z M', inR z → (∀ a, 278 ≤ a → M' a = M a) → (∀ Q2 : PQ, (∀ M2, Inv (k + 1) M2 → SS M M2 → Q2 (some (.inl z)) (278, RT, M2)) → CallP d mid2 args2 (278, RT, M') Q2) → Q (some (.inl z)) (278, RT, M')) : CallP d mid args (278, RT, M) Q := by
  refine CallS (hJ _ (fun v M1 hv h2 => ?_))
  intro M'' e1 e2
  rcases v with z | z | z
  · exact h z M'' hv e1 (fun Q2 h3 => CallE e2 (h2 Q2 h3))
  · exact hv.elim
  · exact hv.elim
theorem JLL {d mid mid2 k : Nat} {args args2 : List PV} {M : Nat → Nat → Int} (hJ : JPL d mid mid2 args args2 k M) {Q : PQ} (h : ∀ z M', (∀ a, 278 ≤ a → M' a = M a) → (∀ Q2 : PQ, (∀ M2, Inv (k + 1) M2 → SS M M2 → Q2 (some (.inr (.inl z))) (278, RT, M2)) → CallP d mid2 args2 (278, RT, M') Q2) → Q (some (.inr (.inl z))) (278, RT, M')) : CallP d mid args (278, RT, M) Q := by
  refine CallS (hJ _ (fun z M1 h2 => ?_))
  intro M'' e1 e2
  exact h z M'' e1 (fun Q2 h3 => CallE e2 (h2 Q2 h3))
