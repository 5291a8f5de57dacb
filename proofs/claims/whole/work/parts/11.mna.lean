/-! SOUNDNESS: new int[n][q] (over the library's law of multianewarray) -/
theorem outer_arr (c : ClassId) (N h0 : Nat) : ∀ i : Nat, Jvm.Free.Multi.outerC c N h0 i = arrV c N (fun j => va_rf (if j < i then some (h0 + 1 + j) else none))
  | 0 => by
    show ({ cls := c, slots := Array.replicate N .null, vm := .none } : Cell) = _
    rw [arrV_new]
    refine congrArg (arrV c N) (funext fun j => ?_)
    simp [va_rf]
  | i + 1 => by
    show (Jvm.Free.Multi.outerC c N h0 i).setSlot i (.ref (h0 + 1 + i)) = _
    rw [outer_arr c N h0 i, arrV_store]
    refine congrArg (arrV c N) (funext fun j => ?_)
    by_cases e : j = i
    · subst e
      simp [updV, va_rf]
    · by_cases h : j < i
      · simp [updV, e, h, Nat.lt_succ_of_lt h]
      · simp [updV, e, h, show ¬ j < i + 1 by omega]
theorem SL_rows {q : Nat} : ∀ (n a : Nat), (∀ i, i < n → SK (a + i) = (8, q)) → SL (a + n) = SL a + n * q
  | 0, a, _ => by simp
  | n + 1, a, h => by
    have ih := SL_rows (q := q) n a (fun i hi => h i (by omega))
    show SL (a + n) + slK (SK (a + n)) = _
    rw [ih, h n (by omega), Nat.add_mul, Nat.one_mul]
    show SL a + n * q + (if 8 < 8 then _ else q) = _
    simp
    omega
section SO7
variable {l : Launch} {d mid n0 pc : Nat} {Qp : PQ} {k : PK} {ls : List (Option PV)} {st : List PV} {h : PMem}
theorem so_mna {idx : Nat} (hw1 : Cond.classLink (mY mid).cls idx "[[I" ∈ WUg) (hN : n0 + aC mid ≤ NC) (hd : decode (mB mid) pc = .ok (.multianewarray idx 2, 4)) (hk : ∀ ls st h, k ls st h → At l d mid n0 Qp (pc + 4) ls st h) (hw : w_mna (n0 + aC mid) k ls st h) : At l d mid n0 Qp pc ls st h := by
  simp only [w_mna] at hw
  split at hw
  · rename_i q n st'
    intro E R p e s m args below meth c H locs lsA cx hm hR hS hL hn hb0
    obtain ⟨⟨⟨⟨h1, h1b⟩, h0n, h0q⟩, h2⟩, hw⟩ := hw
    have hts := cx.2.2.2.2.2.2.1
    have hown := cx.2.2.2.2.2.1
    have hlen := SK_len h.1
    rw [h1] at hlen
    have hlen : n.toNat < 1000 := hlen
    have hqlen : q.toNat < 1000 ∨ n.toNat = 0 := by
      by_cases hz : n.toNat = 0
      · exact Or.inr hz
      · have := SK_len (h.1 + 1 + 0)
        rw [h1b 0 (by omega)] at this
        exact Or.inl this
    have hSL1 : SL (h.1 + 1) = SL h.1 + n.toNat := by
      show SL h.1 + slK (SK h.1) = _
      rw [h1]
      rfl
    have hSL2 := SL_rows (q := q.toNat) n.toNat (h.1 + 1) h1b
    have hm1 := SL_mono (show h.1 + 1 + n.toNat ≤ n0 + aC mid by omega)
    have hm2 := SL_mono hn
    obtain ⟨-, -, hm3, hm4⟩ := id hm
    have hNC : h.1 + (1 + n.toNat) ≤ NC := by omega
    by_cases hz : n.toNat = 0
    · exfalso
      have : skL.all (fun q => decide (q.1 = 13 → 0 < q.2)) = true := by decide +kernel
      unfold SK at h1
      rw [List.getD_eq_getElem?_getD] at h1
      cases hq : skL[h.1]? with
      | none => rw [hq] at h1; cases h1
      | some w =>
        rw [hq] at h1
        have h1' : w = (13, n.toNat) := h1
        have := of_decide_eq_true (List.all_eq_true.mp this w (List.mem_of_getElem? hq))
        rw [h1'] at this
        have := this rfl
        omega
    have hqlen : q.toNat < 1000 := by omega
    obtain ⟨n1, n2, n3⟩ := pI_nn (z := n) h0n (by omega)
    obtain ⟨q1, q2, q3⟩ := pI_nn (z := q) h0q (by omega)
    obtain ⟨-, -, hAO⟩ := hR.2.2.2.2.1.2.2.2.2.2.2.2
    simp only [List.map_cons, pv]
    intro T hT X
    obtain ⟨vm₁, cA, comp, -, fA, fC, hO, -, X', step⟩ := X.multianewarray2F (ty := .int) cx.1 hown (hts _ hw1) hAO (hts _ i_arrI) (g := F0 m pc lsA (.int (pI q) :: .int (pI n) :: st'.map (pv (pad E)))) rfl (by rw [cx.2.1]; exact hd) rfl n1 q1 (by rw [n2]; omega) (by rw [q2]; show q.toNat * 4 ≤ _; omega) (by rw [q2]; omega) rfl rfl (by rw [n2]; omega) (by rw [n2, q2]; omega)
    rw [n2, q2] at X' step
    have hcA : cA = eA E 13 := Option.some.inj (fA.symm.trans (hR.1.2 5 _ (ty_in E 13 (by omega) (by omega))).2)
    have hco : comp = eA E 8 := Option.some.inj (fC.symm.trans (hR.1.2 0 _ (ty_in E 8 (by omega) (by omega))).2)
    subst hcA
    subst hco
    generalize hF : Jvm.Free.Multi.fill (T.setVm vm₁) (eA E 13) (eA E 8) n.toNat q.toNat (defaultValue .int) n.toNat = F at X' step
    have hTh : (T.setVm vm₁).heap = H := hT
    obtain ⟨f1, f2, -, -⟩ := Jvm.Free.Multi.fill_facts (T.setVm vm₁) (eA E 13) (eA E 8) n.toNat q.toNat (defaultValue .int) n.toNat
    rw [hF, hTh] at f1 f2
    have hold : ∀ x : Nat, x < H.size → F.heap[x]? = H[x]? := fun x hx => by
      have := Jvm.Free.Multi.fill_old (T.setVm vm₁) (eA E 13) (eA E 8) n.toNat q.toNat (defaultValue .int) (a := x) (by rw [hTh]; exact hx) n.toNat
      rw [hF, hTh] at this
      exact this
    have hrow : ∀ j : Nat, j < n.toNat → F.heap[H.size + 1 + j]? = some (arrV (eA E 8) q.toNat (fun _ => .int 0)) := fun j hj => by
      have := Jvm.Free.Multi.fill_inner (T.setVm vm₁) (eA E 13) (eA E 8) n.toNat q.toNat (defaultValue .int) n.toNat j hj
      rw [hF, hTh] at this
      rw [this, ← arrV_new]
      rfl
    rw [outer_arr] at f2
    have hz1 : F.heap.size = H.size + (1 + n.toNat) := by rw [f1]; omega
    have hk2 : ∀ k', k' < h.1 → pcell E (h.1 + (1 + n.toNat), mRows (mAl h (1 + n.toNat)).2.1 h.1 n.toNat, (mAl h (1 + n.toNat)).2.2) k' = pcell E h k' := fun k' hk' => by
      rw [← mAl_lt (n := 1 + n.toNat) hk']
      exact pcell_congr (fun _ => if_neg (fun z => by omega)) (fun _ => rfl)
    have kk := hk _ _ _ hw E R p e s m args below meth c F.heap locs lsA cx hm (hR.grow (n := 1 + n.toNat) hz1 hold rfl hNC hk2 (fun k' g1 g2 => ?_) (mAl_9 hNC).1 (mAl_9 hNC).2) (S_grow hS (by rw [hz1]; omega) hold) hL (by show n0 ≤ h.1 + (1 + n.toNat); omega) hb0
    · have a1 : h.1 + (1 + n.toNat) - n0 = h.1 - n0 + 1 + n.toNat := by omega
      have a2 : SL (h.1 + (1 + n.toNat)) - SL n0 = SL h.1 - SL n0 + n.toNat + n.toNat * q.toNat := by
        rw [show h.1 + (1 + n.toNat) = h.1 + 1 + n.toNat by omega, hSL2]
        omega
      rw [show ((h.1 + (1 + n.toNat), mRows (mAl h (1 + n.toNat)).2.1 h.1 n.toNat, (mAl h (1 + n.toNat)).2.2) : PMem).1 = h.1 + (1 + n.toNat) from rfl, a1, a2] at kk
      obtain ⟨t, b1, b2⟩ := kk F rfl X'
      refine ⟨t, step t ?_, b2⟩
      have e9 : T.heap.size = eB E + h.1 := by rw [hT]; exact hR.2.1
      rw [e9]
      simpa only [List.map_cons, pv, pad, if_pos (show h.1 < 1000 by unfold NC at hNC; omega)] using b1
    · by_cases hke : k' = h.1
      · subst hke
        rw [pcR (kd := 13) (by rw [h1]) (by omega)]
        show F.heap[eB E + h.1]? = some (vp_cell _ _)
        rw [← hR.2.1, f2, vp_cell_q, h1]
        congr 2
        funext j
        congr 1
        show _ = Option.map (pad E) (if h.1 = h.1 ∧ j < n.toNat then some (h.1 + 1 + j) else (if h.1 ≤ h.1 ∧ h.1 < h.1 + (1 + n.toNat) then none else _))
        by_cases hj : j < n.toNat
        · rw [if_pos hj, if_pos ⟨rfl, hj⟩, Option.map_some, hR.2.1]
          congr 1
          rw [show pad E (h.1 + 1 + j) = eB E + (h.1 + 1 + j) from if_pos (by unfold NC at hNC; omega)]
          omega
        · rw [if_neg hj, if_neg (fun z => hj z.2), if_pos ⟨Nat.le_refl _, by omega⟩]
          rfl
      · have hk3 := h1b (k' - h.1 - 1) (by omega)
        rw [show h.1 + 1 + (k' - h.1 - 1) = k' by omega] at hk3
        rw [pcI (kd := 8) (by rw [hk3]) (by omega) (by omega)]
        show F.heap[eB E + k']? = some (vp_cell _ _)
        have := hrow (k' - h.1 - 1) (by omega)
        rw [hR.2.1, show eB E + h.1 + 1 + (k' - h.1 - 1) = eB E + k' by omega] at this
        rw [this, vp_cell_i, hk3]
        congr 2
        funext j
        show _ = Value.int (pI (if h.1 ≤ k' ∧ k' < h.1 + (1 + n.toNat) then 0 else _))
        rw [if_pos ⟨g1, g2⟩]
        rfl
  · exact hw.elim
end SO7
