/-! SOUNDNESS: new cells, copies, the library's small members -/
theorem SL_mono {a b : Nat} (h : a ≤ b) : SL a ≤ SL b := by
  induction b with
  | zero => rw [show a = 0 by omega]; exact Nat.le_refl _
  | succ b ih =>
    rcases Nat.lt_or_ge a (b + 1) with q | q
    · exact Nat.le_trans (ih (by omega)) (Nat.le_add_right _ _)
    · rw [show a = b + 1 by omega]; exact Nat.le_refl _
theorem Rl.grow {E : PE} {s : State} {H H1 : Heap} {h h' : PMem} {n : Nat} (hR : Rl E s H h) (hz : H1.size = H.size + n) (ho : ∀ q, q < H.size → H1[q]? = H[q]?) (hn : h'.1 = h.1 + n) (hN : h.1 + n ≤ NC) (hk : ∀ k, k < h.1 → pcell E h' k = pcell E h k) (hc : ∀ k, h.1 ≤ k → k < h.1 + n → va_at (eD E) vwCl (eB E + k, pcell E h' k) H1) (e1 : h'.2.2 999 0 = h.2.2 999 0) (e2 : ∀ j, h'.2.2 1000 j = h.2.2 1000 j) : Rl E s H1 h' := by
  obtain ⟨h1, h2, h3, h4, h5, h6⟩ := hR
  refine ⟨h1, by rw [hz, h2, hn]; omega, by rw [hn]; exact hN, fun k hk' => ?_, h5.kept (fun q hq _ => ho q hq) (by omega) e1 e2, h6⟩
  by_cases hka : k < h.1
  · rw [hk k hka]
    exact (h4 k hka).kept (ho _ (show eB E + k < H.size by omega))
  · exact hc k (by omega) (by omega)
theorem S_grow {A : Nat → Prop} {H0 H H1 : Heap} {locs : List Loc} (hS : va_S A H0 H locs) (hz : H.size ≤ H1.size) (ho : ∀ q, q < H.size → H1[q]? = H[q]?) : va_S A H0 H1 locs := ⟨Nat.le_trans hS.1 hz, fun q h1 h2 => (ho q (Nat.lt_of_lt_of_le h1 hS.1)).trans (hS.2.1 q h1 h2), hS.2.2⟩
theorem mAl_lt {E : PE} {h : PMem} {n k : Nat} (hk : k < h.1) : pcell E (mAl h n) k = pcell E h k := pcell_congr (fun _ => if_neg (by omega)) (fun _ => if_neg (by omega))
theorem mAl_9 {h : PMem} {n : Nat} (hN : h.1 + n ≤ NC) : (mAl h n).2.2 999 0 = h.2.2 999 0 ∧ ∀ j, (mAl h n).2.2 1000 j = h.2.2 1000 j := by
  unfold NC at hN
  exact ⟨if_neg (by omega), fun _ => if_neg (by omega)⟩
theorem new_fs {E : PE} {h : PMem} {ci n : Nat} (hci : ci < 8) (hn : 0 < n) : ∀ j, j < (vC ci).2.2 → defaultValue (tyC ci j) = vp_V (pfs E h.1 (mAl h n) (fldB ci) 0) j := by
  intro j hj
  unfold vp_V
  rw [List.getD_eq_getElem?_getD, pfs_get _ 0 j _ (vC_B hci j hj), Nat.zero_add]
  by_cases hty : tyC ci j = .int
  · rw [hty]
    simp [mAl, hn]
    rfl
  · rw [(vC_ref hci j hj hty).2.2.2]
    simp [hty, mAl, hn, va_rf]
section SO4
variable {l : Launch} {d mid n0 pc : Nat} {Qp : PQ} {k : PK} {ls : List (Option PV)} {st : List PV} {h : PMem}
theorem so_new {idx ci : Nat} (hci : ci < 8) (hw1 : Cond.classLink (mY mid).cls idx (vC ci).1 ∈ WUg) (hw2 : Cond.instantiable (vC ci).1 (vC ci).2.2 ∈ WUg) (hw3 : Cond.initialized (vC ci).1 ∈ WUg) (hN : n0 + aC mid ≤ NC) (hd : decode (mB mid) pc = .ok (.new idx, 3)) (hk : ∀ ls st h, k ls st h → At l d mid n0 Qp (pc + 3) ls st h) (hw : w_new ci (n0 + aC mid) k ls st h) : At l d mid n0 Qp pc ls st h := by
  intro E R p e s m args below meth c H locs lsA cx hm hR hS hL hn hb0
  obtain ⟨⟨h1, h2⟩, hw⟩ := hw
  have hts := cx.2.2.2.2.2.2.1
  have hKn := hR.1.1 ci _ (vC_get hci)
  have hsl : slK (SK h.1) = (vC ci).2.2 := by unfold slK; rw [h1, if_pos hci, vC_len hci]
  have hSL : SL (h.1 + 1) = SL h.1 + (vC ci).2.2 := by rw [← hsl]; rfl
  have hm1 := SL_mono (show h.1 + 1 ≤ n0 + aC mid by omega)
  have hm2 := SL_mono hn
  obtain ⟨-, -, hm3, hm4⟩ := id hm
  refine W.newcK cx.1 cx.2.1 cx.2.2.2.2.2.1 (hts _ hw1) (hts _ hw2) (hts _ hw3) rfl hd (by omega) (by omega) hKn.2.1 (h := eB E + h.1) hR.2.1 (fun H1 kC hkC e1 e2 e3 => ?_)
  have hNC : h.1 + 1 ≤ NC := by omega
  have kk := hk _ _ _ hw E R p e s m args below meth c H1 locs lsA cx hm (hR.grow (n := 1) (by rw [e2, hR.2.1]) (fun q hq => e3 q (by rw [hR.2.1] at hq; exact hq)) rfl hNC (fun k' hk' => mAl_lt hk') (fun k' g1 g2 => ?_) (mAl_9 hNC).1 (mAl_9 hNC).2) (S_grow hS (by rw [e2, hR.2.1]; omega) (fun q hq => e3 q (by rw [hR.2.1] at hq; exact hq))) hL (by show n0 ≤ h.1 + 1; omega) hb0
  · have a1 : (mAl h 1).1 - n0 = h.1 - n0 + 1 := by show h.1 + 1 - n0 = _; omega
    have a2 : SL (mAl h 1).1 - SL n0 = SL h.1 - SL n0 + (vC ci).2.2 := by show SL (h.1 + 1) - _ = _; omega
    rw [a1, a2] at kk
    simpa only [List.map_cons, pv, pad, if_pos (show h.1 < 1000 by unfold NC at hNC; omega)] using kk
  · have : k' = h.1 := by omega
    subst this
    rw [pcO h1 hci]
    exact ⟨_, vC_get hci, (u_born (tyC ci) hts (vC_ws hci) hKn hkC e1 (vC_ty hci)).to (new_fs hci (by omega))⟩
theorem so_newI {at0 : ArrayType} {kd : Nat} {ty : FieldType} (hat : newarray.typeOf at0 = ty) (hk8 : 8 ≤ kd) (hk11 : kd < 11) (hte : ∀ E : PE, (tyE E)[kd - 8]? = some (eA E kd, ty)) (hra : ∀ (U : State) (cA : ClassId), va_RA U cA ty = (U.vm.findClass ("[" ++ ty.toString) = some cA)) (hdf : defaultValue ty = .int (pI 0)) (hcb : componentBytes ty ≤ 8) (hwd : Cond.arrayClass ty ∈ WUg) (hN : n0 + aC mid ≤ NC) (hd : decode (mB mid) pc = .ok (.newarray at0, 2)) (hk : ∀ ls st h, k ls st h → At l d mid n0 Qp (pc + 2) ls st h) (hw : w_newa kd (n0 + aC mid) k ls st h) : At l d mid n0 Qp pc ls st h := by
  subst hat
  simp only [w_newa] at hw
  split at hw
  · rename_i n st'
    intro E R p e s m args below meth c H locs lsA cx hm hR hS hL hn hb0
    obtain ⟨⟨⟨h1, h0⟩, h2⟩, hw⟩ := hw
    have hts := cx.2.2.2.2.2.2.1
    have hlen := SK_len h.1
    rw [h1] at hlen
    obtain ⟨i1, i2⟩ := pI_ix (i := n) (n := n.toNat + 1) ⟨h0, by omega⟩ (by omega)
    have hsl : slK (SK h.1) = n.toNat := by unfold slK; rw [h1]; exact if_neg (by show ¬ kd < 8; omega)
    have hSL : SL (h.1 + 1) = SL h.1 + n.toNat := by rw [← hsl]; rfl
    have hm1 := SL_mono (show h.1 + 1 ≤ n0 + aC mid by omega)
    have hm2 := SL_mono hn
    obtain ⟨-, -, hm3, hm4⟩ := id hm
    have hNC : h.1 + 1 ≤ NC := by omega
    simp only [List.map_cons, pv]
    have hby : n.toNat * componentBytes (newarray.typeOf at0) ≤ 536870912 := Nat.le_trans (Nat.mul_le_mul (show n.toNat ≤ 1000 by omega) hcb) (by decide)
    refine va_newaK (N := n.toNat) (h := eB E + h.1) cx.1 cx.2.1 (hts _ hwd) rfl hd rfl (fun q => i1 (Or.inl q)) i2 hby (by omega) (by omega) hR.2.1 (fun H1 cA e1 e2 e3 hAr hNm => ?_)
    have hcA : cA = eA E kd := by
      have q := (hR.1.2 (kd - 8) _ (hte E)).2
      rw [hra] at q
      exact Option.some.inj (hNm.symm.trans q)
    subst hcA
    have kk := hk _ _ _ hw E R p e s m args below meth c H1 locs lsA cx hm (hR.grow (n := 1) (by rw [e2, hR.2.1]) (fun q hq => e3 q (by rw [hR.2.1] at hq; exact hq)) rfl hNC (fun k' hk' => mAl_lt hk') (fun k' g1 g2 => ?_) (mAl_9 hNC).1 (mAl_9 hNC).2) (S_grow hS (by rw [e2, hR.2.1]; omega) (fun q hq => e3 q (by rw [hR.2.1] at hq; exact hq))) hL (by show n0 ≤ h.1 + 1; omega) hb0
    · have a1 : (mAl h 1).1 - n0 = h.1 - n0 + 1 := by show h.1 + 1 - n0 = _; omega
      have a2 : SL (mAl h 1).1 - SL n0 = SL h.1 - SL n0 + n.toNat := by show SL (h.1 + 1) - _ = _; omega
      rw [a1, a2] at kk
      simpa only [List.map_cons, pv, pad, if_pos (show h.1 < 1000 by unfold NC at hNC; omega)] using kk
    · have : k' = h.1 := by omega
      subst this
      rw [pcI (kd := kd) (by rw [h1]) (by omega) hk11]
      show H1[eB E + h.1]? = some (vp_cell _ _)
      rw [e1, vp_cell_i, hdf, h1]
      congr 2
      funext j
      show _ = Value.int (pI (if h.1 ≤ h.1 ∧ h.1 < h.1 + 1 then 0 else _))
      rw [if_pos ⟨Nat.le_refl _, by omega⟩]
  · exact hw.elim
theorem so_newR {idx kd : Nat} (hkd : kd = 11 ∨ kd = 12) (hw1 : Cond.classLink (mY mid).cls idx (aCl kd) ∈ WUg) (hN : n0 + aC mid ≤ NC) (hd : decode (mB mid) pc = .ok (.anewarray idx, 3)) (hk : ∀ ls st h, k ls st h → At l d mid n0 Qp (pc + 3) ls st h) (hw : w_newa kd (n0 + aC mid) k ls st h) : At l d mid n0 Qp pc ls st h := by
  simp only [w_newa] at hw
  split at hw
  · rename_i n st'
    intro E R p e s m args below meth c H locs lsA cx hm hR hS hL hn hb0
    obtain ⟨⟨⟨h1, h0⟩, h2⟩, hw⟩ := hw
    have hts := cx.2.2.2.2.2.2.1
    have hlen := SK_len h.1
    rw [h1] at hlen
    obtain ⟨i1, i2⟩ := pI_ix (i := n) (n := n.toNat + 1) ⟨h0, by omega⟩ (by omega)
    have hsl : slK (SK h.1) = n.toNat := by unfold slK; rw [h1]; exact if_neg (by show ¬ kd < 8; omega)
    have hSL : SL (h.1 + 1) = SL h.1 + n.toNat := by rw [← hsl]; rfl
    have hm1 := SL_mono (show h.1 + 1 ≤ n0 + aC mid by omega)
    have hm2 := SL_mono hn
    obtain ⟨-, -, hm3, hm4⟩ := id hm
    have hNC : h.1 + 1 ≤ NC := by omega
    have hover : (Cond.arrayOver (.object (aCl kd))).before args s = true := by
      obtain ⟨q1, q2, -⟩ := hR.2.2.2.2.1.2.2.2.2.2.2.2
      rcases hkd with rfl | rfl
      · exact q1.use
      · exact q2.use
    simp only [List.map_cons, pv]
    refine W.anew cx.1 cx.2.1 cx.2.2.2.2.2.1 (hts _ hw1) hover rfl hd rfl (fun q => i1 (Or.inl q)) (by rw [i2]; omega) (by omega) (by rw [i2]; omega) (fun cA kA comp f1 f2 f3 f4 => ?_)
    rw [i2]
    have hcA : cA = eA E kd := by
      rcases hkd with rfl | rfl
      · obtain ⟨_, _, -, -, -, q⟩ := (hR.1.2 3 _ (ty_in E 11 (by omega) (by omega))).2
        exact Option.some.inj (f1.symm.trans q)
      · obtain ⟨_, _, -, -, -, q⟩ := (hR.1.2 4 _ (ty_in E 12 (by omega) (by omega))).2
        exact Option.some.inj (f1.symm.trans q)
    subst hcA
    generalize hH1 : H.push { cls := eA E kd, slots := Array.replicate n.toNat .null, vm := .none } = H1
    have e2 : H1.size = H.size + 1 := by rw [← hH1]; simp
    have e3 : ∀ q, q < H.size → H1[q]? = H[q]? := fun q hq => by rw [← hH1, Array.getElem?_push, if_neg (Nat.ne_of_lt hq)]
    have e1 : H1[eB E + h.1]? = some (arrV (eA E kd) n.toNat (fun _ => .null)) := by rw [← hH1, ← hR.2.1, ← arrV_new]; simp
    have kk := hk _ _ _ hw E R p e s m args below meth c H1 locs lsA cx hm (hR.grow (n := 1) e2 e3 rfl hNC (fun k' hk' => mAl_lt hk') (fun k' g1 g2 => ?_) (mAl_9 hNC).1 (mAl_9 hNC).2) (S_grow hS (by omega) e3) hL (by show n0 ≤ h.1 + 1; omega) hb0
    · have a1 : (mAl h 1).1 - n0 = h.1 - n0 + 1 := by show h.1 + 1 - n0 = _; omega
      have a2 : SL (mAl h 1).1 - SL n0 = SL h.1 - SL n0 + n.toNat := by show SL (h.1 + 1) - _ = _; omega
      rw [a1, a2] at kk
      rw [hR.2.1]
      simpa only [List.map_cons, pv, pad, if_pos (show h.1 < 1000 by unfold NC at hNC; omega)] using kk
    · have : k' = h.1 := by omega
      subst this
      rw [pcR (kd := kd) (by rw [h1]) (by omega)]
      show H1[eB E + h.1]? = some (vp_cell _ _)
      rw [e1, vp_cell_q, h1]
      congr 2
      funext j
      show _ = va_rf (Option.map _ (if h.1 ≤ h.1 ∧ h.1 < h.1 + 1 then none else _))
      rw [if_pos ⟨Nat.le_refl _, by omega⟩]
      rfl
  · exact hw.elim
theorem so_obj {idx : Nat} (hw1 : Cond.methodLink (mY mid).cls idx objectInit ∈ WUg) (hd1 : 1 ≤ d) (hd : decode (mB mid) pc = .ok (.invokespecial idx, 3)) (hk : ∀ ls st h, k ls st h → At l d mid n0 Qp (pc + 3) ls st h) (hw : w_obj k ls st h) : At l d mid n0 Qp pc ls st h := by
  simp only [w_obj] at hw
  split at hw
  · rename_i a st'
    intro E R p e s m args below meth c H locs lsA cx hm hR hS hL hn hb0
    obtain ⟨h1, hw⟩ := hw
    have hts := cx.2.2.2.2.2.2.1
    obtain ⟨hm1, hm2, -⟩ := id hm
    refine W.objInit cx.1 cx.2.1 cx.2.2.2.2.2.1 (hts _ hw1) (hts _ i_obj1) (hts _ i_obj2) rfl (hL.1.1.trans cx.2.2.1.symm) (a := pad E a) rfl hd (by omega) (by rw [pcats_eq]; show 2 * 0 + _ + 12 ≤ _; omega) ?_
    exact hk _ _ _ hw E R p e s m args below meth c H locs lsA cx hm hR hS hL hn hb0
  · exact hw.elim
theorem so_max {idx : Nat} (hw1 : Cond.methodLink (mY mid).cls idx Lib.Math.max.name ∈ WUg) (hd1 : 1 ≤ d) (hd : decode (mB mid) pc = .ok (.invokestatic idx, 3)) (hk : ∀ ls st h, k ls st h → At l d mid n0 Qp (pc + 3) ls st h) (hw : w_max (n0 + aC mid) (fun x y => max x y) k ls st h) : At l d mid n0 Qp pc ls st h := by
  simp only [w_max] at hw
  split at hw
  · rename_i y x st'
    intro E R p e s m args below meth c H locs lsA cx hm hR hS hL hn hb0
    obtain ⟨⟨⟨h1, h2⟩, h3, hN⟩, hw⟩ := hw
    have hts := cx.2.2.2.2.2.2.1
    obtain ⟨hm1, hm2, hm3, hm4⟩ := id hm
    have hmo := SL_mono hN
    refine va_mmax cx.1 cx.2.1 (cx.2.2.1.trans hL.1.1.symm) cx.2.2.2.2.2.1 (hts _ hw1) (hts _ i_mxs) (hts _ i_mini) (hts _ i_mxc) (by omega) (by rw [pcats_eq]; omega) (by omega) (by omega) hd ?_
    have e9 : (if pI x < pI y then pI y else pI x) = pI (max x y) := by
      by_cases q : x < y
      · rw [if_pos ((pI_ltI h1 h2).mpr q)]; congr 1; omega
      · rw [if_neg (fun z => q ((pI_ltI h1 h2).mp z))]; congr 1; omega
    rw [e9]
    exact hk _ _ _ hw E R p e s m args below meth c H locs lsA cx hm hR hS hL hn hb0
  · exact hw.elim
theorem so_min {idx : Nat} (hw1 : Cond.methodLink (mY mid).cls idx Lib.Math.min.name ∈ WUg) (hd1 : 1 ≤ d) (hd : decode (mB mid) pc = .ok (.invokestatic idx, 3)) (hk : ∀ ls st h, k ls st h → At l d mid n0 Qp (pc + 3) ls st h) (hw : w_max (n0 + aC mid) (fun x y => min x y) k ls st h) : At l d mid n0 Qp pc ls st h := by
  simp only [w_max] at hw
  split at hw
  · rename_i y x st'
    intro E R p e s m args below meth c H locs lsA cx hm hR hS hL hn hb0
    obtain ⟨⟨⟨h1, h2⟩, h3, hN⟩, hw⟩ := hw
    have hts := cx.2.2.2.2.2.2.1
    obtain ⟨hm1, hm2, hm3, hm4⟩ := id hm
    have hmo := SL_mono hN
    refine va_mmin cx.1 cx.2.1 (cx.2.2.1.trans hL.1.1.symm) cx.2.2.2.2.2.1 (hts _ hw1) (hts _ i_mns) (hts _ i_mini) (hts _ i_mnc) (by omega) (by rw [pcats_eq]; omega) (by omega) (by omega) hd ?_
    have e9 : (if pI y < pI x then pI y else pI x) = pI (min x y) := by
      by_cases q : y < x
      · rw [if_pos ((pI_ltI h2 h1).mpr q)]; congr 1; omega
      · rw [if_neg (fun z => q ((pI_ltI h2 h1).mp z))]; congr 1; omega
    rw [e9]
    exact hk _ _ _ hw E R p e s m args below meth c H locs lsA cx hm hR hS hL hn hb0
  · exact hw.elim
end SO4
