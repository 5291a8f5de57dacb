/-! SOUNDNESS: fields, arrays, new cells, switches, ends -/
def tyC (ci : Nat) : Nat → FieldType := match ci with
  | 0 => tyX0
  | 1 => tyX1
  | 2 => tyX2
  | 3 => tyX4
  | 4 => tyX5
  | 5 => tyX6
  | 6 => tyX7
  | _ => tyX8
theorem lt8 {P : Nat → Prop} (h0 : P 0) (h1 : P 1) (h2 : P 2) (h3 : P 3) (h4 : P 4) (h5 : P 5) (h6 : P 6) (h7 : P 7) {ci : Nat} (h : ci < 8) : P ci := by
  have : ci = 0 ∨ ci = 1 ∨ ci = 2 ∨ ci = 3 ∨ ci = 4 ∨ ci = 5 ∨ ci = 6 ∨ ci = 7 := by omega
  rcases this with rfl | rfl | rfl | rfl | rfl | rfl | rfl | rfl <;> assumption
theorem vC_get {ci : Nat} (h : ci < 8) : vwCl[ci]? = some ((vC ci).1, (vC ci).2.1, (vC ci).2.2) := lt8 (P := fun ci => vwCl[ci]? = some ((vC ci).1, (vC ci).2.1, (vC ci).2.2)) rfl rfl rfl rfl rfl rfl rfl rfl h
theorem vC_ty {ci : Nat} (h : ci < 8) : ∀ k, k < (vC ci).2.2 → parseFieldDescriptor ((vC ci).2.1 k).2.2.1 = some (tyC ci k) := lt8 (P := fun ci => ∀ k, k < (vC ci).2.2 → parseFieldDescriptor ((vC ci).2.1 k).2.2.1 = some (tyC ci k)) tyX0_ok tyX1_ok tyX2_ok tyX4_ok tyX5_ok tyX6_ok tyX7_ok tyX8_ok h
theorem vC_nm {ci : Nat} (h : ci < 8) : ∀ a, a < (vC ci).2.2 → ∀ b, b < (vC ci).2.2 → a ≠ b → ((vC ci).2.1 a).2.1 ≠ ((vC ci).2.1 b).2.1 := lt8 (P := fun ci => ∀ a, a < (vC ci).2.2 → ∀ b, b < (vC ci).2.2 → a ≠ b → ((vC ci).2.1 a).2.1 ≠ ((vC ci).2.1 b).2.1) nmX0 nmX1 nmX2 nmX4 nmX5 nmX6 nmX7 nmX8 h
theorem vC_B {ci : Nat} (h : ci < 8) : ∀ k, k < (vC ci).2.2 → (fldB ci)[k]? = some (decide (tyC ci k ≠ .int)) := lt8 (P := fun ci => ∀ k, k < (vC ci).2.2 → (fldB ci)[k]? = some (decide (tyC ci k ≠ .int))) (by decide +kernel) (by decide +kernel) (by decide +kernel) (by decide +kernel) (by decide +kernel) (by decide +kernel) (by decide +kernel) (by decide +kernel) h
theorem vC_len {ci : Nat} (h : ci < 8) : (fldB ci).length = (vC ci).2.2 := lt8 (P := fun ci => (fldB ci).length = (vC ci).2.2) rfl rfl rfl rfl rfl rfl rfl rfl h
theorem vC_ref {ci : Nat} (h : ci < 8) : ∀ k, k < (vC ci).2.2 → tyC ci k ≠ .int → (∀ (a : Nat), narrow (tyC ci k) (.ref a) = .ref a ∧ fits (tyC ci k) (.ref a) = true) ∧ ((vC ci).2.1 k).2.2.2 = true ∧ ((vC ci).2.1 k).1 = (vC ci).1 ∧ defaultValue (tyC ci k) = .null := by
  intro k hk hne
  have key : (((tyC ci k).isReference && ((vC ci).2.1 k).2.2.2) && decide (((vC ci).2.1 k).1 = (vC ci).1)) = true := by
    refine lt8 (P := fun ci => ∀ k, k < (vC ci).2.2 → tyC ci k ≠ .int → (((tyC ci k).isReference && ((vC ci).2.1 k).2.2.2) && decide (((vC ci).2.1 k).1 = (vC ci).1)) = true) (by decide +kernel) (by decide +kernel) (by decide +kernel) (by decide +kernel) (by decide +kernel) (by decide +kernel) (by decide +kernel) (by decide +kernel) h k hk hne
  simp only [Bool.and_eq_true, decide_eq_true_eq] at key
  obtain ⟨⟨k1, k2⟩, k3⟩ := key
  refine ⟨fun a => ?_, k2, k3, ?_⟩
  · cases hty : tyC ci k <;> rw [hty] at k1 <;> first | exact ⟨rfl, rfl⟩ | cases k1
  · cases hty : tyC ci k <;> rw [hty] at k1 <;> first | rfl | cases k1
theorem vC_int {ci : Nat} (h : ci < 8) : ∀ k, k < (vC ci).2.2 → tyC ci k = .int → ((vC ci).2.1 k).2.2.2 = false := lt8 (P := fun ci => ∀ k, k < (vC ci).2.2 → tyC ci k = .int → ((vC ci).2.1 k).2.2.2 = false) (by decide +kernel) (by decide +kernel) (by decide +kernel) (by decide +kernel) (by decide +kernel) (by decide +kernel) (by decide +kernel) (by decide +kernel) h
theorem uw_0 : (List.range (vC 0).2.2).all (fun k => inW (([98, 100, 102, 104] : List Nat).getD k 0) (u_lay (vC 0).1 (vC 0).2.1 k)) = true := by decide +kernel
theorem uw_1 : (List.range (vC 1).2.2).all (fun k => inW (([129, 131, 133, 135, 137] : List Nat).getD k 0) (u_lay (vC 1).1 (vC 1).2.1 k)) = true := by decide +kernel
theorem uw_2 : (List.range (vC 2).2.2).all (fun k => inW (([250, 252, 254, 256, 258] : List Nat).getD k 0) (u_lay (vC 2).1 (vC 2).2.1 k)) = true := by decide +kernel
theorem uw_3 : (List.range (vC 3).2.2).all (fun k => inW (([273, 275, 277, 279, 281] : List Nat).getD k 0) (u_lay (vC 3).1 (vC 3).2.1 k)) = true := by decide +kernel
theorem uw_4 : (List.range (vC 4).2.2).all (fun k => inW (([224, 226, 228, 230, 232] : List Nat).getD k 0) (u_lay (vC 4).1 (vC 4).2.1 k)) = true := by decide +kernel
theorem uw_5 : (List.range (vC 5).2.2).all (fun k => inW (([188, 190, 192, 194, 196, 198, 200, 202, 204, 206, 208] : List Nat).getD k 0) (u_lay (vC 5).1 (vC 5).2.1 k)) = true := by decide +kernel
theorem uw_6 : (List.range (vC 6).2.2).all (fun k => inW (([292, 294, 296, 298, 300, 302, 304, 306] : List Nat).getD k 0) (u_lay (vC 6).1 (vC 6).2.1 k)) = true := by decide +kernel
theorem uw_7 : (List.range (vC 7).2.2).all (fun k => inW (([880, 882, 884, 886, 888, 890, 892, 894, 896, 898, 900, 902, 904, 906, 908, 910, 912] : List Nat).getD k 0) (u_lay (vC 7).1 (vC 7).2.1 k)) = true := by decide +kernel
theorem uw_of {C : String} {T : u_T} {N : Nat} {ps : List Nat} (h : (List.range N).all (fun k => inW (ps.getD k 0) (u_lay C T k)) = true) : ∀ w ∈ u_ws C T N, w ∈ WUg := by
  intro w hw
  obtain ⟨k, hk, rfl⟩ := List.mem_map.mp hw
  exact inW_ok (List.all_eq_true.mp h k hk)
theorem vC_ws {ci : Nat} (h : ci < 8) : ∀ w ∈ u_ws (vC ci).1 (vC ci).2.1 (vC ci).2.2, w ∈ WUg := lt8 (P := fun ci => ∀ w ∈ u_ws (vC ci).1 (vC ci).2.1 (vC ci).2.2, w ∈ WUg) (uw_of uw_0) (uw_of uw_1) (uw_of uw_2) (uw_of uw_3) (uw_of uw_4) (uw_of uw_5) (uw_of uw_6) (uw_of uw_7) h
/-- what a class's constant pool says of a field -/
def FW (mid idx ci j : Nat) : Prop := ci < 8 ∧ j < (vC ci).2.2 ∧ (Cond.fieldLink (mY mid).cls idx ((vC ci).2.1 j).1 ((vC ci).2.1 j).2.1 ((vC ci).2.1 j).2.2.1 ∈ WUg ∨ Cond.fieldLinkNest (mY mid).cls idx ((vC ci).2.1 j).1 ((vC ci).2.1 j).2.1 ((vC ci).2.1 j).2.2.1 RX7 ∈ NWL)
theorem P1 {D : va_G} {q : Nat × va_E} {H : Heap} (h : va_at D vwCl q H) : va_P D vwCl [q] H := fun k x hx => by
  have hk : k < 1 := (List.getElem?_eq_some_iff.mp hx).1
  have h0 : k = 0 := by omega
  subst h0
  cases hx
  exact h
theorem pcO {E : PE} {h : PMem} {a ci : Nat} (hc : (SK a).1 = ci) (h8 : ci < 8) : pcell E h a = .inr (ci, pfs E a h (fldB ci) 0) := by
  subst hc
  unfold pcell
  rw [if_pos h8]
theorem pcI {E : PE} {h : PMem} {a kd : Nat} (hc : (SK a).1 = kd) (h8 : ¬ kd < 8) (h11 : kd < 11) : pcell E h a = .inl (eA E kd, (SK a).2, .inl (fun j => pI (h.2.2 a j))) := by
  subst hc
  unfold pcell
  rw [if_neg h8, if_pos h11]
theorem pcR {E : PE} {h : PMem} {a kd : Nat} (hc : (SK a).1 = kd) (h11 : ¬ kd < 11) : pcell E h a = .inl (eA E kd, (SK a).2, .inr (.inr (.inr (.inr (fun j => (h.2.1 a j).map (pad E)))))) := by
  subst hc
  unfold pcell
  rw [if_neg (by omega), if_neg h11]
theorem pv_rf {E : PE} (r : Option Nat) : va_rf (r.map (pad E)) = pv (pad E) (.inr (.inr r)) := by cases r <;> rfl
theorem SK_len (a : Nat) : (SK a).2 < 1000 := by
  have h : skL.all (fun q => decide (q.2 < 1000)) = true := by decide +kernel
  unfold SK
  rw [List.getD_eq_getElem?_getD]
  cases hq : skL[a]? with
  | none => decide
  | some q => exact of_decide_eq_true (List.all_eq_true.mp h q (List.mem_of_getElem? hq))
theorem pad_lt {E : PE} {a n : Nat} (h : a < n) (hn : n ≤ NC) : pad E a = eB E + a := if_pos (by unfold NC at hn; omega)
section SO2
variable {l : Launch} {d mid n0 pc : Nat} {Qp : PQ} {k : PK} {ls : List (Option PV)} {st : List PV} {h : PMem}
theorem so_getI {idx ci j : Nat} (hF : FW mid idx ci j) (hb : tyC ci j = .int) (hj : j < 100) (hd : decode (mB mid) pc = .ok (.getfield idx, 3)) (hk : ∀ ls st h, k ls st h → At l d mid n0 Qp (pc + 3) ls st h) (hw : w_getI (100 * ci + j) k ls st h) : At l d mid n0 Qp pc ls st h := by
  simp only [w_getI] at hw
  split at hw
  · rename_i a st'
    intro E R p e s m args below meth c H locs lsA cx hm hR hS hL hn hb0
    obtain ⟨⟨h1, h2⟩, hw⟩ := hw
    rw [show (100 * ci + j) / 100 = ci by omega] at h2
    rw [show (100 * ci + j) % 100 = j by omega] at hw
    obtain ⟨hci, hjN, hW⟩ := hF
    have hat := hR.2.2.2.1 a h1
    rw [pcO h2 hci] at hat
    have hv : (pfs E a h (fldB ci) 0)[j]? = some (.int (pI (h.2.2 a j))) := by
      rw [pfs_get _ 0 j _ (vC_B hci j hjN), hb, Nat.zero_add]
      rfl
    have kk := hk _ _ _ hw E R p e s m args below meth c H locs lsA cx hm hR hS hL hn hb0
    simp only [List.map_cons, pv, pad_lt h1 hR.2.2.1] at kk ⊢
    rcases hW with hW | hW
    · exact va_get cx.1 cx.2.1 cx.2.2.2.2.2.2.1 (vC_ws hci) cx.2.2.2.2.2.1 hR.1 (P1 hat) 0 rfl (vC_get hci) j hjN (cx.2.2.2.2.2.2.1 _ hW) (fun x hx => hx) hv hd kk
    · exact va_getN cx.1 cx.2.1 cx.2.2.2.2.2.2.1 (vC_ws hci) cx.2.2.2.2.2.1 hR.1 (P1 hat) 0 rfl (vC_get hci) j hjN (va_Nw.use rfl (hR.2.2.2.2.2 _ hW)) (fun x hx => hx) hv hd kk
  · exact hw.elim
theorem so_getR {idx ci j : Nat} (hF : FW mid idx ci j) (hb : tyC ci j ≠ .int) (hj : j < 100) (hd : decode (mB mid) pc = .ok (.getfield idx, 3)) (hk : ∀ ls st h, k ls st h → At l d mid n0 Qp (pc + 3) ls st h) (hw : w_getR (100 * ci + j) k ls st h) : At l d mid n0 Qp pc ls st h := by
  simp only [w_getR] at hw
  split at hw
  · rename_i a st'
    intro E R p e s m args below meth c H locs lsA cx hm hR hS hL hn hb0
    obtain ⟨⟨h1, h2⟩, hw⟩ := hw
    rw [show (100 * ci + j) / 100 = ci by omega] at h2
    rw [show (100 * ci + j) % 100 = j by omega] at hw
    obtain ⟨hci, hjN, hW⟩ := hF
    have hat := hR.2.2.2.1 a h1
    rw [pcO h2 hci] at hat
    have hv : (pfs E a h (fldB ci) 0)[j]? = some (va_rf ((h.2.1 a j).map (pad E))) := by
      rw [pfs_get _ 0 j _ (vC_B hci j hjN), Nat.zero_add, if_pos (by simpa using hb)]
    rw [pv_rf] at hv
    have kk := hk _ _ _ hw E R p e s m args below meth c H locs lsA cx hm hR hS hL hn hb0
    rw [List.map_cons] at kk ⊢
    rw [show pv (pad E) (.inr (.inr (some a))) = .ref (eB E + a) by simp only [pv, pad_lt h1 hR.2.2.1]]
    rcases hW with hW | hW
    · exact va_get cx.1 cx.2.1 cx.2.2.2.2.2.2.1 (vC_ws hci) cx.2.2.2.2.2.1 hR.1 (P1 hat) 0 rfl (vC_get hci) j hjN (cx.2.2.2.2.2.2.1 _ hW) (fun x hx => hx) hv hd kk
    · exact va_getN cx.1 cx.2.1 cx.2.2.2.2.2.2.1 (vC_ws hci) cx.2.2.2.2.2.1 hR.1 (P1 hat) 0 rfl (vC_get hci) j hjN (va_Nw.use rfl (hR.2.2.2.2.2 _ hW)) (fun x hx => hx) hv hd kk
  · exact hw.elim
theorem S_put {A : Nat → Prop} {H0 H H1 : Heap} {locs : List Loc} {a i : Nat} (hS : va_S A H0 H locs) (hz : H1.size = H.size) (ho : ∀ q : Nat, q ≠ a → H1[q]? = H[q]?) (ha : A a) : va_S A H0 H1 (locs ++ [⟨a, i⟩]) := hS.put hz ho ha
theorem so_putI {idx ci j : Nat} (hF : FW mid idx ci j) (hb : tyC ci j = .int) (hj : j < 100) (hd : decode (mB mid) pc = .ok (.putfield idx, 3)) (hk : ∀ ls st h, k ls st h → At l d mid n0 Qp (pc + 3) ls st h) (hw : w_putI (100 * ci + j) k ls st h) : At l d mid n0 Qp pc ls st h := by
  simp only [w_putI] at hw
  split at hw
  · rename_i v a st'
    intro E R p e s m args below meth c H locs lsA cx hm hR hS hL hn hb0
    obtain ⟨⟨h1, h2⟩, hw⟩ := hw
    rw [show (100 * ci + j) / 100 = ci by omega] at h2
    rw [show (100 * ci + j) % 100 = j by omega] at hw
    obtain ⟨hci, hjN, hW⟩ := hF
    have hat := hR.2.2.2.1 a h1
    rw [pcO h2 hci] at hat
    have hts := cx.2.2.2.2.2.2.1
    have hap := va_apart (own := (mY mid).cls) hts (vC_ws hci) (tyC ci) (vC_ty hci) (vC_nm hci) hR.1 (vC_get hci)
    obtain ⟨r, g1, cell, q1, q2, q3, q4⟩ := hat
    have hr : r = ((vC ci).1, (vC ci).2.1, (vC ci).2.2) := Option.some.inj (g1.symm.trans (vC_get hci))
    subst hr
    obtain ⟨hSl, hfc, kC, hkC, hkind⟩ := hR.1.1 ci _ (vC_get hci)
    obtain ⟨cf, kf, fi, f, hi, hsl⟩ := hSl j hjN
    have hlay := hts _ (vC_ws hci _ (u_in_lay hjN))
    unfold u_lay at hlay
    rw [if_neg (by rw [vC_int hci j hjN hb]; decide)] at hlay
    have hst := (u_facts hfc hkC (u_lays hts (vC_ws hci) hjN) hi).1
    have h6 := u_store (v := .int (pI v)) hfc hkC hkind hlay hi ((vC_ty hci j hjN).trans (by rw [hb])) rfl rfl
    have fin : ∀ H1 : Heap, H1[eB E + a]? = some (cell.setSlot f.slot (.int (pI v))) → H1.size = H.size → (∀ q, q ≠ eB E + a → H1[q]? = H[q]?) → W p l e R s m args below meth c H1 (locs ++ [⟨eB E + a, f.slot⟩]) (h.1 - n0) (SL h.1 - SL n0) (MQ below (Qm E Qp) args s (aC mid) (SL (n0 + aC mid) - SL n0) (pA E)) (F0 m (pc + 3) lsA (st'.map (pv (pad E)))) := by
      intro H1 e1 e2 e3
      have ne999 : a ≠ 999 ∧ a ≠ 1000 := by have := hR.2.2.1; unfold NC at this; omega
      refine hk _ _ _ hw E R p e s m args below meth c H1 _ lsA cx hm (hR.put (a := a) h1 rfl e2 e3 ?_ (fun q hq => pcell_congr (fun _ => rfl) (fun i => if_neg (fun z => hq z.1))) (if_neg (fun z => ne999.1 z.1.symm)) (fun i => if_neg (fun z => ne999.2 z.1.symm))) (S_put hS e2 e3 (Nat.le_add_right _ _)) hL hn hb0
      rw [pcO h2 hci]
      rw [pfs_set (i := j) (h := h) (h' := (h.1, h.2.1, mSt h.2.2 a j v)) (fun _ _ => rfl) (fun i hij => if_neg (fun z => hij z.2)) (fldB ci) 0 j _ (by omega) (vC_B hci j hjN)]
      rw [hb]
      refine ⟨_, vC_get hci, t_OB.to (V := updV (vp_V (pfs E a h (fldB ci) 0)) j (.int (pI v))) ⟨_, e1, q2, q3, ?_⟩ (fun i _ => ?_)⟩
      · rw [hsl]
        exact t_set q4 hap hjN _
      · rw [vp_updV_set (by rw [pfs_len, vC_len hci]; exact hjN)]
        simp [mSt]
    simp only [List.map_cons, pv, pad_lt h1 hR.2.2.1]
    rcases hW with hW | hW
    · exact W.putK cx.1 cx.2.1 (f := f) ⟨cx.2.2.2.2.2.1, hts _ hW, ⟨_, _, _, hi⟩, hst⟩ (by rw [q2]; exact h6) q1 q3 (by rw [hsl]; exact k2_hasslot (q4 j hjN)) rfl rfl hd fin
    · exact va_WputK cx.1 cx.2.1 (f := f) cx.2.2.2.2.2.1 (va_Nw.use rfl (hR.2.2.2.2.2 _ hW)) hi hst (by rw [q2]; exact h6) q1 q3 (by rw [hsl]; exact k2_hasslot (q4 j hjN)) rfl rfl hd fin
  · exact hw.elim
theorem so_putR {idx ci j : Nat} (hF : FW mid idx ci j) (hb : tyC ci j ≠ .int) (hj : j < 100) (hin : (mY mid).name = "<init>") (hcl : (vC ci).1 = (mY mid).cls) (hd : decode (mB mid) pc = .ok (.putfield idx, 3)) (hk : ∀ ls st h, k ls st h → At l d mid n0 Qp (pc + 3) ls st h) (hw : w_putR (100 * ci + j) k ls st h) : At l d mid n0 Qp pc ls st h := by
  simp only [w_putR] at hw
  split at hw
  · rename_i v a st'
    intro E R p e s m args below meth c H locs lsA cx hm hR hS hL hn hb0
    obtain ⟨⟨h1, h2⟩, hw⟩ := hw
    rw [show (100 * ci + j) / 100 = ci by omega] at h2
    rw [show (100 * ci + j) % 100 = j by omega] at hw
    obtain ⟨hci, hjN, hW⟩ := hF
    have hat := hR.2.2.2.1 a h1
    rw [pcO h2 hci] at hat
    have hts := cx.2.2.2.2.2.2.1
    have hap := va_apart (own := (mY mid).cls) hts (vC_ws hci) (tyC ci) (vC_ty hci) (vC_nm hci) hR.1 (vC_get hci)
    obtain ⟨r, g1, cell, q1, q2, q3, q4⟩ := hat
    have hr : r = ((vC ci).1, (vC ci).2.1, (vC ci).2.2) := Option.some.inj (g1.symm.trans (vC_get hci))
    subst hr
    obtain ⟨hSl, hfc, kC, hkC, hkind⟩ := hR.1.1 ci _ (vC_get hci)
    obtain ⟨cf, kf, fi, f, hi, hsl⟩ := hSl j hjN
    obtain ⟨hrv, hfin, hdecl, -⟩ := vC_ref hci j hjN hb
    have hlay := hts _ (vC_ws hci _ (u_in_lay hjN))
    unfold u_lay at hlay
    rw [if_pos hfin] at hlay
    have hst := (u_facts hfc hkC (u_lays hts (vC_ws hci) hjN) hi).1
    have hcf : m.cls = cf := by
      obtain ⟨_, _, c', _, _, _, -, -, hf', -, -, -, hown2, -⟩ := Cond.laysFinal_spec hlay
      have e1 : c' = cf := by have := hi.symm.trans hf'; simp at this; exact this.1.symm
      rw [hdecl, hcl] at hown2
      rw [← e1]; exact Option.some.inj (cx.2.2.2.2.2.1.symm.trans hown2)
    have h6 := u_fits (v := .ref (pad E v)) hfc hkC hkind (Or.inr hlay) hi (vC_ty hci j hjN) (hrv _).1 (hrv _).2
    have hW : Cond.fieldLink (mY mid).cls idx ((vC ci).2.1 j).1 ((vC ci).2.1 j).2.1 ((vC ci).2.1 j).2.2.1 ∈ WUg ∨ Cond.fieldLinkNest (mY mid).cls idx ((vC ci).2.1 j).1 ((vC ci).2.1 j).2.1 ((vC ci).2.1 j).2.2.1 RX7 ∈ NWL := hW
    have fin : ∀ H1 : Heap, H1[eB E + a]? = some (cell.setSlot f.slot (.ref (pad E v))) → H1.size = H.size → (∀ q, q ≠ eB E + a → H1[q]? = H[q]?) → W p l e R s m args below meth c H1 (locs ++ [⟨eB E + a, f.slot⟩]) (h.1 - n0) (SL h.1 - SL n0) (MQ below (Qm E Qp) args s (aC mid) (SL (n0 + aC mid) - SL n0) (pA E)) (F0 m (pc + 3) lsA (st'.map (pv (pad E)))) := by
      intro H1 e1 e2 e3
      refine hk _ _ _ hw E R p e s m args below meth c H1 _ lsA cx hm (hR.put (a := a) h1 rfl e2 e3 ?_ (fun q hq => pcell_congr (fun i => if_neg (fun z => hq z.1)) (fun _ => rfl)) rfl (fun _ => rfl)) (S_put hS e2 e3 (Nat.le_add_right _ _)) hL hn hb0
      rw [pcO h2 hci]
      rw [pfs_set (i := j) (h := h) (h' := (h.1, mRf h.2.1 a j (some v), h.2.2)) (fun i hij => if_neg (fun z => hij z.2)) (fun _ _ => rfl) (fldB ci) 0 j _ (by omega) (vC_B hci j hjN)]
      rw [if_pos (by simpa using hb)]
      refine ⟨_, vC_get hci, t_OB.to (V := updV (vp_V (pfs E a h (fldB ci) 0)) j (.ref (pad E v))) ⟨_, e1, q2, q3, ?_⟩ (fun i _ => ?_)⟩
      · rw [hsl]
        exact t_set q4 hap hjN _
      · rw [vp_updV_set (by rw [pfs_len, vC_len hci]; exact hjN)]
        simp [mRf, va_rf]
    simp only [List.map_cons, pv]
    rw [pad_lt h1 hR.2.2.1]
    rcases hW with hW | hW
    · exact W.putFinK cx.1 cx.2.1 cx.2.2.2.2.2.1 (hts _ hW) hi hst hcf (by rw [cx.2.2.2.2.2.2.2]; exact hin) (by rw [q2]; exact h6) q1 q3 (by rw [hsl]; exact k2_hasslot (q4 j hjN)) rfl rfl hd fin
    · refine va_Wputf cx.1 cx.2.1 cx.2.2.2.2.2.1 (va_Nw.use rfl (hR.2.2.2.2.2 _ hW)) hi hst (Or.inr ⟨hcf, by rw [cx.2.2.2.2.2.2.2]; exact hin⟩) q1 (by rw [q3]; exact fun h => by cases h) (by rw [hsl]; exact k2_hasslot (q4 j hjN)) h6.1 (by rw [q3, q2]; exact h6.2) rfl rfl hd ?_
      have ha : eB E + a < H.size := (Array.getElem?_eq_some_iff.mp q1).1
      refine fin _ ?_ ?_ ?_
      · simp [Array.getElem?_setIfInBounds, ha]
      · simp
      · intro q hq
        simp [Array.getElem?_setIfInBounds, Ne.symm hq]
  · exact hw.elim
end SO2
