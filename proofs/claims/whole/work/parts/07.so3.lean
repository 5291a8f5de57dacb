/-! SOUNDNESS: arrays, new cells, switches, ends -/
theorem ty_in (E : PE) (kd : Nat) (h8 : 8 ≤ kd) (h13 : kd ≤ 13) : (tyE E)[kd - 8]? = some (eA E kd, if kd = 8 then .int else if kd = 9 then .boolean else if kd = 10 then .char else if kd = 11 then .object RX6 else if kd = 12 then .object RX1 else .array .int) := by
  have : kd = 8 ∨ kd = 9 ∨ kd = 10 ∨ kd = 11 ∨ kd = 12 ∨ kd = 13 := by omega
  rcases this with rfl | rfl | rfl | rfl | rfl | rfl <;> rfl
section SO3
variable {l : Launch} {d mid n0 pc : Nat} {Qp : PQ} {k : PK} {ls : List (Option PV)} {st : List PV} {h : PMem}
theorem so_iald (hd : decode (mB mid) pc = .ok (.iaload, 1)) (hk : ∀ ls st h, k ls st h → At l d mid n0 Qp (pc + 1) ls st h) (hw : w_ald 8 k ls st h) : At l d mid n0 Qp pc ls st h := by
  simp only [w_ald] at hw
  split at hw
  · rename_i i a st'
    intro E R p e s m args below meth c H locs lsA cx hm hR hS hL hn hb0
    obtain ⟨⟨⟨h1, h2⟩, h3⟩, hw⟩ := hw
    have hat := hR.2.2.2.1 a h1
    rw [pcI h2 (by omega) (by omega)] at hat
    obtain ⟨i1, i2⟩ := pI_ix h3 (by have := SK_len a; omega)
    have kk := hk _ _ _ hw E R p e s m args below meth c H locs lsA cx hm hR hS hL hn hb0
    simp only [List.map_cons, pv, pad_lt h1 hR.2.2.1] at kk ⊢
    refine va_iald cx.1 cx.2.1 hR.1 (P1 hat) 0 0 rfl rfl i1 hd ?_
    rw [i2]
    exact kk
  · exact hw.elim
theorem so_bald (hd : decode (mB mid) pc = .ok (.baload, 1)) (hk : ∀ ls st h, k ls st h → At l d mid n0 Qp (pc + 1) ls st h) (hw : w_ald 9 k ls st h) : At l d mid n0 Qp pc ls st h := by
  simp only [w_ald] at hw
  split at hw
  · rename_i i a st'
    intro E R p e s m args below meth c H locs lsA cx hm hR hS hL hn hb0
    obtain ⟨⟨⟨h1, h2⟩, h3⟩, hw⟩ := hw
    have hat := hR.2.2.2.1 a h1
    rw [pcI h2 (by omega) (by omega)] at hat
    obtain ⟨i1, i2⟩ := pI_ix h3 (by have := SK_len a; omega)
    have kk := hk _ _ _ hw E R p e s m args below meth c H locs lsA cx hm hR hS hL hn hb0
    simp only [List.map_cons, pv, pad_lt h1 hR.2.2.1] at kk ⊢
    refine va_zald cx.1 cx.2.1 hR.1 (P1 hat) 0 1 rfl rfl i1 hd ?_
    rw [i2]
    exact kk
  · exact hw.elim
theorem so_cald (hd : decode (mB mid) pc = .ok (.caload, 1)) (hk : ∀ ls st h, k ls st h → At l d mid n0 Qp (pc + 1) ls st h) (hw : w_ald 10 k ls st h) : At l d mid n0 Qp pc ls st h := by
  simp only [w_ald] at hw
  split at hw
  · rename_i i a st'
    intro E R p e s m args below meth c H locs lsA cx hm hR hS hL hn hb0
    obtain ⟨⟨⟨h1, h2⟩, h3⟩, hw⟩ := hw
    have hat := hR.2.2.2.1 a h1
    rw [pcI h2 (by omega) (by omega)] at hat
    obtain ⟨i1, i2⟩ := pI_ix h3 (by have := SK_len a; omega)
    have kk := hk _ _ _ hw E R p e s m args below meth c H locs lsA cx hm hR hS hL hn hb0
    simp only [List.map_cons, pv, pad_lt h1 hR.2.2.1] at kk ⊢
    refine va_cald cx.1 cx.2.1 hR.1 (P1 hat) 0 2 rfl rfl i1 hd ?_
    rw [i2]
    exact kk
  · exact hw.elim
theorem so_sld (hd : decode (mB mid) pc = .ok (.iaload, 1)) (hk : ∀ ls st h, k ls st h → At l d mid n0 Qp (pc + 1) ls st h) (hw : w_sld k ls st h) : At l d mid n0 Qp pc ls st h := by
  simp only [w_sld] at hw
  split at hw
  · rename_i i a st'
    intro E R p e s m args below meth c H locs lsA cx hm hR hS hL hn hb0
    obtain ⟨⟨rfl, h3⟩, hw⟩ := hw
    obtain ⟨hX, hx2, hx3, -⟩ := hR.2.2.2.2.1
    obtain ⟨i1, i2⟩ := pI_ix (i := i) (n := (h.2.2 999 0).toNat) ⟨h3.1, by omega⟩ (by omega)
    have kk := hk _ _ _ hw E R p e s m args below meth c H locs lsA cx hm hR hS hL hn hb0
    obtain ⟨scr, g1, g2, g3, g4, g5⟩ := hX
    have hlt : (pI i).toNatClampNeg < (h.2.2 999 0).toNat := Nat.not_le.mp fun q => i1 (Or.inr q)
    have e1000 : pad E 1000 = eX E 1000 := if_neg (by omega)
    simp only [List.map_cons, pv, e1000] at kk ⊢
    refine W.iald (v := .int (pI (h.2.2 1000 i.toNat))) cx.1 cx.2.1 g1 g2 g3 (by rw [g4]; exact i1) (by rw [g5 _ hlt, i2]) rfl rfl hd kk
  · exact hw.elim
theorem so_slen (hd : decode (mB mid) pc = .ok (.arraylength, 1)) (hk : ∀ ls st h, k ls st h → At l d mid n0 Qp (pc + 1) ls st h) (hw : w_slen k ls st h) : At l d mid n0 Qp pc ls st h := by
  simp only [w_slen] at hw
  split at hw
  · rename_i a st'
    intro E R p e s m args below meth c H locs lsA cx hm hR hS hL hn hb0
    obtain ⟨rfl, hw⟩ := hw
    obtain ⟨hX, hx2, hx3, -⟩ := hR.2.2.2.2.1
    have kk := hk _ _ _ hw E R p e s m args below meth c H locs lsA cx hm hR hS hL hn hb0
    obtain ⟨scr, g1, g2, g3, g4, g5⟩ := hX
    have e1000 : pad E 1000 = eX E 1000 := if_neg (by omega)
    simp only [List.map_cons, pv, e1000] at kk ⊢
    refine W.alen (n := pI (h.2.2 999 0)) cx.1 cx.2.1 g1 g2 ?_ rfl rfl hd kk
    rw [g4]
    have e : ((h.2.2 999 0).toNat : Int) = h.2.2 999 0 := Int.toNat_of_nonneg hx2.1
    have : pI (h.2.2 999 0) = pI ((h.2.2 999 0).toNat : Int) := by rw [e]
    rw [this]
    rfl
  · exact hw.elim
theorem so_aald (hd : decode (mB mid) pc = .ok (.aaload, 1)) (hk : ∀ ls st h, k ls st h → At l d mid n0 Qp (pc + 1) ls st h) (hw : w_aald k ls st h) : At l d mid n0 Qp pc ls st h := by
  simp only [w_aald] at hw
  split at hw
  · rename_i i a st'
    intro E R p e s m args below meth c H locs lsA cx hm hR hS hL hn hb0
    obtain ⟨⟨⟨h1, h2, h2'⟩, h3⟩, hw⟩ := hw
    have hat := hR.2.2.2.1 a h1
    generalize hkd : (SK a).1 = kd at h2 h2'
    rw [pcR hkd (by omega)] at hat
    obtain ⟨i1, i2⟩ := pI_ix h3 (by have := SK_len a; omega)
    have hlt : (pI i).toNatClampNeg < (SK a).2 := Nat.not_le.mp fun q => i1 (Or.inr q)
    have kk := hk _ _ _ hw E R p e s m args below meth c H locs lsA cx hm hR hS hL hn hb0
    have ht := hR.1.2 (kd - 8) _ (ty_in E kd (by omega) h2')
    rw [List.map_cons] at kk
    rw [List.map_cons, List.map_cons]
    rw [show pv (pad E) (.inr (.inr (some a))) = .ref (eB E + a) by simp only [pv, pad_lt h1 hR.2.2.1]]
    rw [← pv_rf] at kk
    refine W.aald (v := va_rf ((h.2.1 a i.toNat).map (pad E))) cx.1 cx.2.1 hat (ht.1 _ (fun j => va_rf ((h.2.1 a j).map (pad E)))) ?_ (fun q => by cases q) (by show ¬ (_ ∨ (arrV _ _ _).slots.size ≤ _); rw [arrV_size]; exact i1) (by show (arrV _ _ _).slots[_]? = _; rw [arrV_read _ _ hlt, i2]) rfl rfl hd kk
    have : kd = 11 ∨ kd = 12 ∨ kd = 13 := by omega
    rcases this with rfl | rfl | rfl <;> rfl
  · exact hw.elim
theorem pcI_st {E : PE} {h : PMem} {a kd j : Nat} {v : Int} (hc : (SK a).1 = kd) (h8 : ¬ kd < 8) (h11 : kd < 11) : pcell E (h.1, h.2.1, mSt h.2.2 a j v) a = .inl (eA E kd, (SK a).2, .inl (upd (fun j => pI (h.2.2 a j)) j (pI v))) := by
  rw [pcI hc h8 h11]
  congr 3
  congr 1
  funext q
  by_cases hq : q = j
  · subst hq; simp [mSt, upd]
  · simp [mSt, upd, hq]
theorem cell_st {c0 : ClassId} {n j : Nat} {f : Nat → Int32} {x : Int32} : (vp_cell c0 (n, .inl f)).setSlot j (.int x) = vp_cell c0 (n, .inl (upd f j x)) := by
  rw [vp_cell_i, vp_cell_i, arrV_store]
  congr 1
  funext q
  by_cases hq : q = j
  · subst hq; simp [updV, upd]
  · simp [updV, upd, hq]
theorem Rl.store {E : PE} {s : State} {H H1 : Heap} {h : PMem} {a kd j : Nat} {v : Int} (hR : Rl E s H h) (h1 : a < h.1) (hc : (SK a).1 = kd) (h8 : ¬ kd < 8) (h11 : kd < 11) (e1 : H1[eB E + a]? = some ((vp_cell (eA E kd) ((SK a).2, .inl (fun j => pI (h.2.2 a j)))).setSlot j (.int (pI v)))) (e2 : H1.size = H.size) (e3 : ∀ q, q ≠ eB E + a → H1[q]? = H[q]?) : Rl E s H1 (h.1, h.2.1, mSt h.2.2 a j v) := by
  have ne999 : a ≠ 999 ∧ a ≠ 1000 := by have := hR.2.2.1; unfold NC at this; omega
  refine hR.put (a := a) h1 rfl e2 e3 ?_ (fun q hq => pcell_congr (fun _ => rfl) (fun i => if_neg (fun z => hq z.1))) (if_neg (fun z => ne999.1 z.1.symm)) (fun i => if_neg (fun z => ne999.2 z.1.symm))
  rw [pcI_st hc h8 h11]
  show H1[eB E + a]? = some (vp_cell _ _)
  rw [e1, cell_st]
theorem so_iast (hd : decode (mB mid) pc = .ok (.iastore, 1)) (hk : ∀ ls st h, k ls st h → At l d mid n0 Qp (pc + 1) ls st h) (hw : w_ast 8 k ls st h) : At l d mid n0 Qp pc ls st h := by
  simp only [w_ast] at hw
  split at hw
  · rename_i v i a st'
    intro E R p e s m args below meth c H locs lsA cx hm hR hS hL hn hb0
    obtain ⟨⟨⟨⟨h1, h2⟩, h3⟩, -⟩, hw⟩ := hw
    have hat := hR.2.2.2.1 a h1
    rw [pcI h2 (by omega) (by omega)] at hat
    obtain ⟨i1, i2⟩ := pI_ix h3 (by have := SK_len a; omega)
    have ht := hR.1.2 0 _ (ty_in E 8 (by omega) (by omega))
    simp only [List.map_cons, pv, pad_lt h1 hR.2.2.1]
    refine W.iast cx.1 cx.2.1 hat (ht.1 _ (fun j => .int (pI (h.2.2 a j)))) (fun q => by cases q) (by show ¬ (_ ∨ (arrV _ _ _).slots.size ≤ _); rw [arrV_size]; exact i1) rfl rfl hd (fun H1 e1 e2 e3 => ?_)
    rw [i2] at e1 ⊢
    exact hk _ _ _ hw E R p e s m args below meth c H1 _ lsA cx hm (hR.store h1 h2 (by omega) (by omega) e1 e2 e3) (S_put hS e2 e3 (Nat.le_add_right _ _)) hL hn hb0
  · exact hw.elim
theorem so_bast (hd : decode (mB mid) pc = .ok (.bastore, 1)) (hk : ∀ ls st h, k ls st h → At l d mid n0 Qp (pc + 1) ls st h) (hw : w_ast 9 k ls st h) : At l d mid n0 Qp pc ls st h := by
  simp only [w_ast] at hw
  split at hw
  · rename_i v i a st'
    intro E R p e s m args below meth c H locs lsA cx hm hR hS hL hn hb0
    obtain ⟨⟨⟨⟨h1, h2⟩, h3⟩, h4⟩, hw⟩ := hw
    have hat := hR.2.2.2.1 a h1
    rw [pcI h2 (by omega) (by omega)] at hat
    obtain ⟨i1, i2⟩ := pI_ix h3 (by have := SK_len a; omega)
    have ht := hR.1.2 1 _ (ty_in E 9 (by omega) (by omega))
    simp only [List.map_cons, pv, pad_lt h1 hR.2.2.1]
    have hv : v = 0 ∨ v = 1 := h4
    have hnar : narrow .boolean (.int (pI v)) = .int (pI v) := by rcases hv with rfl | rfl <;> rfl
    refine W.zast cx.1 cx.2.1 hat (ht.1 _ (fun j => .int (pI (h.2.2 a j)))) (fun q => by cases q) (by show ¬ (_ ∨ (arrV _ _ _).slots.size ≤ _); rw [arrV_size]; exact i1) rfl rfl hd (fun H1 e1 e2 e3 => ?_)
    rw [hnar] at e1
    rw [i2] at e1 ⊢
    exact hk _ _ _ hw E R p e s m args below meth c H1 _ lsA cx hm (hR.store h1 h2 (by omega) (by omega) e1 e2 e3) (S_put hS e2 e3 (Nat.le_add_right _ _)) hL hn hb0
  · exact hw.elim
theorem nar_c {v : Int} (hv : 0 ≤ v ∧ v ≤ 65535) : narrow .char (.int (pI v)) = .int (pI v) := by
  have e := pI_c hv
  have e2 : narrow .char (.int (pI v)) = .int (vp_nar .char (pI v)) := rfl
  rw [e2, vp_nar_char]
  have : ∀ x : Int32, x.toUInt32.toUInt16.toUInt32.toInt32 = (x.toUInt32 % 65536).toInt32 := fun x => by rw [UInt32.toUInt32_toUInt16]
  rw [this, e]
theorem so_cast (hd : decode (mB mid) pc = .ok (.castore, 1)) (hk : ∀ ls st h, k ls st h → At l d mid n0 Qp (pc + 1) ls st h) (hw : w_ast 10 k ls st h) : At l d mid n0 Qp pc ls st h := by
  simp only [w_ast] at hw
  split at hw
  · rename_i v i a st'
    intro E R p e s m args below meth c H locs lsA cx hm hR hS hL hn hb0
    obtain ⟨⟨⟨⟨h1, h2⟩, h3⟩, h4⟩, hw⟩ := hw
    have hat := hR.2.2.2.1 a h1
    rw [pcI h2 (by omega) (by omega)] at hat
    obtain ⟨i1, i2⟩ := pI_ix h3 (by have := SK_len a; omega)
    have ht := hR.1.2 2 _ (ty_in E 10 (by omega) (by omega))
    simp only [List.map_cons, pv, pad_lt h1 hR.2.2.1]
    have hnar := nar_c (v := v) h4
    refine W.cast cx.1 cx.2.1 hat (ht.1 _ (fun j => .int (pI (h.2.2 a j)))) (fun q => by cases q) (by show ¬ (_ ∨ (arrV _ _ _).slots.size ≤ _); rw [arrV_size]; exact i1) rfl rfl hd (fun H1 e1 e2 e3 => ?_)
    rw [hnar] at e1
    rw [i2] at e1 ⊢
    exact hk _ _ _ hw E R p e s m args below meth c H1 _ lsA cx hm (hR.store h1 h2 (by omega) (by omega) e1 e2 e3) (S_put hS e2 e3 (Nat.le_add_right _ _)) hL hn hb0
  · exact hw.elim
theorem pcR_st {E : PE} {h : PMem} {a kd j v : Nat} (hc : (SK a).1 = kd) (h11 : ¬ kd < 11) : pcell E (h.1, mRf h.2.1 a j (some v), h.2.2) a = .inl (eA E kd, (SK a).2, .inr (.inr (.inr (.inr (va_up (fun j => (h.2.1 a j).map (pad E)) j (some (pad E v))))))) := by
  rw [pcR hc h11]
  congr 3
  congr 4
  funext q
  by_cases hq : q = j
  · subst hq; simp [mRf, va_up]
  · simp [mRf, va_up, hq]
theorem cell_stR {c0 : ClassId} {n j : Nat} {f : Nat → Option Nat} {x : Nat} : (vp_cell c0 (n, .inr (.inr (.inr (.inr f))))).setSlot j (.ref x) = vp_cell c0 (n, .inr (.inr (.inr (.inr (va_up f j (some x)))))) := by
  rw [vp_cell_q, vp_cell_q, arrV_store]
  congr 1
  funext q
  by_cases hq : q = j
  · subst hq; simp [updV, va_up, va_rf]
  · simp [updV, va_up, hq]
theorem so_aast (hd : decode (mB mid) pc = .ok (.aastore, 1)) (hk : ∀ ls st h, k ls st h → At l d mid n0 Qp (pc + 1) ls st h) (hw : w_aast k ls st h) : At l d mid n0 Qp pc ls st h := by
  simp only [w_aast] at hw
  split at hw
  · rename_i v i a st'
    intro E R p e s m args below meth c H locs lsA cx hm hR hS hL hn hb0
    obtain ⟨⟨⟨h1, h2, hv1⟩, h3⟩, hw⟩ := hw
    have hat := hR.2.2.2.1 a h1
    have hav := hR.2.2.2.1 v hv1
    obtain ⟨kd, ci, hkd, hcv, hor⟩ : ∃ kd ci, (SK a).1 = kd ∧ (SK v).1 = ci ∧ ((kd = 11 ∧ ci = 5) ∨ (kd = 12 ∧ ci = 1)) := ⟨_, _, rfl, rfl, h2⟩
    have hci : ci < 8 := by omega
    rw [pcR hkd (by omega)] at hat
    rw [pcO hcv hci] at hav
    obtain ⟨i1, i2⟩ := pI_ix h3 (by have := SK_len a; omega)
    have hlt : (pI i).toNatClampNeg < (SK a).2 := Nat.not_le.mp fun q => i1 (Or.inr q)
    have h0 : ¬ pI i < 0 := fun q => i1 (Or.inl q)
    obtain ⟨r', hr', cellV, g1, g2, g3, -⟩ := hav
    have hcls := (hR.1.1 ci _ (vC_get hci)).2
    have ht := (hR.1.2 (kd - 8) _ (ty_in E kd (by omega) (by omega))).2
    have ht2 : va_RA s (eA E kd) (.object (vC ci).1) := by
      rcases hor with ⟨rfl, rfl⟩ | ⟨rfl, rfl⟩ <;> exact ht
    obtain ⟨kA, comp, k1, k2, k3, -⟩ := ht2
    have hcomp : comp = (eD E).1 ci := Option.some.inj (k3.symm.trans hcls.1)
    subst hcomp
    obtain ⟨kC, hkC, -⟩ := hcls.2
    simp only [List.map_cons, pv, pad_lt h1 hR.2.2.1, pad_lt hv1 hR.2.2.1]
    refine W.aast cx.1 cx.2.1 hat (fun q h => by cases h) (fun h => by cases h) k1 k2 rfl hkC ⟨h0, by show _ < (arrV _ _ _).slots.size; rw [arrV_size]; exact hlt⟩ g1 (fun q h => by rw [g3] at h; cases h) (by rw [g2]; exact hkC) (by rw [g2]; exact va_assign (hR.1.1 ci _ (vC_get hci)).2) rfl rfl hd fun H1 e1 e2 e3 => ?_
    rw [i2] at e1 ⊢
    have ne999 : a ≠ 999 ∧ a ≠ 1000 := by have := hR.2.2.1; unfold NC at this; omega
    refine hk _ _ _ hw E R p e s m args below meth c H1 _ lsA cx hm (hR.put (a := a) h1 rfl e2 e3 ?_ (fun q hq => pcell_congr (fun i => if_neg (fun z => hq z.1)) (fun _ => rfl)) rfl (fun _ => rfl)) (S_put hS e2 e3 (Nat.le_add_right _ _)) hL hn hb0
    rw [pcR_st hkd (by omega)]
    show H1[eB E + a]? = some (vp_cell _ _)
    rw [e1, cell_stR, pad_lt hv1 hR.2.2.1]
  · exact hw.elim
end SO3
