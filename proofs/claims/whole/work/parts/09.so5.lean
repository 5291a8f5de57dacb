/-! SOUNDNESS: copies, switches, ends, calls -/
section SO5
variable {l : Launch} {d mid n0 pc : Nat} {Qp : PQ} {k : PK} {ls : List (Option PV)} {st : List PV} {h : PMem}
theorem pI_nn {z : Int} (h0 : 0 ≤ z) (h1 : z < 2147483648) : ¬ pI z < 0 ∧ (pI z).toNatClampNeg = z.toNat ∧ (pI z).toInt = z := by
  have hr : inR z := ⟨by omega, by omega⟩
  refine ⟨?_, ?_, pI_toInt hr⟩
  · rw [show ((0 : Int32)) = pI 0 from rfl, pI_ltI hr inR0]; omega
  · show ((pI z).toInt).toNat = _
    rw [pI_toInt hr]
theorem fits_bool {z : Int} (h : arOk 9 z) : fits .boolean (.int (pI z)) = true := by
  have : z = 0 ∨ z = 1 := h
  rcases this with rfl | rfl <;> rfl
theorem so_cpy {idx : Nat} (hw1 : Cond.methodLink (mY mid).cls idx arraycopyName ∈ WUg) (hd1 : 1 ≤ d) (hd : decode (mB mid) pc = .ok (.invokestatic idx, 3)) (hk : ∀ ls st h, k ls st h → At l d mid n0 Qp (pc + 3) ls st h) (hw : w_cpy k ls st h) : At l d mid n0 Qp pc ls st h := by
  simp only [w_cpy] at hw
  split at hw
  · rename_i n dp b sp a st'
    intro E R p e s m args below meth c H locs lsA cx hm hR hS hL hn hb0
    obtain ⟨⟨⟨⟨h1, h2⟩, h3⟩, ⟨⟨p1, p2, p3⟩, p4, p5⟩, p6⟩, hw⟩ := hw
    have hts := cx.2.2.2.2.2.2.1
    obtain ⟨hm1, hm2, -⟩ := id hm
    have la := SK_len a
    have lb := SK_len b
    obtain ⟨kd, ty, ka, kb, hk8, hk10, htyE, hnr, hft⟩ : ∃ (kd : Nat) (ty : FieldType), (SK a).1 = kd ∧ (SK b).1 = kd ∧ 8 ≤ kd ∧ kd < 10 ∧ (tyE E)[kd - 8]? = some (eA E kd, ty) ∧ refKind ty = false ∧ ∀ i, i < n.toNat → fits ty (.int (pI (h.2.2 a (sp.toNat + i)))) = true := by
      rcases h3 with ⟨q1, q2⟩ | ⟨⟨q1, q2⟩, q3⟩
      · exact ⟨8, .int, q1, q2, by omega, by omega, rfl, rfl, fun _ _ => rfl⟩
      · exact ⟨9, .boolean, q1, q2, by omega, by omega, rfl, rfl, fun i hi => fits_bool (q3 i hi)⟩
    have hata := hR.2.2.2.1 a h1
    have hatb := hR.2.2.2.1 b h2
    rw [pcI ka (by omega) (by omega)] at hata
    rw [pcI kb (by omega) (by omega)] at hatb
    obtain ⟨s1, s2, s3⟩ := pI_nn (z := sp) p1 (by omega)
    obtain ⟨d1, d2, d3⟩ := pI_nn (z := dp) p2 (by omega)
    obtain ⟨n1, n2, n3⟩ := pI_nn (z := n) p3 (by omega)
    have hty := (hR.1.2 (kd - 8) _ htyE).1
    obtain ⟨-, k0, hk0, cm0, hkk0⟩ := hty (SK a).2 (fun j => .int (pI (h.2.2 a j)))
    have c0 : H[eB E + a]? = some (vp_cell (eA E kd) ((SK a).2, .inl (fun j => pI (h.2.2 a j)))) := hata
    have c1 : H[eB E + b]? = some (vp_cell (eA E kd) ((SK b).2, .inl (fun j => pI (h.2.2 b j)))) := hatb
    simp only [List.map_cons, pv, pad_lt h1 hR.2.2.1, pad_lt h2 hR.2.2.1]
    intro T hT X
    have hnw : nativeFrameWords "java/lang/System" "arraycopy" 5 + 11 ≤ 56 := by decide +kernel
    obtain ⟨vm', X', step⟩ := X.arraycopy cx.1 cx.2.2.2.2.2.1 (hts _ hw1) (hts _ i_cpn) (hts _ i_cps) (hts _ i_sini) (src := eB E + a) (dst := eB E + b) (cs := vp_cell (eA E kd) ((SK a).2, .inl (fun j => pI (h.2.2 a j)))) (cd := vp_cell (eA E kd) ((SK b).2, .inl (fun j => pI (h.2.2 b j)))) (srcPos := pI sp) (destPos := pI dp) (n := pI n) (by rw [hT]; exact c0) (by rw [hT]; exact c1)
      (fun _ h => by cases h) (fun _ h => by cases h) (fun h => by cases h) (fun h => by cases h) hk0 hk0 hkk0 hkk0 (by simp [hnr]) s1 d1 n1
      (by rw [s3, n3]; show ¬ _ > ((arrV _ _ _).slots.size : Int); rw [arrV_size]; omega)
      (by rw [d3, n3]; show ¬ _ > ((arrV _ _ _).slots.size : Int); rw [arrV_size]; omega)
      (fun vm₁ _ i hi => by
        rw [n2] at hi
        rw [s2]
        have e : (vp_cell (eA E kd) ((SK a).2, .inl (fun j => pI (h.2.2 a j)))).slots.getD (sp.toNat + i) .null = .int (pI (h.2.2 a (sp.toNat + i))) := by
          show (arrV _ _ _).slots.getD _ _ = _
          rw [Array.getD_eq_getD_getElem?, arrV_read _ _ (by omega)]
          rfl
        refine ⟨?_, ?_⟩
        · rw [e]
          exact hft i hi
        · rw [e]
          exact trivial)
      (g := F0 m pc lsA (.int (pI n) :: .int (pI dp) :: .ref (eB E + b) :: .int (pI sp) :: .ref (eB E + a) :: st'.map (pv (pad E)))) rfl (by show lsA.size = _; rw [hL.1.1, cx.2.2.1]) (rest := st'.map (pv (pad E))) rfl (by rw [cx.2.1]; exact hd) (by omega) (by show 2 * 0 + _ + _ ≤ _; rw [pcats_eq]; omega)
    have e1 : copied (vp_cell (eA E kd) ((SK a).2, .inl (fun j => pI (h.2.2 a j)))) (vp_cell (eA E kd) ((SK b).2, .inl (fun j => pI (h.2.2 b j)))) (pI sp) (pI dp) (pI n) = vp_cell (eA E kd) ((SK b).2, .inl (va_cpy (fun j => pI (h.2.2 a j)) (fun j => pI (h.2.2 b j)) sp.toNat dp.toNat n.toNat)) := by
      have := va_copied (sp := (pI sp).toNatClampNeg) (dp := (pI dp).toNatClampNeg) (n := (pI n).toNatClampNeg) (n1 := (SK b).2) (fun z => Value.int z) (eA E kd) (eA E kd) (fun j => pI (h.2.2 a j)) (fun j => pI (h.2.2 b j)) (n0 := (SK a).2) (by rw [s2, n2]; omega)
      rw [s2, d2, n2] at this
      refine Eq.trans ?_ this
      unfold copied
      rw [s2, d2, n2]
      rfl
    rw [e1] at X' step
    have hl : eB E + b < H.size := (Array.getElem?_eq_some_iff.mp c1).1
    generalize hH1 : H.setIfInBounds (eB E + b) (vp_cell (eA E kd) ((SK b).2, .inl (va_cpy (fun j => pI (h.2.2 a j)) (fun j => pI (h.2.2 b j)) sp.toNat dp.toNat n.toNat))) = H1
    have hheap : ((T.setVm vm').setCell (eB E + b) (vp_cell (eA E kd) ((SK b).2, .inl (va_cpy (fun j => pI (h.2.2 a j)) (fun j => pI (h.2.2 b j)) sp.toNat dp.toNat n.toNat)))).heap = H1 := by rw [← hH1, ← hT]; rfl
    have oq : ∀ q : Nat, q ≠ eB E + b → H1[q]? = H[q]? := fun q hq => by rw [← hH1]; simp [Array.getElem?_setIfInBounds, Ne.symm hq]
    have hz : H1.size = H.size := by rw [← hH1]; simp
    have ne999 : b ≠ 999 ∧ b ≠ 1000 := by have := hR.2.2.1; unfold NC at this; omega
    obtain ⟨t, a1, b1⟩ := hk _ _ _ hw E R p e s m args below meth c H1 _ lsA cx hm (hR.put (a := b) h2 rfl hz oq (by
        rw [pcI kb (by omega) (by omega)]
        show H1[eB E + b]? = some (vp_cell _ _)
        rw [← hH1, Array.getElem?_setIfInBounds_self_of_lt hl]
        congr 2
        congr 2
        funext q
        show (if _ then _ else _) = pI (if b = b ∧ _ then _ else _)
        by_cases hq : dp.toNat ≤ q ∧ q < dp.toNat + n.toNat
        · rw [if_pos hq, if_pos ⟨rfl, hq⟩]
        · rw [if_neg hq, if_neg (fun z => hq z.2)]) (fun q hq => pcell_congr (fun _ => rfl) (fun i => if_neg (fun z => hq z.1))) (if_neg (fun z => ne999.1 z.1.symm)) (fun i => if_neg (fun z => ne999.2 z.1.symm))) ⟨by rw [hz]; exact hS.1, fun q g1 g2 => by
          rw [oq q (fun e => g2 (by rw [e]; exact Nat.le_add_right _ _))]
          exact hS.2.1 q g1 g2, fun q hq => by
          rcases List.mem_append.mp hq with h | h
          · exact hS.2.2 q h
          · obtain ⟨z, -, hz⟩ := List.mem_map.mp h
            rw [← hz]
            exact Nat.le_add_right _ _⟩ hL hn hb0 _ hheap X'
    exact ⟨t, step t a1, b1⟩
  · exact hw.elim
theorem so_tsw {d0 lo hi : Int} {offs : Array Int} {len : Nat} {J : Nat → PK} (hd : decode (mB mid) pc = .ok (.tableswitch d0 lo hi offs, len)) (hp0 : 0 ≤ (pc : Int) + d0) (hp1 : ∀ o ∈ offs.toList, 0 ≤ (pc : Int) + o) (hJ : ∀ t ls st h, J t ls st h → At l d mid n0 Qp t ls st h) (hw : w_tsw ((pc : Int) + d0) lo hi (offs.map (fun o => (pc : Int) + o)) J ls st h) : At l d mid n0 Qp pc ls st h := by
  simp only [w_tsw] at hw
  split at hw
  · rename_i x st'
    intro E R p e s m args below meth c H locs lsA cx hm hR hS hL hn hb0
    obtain ⟨h1, hw⟩ := hw
    split at hw
    · rename_i hx
      exact lv_tableOut cx.1 cx.2.1 hd (by rw [pI_toInt h1]; exact hx) (Int.toNat_of_nonneg hp0).symm (hJ _ _ _ _ hw E R p e s m args below meth c H locs lsA cx hm hR hS hL hn hb0)
    · rename_i hx
      split at hw
      · rename_i t ht
        rw [Array.getElem?_map, Option.map_eq_some_iff] at ht
        obtain ⟨o, ho, rfl⟩ := ht
        exact lv_tableIn cx.1 cx.2.1 hd (by rw [pI_toInt h1]; exact fun q => hx (Or.inl q)) (by rw [pI_toInt h1]; exact fun q => hx (Or.inr q)) (by rw [pI_toInt h1]; exact ho) (Int.toNat_of_nonneg (hp1 o (by
          rw [← Array.getElem?_toList] at ho
          exact List.mem_of_getElem? ho))).symm (hJ _ _ _ _ hw E R p e s m args below meth c H locs lsA cx hm hR hS hL hn hb0)
      · exact hw.elim
  · exact hw.elim
theorem lsw_eq (x : Int) (pc : Int) (d0 : Int) : ∀ l : List (Int × Int), lsw x (pc + d0) (l.map (fun q => (q.1, pc + q.2))) = pc + Op.lookupswitch.offset l d0 x
  | [] => rfl
  | (a, o) :: r => by
    have ih := lsw_eq x pc d0 r
    simp only [List.map_cons, lsw, ih]
    by_cases h : x = a
    · subst h
      simp [Op.lookupswitch.offset]
    · rw [if_neg h]
      have h' : ¬ a = x := fun z => h z.symm
      simp [Op.lookupswitch.offset, h, h']
theorem so_lsw {d0 : Int} {ps : Array (Int × Int)} {len : Nat} {J : Nat → PK} (hd : decode (mB mid) pc = .ok (.lookupswitch d0 ps, len)) (hp : (ps.toList.zip (ps.toList.drop 1)).all (fun (a, next) => a.1 < next.1) = true) (hpn : ∀ x : Int, 0 ≤ (pc : Int) + Op.lookupswitch.offset ps.toList d0 x) (hJ : ∀ t ls st h, J t ls st h → At l d mid n0 Qp t ls st h) (hw : w_lsw ((pc : Int) + d0) (ps.map (fun q => (q.1, (pc : Int) + q.2))) J ls st h) : At l d mid n0 Qp pc ls st h := by
  simp only [w_lsw] at hw
  split at hw
  · rename_i x st'
    intro E R p e s m args below meth c H locs lsA cx hm hR hS hL hn hb0
    obtain ⟨h1, hw⟩ := hw
    rw [Array.toList_map, lsw_eq] at hw
    exact lv_lookup cx.1 cx.2.1 hd hp (by rw [pI_toInt h1]) (Int.toNat_of_nonneg (hpn x)).symm (hJ _ _ _ _ hw E R p e s m args below meth c H locs lsA cx hm hR hS hL hn hb0)
  · exact hw.elim
theorem Qm_ret {E : PE} {s t : State} {H : Heap} {locs : List Loc} {v : Option PV} (hq : Qp v h) (hR : Rl E s H h) (hS : va_S (pA E) s.heap H locs) (ht : t.heap = H) (hW : s.WarmedH t.vm) (args : Array Value) : Qm E Qp args s (.returned (v.map (pv (pad E)))) t := ⟨⟨v, h, hq, rfl, by rw [ht]; exact hR.warm hW⟩, hS.F ht⟩
theorem so_ret {rk : Nat} {ty : FieldType} (hrt : mRt mid = some ty) (hty : (rk = 0 ∧ ty = .int) ∨ (rk = 1 ∧ ty = .boolean) ∨ (rk = 2 ∧ ty = .char)) (hd : decode (mB mid) pc = .ok (.ireturn, 1)) (hw : w_ret (n0 + aC mid) rk Qp ls st h) : At l d mid n0 Qp pc ls st h := by
  simp only [w_ret] at hw
  split at hw
  · rename_i z
    intro E R p e s m args below meth c H locs lsA cx hm hR hS hL hn hb0
    obtain ⟨⟨h1, h2⟩, hq⟩ := hw
    rw [h1, show n0 + aC mid - n0 = aC mid by omega]
    have hr : meth.sig.returnType = some ty := cx.2.2.2.1.trans hrt
    have hnar : narrow ty (.int (pI z)) = .int (pI z) := by
      rcases hty with ⟨rfl, rfl⟩ | ⟨rfl, rfl⟩ | ⟨rfl, rfl⟩
      · rfl
      · have : z = 0 ∨ z = 1 := h2
        rcases this with rfl | rfl <;> rfl
      · exact nar_c h2
    exact W.zret (v := pI z) cx.1 cx.2.1 hr hnar (fun t ht hW => Qm_ret (v := some (.inl z)) hq hR hS ht hW args) hS.2.2 hd cx.2.2.2.2.1
  · exact hw.elim
theorem so_lret (hrt : mRt mid = some .long) (hd : decode (mB mid) pc = .ok (.lreturn, 1)) (hw : w_lret (n0 + aC mid) Qp ls st h) : At l d mid n0 Qp pc ls st h := by
  simp only [w_lret] at hw
  split at hw
  · rename_i z
    intro E R p e s m args below meth c H locs lsA cx hm hR hS hL hn hb0
    obtain ⟨h1, hq⟩ := hw
    rw [h1, show n0 + aC mid - n0 = aC mid by omega]
    have hr : meth.sig.returnType = some .long := cx.2.2.2.1.trans hrt
    exact W.lret (v := pL z) cx.1 cx.2.1 hr (fun t ht hW => Qm_ret (v := some (.inr (.inl z))) hq hR hS ht hW args) hS.2.2 hd cx.2.2.2.2.1
  · exact hw.elim
theorem so_vret (hrt : mRt mid = none) (hd : decode (mB mid) pc = .ok (.return_, 1)) (hw : w_vret (n0 + aC mid) Qp ls st h) : At l d mid n0 Qp pc ls st h := by
  simp only [w_vret] at hw
  split at hw
  · intro E R p e s m args below meth c H locs lsA cx hm hR hS hL hn hb0
    obtain ⟨h1, hq⟩ := hw
    rw [h1, show n0 + aC mid - n0 = aC mid by omega]
    exact W.vret cx.1 cx.2.1 (cx.2.2.2.1.trans hrt) (fun t ht hW => Qm_ret (v := none) hq hR hS ht hW args) hS.2.2 hd cx.2.2.2.2.1
  · exact hw.elim
end SO5
