/-! SOUNDNESS: calls; contracts of the pure machine -/
def mW (mid : Nat) : List Cond := mCode mid :: WUg
def rmOf (d mid n0 : Nat) : Room := { frames := d, cells := aC mid, slots := SL (n0 + aC mid) - SL n0, locals := 64 * d }
/-- the behaviour of an end, with the count of cells -/
def Qn (N : Nat) (Qp : PQ) : PQ := fun v h' => h'.1 = N ∧ Qp v h'
/-- A CONTRACT: called with these arguments in this memory the method comes back, and Qp holds of its answer and the memory behind it -/
def CallP (d mid : Nat) (av : List PV) (h : PMem) (Qp : PQ) : Prop := ∀ (l : Launch) (E : PE),
  Met l (mY mid) (mW mid) (rmOf d mid h.1) (fun a s => a = (av.map (pv (pad E))).toArray ∧ Rl E s s.heap h) (Qm E (Qn (h.1 + aC mid) Qp)) (aC mid) (SL (h.1 + aC mid) - SL h.1) (pA E)
theorem good_WU {mid : Nat} (h : mCode mid ∈ WUg) : GoodIn WUg (mW mid) := by
  intro w hw
  have hw' : w ∈ WUg := by
    rcases List.mem_cons.mp hw with rfl | q
    · exact h
    · exact q
  exact ⟨hw', good_of_word (List.mem_filter.mp hw').2⟩
theorem Rl.blind {E : PE} {h : PMem} {U : State} (hR : Rl E U U.heap h) (g : JFrame) (mk : MethodId) (a : Array Value) : Rl E (U.calling g mk a) (U.calling g mk a).heap h := hR.warm (U := U.calling g mk a) (State.WarmedH.refl U)
/-- what a class's constant pool says of a method that it calls -/
def MFc (mid idx mid' kind q : Nat) (nest : Bool) : Prop :=
  (if nest then Cond.methodLinkNest (mY mid).cls idx (mY mid') RX7 ∈ NWL else Cond.methodLink (mY mid).cls idx (mY mid') ∈ WUg) ∧ mCode mid' ∈ WUg ∧ (if kind = 0 then Cond.static (mY mid') else Cond.instanceMethod (mY mid')) ∈ WUg ∧ (kind = 1 ∨ kind = 2 → Cond.selects (mY mid').cls (mY mid') (mY mid') ∈ WUg) ∧ Cond.initialized (mY mid').cls ∈ WUg ∧ ((mY mid').cls ≠ "java/lang/invoke/MethodHandle" ∧ (mY mid').cls ≠ "java/lang/invoke/VarHandle") ∧
  dLen (mY mid') = some (q / 64 - (if kind = 0 then 0 else 1)) ∧ q / 16 % 4 = kind ∧ (kind ≠ 0 → 1 ≤ q / 64) ∧ (kind = 3 → (mY mid').name = "<init>" ∧ mRt mid' = none) ∧ (kind = 1 ∨ kind = 3 → q % 16 < 8 ∧ (vC (q % 16)).1 = (mY mid').cls) ∧ (kind = 2 → (mY mid').cls = "java/lang/String") ∧ mML mid' ≤ 45
theorem rcv_own {kind ci : Nat} {h : PMem} {A : List PV} (h0 : kind ≠ 0) (h2 : kind ≠ 2) (h3 : rcv kind ci h A) : ∃ (a : Nat) (r : List PV), A = .inr (.inr (some a)) :: r ∧ a < h.1 ∧ (SK a).1 = ci := by
  unfold rcv at h3
  split at h3
  · exact absurd rfl h0
  · exact absurd rfl h2
  · split at h3
    · exact ⟨_, _, rfl, h3⟩
    · exact h3.elim
theorem lg_len {E : PE} : ∀ av : List PV, (lg_sl (av.map (pv (pad E)))).length = pcats av
  | [] => rfl
  | v :: r => by
    have ih := lg_len (E := E) r
    simp only [List.map_cons, pcats]
    unfold lg_sl at ih ⊢
    rw [List.flatMap_cons, List.length_append, ih, pv_cat]
    rcases v with z | z | (_ | k) <;> rfl
section SO6
variable {l : Launch} {d mid n0 pc : Nat} {Qp : PQ} {k : PK} {ls : List (Option PV)} {st : List PV} {h : PMem}
theorem pm_after {p : Program} {e : Env} {R : Room} {s : State} {m : MethodId} {args a : Array Value} {below : List Frame} {meth : Method} {c : Code} {H : Heap} {locs : List Loc} {cells slots mc ms : Nat} {Q : State → Prop} {lsA : Array Slot} {st0 rest : List Value} {E : PE} {Qc : PQ} {h0 : Heap}
    (hr : va_Run p l e R s m args below meth c H locs cells slots mc ms (F0 m pc lsA st0) rest (Qm E Qc a) (pA E)) (hR : Rl E s H h) (hS : va_S (pA E) h0 H locs)
    (kk : ∀ (v : Option PV) (h' : PMem) (H1 : Heap) (locs1 : List Loc), Qc v h' → Rl E s H1 h' → va_S (pA E) h0 H1 locs1 → W p l e R s m args below meth c H1 locs1 (cells + mc) (slots + ms) Q (F0 m (pc + 3) lsA ((v.map (pv (pad E))).toList ++ rest))) : W p l e R s m args below meth c H locs cells slots Q (F0 m pc lsA st0) := by
  intro T hT X
  obtain ⟨v, st₀, t, T', L, h0', X', hL, e1, e2, ⟨⟨u, h', hq, hv, hRt⟩, hz, hk⟩, st⟩ := hr T hT X
  cases hv
  rw [h0'] at hz hk
  have hal : s.vm.Alike t.vm := by rw [← e2]; exact X'.warmed.alike
  obtain ⟨t2, a1, b1⟩ := kk u h' T'.heap (locs ++ L) hq (by rw [e1]; exact hR.back hal hRt)
    ⟨Nat.le_trans hS.1 (by rw [e1]; exact hz), fun q h1 h2 => by rw [e1, hk q (Nat.lt_of_lt_of_le h1 hS.1) h2]; exact hS.2.1 q h1 h2, fun q hq => by
      rcases List.mem_append.mp hq with h | h
      · exact hS.2.2 q h
      · exact hL q h⟩ T' rfl X'
  exact ⟨t2, st t2 a1, b1⟩
theorem so_call {idx mid' kind q : Nat} {nest : Bool} {raw : Instr} (hM : MFc mid idx mid' kind q nest) (hraw : (kind = 0 ∧ raw = .invokestatic idx) ∨ ((kind = 1 ∨ kind = 2) ∧ raw = .invokevirtual idx) ∨ (kind = 3 ∧ raw = .invokespecial idx)) (hnk : nest = true → kind ≤ 1 ∨ kind = 3) (hd1 : 1 ≤ d) (hd : decode (mB mid) pc = .ok (raw, 3)) (hk : ∀ ls st h, k ls st h → At l d mid n0 Qp (pc + 3) ls st h) (hw : w_call (n0 + aC mid) mid' q (CallP (d - 1)) k ls st h) : At l d mid n0 Qp pc ls st h := by
  intro E R p e s m args below meth c H locs lsA cx hm hR hS hL hn hb0
  obtain ⟨⟨⟨h1, h2⟩, h3, h4⟩, hw⟩ := hw
  obtain ⟨m1, m2, m3, m4, m5, m6, m7, m8, m9, m10, m11, m12, m13⟩ := hM
  have hts := cx.2.2.2.2.2.2.1
  have hown := cx.2.2.2.2.2.1
  obtain ⟨r1, r2, r3, r4⟩ := id hm
  have g1 := SL_mono (show h.1 + aC mid' ≤ n0 + aC mid by omega)
  have g2 := SL_mono hn
  have g3 := SL_mono (show h.1 ≤ h.1 + aC mid' by omega)
  have hMet := hw l E
  have hgood : ∀ w ∈ mW mid', ∀ (a' : Array Value) (U : State), s.WarmedH U.vm → w.before a' U = true := pay_in hts (good_WU m2)
  have hcode : Cond.code (mY mid') (mB mid') (mML mid') (mRt mid') ∈ mW mid' := List.mem_cons_self
  have hfr : (rmOf (d - 1) mid' h.1).frames + 1 ≤ R.frames := by show d - 1 + 1 ≤ _; omega
  have hlo : 8 + (mML mid' + 11) + (rmOf (d - 1) mid' h.1).locals ≤ R.locals := by show _ + 64 * (d - 1) ≤ _; omega
  have hf : h.1 - n0 + aC mid' ≤ R.cells ∧ SL h.1 - SL n0 + (SL (h.1 + aC mid') - SL h.1) ≤ R.slots := ⟨by omega, by omega⟩
  have hsplit : st.map (pv (pad E)) = ((st.take (q / 64)).reverse.map (pv (pad E))).reverse ++ (st.drop (q / 64)).map (pv (pad E)) := by
    rw [← List.map_reverse, List.reverse_reverse, ← List.map_append, List.take_append_drop]
  have hlen : (st.take (q / 64)).reverse.length = q / 64 := by rw [List.length_reverse, List.length_take]; omega
  have hWd : 2 * (F0 m pc lsA (st.map (pv (pad E)))).monitorRoom + (((st.drop (q / 64)).map (pv (pad E))).map fun v => v.category).sum ≤ 8 := lv_room (by rw [pcats_eq]; exact h2)
  have fin : ∀ (v : Option PV) (h' : PMem) (H1 : Heap) (locs1 : List Loc), Qn (h.1 + aC mid') (fun v h' => k ls (v.toList ++ st.drop (q / 64)) h') v h' → Rl E s H1 h' → va_S (pA E) s.heap H1 locs1 → W p l e R s m args below meth c H1 locs1 (h.1 - n0 + aC mid') (SL h.1 - SL n0 + (SL (h.1 + aC mid') - SL h.1)) (MQ below (Qm E Qp) args s (aC mid) (SL (n0 + aC mid) - SL n0) (pA E)) (F0 m (pc + 3) lsA ((v.map (pv (pad E))).toList ++ (st.drop (q / 64)).map (pv (pad E)))) := by
    intro v h' H1 locs1 hq hR1 hS1
    obtain ⟨hq1, hq2⟩ := hq
    have kk := hk _ _ _ hq2 E R p e s m args below meth c H1 locs1 lsA cx hm hR1 hS1 hL (by omega) hb0
    rw [show h.1 - n0 + aC mid' = h'.1 - n0 by omega, show SL h.1 - SL n0 + (SL (h.1 + aC mid') - SL h.1) = SL h'.1 - SL n0 by rw [hq1]; omega]
    rw [show (v.map (pv (pad E))).toList ++ (st.drop (q / 64)).map (pv (pad E)) = (v.toList ++ st.drop (q / 64)).map (pv (pad E)) by rw [List.map_append]; cases v <;> rfl]
    exact kk
  have pre : ∀ U : State, U.heap = H → s.WarmedH U.vm → ((st.take (q / 64)).reverse.map (pv (pad E))).toArray = ((st.take (q / 64)).reverse.map (pv (pad E))).toArray ∧ Rl E U U.heap h := fun U hU hW => ⟨rfl, by rw [hU]; exact hR.warm hW⟩
  have hbl : FrameBlind (fun a s => a = ((st.take (q / 64)).reverse.map (pv (pad E))).toArray ∧ Rl E s s.heap h) := fun a U g mk hq => ⟨hq.1, hq.2.blind g mk a⟩
  have hdl : ∀ sig, parseMethodDescriptor (mY mid').desc = some sig → q / 64 - (if kind = 0 then 0 else 1) = sig.parameters.length := by
    intro sig hsig
    unfold dLen at m7
    rw [hsig] at m7
    exact (Option.some.inj m7).symm
  by_cases hk0 : kind = 0
  · subst hk0
    have hr : raw = .invokestatic idx := by rcases hraw with ⟨-, h⟩ | ⟨h, -⟩ | ⟨h, -⟩ <;> first | exact h | (exfalso; omega)
    subst hr
    have hdl' : ∀ sig, parseMethodDescriptor (mY mid').desc = some sig → q / 64 = sig.parameters.length := fun sig hs => by have := hdl sig hs; simpa using this
    rw [if_pos rfl] at m3
    refine pm_after (a := ((st.take (q / 64)).reverse.map (pv (pad E))).toArray) (rest := (st.drop (q / 64)).map (pv (pad E))) ?_ hR hS fin
    cases nest with
    | false =>
      exact va_runS (ret := mRt mid') (bytes := mB mid') (maxL := mML mid') (n := q / 64) (As := (st.take (q / 64)).reverse.map (pv (pad E))) ⟨cx.1, cx.2.1, cx.2.2.1, hown, hts⟩ hMet ⟨⟨rfl, rfl, hfr, hlo, hgood, hcode, hts _ m2, hts _ m5, m6, hdl', hts _ m1⟩, hts _ m3⟩ ⟨hbl, pre⟩ rfl (by rw [List.length_map]; exact hlen) hL.1.1 hsplit hWd hd hf
    | true =>
      exact va_runSN (ret := mRt mid') (bytes := mB mid') (maxL := mML mid') (host := RX7) (n := q / 64) (As := (st.take (q / 64)).reverse.map (pv (pad E))) ⟨cx.1, cx.2.1, cx.2.2.1, hown, hts⟩ hMet ⟨⟨⟨rfl, rfl, hfr, hlo, hgood, hcode⟩, hts _ m2, hts _ m5, m6, hdl', va_Nw.use rfl (hR.2.2.2.2.2 _ m1)⟩, hts _ m3, trivial⟩ ⟨hbl, pre⟩ rfl (by rw [List.length_map]; exact hlen) hL.1.1 hsplit hWd hd hf
  · rw [if_neg hk0] at m3
    rw [if_neg hk0] at hdl
    have hq1 := m9 hk0
    rw [m8] at h3
    -- the receiver
    obtain ⟨a, r, hra, hrec⟩ : ∃ (a : Nat) (r : List PV), (st.take (q / 64)).reverse = .inr (.inr (some a)) :: r ∧ ((kind = 2 ∧ 1001 ≤ a ∧ a ≤ 1005) ∨ (kind ≠ 2 ∧ a < h.1 ∧ (SK a).1 = q % 16)) := by
      generalize hA : (st.take (q / 64)).reverse = A at h3
      by_cases h2k : kind = 2
      · subst h2k
        simp only [rcv] at h3
        split at h3
        · rename_i a r
          exact ⟨a, r, rfl, Or.inl ⟨rfl, h3⟩⟩
        · exact h3.elim
      · obtain ⟨a, r, e, g⟩ := rcv_own hk0 h2k h3
        exact ⟨a, r, e, Or.inr ⟨h2k, g⟩⟩
    have hAs : (st.take (q / 64)).reverse.map (pv (pad E)) = .ref (pad E a) :: r.map (pv (pad E)) := by rw [hra]; rfl
    have hrl : r.length = q / 64 - 1 := by have := hlen; rw [hra] at this; simp at this; omega
    have hst : st.map (pv (pad E)) = (r.map (pv (pad E))).reverse ++ .ref (pad E a) :: (st.drop (q / 64)).map (pv (pad E)) := by
      rw [hsplit, hAs, List.reverse_cons, List.append_assoc]; rfl
    have hMet' : Met l (mY mid') (mW mid') (rmOf (d - 1) mid' h.1) (fun a_1 s => a_1 = (.ref (pad E a) :: r.map (pv (pad E)) : List Value).toArray ∧ Rl E s s.heap h) (Qm E (Qn (h.1 + aC mid') (fun v h' => k ls (v.toList ++ st.drop (q / 64)) h'))) (aC mid') (SL (h.1 + aC mid') - SL h.1) (pA E) := by
      rw [← hAs]; exact hMet
    rw [hAs] at pre hbl
    have hcell : kind ≠ 3 → ∃ cellB : Cell, H[pad E a]? = some cellB ∧ cellB.vm.isStatics = false ∧ s.vm.findClass (mY mid').cls = some cellB.cls := by
      intro hk3
      rcases hrec with ⟨g1, g2, g3⟩ | ⟨g1, g2, g3⟩
      · have hVS := hR.2.2.2.2.1.2.2.2.1
        obtain ⟨⟨cell, c1, c2, c3, -⟩, -⟩ := hVS.1 (a - 1001) (by omega)
        have ea : pad E a = eX E (1001 + (a - 1001)) := by rw [show 1001 + (a - 1001) = a by omega]; exact if_neg (by omega)
        exact ⟨cell, by rw [ea]; exact c1, c2, by rw [m12 g1]; exact c3⟩
      · have hq16 := m11 (Or.inl (by omega))
        have hat := hR.2.2.2.1 a g2
        rw [pcO g3 hq16.1] at hat
        have := va_recv hR.1 (P1 hat) (vC_get hq16.1) (q0 := 0) rfl
        rw [pad_lt g2 hR.2.2.1, ← hq16.2]
        exact this
    refine pm_after (a := (.ref (pad E a) :: r.map (pv (pad E)) : List Value).toArray) (rest := (st.drop (q / 64)).map (pv (pad E))) ?_ hR hS fin
    rw [hst]
    rw [hst] at hWd
    by_cases hk3 : kind = 3
    · have hr : raw = .invokespecial idx := by rcases hraw with ⟨h, -⟩ | ⟨h, -⟩ | ⟨-, h⟩ <;> first | exact h | (exfalso; omega)
      subst hr
      obtain ⟨i1, i2⟩ := m10 hk3
      have hcode' : Cond.code (mY mid') (mB mid') (mML mid') none ∈ mW mid' := by rw [← i2]; exact hcode
      have hcodeW : Cond.code (mY mid') (mB mid') (mML mid') none ∈ WUg := by rw [← i2]; exact m2
      cases nest with
      | false =>
        exact va_runI (bytes := mB mid') (maxL := mML mid') (n := q / 64 - 1) (b := pad E a) (As := r.map (pv (pad E))) ⟨cx.1, cx.2.1, cx.2.2.1, hown, hts⟩ hMet' ⟨⟨rfl, rfl, hfr, hlo, hgood, hcode', hts _ hcodeW, hts _ m5, m6, hdl, hts _ m1⟩, i1, hts _ m3⟩ ⟨hbl, pre⟩ rfl (by rw [List.length_map]; exact hrl) hL.1.1 rfl hWd hd hf
      | true =>
        exact va_runIN (bytes := mB mid') (maxL := mML mid') (host := RX7) (n := q / 64 - 1) (b := pad E a) (As := r.map (pv (pad E))) ⟨cx.1, cx.2.1, cx.2.2.1, hown, hts⟩ hMet' ⟨⟨⟨rfl, rfl, hfr, hlo, hgood, hcode'⟩, hts _ hcodeW, hts _ m5, m6, hdl, va_Nw.use rfl (hR.2.2.2.2.2 _ m1)⟩, i1, hts _ m3⟩ ⟨hbl, pre⟩ rfl (by rw [List.length_map]; exact hrl) hL.1.1 rfl hWd hd hf
    · have hr : raw = .invokevirtual idx ∧ (kind = 1 ∨ kind = 2) := by rcases hraw with ⟨h, -⟩ | ⟨h, h'⟩ | ⟨h, -⟩ <;> first | exact ⟨h', h⟩ | (exfalso; omega)
      obtain ⟨rfl, hk12⟩ := hr
      cases nest with
      | false =>
        exact va_runV (ret := mRt mid') (bytes := mB mid') (maxL := mML mid') (C := (mY mid').cls) (n := q / 64 - 1) (b := pad E a) (As := r.map (pv (pad E))) ⟨cx.1, cx.2.1, cx.2.2.1, hown, hts⟩ hMet' ⟨⟨rfl, rfl, hfr, hlo, hgood, hcode, hts _ m2, hts _ m5, m6, hdl, hts _ m1⟩, hts _ m3, hts _ (m4 hk12)⟩ ⟨hbl, hcell hk3, pre⟩ rfl (by rw [List.length_map]; exact hrl) hL.1.1 rfl hWd hd hf
      | true =>
        exact va_runVN (ret := mRt mid') (bytes := mB mid') (maxL := mML mid') (host := RX7) (C := (mY mid').cls) (n := q / 64 - 1) (b := pad E a) (As := r.map (pv (pad E))) ⟨cx.1, cx.2.1, cx.2.2.1, hown, hts⟩ hMet' ⟨⟨⟨rfl, rfl, hfr, hlo, hgood, hcode⟩, hts _ m2, hts _ m5, m6, hdl, va_Nw.use rfl (hR.2.2.2.2.2 _ m1)⟩, hts _ m3, hts _ (m4 hk12)⟩ ⟨hbl, hcell hk3, pre⟩ rfl (by rw [List.length_map]; exact hrl) hL.1.1 rfl hWd hd hf
/-- the locals at the entry -/
def ent (ml : Nat) (av : List PV) : List (Option PV) := (av.flatMap (fun v => if pcat v = 2 then [some v, none] else [some v])) ++ List.replicate (ml - pcats av) none
theorem call_of {av : List PV} (hpl : plainName (mY mid).cls = true) (hml : pcats av ≤ mML mid) (hw : ∀ l, At l d mid h.1 (Qn (h.1 + aC mid) Qp) 0 (ent (mML mid) av) [] h) : CallP d mid av h Qp := by
  intro l E
  refine Met.ofW (cc := mB mid) (maxL := mML mid) (ret := mRt mid) hpl rfl ?_
  intro p e s m args below meth c s₁ B hmlc hv
  obtain ⟨rfl, hR⟩ := hv
  have hts := atoms_spec (ws := mW mid) B.pre
  have hcx : Cx mid p s m ((av.map (pv (pad E))).toArray) meth c := ⟨B.exec, B.bytes, hmlc, B.returns, B.notSynchronized, findClass_of_methodNamed B.named, fun w hw => hts w (List.mem_cons_of_mem _ hw), (name_of_methodNamed B.named B.method).1⟩
  have hlg := lg_len (E := E) av
  have hl := lv_entry (av.map (pv (pad E))) (n := mML mid) (by rw [hlg]; exact hml)
  rw [lg_entry_eq]
  have key : ∀ (av : List PV) (i : Nat) (j : Nat) (u : PV), (av.flatMap (fun v => if pcat v = 2 then [some v, none] else [some v]))[j]? = some (some u) → (i + j, pv (pad E) u) ∈ lv_args i (av.map (pv (pad E))) := by
    intro av
    induction av with
    | nil => intro i j u hu; simp at hu
    | cons v r ih =>
      intro i j u hu
      rw [List.flatMap_cons] at hu
      simp only [List.map_cons, lv_args, pv_cat]
      by_cases h2 : pcat v = 2
      · rw [if_pos h2] at hu ⊢
        match j, hu with
        | 0, hu => simp at hu; subst hu; exact List.mem_cons_self
        | 1, hu => simp at hu
        | j + 2, hu =>
          have := ih (i + 2) j u (by simpa using hu)
          rw [show i + (j + 2) = i + 2 + j by omega]
          exact List.mem_cons_of_mem _ this
      · rw [if_neg h2] at hu ⊢
        match j, hu with
        | 0, hu => simp at hu; subst hu; exact List.mem_cons_self
        | j + 1, hu =>
          have := ih (i + 1) j u (by simpa using hu)
          rw [show i + (j + 1) = i + 1 + j by omega]
          exact List.mem_cons_of_mem _ this
  have hfl : ∀ av : List PV, (av.flatMap (fun v => if pcat v = 2 then [some v, (none : Option PV)] else [some v])).length = pcats av := by
    intro av
    induction av with
    | nil => rfl
    | cons v r ih =>
      rw [List.flatMap_cons, List.length_append, ih]
      rcases v with z | z | (_ | k) <;> rfl
  have hHL : HL E (mML mid) ((lg_sl (av.map (pv (pad E))) ++ List.replicate (mML mid - (lg_sl (av.map (pv (pad E)))).length) Slot.unset).toArray) (ent (mML mid) av) := by
    refine ⟨⟨hl.1, hl.2.1, fun q hq => ?_⟩, by unfold ent; rw [List.length_append, hfl, List.length_replicate]; omega⟩
    obtain ⟨j, w⟩ := q
    obtain ⟨u, hu, rfl⟩ := mem_alst.mp hq
    unfold ent at hu
    by_cases hj : j < pcats av
    · rw [List.getElem?_append_left (by rw [hfl]; exact hj)] at hu
      have := key av 0 j u hu
      rw [Nat.zero_add] at this
      exact hl.2.2 _ this
    · rw [List.getElem?_append_right (by rw [hfl]; omega), List.getElem?_replicate] at hu
      split at hu <;> cases hu
  have := hw l E (rmOf d mid h.1) p e s m _ below meth c s.heap [] _ hcx ⟨Nat.le_refl _, Nat.le_refl _, Nat.le_refl _, Nat.le_refl _⟩ hR va_S.rf hHL (Nat.le_refl _) (by have := hR.2.1; omega)
  rw [Nat.sub_self, Nat.sub_self] at this
  exact this
end SO6
