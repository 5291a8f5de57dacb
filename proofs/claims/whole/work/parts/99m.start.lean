/-! THE START: the machine at the law's entry holds the empty memory -/
theorem ar_prim {s : State} {A : Array Value} {ty : FieldType} (h : (Cond.arrayClass ty).before A s = true) (hty : ty = .int ∨ ty = .boolean ∨ ty = .char) : ∃ cA, ArrOfT s cA ty ∧ va_RA s cA ty := by
  obtain ⟨c, k, comp, h1, h2, h3⟩ := Cond.arrayClass_spec h
  refine ⟨c, fun n z => ⟨fun k h => (by cases h), k, h2, comp, h3⟩, ?_⟩
  rcases hty with rfl | rfl | rfl <;> exact h1
theorem ar_obj {s : State} {A : Array Value} {C : String} (h : (Cond.arrayOver (.object C)).before A s = true) : ∃ cA, ArrOfT s cA (.object C) ∧ va_RA s cA (.object C) := by
  obtain ⟨comp, c, k, h1, h2, h3, h4, h5⟩ := Cond.arrayOver_spec h
  exact ⟨c, fun n z => ⟨fun k h => (by cases h), k, h3, comp, h4⟩, k, comp, h3, h4, h1, h5⟩
theorem ar_arr {s : State} {A : Array Value} (h : (Cond.arrayOver (.array .int)).before A s = true) : ∃ cA, ArrOfT s cA (.array .int) ∧ va_RA s cA (.array .int) := by
  obtain ⟨comp, c, k, h1, h3, h4, h5⟩ := Cond.arrayOver_specA h
  exact ⟨c, fun n z => ⟨fun k h => (by cases h), k, h3, comp, h4⟩, h5⟩
theorem vC_inst {ci : Nat} (h : ci < 8) : Cond.instantiable (vC ci).1 (vC ci).2.2 ∈ WUg := lt8 (P := fun ci => Cond.instantiable (vC ci).1 (vC ci).2.2 ∈ WUg) (inW_ok (i := 84) (by decide +kernel)) (inW_ok (i := 110) (by decide +kernel)) (inW_ok (i := 237) (by decide +kernel)) (inW_ok (i := 262) (by decide +kernel)) (inW_ok (i := 213) (by decide +kernel)) (inW_ok (i := 76) (by decide +kernel)) (inW_ok (i := 68) (by decide +kernel)) (inW_ok (i := 855) (by decide +kernel)) h
def tmS (i : Nat) : Term := Term.string RX5 ((txS.getD i (81, "", 0)).1)
abbrev nrw : List Cond := flatC (Jvm.Cond.and given_1 narrow_1)
theorem tm_ex : ∀ i : Nat, i < 5 → Cond.exactly (tmS i) "java/lang/String" ∈ nrw := by decide +kernel
theorem tm_co : ∀ i : Nat, i < 5 → Cond.eq (.field (tmS i) "java/lang/String" "coder" "B") (.int 0) ∈ nrw := by decide +kernel
theorem tm_ar : ∀ i : Nat, i < 5 → Cond.arrayOf (.field (tmS i) "java/lang/String" "value" "[B") .byte ∈ nrw := by decide +kernel
theorem tm_le : ∀ i : Nat, i < 5 → Cond.eq (.length (.field (tmS i) "java/lang/String" "value" "[B")) (.int (Int32.ofNat (lenS.getD i 0))) ∈ nrw := by decide +kernel
theorem tm_el : ∀ i : Nat, i < 5 → ∀ j : Nat, j < lenS.getD i 0 → Cond.eq (.elem (.field (tmS i) "java/lang/String" "value" "[B") (.int (Int32.ofNat j))) (.int ((bytS.getD i []).getD j 0)) ∈ nrw := by decide +kernel
theorem tm_ne : ∀ i : Nat, i < 5 → ∀ j : Nat, j < 5 → i ≠ j → Cond.not (Cond.eq (tmS i) (tmS j)) ∈ nrw ∨ Cond.not (Cond.eq (tmS j) (tmS i)) ∈ nrw := by decide +kernel
theorem tm_sr : ∀ i : Nat, i < 5 → Cond.stringRef RX5 (txS.getD i (81, "", 0)).1 (txS.getD i (81, "", 0)).2.1 ∈ lw_tbl := by decide +kernel
theorem tm_c1 : Cond.eq (.static "java/lang/String" "COMPACT_STRINGS" "Z") (.int 1) ∈ nrw := by decide +kernel
theorem tm_c2 : Cond.isRef (.static "jdk/internal/util/Preconditions" "SIOOBE_FORMATTER" "Ljava/util/function/BiFunction;") ∈ nrw := by decide +kernel
theorem tm_l1 : Cond.laysStatic "java/lang/String" "COMPACT_STRINGS" "Z" ∈ lw_tbl ∧ Cond.initialized "java/lang/String" ∈ lw_tbl := by decide +kernel
theorem tm_l2 : Cond.laysStatic "jdk/internal/util/Preconditions" "SIOOBE_FORMATTER" "Ljava/util/function/BiFunction;" ∈ lw_tbl ∧ Cond.initialized "jdk/internal/util/Preconditions" ∈ lw_tbl := by decide +kernel
theorem SL_all : SL (0 + aC 108) - SL 0 ≤ 7302250 := by decide +kernel
theorem SL_rm : SL (0 + aC 108) - SL 0 ≤ room_1.slots := by decide +kernel
theorem aC_all : aC 108 ≤ 600000 := by decide +kernel
def M0L (L : Nat) (xs : Nat → Int32) : Nat → Nat → Int := fun a j => if a = 999 then (L : Int) else if a = 1000 then (xs j).toInt else 0
theorem nest_tab {w : Cond} (h : isNest w = true) : w.onTables = true := by
  cases w <;> first | rfl | cases h
set_option maxHeartbeats 4000000 in
theorem law_go {p : Program} {e : Env} {s : State} {m : MethodId} {below : List Frame} {meth : Method} {c : Code} (l : Launch) {b L : Nat} {xs : Nat → Int32} (hL : L ≤ 2560) (hx : p.tables.exec = Jvm.exec) (hb : c.code = code) (hr : meth.sig.returnType = ret) (hml : c.maxLocals = 4) (hown : s.vm.findClass RL = some m.cls) (hts : ∀ w ∈ lw_tbl, w.before #[Value.ref b] s = true) (hX : va_X b L xs s s.heap) (hbl : b < s.heap.size) (hlocks : meth.locks = false) (hgv : (Jvm.Cond.and given_1 narrow_1).before #[Value.ref b] s = true) (hnm : meth.name = (mY 108).name) : W p l e room_1 s m #[Value.ref b] below meth c s.heap [] 0 0 (fun t => ∃ o, t.status = .running ∧ Ended t below o ∧ (o = .returned (some (.int 1)) ∧ Framed s o t [] 600000 7302250)) (entryFrame m ([Value.ref b] : List Value).toArray 4) := by
  have hs := flat_of_before _ hgv
  have hWU : ∀ w ∈ WUg, w.before #[Value.ref b] s = true := fun w hw => hts w (List.mem_filter.mp hw).1
  have hcl : ∀ ci, ∃ q : ClassId × (Nat → Nat), ci < 8 → u_Kn s (vC ci).1 (vC ci).2.1 (vC ci).2.2 q.1 q.2 := by
    intro ci
    by_cases h : ci < 8
    · obtain ⟨cC, iS, hK⟩ := u_known hWU (vC_ws h) (hWU _ (vC_inst h))
      exact ⟨(cC, iS), fun _ => hK⟩
    · exact ⟨(0, fun _ => 0), fun h2 => absurd h2 h⟩
  obtain ⟨D, hD⟩ := Classical.axiomOfChoice hcl
  obtain ⟨c8, a8⟩ := ar_prim (hWU _ i_arrI) (Or.inl rfl)
  obtain ⟨c9, a9⟩ := ar_prim (hWU _ i_arrZ) (Or.inr (Or.inl rfl))
  obtain ⟨c10, a10⟩ := ar_prim (hWU _ i_arrC) (Or.inr (Or.inr rfl))
  have o6 := hts (.arrayOver (.object RX6)) (List.mem_of_getElem? (i := 211) (by decide +kernel))
  have o1 := hts (.arrayOver (.object RX1)) (List.mem_of_getElem? (i := 140) (by decide +kernel))
  have oI := hts _ i_ovI
  obtain ⟨c11, a11⟩ := ar_obj o6
  obtain ⟨c12, a12⟩ := ar_obj o1
  obtain ⟨c13, a13⟩ := ar_arr oI
  have hnA : ∀ a : Nat, a < s.heap.size → ¬ (fun q : Nat => s.heap.size ≤ q) a := fun a ha h => by
    have h' : s.heap.size ≤ a := h
    omega
  obtain ⟨adK, adV, hVS, hEv⟩ := vk_Sof (tm := tmS) (len := lenS) (byt := bytS) (N := 5) (A := fun q : Nat => s.heap.size ≤ q) (by decide) (fun i hi => hs _ (tm_ex i hi)) (fun i hi => hs _ (tm_co i hi)) (fun i hi => hs _ (tm_ar i hi)) (fun i hi => hs _ (tm_le i hi)) (fun i hi j hj => hs _ (tm_el i hi j hj)) (fun i j hi hj hij => (tm_ne i hi j hj hij).imp (fun q => hs _ q) (fun q => hs _ q)) hnA
  have hZ : va_Z "java/lang/String" "COMPACT_STRINGS" "Z" (.int 1) (fun q : Nat => s.heap.size ≤ q) s s.heap := va_Zof (hts _ tm_l1.1) (hts _ tm_l1.2) (va_eqt (hs _ tm_c1)) hnA
  have hZq : va_Zq "jdk/internal/util/Preconditions" "SIOOBE_FORMATTER" "Ljava/util/function/BiFunction;" (fun q : Nat => s.heap.size ≤ q) s s.heap := va_Zqof (hts _ tm_l2.1) (hts _ tm_l2.2) (hs _ tm_c2) hnA
  let E : PE := ((fun c => (D c).1, fun c => (D c).2), (fun k => if k = 8 then c8 else if k = 9 then c9 else if k = 10 then c10 else if k = 11 then c11 else if k = 12 then c12 else c13, (s.heap.size, (fun k => if k = 1000 then b else adK (k - 1001), adV))))
  have hK : va_K (eD E) vwCl (tyE E) s := by
    refine ⟨fun ci q hq => ?_, fun k q hq => ?_⟩
    · have h8 : ci < 8 := (List.getElem?_eq_some_iff.mp hq).1
      rw [vC_get h8] at hq
      cases hq
      exact hD ci h8
    · match k, hq with
      | 0, hq => cases hq; exact a8
      | 1, hq => cases hq; exact a9
      | 2, hq => cases hq; exact a10
      | 3, hq => cases hq; exact a11
      | 4, hq => cases hq; exact a12
      | 5, hq => cases hq; exact a13
      | k + 6, hq => simp [tyE] at hq
  have hSF : SF E (0, RO [], M0L L xs) s s.heap := by
    refine ⟨?_, ?_, hbl, ?_, hZ, hZq, ?_, o6, o1, oI⟩
    · have e : (fun j => pI (M0L L xs 1000 j)) = xs := funext fun j => by
        show pI (if 1000 = 999 then (L : Int) else if 1000 = 1000 then (xs j).toInt else 0) = xs j
        rw [if_neg (by omega), if_pos rfl, pI_eta]
      show va_X b ((M0L L xs 999 0).toNat) (fun j => pI (M0L L xs 1000 j)) s s.heap
      rw [e]
      exact hX
    · show 0 ≤ (L : Int) ∧ (L : Int) ≤ 2560
      omega
    · have e : (fun i => eX E (1001 + i)) = adK := funext fun i => by
        show (if 1001 + i = 1000 then b else adK (1001 + i - 1001)) = adK i
        rw [if_neg (by omega), Nat.add_sub_cancel_left]
      rw [e]
      exact hVS
    · intro q hq
      obtain ⟨i, hi⟩ := List.getElem?_of_mem hq
      have h5 : i < 5 := (List.getElem?_eq_some_iff.mp hi).1
      have h1 := hts _ (tm_sr i h5)
      have h2 := hEv i h5
      unfold tmS at h2
      have e : txS.getD i (81, "", 0) = q := by rw [List.getD_eq_getElem?_getD, hi]; rfl
      rw [e] at h1 h2
      have e2 : eX E q.2.2 = adK i := by
        have h3 : q.2.2 = 1001 + i := by
          have : ∀ i : Nat, i < 5 → (txS.getD i (81, "", 0)).2.2 = 1001 + i := by decide
          rw [← e]
          exact this i h5
        rw [h3]
        show (if 1001 + i = 1000 then b else adK (1001 + i - 1001)) = adK i
        rw [if_neg (by omega), Nat.add_sub_cancel_left]
      rw [e2]
      exact vk_R.of h1 h2
  have hRl : Rl E s s.heap (0, RO [], M0L L xs) := ⟨hK, rfl, Nat.zero_le _, fun k hk => absurd hk (Nat.not_lt_zero k), hSF, fun w hw => va_Nw.of (nest_tab (List.mem_filter.mp hw).2) (hts w (List.mem_filter.mp hw).1)⟩
  have hcx : Cx 108 p s m #[Value.ref b] meth c := ⟨hx, hb, hml, hr, hlocks, hown, hWU, hnm⟩
  have hrm : RmOk room_1 1000 108 0 := ⟨by decide +kernel, by decide +kernel, by decide +kernel, SL_rm⟩
  have hl := lv_entry ([.ref b]) (n := 4) (Nat.le_of_ble_eq_true rfl)
  rw [lg_entry_eq]
  generalize (lg_sl ([.ref b]) ++ List.replicate (4 - (lg_sl ([.ref b])).length) Slot.unset).toArray = lsA at hl ⊢
  have hl : lv_has lsA 4 [(0, .ref b)] := hl
  have hHL : HL E (mML 108) lsA [some (.inr (.inr (some 1000))), none, none, none] := ⟨hl, rfl⟩
  have zM : ZM 0 (M0L L xs) := fun a h1 h2 j => by
    unfold M0L
    rw [if_neg (by omega), if_neg (by omega)]
  have hI : ∀ j, I32 (M0L L xs 1000 j) := fun j => by
    have h1 := Int32.le_toInt (xs j)
    have h2 := Int32.toInt_lt (xs j)
    unfold M0L
    rw [if_neg (by omega), if_pos rfl]
    omega
  have K := C_108 (l := l) (d := 1000) (Q := fun v _ => v = some (.inl 1)) (by omega) zM hI (by show 0 ≤ (L : Int) ∧ (L : Int) ≤ 2560; omega) (fun _ => rfl) E room_1 p e s m #[Value.ref b] below meth c s.heap [] lsA hcx hrm hRl va_S.rf hHL (Nat.le_refl _) (Nat.le_refl _)
  intro T hT X
  obtain ⟨t, st, o, r1, r2, ⟨⟨v, h', hq, ho, -⟩, -⟩, Lc, hF, hLc⟩ := K T hT X
  have hv : v = some (.inl 1) := hq.2
  subst hv
  refine ⟨t, st, o, r1, r2, ho, hF.1, hF.2.1, ?_⟩
  have h3 : s.sameButNew ({ t with vm := s.vm } : State) ([] ++ Lc) (aC 108) (SL (0 + aC 108) - SL 0) := hF.2.2
  exact (State.sameButNew.drop_fresh h3 (fun q hq => hLc q hq)).mono aC_all SL_all
