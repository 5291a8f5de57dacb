/-! EVENINGS of the class: one passed, and a world as another -/
def newB (w : Nat → Int) (l i : Nat) : Int := daysF (w (5 + 3 * l)) (w (6 + 3 * l)) (tideF (w (4 + 3 * l)) (if w (62 + 5 * i) = 0 then 16 - sureF (w (61 + 5 * i)) (plainF (farW w l) (w (59 + 5 * i))) else sureF (w (61 + 5 * i)) (plainF (farW w l) (w (59 + 5 * i))))) (lateF (w (61 + 5 * i))).toNat
def birdE (w : Nat → Int) (i : Nat) : Nat → Int := if w (60 + 5 * i) = -1 then w else upf w (4 + 3 * (w (60 + 5 * i)).toNat) (newB w (w (60 + 5 * i)).toNat i)
def dayK (w : Nat → Int) (i : Nat) : Nat → Int := fun k => if 4 ≤ k ∧ k < 22 ∧ (k - 4) % 3 = 0 ∧ (k - 4) / 3 < i then dayF (w k) (w (k + 1)) (w (k + 2)) else w k
def clrE (w : Nat → Int) : Nat → Int := upf (upf (upf (upf (upf (upf w 60 (-1)) 61 0) 62 0) 65 (-1)) 66 0) 67 0
def opEve (w : Nat → Int) : Nat → Int := upf (clrE (dayK (birdE (birdE (opKeep w) 0) 1) (w 0).toNat)) 1 (w 1 + 1)
theorem sureB {kd p : Int} (hp : 8 ≤ p ∧ p ≤ 16) : P16 (sureF kd p) := by
  unfold P16 sureF lessF
  split
  · omega
  · split
    · omega
    · split
      · omega
      · split <;> omega
theorem lateB {kd : Int} : 0 ≤ lateF kd ∧ lateF kd ≤ 3 := by
  unfold lateF
  split
  · omega
  · split <;> omega
section EVN
variable {d n : Nat} {R : Nat → Nat → Option Nat} {M : Nat → Nat → Int} {o : Nat} {Qp : PQ} {w w' : Nat → Int}
theorem WI_rowb (h : WI w) (hb : WIb w') (hw : ∀ k, k < 4 ∨ 22 ≤ k → w' k = w k) : WI w' := by
  obtain ⟨h1, h2, h3, h4, h5, h6⟩ := h
  unfold WIa at h1
  refine ⟨?_, hb, WIw_tr h3 (hw _ (by omega)) (fun k q q2 => hw _ (by omega)), WIi_tr h1.1 h4 (hw _ (by omega)) (fun k q q2 => hw _ (by omega)), WIc_tr h5 (hw _ (by omega)) (hw _ (by omega)) (fun k q q2 => hw _ (by omega)), fun j hj q => ?_⟩
  · unfold WIa
    rw [hw 0 (by omega), hw 1 (by omega), hw 2 (by omega), hw 3 (by omega)]
    exact h1
  · rw [hw 3 (by omega)] at q
    have t := h6 j hj q
    refine ⟨?_, fun x hx => ?_, fun i hi => ?_⟩
    · rw [hw _ (by omega)]
      exact t.1
    · rw [hw _ (by omega)]
      exact t.2.1 x hx
    · rw [hw _ (by omega), hw _ (by omega), hw _ (by omega)]
      exact told_eq h1.1 (hw _ (by omega)) (fun k q q2 => hw _ (by omega)) (t.2.2 i hi)
theorem CW_rowb {M' : Nat → Nat → Int} (hI : WI w) (hC : CW M o w) (hb : CWb M' o w') (hF : ∀ a, a ≠ o + 18 → M' a = M a) (hw : ∀ k, k < 4 ∨ 22 ≤ k → w' k = w k) : CW M' o w' := by
  obtain ⟨g1, g2, g3, g4, g5, g6, g7⟩ := hC
  have hI1 := hI.1
  unfold WIa at hI1
  unfold CWa at g1
  refine ⟨⟨?_, ?_, ?_, ?_⟩, hb, CWf_tr hI1.1 g3 (hF _ (by omega)) (hw _ (by omega)) (fun k q q2 => hw _ (by omega)), CWw_tr g4 (fun a ha => hF _ (by omega)) (fun k q q2 => hw _ (by omega)), CWi_tr g5 (hF _ (by omega)) (hF _ (by omega)) (hF _ (by omega)) (hF _ (by omega)) (hF _ (by omega)) (fun k q q2 => hw _ (by omega)), CWc_tr g6 (hF _ (by omega)) (hF _ (by omega)) (hF _ (by omega)) (by rw [hw 2 (by omega)]; omega) (fun k q q2 => hw _ (by omega)), CWp_tr g7 (fun a q q2 => hF _ (by omega)) (by rw [hw 3 (by omega)]; omega) (fun k q q2 => hw _ (by omega))⟩
  all_goals rw [hF _ (by omega), hw _ (by omega)]
  · exact g1.1
  · exact g1.2.1
  · exact g1.2.2.1
  · exact g1.2.2.2
theorem WI_bel1 {x : Nat} {v : Int} (h : WI w) (hx : x < 6) (hv : P16 v) : WI (upf w (4 + 3 * x) v) := by
  refine WI_rowb h (fun y hy => ?_) (fun k hk => upf_ne (by omega))
  have := h.2.1 y hy
  by_cases q : y = x
  · subst q
    (repeat (first | rw [upf_ne (by omega)] | rw [upf_same]))
    exact ⟨hv, this.2⟩
  · (repeat (first | rw [upf_ne (by omega)] | rw [upf_same]))
    exact this
theorem CW_bel1 {x : Nat} {v : Int} (hI : WI w) (hC : CW M o w) (hx : x < 6) : CW (mSt M (o + 18) x v) o (upf w (4 + 3 * x) v) := by
  refine CW_rowb hI hC (fun y hy => ?_) (fun a ha => mSt_row_ne ha) (fun k hk => upf_ne (by omega))
  have := hC.2.1 y hy
  by_cases q : y = x
  · subst q
    (repeat (first | rw [mSt_row_ne (by omega)] | rw [mCp_row_ne (by omega)] | rw [mRow_row_ne (by omega)] | rw [hnM_row_ne (by omega)] | rw [mSt_same] | rw [mCp_at (by omega)] | rw [mRow_row_eq] | rw [mSt_col_ne (by omega)]))
    (repeat (first | rw [upf_ne (by omega)] | rw [upf_same]))
    exact ⟨rfl, this.2⟩
  · (repeat (first | rw [mSt_row_ne (by omega)] | rw [mCp_row_ne (by omega)] | rw [mRow_row_ne (by omega)] | rw [hnM_row_ne (by omega)] | rw [mSt_same] | rw [mCp_at (by omega)] | rw [mRow_row_eq] | rw [mSt_col_ne (by omega)]))
    (repeat (first | rw [upf_ne (by omega)] | rw [upf_same]))
    exact this
theorem newB_b {l i : Nat} (hI : WI w) (hl : l < 6) (hi : i < 2) (hf : farW w l ≠ -1) : P16 (newB w l i) := by
  have h1 := hI.1
  unfold WIa at h1
  have b := hI.2.1 l hl
  have fb := farW_b h1.1 hI.2.2.1 hl
  have g := (hI.2.2.2.1 i hi).2.1
  have s := sureB (kd := w (61 + 5 * i)) (plainB (show 0 ≤ farW w l by omega) (show 0 < w (59 + 5 * i) by omega))
  unfold newB
  refine daysB b.2.1 b.2.2 _ _ (tideB b.1 ?_)
  split <;> omega
theorem WI_birdE {i : Nat} (h : WI w) (hi : i < 2) : WI (birdE w i) := by
  have t := (h.2.2.2.1 i hi).2.2
  have h1 := h.1
  unfold WIa at h1
  unfold birdE
  split
  · exact h
  · rename_i q
    unfold toldP at t
    exact WI_bel1 h (by omega) (newB_b h (by omega) hi (by omega))
theorem birdE_ne {i k : Nat} (h : WI w) (hi : i < 2) (hk : k < 4 ∨ 22 ≤ k) : birdE w i k = w k := by
  have t := (h.2.2.2.1 i hi).2.2
  have h1 := h.1
  unfold WIa at h1
  unfold birdE
  split
  · rfl
  · unfold toldP at t
    exact upf_ne (by omega)
theorem dayK_b {i x : Nat} (hx : x < 6) : dayK w i (4 + 3 * x) = if x < i then dayF (w (4 + 3 * x)) (w (5 + 3 * x)) (w (6 + 3 * x)) else w (4 + 3 * x) := by
  unfold dayK
  by_cases q : x < i
  · rw [if_pos (by omega), if_pos q, show 4 + 3 * x + 1 = 5 + 3 * x by omega, show 4 + 3 * x + 2 = 6 + 3 * x by omega]
  · rw [if_neg (by omega), if_neg q]
theorem dayK_ne {i k : Nat} (hk : ¬ (4 ≤ k ∧ k < 22 ∧ (k - 4) % 3 = 0)) : dayK w i k = w k := by
  unfold dayK
  rw [if_neg (by omega)]
theorem WI_dayK {i : Nat} (h : WI w) : WI (dayK w i) := by
  refine WI_rowb h (fun x hx => ?_) (fun k hk => dayK_ne (by omega))
  have := h.2.1 x hx
  rw [dayK_b hx, dayK_ne (by omega), dayK_ne (by omega)]
  refine ⟨?_, this.2⟩
  split
  · exact dayB this.1 this.2.1 this.2.2
  · exact this.1
theorem WI_clrE (h : WI w) : WI (clrE w) := by
  obtain ⟨h1, h2, h3, h4, h5, h6⟩ := h
  unfold WIa at h1
  have e : ∀ k, k < 60 ∨ 68 ≤ k ∨ k = 63 ∨ k = 64 → clrE w k = w k := fun k hk => by
    unfold clrE
    (repeat (first | rw [upf_ne (by omega)] | rw [upf_same]))
  refine ⟨?_, WIb_tr h2 (fun k q q2 => e _ (by omega)), WIw_tr h3 (e _ (by omega)) (fun k q q2 => e _ (by omega)), fun i hi => ?_, WIc_tr h5 (e _ (by omega)) (e _ (by omega)) (fun k q q2 => e _ (by omega)), fun j hj q => ?_⟩
  · unfold WIa
    rw [e 0 (by omega), e 1 (by omega), e 2 (by omega), e 3 (by omega)]
    exact h1
  · have := h4 i hi
    rw [e (58 + 5 * i) (by omega), e (59 + 5 * i) (by omega)]
    refine ⟨this.1, this.2.1, Or.inl ?_⟩
    unfold clrE
    have hi2 : i = 0 ∨ i = 1 := by omega
    rcases hi2 with rfl | rfl <;> refine ⟨?_, ?_, ?_⟩ <;> (repeat (first | rw [upf_ne (by omega)] | rw [upf_same]))
  · rw [e 3 (by omega)] at q
    have t := h6 j hj q
    refine ⟨?_, fun x hx => ?_, fun i hi => ?_⟩
    · rw [e _ (by omega)]
      exact t.1
    · rw [e _ (by omega)]
      exact t.2.1 x hx
    · rw [e _ (by omega), e _ (by omega), e _ (by omega)]
      exact told_eq h1.1 (e _ (by omega)) (fun k q q2 => e _ (by omega)) (t.2.2 i hi)
theorem WI_day1 {v : Int} (h : WI w) (hv : 0 ≤ v ∧ v ≤ 900) : WI (upf w 1 v) := by
  obtain ⟨h1, h2, h3, h4, h5, h6⟩ := h
  unfold WIa at h1
  have e : ∀ k, k ≠ 1 → upf w 1 v k = w k := fun k hk => upf_ne hk
  refine ⟨?_, WIb_tr h2 (fun k q q2 => e _ (by omega)), WIw_tr h3 (e _ (by omega)) (fun k q q2 => e _ (by omega)), WIi_tr h1.1 h4 (e _ (by omega)) (fun k q q2 => e _ (by omega)), WIc_tr h5 (e _ (by omega)) (e _ (by omega)) (fun k q q2 => e _ (by omega)), fun j hj q => ?_⟩
  · unfold WIa
    rw [e 0 (by omega), e 2 (by omega), e 3 (by omega), upf_same]
    omega
  · rw [e 3 (by omega)] at q
    have t := h6 j hj q
    refine ⟨?_, fun x hx => ?_, fun i hi => ?_⟩
    · rw [e _ (by omega)]
      exact t.1
    · rw [e _ (by omega)]
      exact t.2.1 x hx
    · rw [e _ (by omega), e _ (by omega), e _ (by omega)]
      exact told_eq h1.1 (e _ (by omega)) (fun k q q2 => e _ (by omega)) (t.2.2 i hi)
theorem WI_eve (h : WI w) (hd : w 1 < 900) : WI (opEve w) := by
  have h1 := h.1
  unfold WIa at h1
  exact WI_day1 (WI_clrE (WI_dayK (WI_birdE (WI_birdE (WI_keep h) (by omega)) (by omega)))) (by omega)
theorem CW_clr {v : Int} (hI : WI w) (hC : CW M o w) : CW (mSt (hnM M (o + 17) 2) (o + 17) 0 v) o (upf (clrE w) 1 v) := by
  obtain ⟨g1, g2, g3, g4, g5, g6, g7⟩ := hC
  have hI1 := hI.1
  unfold WIa at hI1
  unfold CWa at g1
  have e : ∀ k, k ≠ 1 → (k < 60 ∨ 68 ≤ k ∨ k = 63 ∨ k = 64) → upf (clrE w) 1 v k = w k := fun k hk hk2 => by
    unfold clrE
    (repeat (first | rw [upf_ne (by omega)] | rw [upf_same]))
  have f : ∀ a, a < o + 17 ∨ a = o + 18 ∨ o + 22 ≤ a → mSt (hnM M (o + 17) 2) (o + 17) 0 v a = M a := fun a ha => by
    rw [mSt_row_ne (by omega), hnM_row_ne (by omega)]
  refine ⟨⟨?_, ?_, ?_, ?_⟩, CWb_tr g2 (f _ (by omega)) (f _ (by omega)) (f _ (by omega)) (fun k q q2 => e _ (by omega) (by omega)), CWf_tr hI1.1 g3 (f _ (by omega)) (e _ (by omega) (by omega)) (fun k q q2 => e _ (by omega) (by omega)), CWw_tr g4 (fun a ha => f _ (by omega)) (fun k q q2 => e _ (by omega) (by omega)), fun i hi => ?_, CWc_tr g6 (f _ (by omega)) (f _ (by omega)) (f _ (by omega)) (by rw [e 2 (by omega) (by omega)]; omega) (fun k q q2 => e _ (by omega) (by omega)), CWp_tr g7 (fun a q q2 => f _ (by omega)) (by rw [e 3 (by omega) (by omega)]; omega) (fun k q q2 => e _ (by omega) (by omega))⟩
  · rw [f _ (by omega), e _ (by omega) (by omega)]
    exact g1.1
  · rw [mSt_same, upf_same]
  · rw [f _ (by omega), e _ (by omega) (by omega)]
    exact g1.2.2.1
  · rw [f _ (by omega), e _ (by omega) (by omega)]
    exact g1.2.2.2
  · have t := hnM_at (M := M) (e := o + 17) 2 i hi
    have := g5 i hi
    rw [f (o + 11) (by omega), f (o + 12) (by omega), e (58 + 5 * i) (by omega) (by omega), e (59 + 5 * i) (by omega) (by omega), mSt_row_ne (b := o + 19) (by omega), mSt_row_ne (b := o + 20) (by omega), mSt_row_ne (b := o + 21) (by omega)]
    refine ⟨this.1, this.2.1, ?_⟩
    rw [show o + 19 = o + 17 + 2 by omega, show o + 20 = o + 17 + 3 by omega, show o + 21 = o + 17 + 4 by omega, t.1, t.2.1, t.2.2]
    unfold clrE
    have hi2 : i = 0 ∨ i = 1 := by omega
    rcases hi2 with rfl | rfl <;> refine ⟨?_, ?_, ?_⟩ <;> (repeat (first | rw [upf_ne (by omega)] | rw [upf_same]))
def bE (w : Nat → Int) : Nat → (Nat → Int)
  | 0 => w
  | k + 1 => birdE (bE w k) k
theorem WI_bE (h : WI w) : ∀ k, k ≤ 2 → WI (bE w k)
  | 0, _ => h
  | k + 1, hk => WI_birdE (WI_bE h k (by omega)) (by omega)
theorem bE_ne {k : Nat} (h : WI w) (hk : k < 4 ∨ 22 ≤ k) : ∀ i, i ≤ 2 → bE w i k = w k
  | 0, _ => rfl
  | i + 1, hi => by
    show birdE (bE w i) i k = w k
    rw [birdE_ne (WI_bE h i (by omega)) (by omega) hk, bE_ne h hk i (by omega)]
theorem C_passEvening (hd : 5 ≤ d) (hN : n ≤ NC) (hW : WS n R o) (hI : WI w) (hC : CW M o w) (hday : w 1 < 900) (h1 : ∀ M', CW M' o (opEve w) → FR o M M' → Qp (some (.inl (w 1 + 1))) (n, R, M')) : CallP d 70 [.inr (.inr (some o))] (n, R, M) Qp := by
  have hW1 := hW.1
  have hI1 := hI.1
  unfold WIa at hI1
  refine u_70 (by omega) hN rfl (fun l => ?_)
  simp only [wp, wq, wi, w_iload, w_lload, w_aload, w_istore, w_astore, w_lstore, w_iinc, w_ic, w_lc, w_rc, w_i2, w_l2, w_idv, w_ldv, w_lcmp, w_i2l, w_i2c, w_dup, w_dup2, w_pop, w_obj, w_max, w_if, w_icmp, w_tsw, w_lsw, w_getI, w_getR, w_putI, w_putR, w_ald, w_sld, w_slen, w_ast, w_aald, w_aast, w_new, w_newa, w_mna, w_cpy, w_call, w_ret, w_lret, w_vret, rcv, cnd, nlb, pcats, pcat, inR, inL, ixIn, arOk, List.getElem?_cons_zero, List.getElem?_cons_succ, List.set_cons_zero, List.set_cons_succ, List.length_cons, List.length_nil, List.take_succ_cons, List.take_zero, List.drop_succ_cons, List.drop_zero, List.reverse_cons, List.reverse_nil, List.nil_append, List.cons_append, List.append_nil, Option.toList, Nat.reduceDiv, Nat.reduceMod, Nat.reduceAdd, Nat.reduceLT, Nat.reduceLeDiff, Nat.zero_add, true_and, and_true, and_self, Int.toNat_natCast, Int.reduceToNat, true_or, or_true, eq_self, Int.reduceEq, Int.reduceLE, Int.reduceLT, Int.reduceNeg, Int.reduceAdd, Int.reduceSub, Int.reduceMul, Int.reduceDiv, Nat.reduceEqDiff, Nat.reduceMul, Nat.reduceSub, Qn, Nat.add_zero, Nat.le_refl, reduceIte, Option.map, Bool.false_eq_true, forall_const, not_true, not_false_iff, false_implies, implies_true, k_70_6, k_70_50, k_70_58, k_70_96, q_70_0, q_70_56, g_7.2.2.2, g_57.2.2.2, g_68.2.2.2, g_71.2.2.2, g_72.2.2.2, wt_l0 hW1, wt_l1 hW1, wt_l2 hW1, wt_l3 hW1, wt_l4 hW1, wt_l5 hW1, wt_l6 hW1, wt_l7 hW1, wt_l8 hW1, wt_l9 hW1, wt_l10 hW1, wt_l11 hW1, wt_l12 hW1, wt_l13 hW1, wt_l14 hW1, wt_l15 hW1, wt_l16 hW1, wt_l17 hW1, wt_l18 hW1, wt_l19 hW1, wt_l20 hW1, wt_l21 hW1, wt_l22 hW1, wt_s0 hW1, wt_s1 hW1, wt_s2 hW1, wt_s3 hW1, wt_s4 hW1, wt_s5 hW1, wt_s6 hW1, wt_s7 hW1, wt_s8 hW1, wt_s9 hW1, wt_s10 hW1, wt_s11 hW1, wt_s12 hW1, wt_s13 hW1, wt_s14 hW1, wt_s15 hW1, wt_s16 hW1, wt_s17 hW1, wt_s18 hW1, wt_s19 hW1, wt_s20 hW1, wt_s21 hW1, wt_s22 hW1, wt_r0_1 hW1, wt_r0_2 hW1, wt_r0_3 hW1, wt_r0_4 hW1, wt_r0_5 hW1, wt_r0_6 hW1, wt_r0_7 hW1, wt_r0_8 hW1, wt_r0_9 hW1, wt_r3_0 hW1, wt_r3_1 hW1, wt_r3_2 hW1, wt_r3_3 hW1, wt_r3_4 hW1, wt_r3_5 hW1, wt_r13_1 hW1, wt_r13_2 hW1, wt_r13_3 hW1, wt_r17_1 hW1, wt_r17_2 hW1, wt_r17_3 hW1, wt_r17_4 hW1, wt_r22_0 hW1, wt_r22_1 hW1, wt_r22_2 hW1, wt_r22_3 hW1, wt_r22_4 hW1, wt_r22_5 hW1, wt_r22_6 hW1, wt_r22_7 hW1]
  refine C_keepTonight (by omega) hN hW hI hC (fun M1 c1 f1 => ?_)
  simp only [wp, wq, wi, w_iload, w_lload, w_aload, w_istore, w_astore, w_lstore, w_iinc, w_ic, w_lc, w_rc, w_i2, w_l2, w_idv, w_ldv, w_lcmp, w_i2l, w_i2c, w_dup, w_dup2, w_pop, w_obj, w_max, w_if, w_icmp, w_tsw, w_lsw, w_getI, w_getR, w_putI, w_putR, w_ald, w_sld, w_slen, w_ast, w_aald, w_aast, w_new, w_newa, w_mna, w_cpy, w_call, w_ret, w_lret, w_vret, rcv, cnd, nlb, pcats, pcat, inR, inL, ixIn, arOk, List.getElem?_cons_zero, List.getElem?_cons_succ, List.set_cons_zero, List.set_cons_succ, List.length_cons, List.length_nil, List.take_succ_cons, List.take_zero, List.drop_succ_cons, List.drop_zero, List.reverse_cons, List.reverse_nil, List.nil_append, List.cons_append, List.append_nil, Option.toList, Nat.reduceDiv, Nat.reduceMod, Nat.reduceAdd, Nat.reduceLT, Nat.reduceLeDiff, Nat.zero_add, true_and, and_true, and_self, Int.toNat_natCast, Int.reduceToNat, true_or, or_true, eq_self, Int.reduceEq, Int.reduceLE, Int.reduceLT, Int.reduceNeg, Int.reduceAdd, Int.reduceSub, Int.reduceMul, Int.reduceDiv, Nat.reduceEqDiff, Nat.reduceMul, Nat.reduceSub, Qn, Nat.add_zero, Nat.le_refl, reduceIte, Option.map, Bool.false_eq_true, forall_const, not_true, not_false_iff, false_implies, implies_true, k_70_6, k_70_50, k_70_58, k_70_96, q_70_0, q_70_56, g_7.2.2.2, g_57.2.2.2, g_68.2.2.2, g_71.2.2.2, g_72.2.2.2]
  have hK := WI_keep hI
  refine down (N := 2) (P := fun i => ∀ (t : Int) (M2 : Nat → Nat → Int), t = i → CW M2 o (bE (opKeep w) i) → FR o M M2 → At l d 70 n (Qn n Qp) 6 [some (.inr (.inr (some o))), some (.inl t)] [] (n, R, M2)) ?_ ?_ 2 0 rfl 0 _ rfl c1 f1
  · intro t M2 ht c2 f2
    subst ht
    refine l_70_6 (by omega) hN ?_
    simp only [wp, wq, wi, w_iload, w_lload, w_aload, w_istore, w_astore, w_lstore, w_iinc, w_ic, w_lc, w_rc, w_i2, w_l2, w_idv, w_ldv, w_lcmp, w_i2l, w_i2c, w_dup, w_dup2, w_pop, w_obj, w_max, w_if, w_icmp, w_tsw, w_lsw, w_getI, w_getR, w_putI, w_putR, w_ald, w_sld, w_slen, w_ast, w_aald, w_aast, w_new, w_newa, w_mna, w_cpy, w_call, w_ret, w_lret, w_vret, rcv, cnd, nlb, pcats, pcat, inR, inL, ixIn, arOk, List.getElem?_cons_zero, List.getElem?_cons_succ, List.set_cons_zero, List.set_cons_succ, List.length_cons, List.length_nil, List.take_succ_cons, List.take_zero, List.drop_succ_cons, List.drop_zero, List.reverse_cons, List.reverse_nil, List.nil_append, List.cons_append, List.append_nil, Option.toList, Nat.reduceDiv, Nat.reduceMod, Nat.reduceAdd, Nat.reduceLT, Nat.reduceLeDiff, Nat.zero_add, true_and, and_true, and_self, Int.toNat_natCast, Int.reduceToNat, true_or, or_true, eq_self, Int.reduceEq, Int.reduceLE, Int.reduceLT, Int.reduceNeg, Int.reduceAdd, Int.reduceSub, Int.reduceMul, Int.reduceDiv, Nat.reduceEqDiff, Nat.reduceMul, Nat.reduceSub, Qn, Nat.add_zero, Nat.le_refl, reduceIte, Option.map, Bool.false_eq_true, forall_const, not_true, not_false_iff, false_implies, implies_true, k_70_6, k_70_50, k_70_58, k_70_96, q_70_0, q_70_56, g_7.2.2.2, g_57.2.2.2, g_68.2.2.2, g_71.2.2.2, g_72.2.2.2, wt_l0 hW1, wt_l1 hW1, wt_l2 hW1, wt_l3 hW1, wt_l4 hW1, wt_l5 hW1, wt_l6 hW1, wt_l7 hW1, wt_l8 hW1, wt_l9 hW1, wt_l10 hW1, wt_l11 hW1, wt_l12 hW1, wt_l13 hW1, wt_l14 hW1, wt_l15 hW1, wt_l16 hW1, wt_l17 hW1, wt_l18 hW1, wt_l19 hW1, wt_l20 hW1, wt_l21 hW1, wt_l22 hW1, wt_s0 hW1, wt_s1 hW1, wt_s2 hW1, wt_s3 hW1, wt_s4 hW1, wt_s5 hW1, wt_s6 hW1, wt_s7 hW1, wt_s8 hW1, wt_s9 hW1, wt_s10 hW1, wt_s11 hW1, wt_s12 hW1, wt_s13 hW1, wt_s14 hW1, wt_s15 hW1, wt_s16 hW1, wt_s17 hW1, wt_s18 hW1, wt_s19 hW1, wt_s20 hW1, wt_s21 hW1, wt_s22 hW1, wt_r0_1 hW1, wt_r0_2 hW1, wt_r0_3 hW1, wt_r0_4 hW1, wt_r0_5 hW1, wt_r0_6 hW1, wt_r0_7 hW1, wt_r0_8 hW1, wt_r0_9 hW1, wt_r3_0 hW1, wt_r3_1 hW1, wt_r3_2 hW1, wt_r3_3 hW1, wt_r3_4 hW1, wt_r3_5 hW1, wt_r13_1 hW1, wt_r13_2 hW1, wt_r13_3 hW1, wt_r17_1 hW1, wt_r17_2 hW1, wt_r17_3 hW1, wt_r17_4 hW1, wt_r22_0 hW1, wt_r22_1 hW1, wt_r22_2 hW1, wt_r22_3 hW1, wt_r22_4 hW1, wt_r22_5 hW1, wt_r22_6 hW1, wt_r22_7 hW1]
    refine ⟨by omega, fun _ => ?_, fun q => by omega⟩
    refine m_70_56 (by omega) hN ?_
    simp only [wp, wq, wi, w_iload, w_lload, w_aload, w_istore, w_astore, w_lstore, w_iinc, w_ic, w_lc, w_rc, w_i2, w_l2, w_idv, w_ldv, w_lcmp, w_i2l, w_i2c, w_dup, w_dup2, w_pop, w_obj, w_max, w_if, w_icmp, w_tsw, w_lsw, w_getI, w_getR, w_putI, w_putR, w_ald, w_sld, w_slen, w_ast, w_aald, w_aast, w_new, w_newa, w_mna, w_cpy, w_call, w_ret, w_lret, w_vret, rcv, cnd, nlb, pcats, pcat, inR, inL, ixIn, arOk, List.getElem?_cons_zero, List.getElem?_cons_succ, List.set_cons_zero, List.set_cons_succ, List.length_cons, List.length_nil, List.take_succ_cons, List.take_zero, List.drop_succ_cons, List.drop_zero, List.reverse_cons, List.reverse_nil, List.nil_append, List.cons_append, List.append_nil, Option.toList, Nat.reduceDiv, Nat.reduceMod, Nat.reduceAdd, Nat.reduceLT, Nat.reduceLeDiff, Nat.zero_add, true_and, and_true, and_self, Int.toNat_natCast, Int.reduceToNat, true_or, or_true, eq_self, Int.reduceEq, Int.reduceLE, Int.reduceLT, Int.reduceNeg, Int.reduceAdd, Int.reduceSub, Int.reduceMul, Int.reduceDiv, Nat.reduceEqDiff, Nat.reduceMul, Nat.reduceSub, Qn, Nat.add_zero, Nat.le_refl, reduceIte, Option.map, Bool.false_eq_true, forall_const, not_true, not_false_iff, false_implies, implies_true, k_70_6, k_70_50, k_70_58, k_70_96, q_70_0, q_70_56, g_7.2.2.2, g_57.2.2.2, g_68.2.2.2, g_71.2.2.2, g_72.2.2.2]
    have hB := WI_bE hK 2 (by omega)
    have e0 : bE (opKeep w) 2 0 = w 0 := by rw [bE_ne hK (by omega) 2 (by omega), keep_lt (by omega) (by omega)]
    have e1 : bE (opKeep w) 2 1 = w 1 := by rw [bE_ne hK (by omega) 2 (by omega), keep_lt (by omega) (by omega)]
    refine down (N := (w 0).toNat) (P := fun i => ∀ (t : Int) (M3 : Nat → Nat → Int), t = i → CW M3 o (dayK (bE (opKeep w) 2) i) → FR o M M3 → At l d 70 n (Qn n Qp) 58 [some (.inr (.inr (some o))), some (.inl t)] [] (n, R, M3)) ?_ ?_ (w 0).toNat 0 (by omega) 0 _ rfl ?_ f2
    · intro t M3 ht c3 f3
      subst ht
      have c30 : M3 o 0 = w 0 := by rw [c3.1.1, dayK_ne (by omega), e0]
      have c31 : M3 (o + 17) 0 = w 1 := by rw [c3.1.2.1, dayK_ne (by omega), e1]
      refine l_70_58 (by omega) hN ?_
      simp only [wp, wq, wi, w_iload, w_lload, w_aload, w_istore, w_astore, w_lstore, w_iinc, w_ic, w_lc, w_rc, w_i2, w_l2, w_idv, w_ldv, w_lcmp, w_i2l, w_i2c, w_dup, w_dup2, w_pop, w_obj, w_max, w_if, w_icmp, w_tsw, w_lsw, w_getI, w_getR, w_putI, w_putR, w_ald, w_sld, w_slen, w_ast, w_aald, w_aast, w_new, w_newa, w_mna, w_cpy, w_call, w_ret, w_lret, w_vret, rcv, cnd, nlb, pcats, pcat, inR, inL, ixIn, arOk, List.getElem?_cons_zero, List.getElem?_cons_succ, List.set_cons_zero, List.set_cons_succ, List.length_cons, List.length_nil, List.take_succ_cons, List.take_zero, List.drop_succ_cons, List.drop_zero, List.reverse_cons, List.reverse_nil, List.nil_append, List.cons_append, List.append_nil, Option.toList, Nat.reduceDiv, Nat.reduceMod, Nat.reduceAdd, Nat.reduceLT, Nat.reduceLeDiff, Nat.zero_add, true_and, and_true, and_self, Int.toNat_natCast, Int.reduceToNat, true_or, or_true, eq_self, Int.reduceEq, Int.reduceLE, Int.reduceLT, Int.reduceNeg, Int.reduceAdd, Int.reduceSub, Int.reduceMul, Int.reduceDiv, Nat.reduceEqDiff, Nat.reduceMul, Nat.reduceSub, Qn, Nat.add_zero, Nat.le_refl, reduceIte, Option.map, Bool.false_eq_true, forall_const, not_true, not_false_iff, false_implies, implies_true, k_70_6, k_70_50, k_70_58, k_70_96, q_70_0, q_70_56, g_7.2.2.2, g_57.2.2.2, g_68.2.2.2, g_71.2.2.2, g_72.2.2.2, wt_l0 hW1, wt_l1 hW1, wt_l2 hW1, wt_l3 hW1, wt_l4 hW1, wt_l5 hW1, wt_l6 hW1, wt_l7 hW1, wt_l8 hW1, wt_l9 hW1, wt_l10 hW1, wt_l11 hW1, wt_l12 hW1, wt_l13 hW1, wt_l14 hW1, wt_l15 hW1, wt_l16 hW1, wt_l17 hW1, wt_l18 hW1, wt_l19 hW1, wt_l20 hW1, wt_l21 hW1, wt_l22 hW1, wt_s0 hW1, wt_s1 hW1, wt_s2 hW1, wt_s3 hW1, wt_s4 hW1, wt_s5 hW1, wt_s6 hW1, wt_s7 hW1, wt_s8 hW1, wt_s9 hW1, wt_s10 hW1, wt_s11 hW1, wt_s12 hW1, wt_s13 hW1, wt_s14 hW1, wt_s15 hW1, wt_s16 hW1, wt_s17 hW1, wt_s18 hW1, wt_s19 hW1, wt_s20 hW1, wt_s21 hW1, wt_s22 hW1, wt_r0_1 hW1, wt_r0_2 hW1, wt_r0_3 hW1, wt_r0_4 hW1, wt_r0_5 hW1, wt_r0_6 hW1, wt_r0_7 hW1, wt_r0_8 hW1, wt_r0_9 hW1, wt_r3_0 hW1, wt_r3_1 hW1, wt_r3_2 hW1, wt_r3_3 hW1, wt_r3_4 hW1, wt_r3_5 hW1, wt_r13_1 hW1, wt_r13_2 hW1, wt_r13_3 hW1, wt_r17_1 hW1, wt_r17_2 hW1, wt_r17_3 hW1, wt_r17_4 hW1, wt_r22_0 hW1, wt_r22_1 hW1, wt_r22_2 hW1, wt_r22_3 hW1, wt_r22_4 hW1, wt_r22_5 hW1, wt_r22_6 hW1, wt_r22_7 hW1]
      refine ⟨by omega, fun _ => ?_, fun q => by omega⟩
      refine l_70_96 (by omega) hN ?_
      simp only [wp, wq, wi, w_iload, w_lload, w_aload, w_istore, w_astore, w_lstore, w_iinc, w_ic, w_lc, w_rc, w_i2, w_l2, w_idv, w_ldv, w_lcmp, w_i2l, w_i2c, w_dup, w_dup2, w_pop, w_obj, w_max, w_if, w_icmp, w_tsw, w_lsw, w_getI, w_getR, w_putI, w_putR, w_ald, w_sld, w_slen, w_ast, w_aald, w_aast, w_new, w_newa, w_mna, w_cpy, w_call, w_ret, w_lret, w_vret, rcv, cnd, nlb, pcats, pcat, inR, inL, ixIn, arOk, List.getElem?_cons_zero, List.getElem?_cons_succ, List.set_cons_zero, List.set_cons_succ, List.length_cons, List.length_nil, List.take_succ_cons, List.take_zero, List.drop_succ_cons, List.drop_zero, List.reverse_cons, List.reverse_nil, List.nil_append, List.cons_append, List.append_nil, Option.toList, Nat.reduceDiv, Nat.reduceMod, Nat.reduceAdd, Nat.reduceLT, Nat.reduceLeDiff, Nat.zero_add, true_and, and_true, and_self, Int.toNat_natCast, Int.reduceToNat, true_or, or_true, eq_self, Int.reduceEq, Int.reduceLE, Int.reduceLT, Int.reduceNeg, Int.reduceAdd, Int.reduceSub, Int.reduceMul, Int.reduceDiv, Nat.reduceEqDiff, Nat.reduceMul, Nat.reduceSub, Qn, Nat.add_zero, Nat.le_refl, reduceIte, Option.map, Bool.false_eq_true, forall_const, not_true, not_false_iff, false_implies, implies_true, k_70_6, k_70_50, k_70_58, k_70_96, q_70_0, q_70_56, g_7.2.2.2, g_57.2.2.2, g_68.2.2.2, g_71.2.2.2, g_72.2.2.2, wt_l0 hW1, wt_l1 hW1, wt_l2 hW1, wt_l3 hW1, wt_l4 hW1, wt_l5 hW1, wt_l6 hW1, wt_l7 hW1, wt_l8 hW1, wt_l9 hW1, wt_l10 hW1, wt_l11 hW1, wt_l12 hW1, wt_l13 hW1, wt_l14 hW1, wt_l15 hW1, wt_l16 hW1, wt_l17 hW1, wt_l18 hW1, wt_l19 hW1, wt_l20 hW1, wt_l21 hW1, wt_l22 hW1, wt_s0 hW1, wt_s1 hW1, wt_s2 hW1, wt_s3 hW1, wt_s4 hW1, wt_s5 hW1, wt_s6 hW1, wt_s7 hW1, wt_s8 hW1, wt_s9 hW1, wt_s10 hW1, wt_s11 hW1, wt_s12 hW1, wt_s13 hW1, wt_s14 hW1, wt_s15 hW1, wt_s16 hW1, wt_s17 hW1, wt_s18 hW1, wt_s19 hW1, wt_s20 hW1, wt_s21 hW1, wt_s22 hW1, wt_r0_1 hW1, wt_r0_2 hW1, wt_r0_3 hW1, wt_r0_4 hW1, wt_r0_5 hW1, wt_r0_6 hW1, wt_r0_7 hW1, wt_r0_8 hW1, wt_r0_9 hW1, wt_r3_0 hW1, wt_r3_1 hW1, wt_r3_2 hW1, wt_r3_3 hW1, wt_r3_4 hW1, wt_r3_5 hW1, wt_r13_1 hW1, wt_r13_2 hW1, wt_r13_3 hW1, wt_r17_1 hW1, wt_r17_2 hW1, wt_r17_3 hW1, wt_r17_4 hW1, wt_r22_0 hW1, wt_r22_1 hW1, wt_r22_2 hW1, wt_r22_3 hW1, wt_r22_4 hW1, wt_r22_5 hW1, wt_r22_6 hW1, wt_r22_7 hW1]
      refine C_hearNo (by omega) hN (wt_es hW1) ?_
      have h17 : hnM M3 (o + 17) 2 (o + 17) 0 = w 1 := by rw [hnM_row_ne (by omega), c31]
      simp only [wp, wq, wi, w_iload, w_lload, w_aload, w_istore, w_astore, w_lstore, w_iinc, w_ic, w_lc, w_rc, w_i2, w_l2, w_idv, w_ldv, w_lcmp, w_i2l, w_i2c, w_dup, w_dup2, w_pop, w_obj, w_max, w_if, w_icmp, w_tsw, w_lsw, w_getI, w_getR, w_putI, w_putR, w_ald, w_sld, w_slen, w_ast, w_aald, w_aast, w_new, w_newa, w_mna, w_cpy, w_call, w_ret, w_lret, w_vret, rcv, cnd, nlb, pcats, pcat, inR, inL, ixIn, arOk, List.getElem?_cons_zero, List.getElem?_cons_succ, List.set_cons_zero, List.set_cons_succ, List.length_cons, List.length_nil, List.take_succ_cons, List.take_zero, List.drop_succ_cons, List.drop_zero, List.reverse_cons, List.reverse_nil, List.nil_append, List.cons_append, List.append_nil, Option.toList, Nat.reduceDiv, Nat.reduceMod, Nat.reduceAdd, Nat.reduceLT, Nat.reduceLeDiff, Nat.zero_add, true_and, and_true, and_self, Int.toNat_natCast, Int.reduceToNat, true_or, or_true, eq_self, Int.reduceEq, Int.reduceLE, Int.reduceLT, Int.reduceNeg, Int.reduceAdd, Int.reduceSub, Int.reduceMul, Int.reduceDiv, Nat.reduceEqDiff, Nat.reduceMul, Nat.reduceSub, Qn, Nat.add_zero, Nat.le_refl, reduceIte, Option.map, Bool.false_eq_true, forall_const, not_true, not_false_iff, false_implies, implies_true, k_70_6, k_70_50, k_70_58, k_70_96, q_70_0, q_70_56, g_7.2.2.2, g_57.2.2.2, g_68.2.2.2, g_71.2.2.2, g_72.2.2.2, wt_l0 hW1, wt_l1 hW1, wt_l2 hW1, wt_l3 hW1, wt_l4 hW1, wt_l5 hW1, wt_l6 hW1, wt_l7 hW1, wt_l8 hW1, wt_l9 hW1, wt_l10 hW1, wt_l11 hW1, wt_l12 hW1, wt_l13 hW1, wt_l14 hW1, wt_l15 hW1, wt_l16 hW1, wt_l17 hW1, wt_l18 hW1, wt_l19 hW1, wt_l20 hW1, wt_l21 hW1, wt_l22 hW1, wt_s0 hW1, wt_s1 hW1, wt_s2 hW1, wt_s3 hW1, wt_s4 hW1, wt_s5 hW1, wt_s6 hW1, wt_s7 hW1, wt_s8 hW1, wt_s9 hW1, wt_s10 hW1, wt_s11 hW1, wt_s12 hW1, wt_s13 hW1, wt_s14 hW1, wt_s15 hW1, wt_s16 hW1, wt_s17 hW1, wt_s18 hW1, wt_s19 hW1, wt_s20 hW1, wt_s21 hW1, wt_s22 hW1, wt_r0_1 hW1, wt_r0_2 hW1, wt_r0_3 hW1, wt_r0_4 hW1, wt_r0_5 hW1, wt_r0_6 hW1, wt_r0_7 hW1, wt_r0_8 hW1, wt_r0_9 hW1, wt_r3_0 hW1, wt_r3_1 hW1, wt_r3_2 hW1, wt_r3_3 hW1, wt_r3_4 hW1, wt_r3_5 hW1, wt_r13_1 hW1, wt_r13_2 hW1, wt_r13_3 hW1, wt_r17_1 hW1, wt_r17_2 hW1, wt_r17_3 hW1, wt_r17_4 hW1, wt_r22_0 hW1, wt_r22_1 hW1, wt_r22_2 hW1, wt_r22_3 hW1, wt_r22_4 hW1, wt_r22_5 hW1, wt_r22_6 hW1, wt_r22_7 hW1, mSt_same, h17]
      refine h1 _ (CW_clr (WI_dayK hB) c3) (fun a ha => ?_)
      rw [mSt_row_ne (by omega), hnM_row_ne (by omega)]
      exact f3 a ha
    · intro i hi ih t M3 ht c3 f3
      subst ht
      have hD := WI_dayK (i := i) hB
      have c30 : M3 o 0 = w 0 := by rw [c3.1.1, dayK_ne (by omega), e0]
      have b := c3.2.1 i (by omega)
      have hb := hD.2.1 i (by omega)
      rw [← b.1, ← b.2.1, ← b.2.2] at hb
      refine l_70_58 (by omega) hN ?_
      simp only [wp, wq, wi, w_iload, w_lload, w_aload, w_istore, w_astore, w_lstore, w_iinc, w_ic, w_lc, w_rc, w_i2, w_l2, w_idv, w_ldv, w_lcmp, w_i2l, w_i2c, w_dup, w_dup2, w_pop, w_obj, w_max, w_if, w_icmp, w_tsw, w_lsw, w_getI, w_getR, w_putI, w_putR, w_ald, w_sld, w_slen, w_ast, w_aald, w_aast, w_new, w_newa, w_mna, w_cpy, w_call, w_ret, w_lret, w_vret, rcv, cnd, nlb, pcats, pcat, inR, inL, ixIn, arOk, List.getElem?_cons_zero, List.getElem?_cons_succ, List.set_cons_zero, List.set_cons_succ, List.length_cons, List.length_nil, List.take_succ_cons, List.take_zero, List.drop_succ_cons, List.drop_zero, List.reverse_cons, List.reverse_nil, List.nil_append, List.cons_append, List.append_nil, Option.toList, Nat.reduceDiv, Nat.reduceMod, Nat.reduceAdd, Nat.reduceLT, Nat.reduceLeDiff, Nat.zero_add, true_and, and_true, and_self, Int.toNat_natCast, Int.reduceToNat, true_or, or_true, eq_self, Int.reduceEq, Int.reduceLE, Int.reduceLT, Int.reduceNeg, Int.reduceAdd, Int.reduceSub, Int.reduceMul, Int.reduceDiv, Nat.reduceEqDiff, Nat.reduceMul, Nat.reduceSub, Qn, Nat.add_zero, Nat.le_refl, reduceIte, Option.map, Bool.false_eq_true, forall_const, not_true, not_false_iff, false_implies, implies_true, k_70_6, k_70_50, k_70_58, k_70_96, q_70_0, q_70_56, g_7.2.2.2, g_57.2.2.2, g_68.2.2.2, g_71.2.2.2, g_72.2.2.2, wt_l0 hW1, wt_l1 hW1, wt_l2 hW1, wt_l3 hW1, wt_l4 hW1, wt_l5 hW1, wt_l6 hW1, wt_l7 hW1, wt_l8 hW1, wt_l9 hW1, wt_l10 hW1, wt_l11 hW1, wt_l12 hW1, wt_l13 hW1, wt_l14 hW1, wt_l15 hW1, wt_l16 hW1, wt_l17 hW1, wt_l18 hW1, wt_l19 hW1, wt_l20 hW1, wt_l21 hW1, wt_l22 hW1, wt_s0 hW1, wt_s1 hW1, wt_s2 hW1, wt_s3 hW1, wt_s4 hW1, wt_s5 hW1, wt_s6 hW1, wt_s7 hW1, wt_s8 hW1, wt_s9 hW1, wt_s10 hW1, wt_s11 hW1, wt_s12 hW1, wt_s13 hW1, wt_s14 hW1, wt_s15 hW1, wt_s16 hW1, wt_s17 hW1, wt_s18 hW1, wt_s19 hW1, wt_s20 hW1, wt_s21 hW1, wt_s22 hW1, wt_r0_1 hW1, wt_r0_2 hW1, wt_r0_3 hW1, wt_r0_4 hW1, wt_r0_5 hW1, wt_r0_6 hW1, wt_r0_7 hW1, wt_r0_8 hW1, wt_r0_9 hW1, wt_r3_0 hW1, wt_r3_1 hW1, wt_r3_2 hW1, wt_r3_3 hW1, wt_r3_4 hW1, wt_r3_5 hW1, wt_r13_1 hW1, wt_r13_2 hW1, wt_r13_3 hW1, wt_r17_1 hW1, wt_r17_2 hW1, wt_r17_3 hW1, wt_r17_4 hW1, wt_r22_0 hW1, wt_r22_1 hW1, wt_r22_2 hW1, wt_r22_3 hW1, wt_r22_4 hW1, wt_r22_5 hW1, wt_r22_6 hW1, wt_r22_7 hW1]
      refine ⟨by omega, fun q => by omega, fun _ => ?_⟩
      refine ⟨by omega, C_daysLater (by omega) hN hW1 (by omega) hb.1 hb.2.1 hb.2.2 (by omega) ?_⟩
      simp only [wp, wq, wi, w_iload, w_lload, w_aload, w_istore, w_astore, w_lstore, w_iinc, w_ic, w_lc, w_rc, w_i2, w_l2, w_idv, w_ldv, w_lcmp, w_i2l, w_i2c, w_dup, w_dup2, w_pop, w_obj, w_max, w_if, w_icmp, w_tsw, w_lsw, w_getI, w_getR, w_putI, w_putR, w_ald, w_sld, w_slen, w_ast, w_aald, w_aast, w_new, w_newa, w_mna, w_cpy, w_call, w_ret, w_lret, w_vret, rcv, cnd, nlb, pcats, pcat, inR, inL, ixIn, arOk, List.getElem?_cons_zero, List.getElem?_cons_succ, List.set_cons_zero, List.set_cons_succ, List.length_cons, List.length_nil, List.take_succ_cons, List.take_zero, List.drop_succ_cons, List.drop_zero, List.reverse_cons, List.reverse_nil, List.nil_append, List.cons_append, List.append_nil, Option.toList, Nat.reduceDiv, Nat.reduceMod, Nat.reduceAdd, Nat.reduceLT, Nat.reduceLeDiff, Nat.zero_add, true_and, and_true, and_self, Int.toNat_natCast, Int.reduceToNat, true_or, or_true, eq_self, Int.reduceEq, Int.reduceLE, Int.reduceLT, Int.reduceNeg, Int.reduceAdd, Int.reduceSub, Int.reduceMul, Int.reduceDiv, Nat.reduceEqDiff, Nat.reduceMul, Nat.reduceSub, Qn, Nat.add_zero, Nat.le_refl, reduceIte, Option.map, Bool.false_eq_true, forall_const, not_true, not_false_iff, false_implies, implies_true, k_70_6, k_70_50, k_70_58, k_70_96, q_70_0, q_70_56, g_7.2.2.2, g_57.2.2.2, g_68.2.2.2, g_71.2.2.2, g_72.2.2.2, wt_l0 hW1, wt_l1 hW1, wt_l2 hW1, wt_l3 hW1, wt_l4 hW1, wt_l5 hW1, wt_l6 hW1, wt_l7 hW1, wt_l8 hW1, wt_l9 hW1, wt_l10 hW1, wt_l11 hW1, wt_l12 hW1, wt_l13 hW1, wt_l14 hW1, wt_l15 hW1, wt_l16 hW1, wt_l17 hW1, wt_l18 hW1, wt_l19 hW1, wt_l20 hW1, wt_l21 hW1, wt_l22 hW1, wt_s0 hW1, wt_s1 hW1, wt_s2 hW1, wt_s3 hW1, wt_s4 hW1, wt_s5 hW1, wt_s6 hW1, wt_s7 hW1, wt_s8 hW1, wt_s9 hW1, wt_s10 hW1, wt_s11 hW1, wt_s12 hW1, wt_s13 hW1, wt_s14 hW1, wt_s15 hW1, wt_s16 hW1, wt_s17 hW1, wt_s18 hW1, wt_s19 hW1, wt_s20 hW1, wt_s21 hW1, wt_s22 hW1, wt_r0_1 hW1, wt_r0_2 hW1, wt_r0_3 hW1, wt_r0_4 hW1, wt_r0_5 hW1, wt_r0_6 hW1, wt_r0_7 hW1, wt_r0_8 hW1, wt_r0_9 hW1, wt_r3_0 hW1, wt_r3_1 hW1, wt_r3_2 hW1, wt_r3_3 hW1, wt_r3_4 hW1, wt_r3_5 hW1, wt_r13_1 hW1, wt_r13_2 hW1, wt_r13_3 hW1, wt_r17_1 hW1, wt_r17_2 hW1, wt_r17_3 hW1, wt_r17_4 hW1, wt_r22_0 hW1, wt_r22_1 hW1, wt_r22_2 hW1, wt_r22_3 hW1, wt_r22_4 hW1, wt_r22_5 hW1, wt_r22_6 hW1, wt_r22_7 hW1]
      refine ⟨by omega, ih _ _ (by omega) ?_ (fun a ha => ?_)⟩
      · rw [b.1, b.2.1, b.2.2]
        have hu : dayK (bE (opKeep w) 2) (i + 1) = upf (dayK (bE (opKeep w) 2) i) (4 + 3 * i) (daysF (dayK (bE (opKeep w) 2) i (5 + 3 * i)) (dayK (bE (opKeep w) 2) i (6 + 3 * i)) (dayK (bE (opKeep w) 2) i (4 + 3 * i)) (Int.toNat 1)) := by
          funext k
          have e : daysF (dayK (bE (opKeep w) 2) i (5 + 3 * i)) (dayK (bE (opKeep w) 2) i (6 + 3 * i)) (dayK (bE (opKeep w) 2) i (4 + 3 * i)) (Int.toNat 1) = dayF (dayK (bE (opKeep w) 2) i (4 + 3 * i)) (dayK (bE (opKeep w) 2) i (5 + 3 * i)) (dayK (bE (opKeep w) 2) i (6 + 3 * i)) := rfl
          rw [e]
          by_cases q : k = 4 + 3 * i
          · subst q
            rw [upf_same, dayK_b (by omega), if_pos (by omega), dayK_b (by omega), if_neg (by omega), dayK_ne (by omega), dayK_ne (by omega)]
          · rw [upf_ne q]
            unfold dayK
            by_cases q2 : 4 ≤ k ∧ k < 22 ∧ (k - 4) % 3 = 0 ∧ (k - 4) / 3 < i
            · rw [if_pos (by omega), if_pos q2]
            · rw [if_neg (by omega), if_neg q2]
        rw [hu]
        exact CW_bel1 hD c3 (by omega)
      · rw [mSt_row_ne (by omega)]
        exact f3 a ha
    · have : dayK (bE (opKeep w) 2) 0 = bE (opKeep w) 2 := by
        funext k
        unfold dayK
        rw [if_neg (by omega)]
      rw [this]
      exact c2
  · intro i hi ih t M2 ht c2 f2
    subst ht
    have hB := WI_bE hK i (by omega)
    have e0 : bE (opKeep w) i 0 = w 0 := by rw [bE_ne hK (by omega) i (by omega), keep_lt (by omega) (by omega)]
    have hBi := (hB.2.2.2.1 i hi)
    have ci := c2.2.2.2.2.1 i hi
    have nx : bE (opKeep w) (i + 1) = birdE (bE (opKeep w) i) i := rfl
    have ht3 := hBi.2.2
    unfold toldP at ht3
    rw [e0] at ht3
    have c20 : M2 o 0 = w 0 := by rw [c2.1.1, e0]
    have hx : -1 ≤ M2 (o + 19) i ∧ M2 (o + 19) i < M2 o 0 := by omega
    refine l_70_6 (by omega) hN ?_
    simp only [wp, wq, wi, w_iload, w_lload, w_aload, w_istore, w_astore, w_lstore, w_iinc, w_ic, w_lc, w_rc, w_i2, w_l2, w_idv, w_ldv, w_lcmp, w_i2l, w_i2c, w_dup, w_dup2, w_pop, w_obj, w_max, w_if, w_icmp, w_tsw, w_lsw, w_getI, w_getR, w_putI, w_putR, w_ald, w_sld, w_slen, w_ast, w_aald, w_aast, w_new, w_newa, w_mna, w_cpy, w_call, w_ret, w_lret, w_vret, rcv, cnd, nlb, pcats, pcat, inR, inL, ixIn, arOk, List.getElem?_cons_zero, List.getElem?_cons_succ, List.set_cons_zero, List.set_cons_succ, List.length_cons, List.length_nil, List.take_succ_cons, List.take_zero, List.drop_succ_cons, List.drop_zero, List.reverse_cons, List.reverse_nil, List.nil_append, List.cons_append, List.append_nil, Option.toList, Nat.reduceDiv, Nat.reduceMod, Nat.reduceAdd, Nat.reduceLT, Nat.reduceLeDiff, Nat.zero_add, true_and, and_true, and_self, Int.toNat_natCast, Int.reduceToNat, true_or, or_true, eq_self, Int.reduceEq, Int.reduceLE, Int.reduceLT, Int.reduceNeg, Int.reduceAdd, Int.reduceSub, Int.reduceMul, Int.reduceDiv, Nat.reduceEqDiff, Nat.reduceMul, Nat.reduceSub, Qn, Nat.add_zero, Nat.le_refl, reduceIte, Option.map, Bool.false_eq_true, forall_const, not_true, not_false_iff, false_implies, implies_true, k_70_6, k_70_50, k_70_58, k_70_96, q_70_0, q_70_56, g_7.2.2.2, g_57.2.2.2, g_68.2.2.2, g_71.2.2.2, g_72.2.2.2, wt_l0 hW1, wt_l1 hW1, wt_l2 hW1, wt_l3 hW1, wt_l4 hW1, wt_l5 hW1, wt_l6 hW1, wt_l7 hW1, wt_l8 hW1, wt_l9 hW1, wt_l10 hW1, wt_l11 hW1, wt_l12 hW1, wt_l13 hW1, wt_l14 hW1, wt_l15 hW1, wt_l16 hW1, wt_l17 hW1, wt_l18 hW1, wt_l19 hW1, wt_l20 hW1, wt_l21 hW1, wt_l22 hW1, wt_s0 hW1, wt_s1 hW1, wt_s2 hW1, wt_s3 hW1, wt_s4 hW1, wt_s5 hW1, wt_s6 hW1, wt_s7 hW1, wt_s8 hW1, wt_s9 hW1, wt_s10 hW1, wt_s11 hW1, wt_s12 hW1, wt_s13 hW1, wt_s14 hW1, wt_s15 hW1, wt_s16 hW1, wt_s17 hW1, wt_s18 hW1, wt_s19 hW1, wt_s20 hW1, wt_s21 hW1, wt_s22 hW1, wt_r0_1 hW1, wt_r0_2 hW1, wt_r0_3 hW1, wt_r0_4 hW1, wt_r0_5 hW1, wt_r0_6 hW1, wt_r0_7 hW1, wt_r0_8 hW1, wt_r0_9 hW1, wt_r3_0 hW1, wt_r3_1 hW1, wt_r3_2 hW1, wt_r3_3 hW1, wt_r3_4 hW1, wt_r3_5 hW1, wt_r13_1 hW1, wt_r13_2 hW1, wt_r13_3 hW1, wt_r17_1 hW1, wt_r17_2 hW1, wt_r17_3 hW1, wt_r17_4 hW1, wt_r22_0 hW1, wt_r22_1 hW1, wt_r22_2 hW1, wt_r22_3 hW1, wt_r22_4 hW1, wt_r22_5 hW1, wt_r22_6 hW1, wt_r22_7 hW1]
    refine ⟨by omega, fun q => by omega, fun _ => ?_⟩
    refine ⟨by omega, C_isLand (by omega) hN hW1 (by omega) (by omega) (fun q => ?_) (fun q => ?_)⟩
    · have hl : 0 ≤ M2 (o + 19) i ∧ M2 (o + 19) i ≤ 5 := by omega
      have b := c2.2.1 (M2 (o + 19) i).toNat (by omega)
      have hb := hB.2.1 (M2 (o + 19) i).toNat (by omega)
      rw [← b.1, ← b.2.1, ← b.2.2] at hb
      have hf := c2.2.2.1 (M2 (o + 19) i).toNat (by omega)
      have hfb := farW_b (by omega) hB.2.2.1 (show (M2 (o + 19) i).toNat < 6 by omega)
      have hne : farW (bE (opKeep w) i) (M2 (o + 19) i).toNat ≠ -1 := by
        rw [ci.2.2.1]
        rcases ht3 with k | k
        · omega
        · exact k.2.2.2
      simp only [wp, wq, wi, w_iload, w_lload, w_aload, w_istore, w_astore, w_lstore, w_iinc, w_ic, w_lc, w_rc, w_i2, w_l2, w_idv, w_ldv, w_lcmp, w_i2l, w_i2c, w_dup, w_dup2, w_pop, w_obj, w_max, w_if, w_icmp, w_tsw, w_lsw, w_getI, w_getR, w_putI, w_putR, w_ald, w_sld, w_slen, w_ast, w_aald, w_aast, w_new, w_newa, w_mna, w_cpy, w_call, w_ret, w_lret, w_vret, rcv, cnd, nlb, pcats, pcat, inR, inL, ixIn, arOk, List.getElem?_cons_zero, List.getElem?_cons_succ, List.set_cons_zero, List.set_cons_succ, List.length_cons, List.length_nil, List.take_succ_cons, List.take_zero, List.drop_succ_cons, List.drop_zero, List.reverse_cons, List.reverse_nil, List.nil_append, List.cons_append, List.append_nil, Option.toList, Nat.reduceDiv, Nat.reduceMod, Nat.reduceAdd, Nat.reduceLT, Nat.reduceLeDiff, Nat.zero_add, true_and, and_true, and_self, Int.toNat_natCast, Int.reduceToNat, true_or, or_true, eq_self, Int.reduceEq, Int.reduceLE, Int.reduceLT, Int.reduceNeg, Int.reduceAdd, Int.reduceSub, Int.reduceMul, Int.reduceDiv, Nat.reduceEqDiff, Nat.reduceMul, Nat.reduceSub, Qn, Nat.add_zero, Nat.le_refl, reduceIte, Option.map, Bool.false_eq_true, forall_const, not_true, not_false_iff, false_implies, implies_true, k_70_6, k_70_50, k_70_58, k_70_96, q_70_0, q_70_56, g_7.2.2.2, g_57.2.2.2, g_68.2.2.2, g_71.2.2.2, g_72.2.2.2, ne_eq, wt_l0 hW1, wt_l1 hW1, wt_l2 hW1, wt_l3 hW1, wt_l4 hW1, wt_l5 hW1, wt_l6 hW1, wt_l7 hW1, wt_l8 hW1, wt_l9 hW1, wt_l10 hW1, wt_l11 hW1, wt_l12 hW1, wt_l13 hW1, wt_l14 hW1, wt_l15 hW1, wt_l16 hW1, wt_l17 hW1, wt_l18 hW1, wt_l19 hW1, wt_l20 hW1, wt_l21 hW1, wt_l22 hW1, wt_s0 hW1, wt_s1 hW1, wt_s2 hW1, wt_s3 hW1, wt_s4 hW1, wt_s5 hW1, wt_s6 hW1, wt_s7 hW1, wt_s8 hW1, wt_s9 hW1, wt_s10 hW1, wt_s11 hW1, wt_s12 hW1, wt_s13 hW1, wt_s14 hW1, wt_s15 hW1, wt_s16 hW1, wt_s17 hW1, wt_s18 hW1, wt_s19 hW1, wt_s20 hW1, wt_s21 hW1, wt_s22 hW1, wt_r0_1 hW1, wt_r0_2 hW1, wt_r0_3 hW1, wt_r0_4 hW1, wt_r0_5 hW1, wt_r0_6 hW1, wt_r0_7 hW1, wt_r0_8 hW1, wt_r0_9 hW1, wt_r3_0 hW1, wt_r3_1 hW1, wt_r3_2 hW1, wt_r3_3 hW1, wt_r3_4 hW1, wt_r3_5 hW1, wt_r13_1 hW1, wt_r13_2 hW1, wt_r13_3 hW1, wt_r17_1 hW1, wt_r17_2 hW1, wt_r17_3 hW1, wt_r17_4 hW1, wt_r22_0 hW1, wt_r22_1 hW1, wt_r22_2 hW1, wt_r22_3 hW1, wt_r22_4 hW1, wt_r22_5 hW1, wt_r22_6 hW1, wt_r22_7 hW1]
      refine ⟨by omega, by omega, ?_⟩
      refine C_believe (by omega) hN hW1 (by omega) hl (by rw [ci.2.2.2.1]; omega) (by omega) (by rw [Int.toNat_natCast, ci.2.1]; exact hBi.2.1) hb.1 hb.2.1 hb.2.2 (by rw [Int.toNat_natCast, ci.2.2.2.2]; omega) ?_
      simp only [wp, wq, wi, w_iload, w_lload, w_aload, w_istore, w_astore, w_lstore, w_iinc, w_ic, w_lc, w_rc, w_i2, w_l2, w_idv, w_ldv, w_lcmp, w_i2l, w_i2c, w_dup, w_dup2, w_pop, w_obj, w_max, w_if, w_icmp, w_tsw, w_lsw, w_getI, w_getR, w_putI, w_putR, w_ald, w_sld, w_slen, w_ast, w_aald, w_aast, w_new, w_newa, w_mna, w_cpy, w_call, w_ret, w_lret, w_vret, rcv, cnd, nlb, pcats, pcat, inR, inL, ixIn, arOk, List.getElem?_cons_zero, List.getElem?_cons_succ, List.set_cons_zero, List.set_cons_succ, List.length_cons, List.length_nil, List.take_succ_cons, List.take_zero, List.drop_succ_cons, List.drop_zero, List.reverse_cons, List.reverse_nil, List.nil_append, List.cons_append, List.append_nil, Option.toList, Nat.reduceDiv, Nat.reduceMod, Nat.reduceAdd, Nat.reduceLT, Nat.reduceLeDiff, Nat.zero_add, true_and, and_true, and_self, Int.toNat_natCast, Int.reduceToNat, true_or, or_true, eq_self, Int.reduceEq, Int.reduceLE, Int.reduceLT, Int.reduceNeg, Int.reduceAdd, Int.reduceSub, Int.reduceMul, Int.reduceDiv, Nat.reduceEqDiff, Nat.reduceMul, Nat.reduceSub, Qn, Nat.add_zero, Nat.le_refl, reduceIte, Option.map, Bool.false_eq_true, forall_const, not_true, not_false_iff, false_implies, implies_true, k_70_6, k_70_50, k_70_58, k_70_96, q_70_0, q_70_56, g_7.2.2.2, g_57.2.2.2, g_68.2.2.2, g_71.2.2.2, g_72.2.2.2]
      refine ih _ _ (by omega) ?_ (fun a ha => ?_)
      · rw [nx]
        unfold birdE
        rw [if_neg (show ¬ bE (opKeep w) i (60 + 5 * i) = -1 by omega), ← ci.2.2.1]
        have e : newB (bE (opKeep w) i) (M2 (o + 19) i).toNat i = daysF (M2 (o + 1) (M2 (o + 19) i).toNat) (M2 (o + 2) (M2 (o + 19) i).toNat) (tideF (M2 (o + 18) (M2 (o + 19) i).toNat) (if M2 (o + 21) i = 0 then 16 - sureF (M2 (o + 20) i) (plainF (M2 (o + 10) (M2 (o + 19) i).toNat) (M2 (o + 12) i)) else sureF (M2 (o + 20) i) (plainF (M2 (o + 10) (M2 (o + 19) i).toNat) (M2 (o + 12) i)))) (lateF (M2 (o + 20) i)).toNat := by
          unfold newB
          rw [b.1, b.2.1, b.2.2, hf, ci.2.1, ci.2.2.2.1, ci.2.2.2.2]
        rw [e]
        exact CW_bel1 hB c2 (by omega)
      · rw [mSt_row_ne (by omega)]
        exact f2 a ha
    · simp only [wp, wq, wi, w_iload, w_lload, w_aload, w_istore, w_astore, w_lstore, w_iinc, w_ic, w_lc, w_rc, w_i2, w_l2, w_idv, w_ldv, w_lcmp, w_i2l, w_i2c, w_dup, w_dup2, w_pop, w_obj, w_max, w_if, w_icmp, w_tsw, w_lsw, w_getI, w_getR, w_putI, w_putR, w_ald, w_sld, w_slen, w_ast, w_aald, w_aast, w_new, w_newa, w_mna, w_cpy, w_call, w_ret, w_lret, w_vret, rcv, cnd, nlb, pcats, pcat, inR, inL, ixIn, arOk, List.getElem?_cons_zero, List.getElem?_cons_succ, List.set_cons_zero, List.set_cons_succ, List.length_cons, List.length_nil, List.take_succ_cons, List.take_zero, List.drop_succ_cons, List.drop_zero, List.reverse_cons, List.reverse_nil, List.nil_append, List.cons_append, List.append_nil, Option.toList, Nat.reduceDiv, Nat.reduceMod, Nat.reduceAdd, Nat.reduceLT, Nat.reduceLeDiff, Nat.zero_add, true_and, and_true, and_self, Int.toNat_natCast, Int.reduceToNat, true_or, or_true, eq_self, Int.reduceEq, Int.reduceLE, Int.reduceLT, Int.reduceNeg, Int.reduceAdd, Int.reduceSub, Int.reduceMul, Int.reduceDiv, Nat.reduceEqDiff, Nat.reduceMul, Nat.reduceSub, Qn, Nat.add_zero, Nat.le_refl, reduceIte, Option.map, Bool.false_eq_true, forall_const, not_true, not_false_iff, false_implies, implies_true, k_70_6, k_70_50, k_70_58, k_70_96, q_70_0, q_70_56, g_7.2.2.2, g_57.2.2.2, g_68.2.2.2, g_71.2.2.2, g_72.2.2.2, ne_eq]
      refine l_70_50 (by omega) hN ?_
      simp only [wp, wq, wi, w_iload, w_lload, w_aload, w_istore, w_astore, w_lstore, w_iinc, w_ic, w_lc, w_rc, w_i2, w_l2, w_idv, w_ldv, w_lcmp, w_i2l, w_i2c, w_dup, w_dup2, w_pop, w_obj, w_max, w_if, w_icmp, w_tsw, w_lsw, w_getI, w_getR, w_putI, w_putR, w_ald, w_sld, w_slen, w_ast, w_aald, w_aast, w_new, w_newa, w_mna, w_cpy, w_call, w_ret, w_lret, w_vret, rcv, cnd, nlb, pcats, pcat, inR, inL, ixIn, arOk, List.getElem?_cons_zero, List.getElem?_cons_succ, List.set_cons_zero, List.set_cons_succ, List.length_cons, List.length_nil, List.take_succ_cons, List.take_zero, List.drop_succ_cons, List.drop_zero, List.reverse_cons, List.reverse_nil, List.nil_append, List.cons_append, List.append_nil, Option.toList, Nat.reduceDiv, Nat.reduceMod, Nat.reduceAdd, Nat.reduceLT, Nat.reduceLeDiff, Nat.zero_add, true_and, and_true, and_self, Int.toNat_natCast, Int.reduceToNat, true_or, or_true, eq_self, Int.reduceEq, Int.reduceLE, Int.reduceLT, Int.reduceNeg, Int.reduceAdd, Int.reduceSub, Int.reduceMul, Int.reduceDiv, Nat.reduceEqDiff, Nat.reduceMul, Nat.reduceSub, Qn, Nat.add_zero, Nat.le_refl, reduceIte, Option.map, Bool.false_eq_true, forall_const, not_true, not_false_iff, false_implies, implies_true, k_70_6, k_70_50, k_70_58, k_70_96, q_70_0, q_70_56, g_7.2.2.2, g_57.2.2.2, g_68.2.2.2, g_71.2.2.2, g_72.2.2.2]
      refine ih _ _ (by omega) ?_ f2
      rw [nx]
      unfold birdE
      rw [if_pos (by omega)]
      exact c2
end EVN
