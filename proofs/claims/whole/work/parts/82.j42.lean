/-! PLAN: the class's, one evening and two -/
section J42
variable {d k : Nat} {M M0 : Nat → Nat → Int} {Qp : PQ} {w : Nat → Int}
theorem ep_ext {L : Nat} {A B : Nat → Int} (hI : WI w) (h : ∀ x : Nat, (x : Int) < w 0 → A x = B x) : epB w L A = epB w L B ∧ epD w L A = epD w L B := by
  have hI1 := hI.1
  unfold WIa at hI1
  have e1 : epB w L A = epB w L B := by
    refine bpF_g (fun x hx ho => ?_) (fun x hx ho => ?_) 64 (by omega)
    · unfold gP
      by_cases q : x = 7
      · rw [if_pos q, if_pos q]
      · have := opB_land q ho
        rw [if_neg q, if_neg q, h x (by omega)]
    · unfold gP
      by_cases q : x = 7
      · rw [if_pos q, if_pos q]
      · have := opB_land q ho
        rw [if_neg q, if_neg q, h x (by omega)]
  have e2 : ∀ m : Nat, (m : Int) ≤ w 0 → dP w L A m = dP w L B m := by
    intro m
    induction m with
    | zero => intro _; rfl
    | succ m ih =>
      intro hm
      show dP w L A m + (if btI (L : Int) (m : Int) = 1 then leF w m (A m) else 0) = dP w L B m + (if btI (L : Int) (m : Int) = 1 then leF w m (B m) else 0)
      rw [ih (by omega), h m (by omega)]
  refine ⟨e1, ?_⟩
  unfold epD
  rw [e1, e2 _ (by omega)]
abbrev Sv (w : Nat → Int) (L : Nat) (A : Nat → Int) (c : Nat) : Int := dP w L (vA w A (c / 8) (c % 8)) (w 0).toNat
abbrev Sv2 (w : Nat → Int) (L : Nat) (k c : Nat) : Int := Sv w L (ahF w (bel w) (k / 8) (k % 8)) c
theorem Sv_b {L c : Nat} {A : Nat → Int} (hI : WI w) (hA : PA w A) (hp : Pc1 (opB w L 0) (opB w L 1) c) : 0 ≤ Sv w L A c ∧ Sv w L A c ≤ 48 := by
  have hI1 := hI.1
  unfold WIa at hI1
  have := dP_b (L := L) hI (vA_b hI hp hA) (w 0).toNat (by omega)
  unfold Sv
  omega
theorem ep_mn {L : Nat} {A : Nat → Int} (hI : WI w) (hA : PA w A) : ∃ y, y < 64 ∧ Pc1 (opB w L 0) (opB w L 1) y ∧ mnF (opB w L 0) (opB w L 1) (Sv w L A) 64 = ((y : Int), Sv w L A y) ∧ (epB w L A).1 = 10 * ((y / 8 : Nat) : Int) + ((y % 8 : Nat) : Int) ∧ epD w L A = Sv w L A y := by
  have hS : ∀ c, c < 64 → Pc1 (opB w L 0) (opB w L 1) c → Sv w L A c = dP w L A (w 0).toNat - (gP w A 0 (c / 8) + gP w A 1 (c % 8)) := fun c hc hp => dP_v hI hp
  obtain ⟨a, b, hab, hp, eB, hm⟩ := bpF_e (o0 := opB w L 0) (o1 := opB w L 1) (g0 := gP w A 0) (g1 := gP w A 1) opB_7 opB_7
  rcases mn_bp hS 64 (by omega) with ⟨h1, h2⟩ | ⟨y, h1, h2, h3, h4⟩
  · rw [eB] at h2
    simp only at h2
    omega
  · refine ⟨y, h1, h2, h3, ?_, ?_⟩
    · unfold epB
      rw [h4]
    · unfold epD epB
      rw [h4, hS y (by omega) h2]
/-- what stands behind k first pairs -/
def RS (w : Nat → Int) (L : Nat) (M0 M' : Nat → Nat → Int) (k : Nat) : Prop := (∀ r, r ≠ 258 → r ≠ 261 → r ≠ 262 → r ≠ 263 → r ≠ 264 → M' r = M0 r) ∧ (M' 261 7 = 0 ∧ M' 262 7 = 0) ∧ (((m2F (opB w L 0) (opB w L 1) (Sv2 w L) (64 * k)).1 = -1 ∧ M' 258 4 = -1) ∨ ∃ y : Nat, y < 4096 ∧ (m2F (opB w L 0) (opB w L 1) (Sv2 w L) (64 * k)).1 = y ∧ M' 258 4 = (m2F (opB w L 0) (opB w L 1) (Sv2 w L) (64 * k)).2 ∧ (0 ≤ M' 258 4 ∧ M' 258 4 ≤ 48) ∧ M' 264 0 = 10 * ((y / 64 / 8 : Nat) : Int) + ((y / 64 % 8 : Nat) : Int) ∧ M' 264 1 = 10 * ((y % 64 / 8 : Nat) : Int) + ((y % 64 % 8 : Nat) : Int))
theorem RS_same {L k : Nat} {M' M2 : Nat → Nat → Int} (h : RS w L M0 M' k) (hF : ∀ r, r ≠ 261 → r ≠ 262 → r ≠ 263 → M2 r = M' r) (h7 : M2 261 7 = 0 ∧ M2 262 7 = 0) (e : m2F (opB w L 0) (opB w L 1) (Sv2 w L) (64 * (k + 1)) = m2F (opB w L 0) (opB w L 1) (Sv2 w L) (64 * k)) : RS w L M0 M2 (k + 1) := by
  obtain ⟨h1, h2, h3⟩ := h
  refine ⟨fun r r1 r2 r3 r4 r5 => by rw [hF r r2 r3 r4]; exact h1 r r1 r2 r3 r4 r5, h7, ?_⟩
  rw [e, hF 258 (by omega) (by omega) (by omega), hF 264 (by omega) (by omega) (by omega)]
  exact h3
set_option maxHeartbeats 2000000 in
theorem L_plan2 {l : Launch} {L : Nat} {v3 : Int} (hd : 7 ≤ d) (hI : WI w) (hC : CW M0 1 w) (o0 : M0 259 0 = (opB w L 0 : Nat)) (o1 : M0 259 1 = (opB w L 1 : Nat)) (hL : L < 64) (hq : ∀ M', RS w L M0 M' 64 → Qp none (278, RT, M')) : ∀ M', RS w L M0 M' 0 → ∀ v5, At l d 17 278 (Qn 278 Qp) 46 [some (.inr (.inr (some 258))), some (.inr (.inr (some 1))), some (.inl L), some (.inl v3), some (.inl 0), v5] [] (278, RT, M') := by
  have hN : 278 ≤ NC := by decide
  intro M' hR
  refine down (N := 8) (P := fun a => ∀ (t : Int) (M' : Nat → Nat → Int), t = a → RS w L M0 M' (8 * a) → ∀ v5, At l d 17 278 (Qn 278 Qp) 46 [some (.inr (.inr (some 258))), some (.inr (.inr (some 1))), some (.inl L), some (.inl v3), some (.inl t), v5] [] (278, RT, M')) ?_ ?_ 8 0 rfl 0 M' rfl hR
  · intro t M' ht hR v5
    subst ht
    refine m_17_46 (by omega) hN ?_
    (simp only [wp, wq, wi, w_iload, w_lload, w_aload, w_istore, w_astore, w_lstore, w_iinc, w_ic, w_lc, w_rc, w_i2, w_l2, w_idv, w_ldv, w_lcmp, w_i2l, w_i2c, w_dup, w_dup2, w_pop, w_obj, w_max, w_if, w_icmp, w_tsw, w_lsw, w_getI, w_getR, w_putI, w_putR, w_ald, w_sld, w_slen, w_ast, w_aald, w_aast, w_new, w_newa, w_mna, w_cpy, w_call, w_ret, w_lret, w_vret, rcv, cnd, nlb, pcats, pcat, inR, inL, ixIn, arOk, List.getElem?_cons_zero, List.getElem?_cons_succ, List.set_cons_zero, List.set_cons_succ, List.length_cons, List.length_nil, List.take_succ_cons, List.take_zero, List.drop_succ_cons, List.drop_zero, List.reverse_cons, List.reverse_nil, List.nil_append, List.cons_append, List.append_nil, Option.toList, Nat.reduceDiv, Nat.reduceMod, Nat.reduceAdd, Nat.reduceLT, Nat.reduceLeDiff, Nat.zero_add, true_and, and_true, and_self, Int.toNat_natCast, Int.reduceToNat, true_or, or_true, eq_self, Int.reduceEq, Int.reduceLE, Int.reduceLT, Int.reduceNeg, Int.reduceAdd, Int.reduceSub, Int.reduceMul, Int.reduceDiv, Nat.reduceEqDiff, Nat.reduceMul, Nat.reduceSub, Qn, Nat.add_zero, Nat.le_refl, reduceIte, Option.map, Bool.false_eq_true, forall_const, not_true, not_false_iff, false_implies, implies_true, k_17_0, k_17_56, k_17_107, k_17_113, k_17_119, q_17_43, q_17_46, g_13.2.2.2, g_15.2.2.2, g_18.2.2.2, g_19.2.2.2, rs_s0, rs_s127, rs_s254, rs_s255, rs_s256, rs_s257, rs_s258, rs_s259, rs_s260, rs_s261, rs_s262, rs_s263, rs_s264, rs_s265, rs_s266, rs_s267, rs_s268, rs_s269, rs_s270, rs_s271, rs_s272, rs_s273, rs_s274, rs_s275, rs_s276, rs_s277, rs_r0_0, rs_r0_1, rs_r0_2, rs_r0_3, rs_r0_4, rs_r0_5, rs_r0_6, rs_r0_7, rs_r127_0, rs_r127_1, rs_r255_0, rs_r255_4, rs_r258_0, rs_r258_1, rs_r258_2, rs_r258_3, rs_r260_0, rs_r260_1, rs_r265_0, rs_r268_0, rs_r268_1, rs_r268_2, rs_r268_3, rs_r268_4, rs_r268_5, rs_r268_7, rs_r268_8, rs_r268_13]; (repeat (first | refine And.intro (by omega) ?_ | refine And.intro ?_ (by omega))))
    intro _
    refine l_17_119 (by omega) hN ?_
    (simp only [wp, wq, wi, w_iload, w_lload, w_aload, w_istore, w_astore, w_lstore, w_iinc, w_ic, w_lc, w_rc, w_i2, w_l2, w_idv, w_ldv, w_lcmp, w_i2l, w_i2c, w_dup, w_dup2, w_pop, w_obj, w_max, w_if, w_icmp, w_tsw, w_lsw, w_getI, w_getR, w_putI, w_putR, w_ald, w_sld, w_slen, w_ast, w_aald, w_aast, w_new, w_newa, w_mna, w_cpy, w_call, w_ret, w_lret, w_vret, rcv, cnd, nlb, pcats, pcat, inR, inL, ixIn, arOk, List.getElem?_cons_zero, List.getElem?_cons_succ, List.set_cons_zero, List.set_cons_succ, List.length_cons, List.length_nil, List.take_succ_cons, List.take_zero, List.drop_succ_cons, List.drop_zero, List.reverse_cons, List.reverse_nil, List.nil_append, List.cons_append, List.append_nil, Option.toList, Nat.reduceDiv, Nat.reduceMod, Nat.reduceAdd, Nat.reduceLT, Nat.reduceLeDiff, Nat.zero_add, true_and, and_true, and_self, Int.toNat_natCast, Int.reduceToNat, true_or, or_true, eq_self, Int.reduceEq, Int.reduceLE, Int.reduceLT, Int.reduceNeg, Int.reduceAdd, Int.reduceSub, Int.reduceMul, Int.reduceDiv, Nat.reduceEqDiff, Nat.reduceMul, Nat.reduceSub, Qn, Nat.add_zero, Nat.le_refl, reduceIte, Option.map, Bool.false_eq_true, forall_const, not_true, not_false_iff, false_implies, implies_true, k_17_0, k_17_56, k_17_107, k_17_113, k_17_119, q_17_43, q_17_46, g_13.2.2.2, g_15.2.2.2, g_18.2.2.2, g_19.2.2.2]; (repeat (first | refine And.intro (by omega) ?_ | refine And.intro ?_ (by omega))))
    exact hq M' hR
  · intro a ha ih t M' ht hR v5
    subst ht
    refine m_17_46 (by omega) hN ?_
    (simp only [wp, wq, wi, w_iload, w_lload, w_aload, w_istore, w_astore, w_lstore, w_iinc, w_ic, w_lc, w_rc, w_i2, w_l2, w_idv, w_ldv, w_lcmp, w_i2l, w_i2c, w_dup, w_dup2, w_pop, w_obj, w_max, w_if, w_icmp, w_tsw, w_lsw, w_getI, w_getR, w_putI, w_putR, w_ald, w_sld, w_slen, w_ast, w_aald, w_aast, w_new, w_newa, w_mna, w_cpy, w_call, w_ret, w_lret, w_vret, rcv, cnd, nlb, pcats, pcat, inR, inL, ixIn, arOk, List.getElem?_cons_zero, List.getElem?_cons_succ, List.set_cons_zero, List.set_cons_succ, List.length_cons, List.length_nil, List.take_succ_cons, List.take_zero, List.drop_succ_cons, List.drop_zero, List.reverse_cons, List.reverse_nil, List.nil_append, List.cons_append, List.append_nil, Option.toList, Nat.reduceDiv, Nat.reduceMod, Nat.reduceAdd, Nat.reduceLT, Nat.reduceLeDiff, Nat.zero_add, true_and, and_true, and_self, Int.toNat_natCast, Int.reduceToNat, true_or, or_true, eq_self, Int.reduceEq, Int.reduceLE, Int.reduceLT, Int.reduceNeg, Int.reduceAdd, Int.reduceSub, Int.reduceMul, Int.reduceDiv, Nat.reduceEqDiff, Nat.reduceMul, Nat.reduceSub, Qn, Nat.add_zero, Nat.le_refl, reduceIte, Option.map, Bool.false_eq_true, forall_const, not_true, not_false_iff, false_implies, implies_true, k_17_0, k_17_56, k_17_107, k_17_113, k_17_119, q_17_43, q_17_46, g_13.2.2.2, g_15.2.2.2, g_18.2.2.2, g_19.2.2.2, rs_s0, rs_s127, rs_s254, rs_s255, rs_s256, rs_s257, rs_s258, rs_s259, rs_s260, rs_s261, rs_s262, rs_s263, rs_s264, rs_s265, rs_s266, rs_s267, rs_s268, rs_s269, rs_s270, rs_s271, rs_s272, rs_s273, rs_s274, rs_s275, rs_s276, rs_s277, rs_r0_0, rs_r0_1, rs_r0_2, rs_r0_3, rs_r0_4, rs_r0_5, rs_r0_6, rs_r0_7, rs_r127_0, rs_r127_1, rs_r255_0, rs_r255_4, rs_r258_0, rs_r258_1, rs_r258_2, rs_r258_3, rs_r260_0, rs_r260_1, rs_r265_0, rs_r268_0, rs_r268_1, rs_r268_2, rs_r268_3, rs_r268_4, rs_r268_5, rs_r268_7, rs_r268_8, rs_r268_13]; (repeat (first | refine And.intro (by omega) ?_ | refine And.intro ?_ (by omega))))
    intro _
    refine down (N := 8) (P := fun b => ∀ (t : Int) (M' : Nat → Nat → Int), t = b → RS w L M0 M' (8 * a + b) → At l d 17 278 (Qn 278 Qp) 56 [some (.inr (.inr (some 258))), some (.inr (.inr (some 1))), some (.inl L), some (.inl v3), some (.inl a), some (.inl t)] [] (278, RT, M')) ?_ ?_ 8 0 rfl 0 M' rfl hR
    · intro t M' ht hR
      subst ht
      refine l_17_56 (by omega) hN ?_
      (simp only [wp, wq, wi, w_iload, w_lload, w_aload, w_istore, w_astore, w_lstore, w_iinc, w_ic, w_lc, w_rc, w_i2, w_l2, w_idv, w_ldv, w_lcmp, w_i2l, w_i2c, w_dup, w_dup2, w_pop, w_obj, w_max, w_if, w_icmp, w_tsw, w_lsw, w_getI, w_getR, w_putI, w_putR, w_ald, w_sld, w_slen, w_ast, w_aald, w_aast, w_new, w_newa, w_mna, w_cpy, w_call, w_ret, w_lret, w_vret, rcv, cnd, nlb, pcats, pcat, inR, inL, ixIn, arOk, List.getElem?_cons_zero, List.getElem?_cons_succ, List.set_cons_zero, List.set_cons_succ, List.length_cons, List.length_nil, List.take_succ_cons, List.take_zero, List.drop_succ_cons, List.drop_zero, List.reverse_cons, List.reverse_nil, List.nil_append, List.cons_append, List.append_nil, Option.toList, Nat.reduceDiv, Nat.reduceMod, Nat.reduceAdd, Nat.reduceLT, Nat.reduceLeDiff, Nat.zero_add, true_and, and_true, and_self, Int.toNat_natCast, Int.reduceToNat, true_or, or_true, eq_self, Int.reduceEq, Int.reduceLE, Int.reduceLT, Int.reduceNeg, Int.reduceAdd, Int.reduceSub, Int.reduceMul, Int.reduceDiv, Nat.reduceEqDiff, Nat.reduceMul, Nat.reduceSub, Qn, Nat.add_zero, Nat.le_refl, reduceIte, Option.map, Bool.false_eq_true, forall_const, not_true, not_false_iff, false_implies, implies_true, k_17_0, k_17_56, k_17_107, k_17_113, k_17_119, q_17_43, q_17_46, g_13.2.2.2, g_15.2.2.2, g_18.2.2.2, g_19.2.2.2, rs_s0, rs_s127, rs_s254, rs_s255, rs_s256, rs_s257, rs_s258, rs_s259, rs_s260, rs_s261, rs_s262, rs_s263, rs_s264, rs_s265, rs_s266, rs_s267, rs_s268, rs_s269, rs_s270, rs_s271, rs_s272, rs_s273, rs_s274, rs_s275, rs_s276, rs_s277, rs_r0_0, rs_r0_1, rs_r0_2, rs_r0_3, rs_r0_4, rs_r0_5, rs_r0_6, rs_r0_7, rs_r127_0, rs_r127_1, rs_r255_0, rs_r255_4, rs_r258_0, rs_r258_1, rs_r258_2, rs_r258_3, rs_r260_0, rs_r260_1, rs_r265_0, rs_r268_0, rs_r268_1, rs_r268_2, rs_r268_3, rs_r268_4, rs_r268_5, rs_r268_7, rs_r268_8, rs_r268_13]; (repeat (first | refine And.intro (by omega) ?_ | refine And.intro ?_ (by omega))))
      intro _
      refine l_17_113 (by omega) hN ?_
      (simp only [wp, wq, wi, w_iload, w_lload, w_aload, w_istore, w_astore, w_lstore, w_iinc, w_ic, w_lc, w_rc, w_i2, w_l2, w_idv, w_ldv, w_lcmp, w_i2l, w_i2c, w_dup, w_dup2, w_pop, w_obj, w_max, w_if, w_icmp, w_tsw, w_lsw, w_getI, w_getR, w_putI, w_putR, w_ald, w_sld, w_slen, w_ast, w_aald, w_aast, w_new, w_newa, w_mna, w_cpy, w_call, w_ret, w_lret, w_vret, rcv, cnd, nlb, pcats, pcat, inR, inL, ixIn, arOk, List.getElem?_cons_zero, List.getElem?_cons_succ, List.set_cons_zero, List.set_cons_succ, List.length_cons, List.length_nil, List.take_succ_cons, List.take_zero, List.drop_succ_cons, List.drop_zero, List.reverse_cons, List.reverse_nil, List.nil_append, List.cons_append, List.append_nil, Option.toList, Nat.reduceDiv, Nat.reduceMod, Nat.reduceAdd, Nat.reduceLT, Nat.reduceLeDiff, Nat.zero_add, true_and, and_true, and_self, Int.toNat_natCast, Int.reduceToNat, true_or, or_true, eq_self, Int.reduceEq, Int.reduceLE, Int.reduceLT, Int.reduceNeg, Int.reduceAdd, Int.reduceSub, Int.reduceMul, Int.reduceDiv, Nat.reduceEqDiff, Nat.reduceMul, Nat.reduceSub, Qn, Nat.add_zero, Nat.le_refl, reduceIte, Option.map, Bool.false_eq_true, forall_const, not_true, not_false_iff, false_implies, implies_true, k_17_0, k_17_56, k_17_107, k_17_113, k_17_119, q_17_43, q_17_46, g_13.2.2.2, g_15.2.2.2, g_18.2.2.2, g_19.2.2.2]; (repeat (first | refine And.intro (by omega) ?_ | refine And.intro ?_ (by omega))))
      exact ih _ _ (by omega) hR _
    · intro b hb ih2 t M' ht hR
      subst ht
      have d1 : (8 * a + b) / 8 = a := by omega
      have d2 : (8 * a + b) % 8 = b := by omega
      have blk := m2_blk (o0 := opB w L 0) (o1 := opB w L 1) (k := 8 * a + b) (S := Sv2 w L) 64 (by omega)
      rw [show 64 * (8 * a + b) + 64 = 64 * (8 * a + b + 1) by omega] at blk
      have hC' : CW M' 1 w := CW_rows hI hC (fun a q q2 => hR.1 a (by omega) (by omega) (by omega) (by omega) (by omega))
      have e0 : M' 259 0 = (opB w L 0 : Nat) := by rw [hR.1 259 (by omega) (by omega) (by omega) (by omega) (by omega)]; exact o0
      have e1 : M' 259 1 = (opB w L 1 : Nat) := by rw [hR.1 259 (by omega) (by omega) (by omega) (by omega) (by omega)]; exact o1
      refine l_17_56 (by omega) hN ?_
      (simp only [wp, wq, wi, w_iload, w_lload, w_aload, w_istore, w_astore, w_lstore, w_iinc, w_ic, w_lc, w_rc, w_i2, w_l2, w_idv, w_ldv, w_lcmp, w_i2l, w_i2c, w_dup, w_dup2, w_pop, w_obj, w_max, w_if, w_icmp, w_tsw, w_lsw, w_getI, w_getR, w_putI, w_putR, w_ald, w_sld, w_slen, w_ast, w_aald, w_aast, w_new, w_newa, w_mna, w_cpy, w_call, w_ret, w_lret, w_vret, rcv, cnd, nlb, pcats, pcat, inR, inL, ixIn, arOk, List.getElem?_cons_zero, List.getElem?_cons_succ, List.set_cons_zero, List.set_cons_succ, List.length_cons, List.length_nil, List.take_succ_cons, List.take_zero, List.drop_succ_cons, List.drop_zero, List.reverse_cons, List.reverse_nil, List.nil_append, List.cons_append, List.append_nil, Option.toList, Nat.reduceDiv, Nat.reduceMod, Nat.reduceAdd, Nat.reduceLT, Nat.reduceLeDiff, Nat.zero_add, true_and, and_true, and_self, Int.toNat_natCast, Int.reduceToNat, true_or, or_true, eq_self, Int.reduceEq, Int.reduceLE, Int.reduceLT, Int.reduceNeg, Int.reduceAdd, Int.reduceSub, Int.reduceMul, Int.reduceDiv, Nat.reduceEqDiff, Nat.reduceMul, Nat.reduceSub, Qn, Nat.add_zero, Nat.le_refl, reduceIte, Option.map, Bool.false_eq_true, forall_const, not_true, not_false_iff, false_implies, implies_true, k_17_0, k_17_56, k_17_107, k_17_113, k_17_119, q_17_43, q_17_46, g_13.2.2.2, g_15.2.2.2, g_18.2.2.2, g_19.2.2.2, rs_s0, rs_s127, rs_s254, rs_s255, rs_s256, rs_s257, rs_s258, rs_s259, rs_s260, rs_s261, rs_s262, rs_s263, rs_s264, rs_s265, rs_s266, rs_s267, rs_s268, rs_s269, rs_s270, rs_s271, rs_s272, rs_s273, rs_s274, rs_s275, rs_s276, rs_s277, rs_r0_0, rs_r0_1, rs_r0_2, rs_r0_3, rs_r0_4, rs_r0_5, rs_r0_6, rs_r0_7, rs_r127_0, rs_r127_1, rs_r255_0, rs_r255_4, rs_r258_0, rs_r258_1, rs_r258_2, rs_r258_3, rs_r260_0, rs_r260_1, rs_r265_0, rs_r268_0, rs_r268_1, rs_r268_2, rs_r268_3, rs_r268_4, rs_r268_5, rs_r268_7, rs_r268_8, rs_r268_13]; (repeat (first | refine And.intro (by omega) ?_ | refine And.intro ?_ (by omega))))
      intro _
      refine C_isOpen (by omega) _ _ e0 e1 ⟨opB_lt hI, opB_lt hI⟩ ha hb (fun q => ?_) (fun q => ?_)
      · have q' : Pc1 (opB w L 0) (opB w L 1) (8 * a + b) := by
          unfold Pc1
          rw [d1, d2]
          exact q
        have hA : PA w (ahF w (bel w) a b) := ah_b hI q (bel_b hI)
        obtain ⟨y, y1, y2, y3, y4, y5⟩ := ep_mn (L := L) hI hA
        have sb := Sv_b hI hA y2
        have e5 : Sv2 w L (8 * a + b) = Sv w L (ahF w (bel w) a b) := by
          funext c
          unfold Sv2
          rw [d1, d2]
        rw [e5, y3] at blk
        simp only at blk
        (simp only [wp, wq, wi, w_iload, w_lload, w_aload, w_istore, w_astore, w_lstore, w_iinc, w_ic, w_lc, w_rc, w_i2, w_l2, w_idv, w_ldv, w_lcmp, w_i2l, w_i2c, w_dup, w_dup2, w_pop, w_obj, w_max, w_if, w_icmp, w_tsw, w_lsw, w_getI, w_getR, w_putI, w_putR, w_ald, w_sld, w_slen, w_ast, w_aald, w_aast, w_new, w_newa, w_mna, w_cpy, w_call, w_ret, w_lret, w_vret, rcv, cnd, nlb, pcats, pcat, inR, inL, ixIn, arOk, List.getElem?_cons_zero, List.getElem?_cons_succ, List.set_cons_zero, List.set_cons_succ, List.length_cons, List.length_nil, List.take_succ_cons, List.take_zero, List.drop_succ_cons, List.drop_zero, List.reverse_cons, List.reverse_nil, List.nil_append, List.cons_append, List.append_nil, Option.toList, Nat.reduceDiv, Nat.reduceMod, Nat.reduceAdd, Nat.reduceLT, Nat.reduceLeDiff, Nat.zero_add, true_and, and_true, and_self, Int.toNat_natCast, Int.reduceToNat, true_or, or_true, eq_self, Int.reduceEq, Int.reduceLE, Int.reduceLT, Int.reduceNeg, Int.reduceAdd, Int.reduceSub, Int.reduceMul, Int.reduceDiv, Nat.reduceEqDiff, Nat.reduceMul, Nat.reduceSub, Qn, Nat.add_zero, Nat.le_refl, reduceIte, Option.map, Bool.false_eq_true, forall_const, not_true, not_false_iff, false_implies, implies_true, k_17_0, k_17_56, k_17_107, k_17_113, k_17_119, q_17_43, q_17_46, g_13.2.2.2, g_15.2.2.2, g_18.2.2.2, g_19.2.2.2, ne_eq, rs_s0, rs_s127, rs_s254, rs_s255, rs_s256, rs_s257, rs_s258, rs_s259, rs_s260, rs_s261, rs_s262, rs_s263, rs_s264, rs_s265, rs_s266, rs_s267, rs_s268, rs_s269, rs_s270, rs_s271, rs_s272, rs_s273, rs_s274, rs_s275, rs_s276, rs_s277, rs_r0_0, rs_r0_1, rs_r0_2, rs_r0_3, rs_r0_4, rs_r0_5, rs_r0_6, rs_r0_7, rs_r127_0, rs_r127_1, rs_r255_0, rs_r255_4, rs_r258_0, rs_r258_1, rs_r258_2, rs_r258_3, rs_r260_0, rs_r260_1, rs_r265_0, rs_r268_0, rs_r268_1, rs_r268_2, rs_r268_3, rs_r268_4, rs_r268_5, rs_r268_7, rs_r268_8, rs_r268_13, sk1]; (repeat (first | refine And.intro (by omega) ?_ | refine And.intro ?_ (by omega))))
        refine C_goAhead (by omega) hI hC' q ⟨ha, hb⟩ (fun M1 f1 r1 => ?_)
        have hC1 : CW M1 1 w := CW_rows hI hC' (fun a q q2 => f1 a (by omega))
        obtain ⟨x1, x2⟩ := ep_ext (L := L) (A := M1 263) (B := ahF w (bel w) a b) hI r1
        have pd1 : M1 258 4 = M' 258 4 := by rw [f1 258 (by omega)]
        have pdb : -1 ≤ M' 258 4 ∧ M' 258 4 ≤ 48 := by
          rcases hR.2.2 with ⟨z1, z2⟩ | ⟨z, z1, z2, z3, z4, z5⟩ <;> omega
        have cnd : (M' 258 4 = -1 ∨ Sv w L (ahF w (bel w) a b) y < M' 258 4) ↔ ((m2F (opB w L 0) (opB w L 1) (Sv2 w L) (64 * (8 * a + b))).1 = -1 ∨ Sv w L (ahF w (bel w) a b) y < (m2F (opB w L 0) (opB w L 1) (Sv2 w L) (64 * (8 * a + b))).2) := by
          rcases hR.2.2 with ⟨z1, z2⟩ | ⟨z, z1, z2, z3, z4, z5⟩
          · exact ⟨fun _ => Or.inl z1, fun _ => Or.inl z2⟩
          · rw [z3]
            omega
        (simp only [wp, wq, wi, w_iload, w_lload, w_aload, w_istore, w_astore, w_lstore, w_iinc, w_ic, w_lc, w_rc, w_i2, w_l2, w_idv, w_ldv, w_lcmp, w_i2l, w_i2c, w_dup, w_dup2, w_pop, w_obj, w_max, w_if, w_icmp, w_tsw, w_lsw, w_getI, w_getR, w_putI, w_putR, w_ald, w_sld, w_slen, w_ast, w_aald, w_aast, w_new, w_newa, w_mna, w_cpy, w_call, w_ret, w_lret, w_vret, rcv, cnd, nlb, pcats, pcat, inR, inL, ixIn, arOk, List.getElem?_cons_zero, List.getElem?_cons_succ, List.set_cons_zero, List.set_cons_succ, List.length_cons, List.length_nil, List.take_succ_cons, List.take_zero, List.drop_succ_cons, List.drop_zero, List.reverse_cons, List.reverse_nil, List.nil_append, List.cons_append, List.append_nil, Option.toList, Nat.reduceDiv, Nat.reduceMod, Nat.reduceAdd, Nat.reduceLT, Nat.reduceLeDiff, Nat.zero_add, true_and, and_true, and_self, Int.toNat_natCast, Int.reduceToNat, true_or, or_true, eq_self, Int.reduceEq, Int.reduceLE, Int.reduceLT, Int.reduceNeg, Int.reduceAdd, Int.reduceSub, Int.reduceMul, Int.reduceDiv, Nat.reduceEqDiff, Nat.reduceMul, Nat.reduceSub, Qn, Nat.add_zero, Nat.le_refl, reduceIte, Option.map, Bool.false_eq_true, forall_const, not_true, not_false_iff, false_implies, implies_true, k_17_0, k_17_56, k_17_107, k_17_113, k_17_119, q_17_43, q_17_46, g_13.2.2.2, g_15.2.2.2, g_18.2.2.2, g_19.2.2.2, rs_s0, rs_s127, rs_s254, rs_s255, rs_s256, rs_s257, rs_s258, rs_s259, rs_s260, rs_s261, rs_s262, rs_s263, rs_s264, rs_s265, rs_s266, rs_s267, rs_s268, rs_s269, rs_s270, rs_s271, rs_s272, rs_s273, rs_s274, rs_s275, rs_s276, rs_s277, rs_r0_0, rs_r0_1, rs_r0_2, rs_r0_3, rs_r0_4, rs_r0_5, rs_r0_6, rs_r0_7, rs_r127_0, rs_r127_1, rs_r255_0, rs_r255_4, rs_r258_0, rs_r258_1, rs_r258_2, rs_r258_3, rs_r260_0, rs_r260_1, rs_r265_0, rs_r268_0, rs_r268_1, rs_r268_2, rs_r268_3, rs_r268_4, rs_r268_5, rs_r268_7, rs_r268_8, rs_r268_13, sk1]; (repeat (first | refine And.intro (by omega) ?_ | refine And.intro ?_ (by omega))))
        refine C_endPlan (e := 1) (by omega) hI hC1 (by rw [f1 259 (by omega)]; exact e0) (by rw [f1 259 (by omega)]; exact e1) (fun x hx => by rw [r1 x hx]; exact hA x hx) (by omega) hL (by rw [pd1]; omega) (by rw [f1 261 (by omega), f1 262 (by omega)]; exact hR.2.1) (fun c M2 f2 g7 p1 p2 p3 => ?_) (fun c M2 f2 g7 => ?_)
        · rw [pd1, x2, y5, cnd] at c
          rw [if_pos ⟨q', by omega, c⟩] at blk
          rw [x2, y5] at p1
          rw [x1, y4] at p2
          (simp only [wp, wq, wi, w_iload, w_lload, w_aload, w_istore, w_astore, w_lstore, w_iinc, w_ic, w_lc, w_rc, w_i2, w_l2, w_idv, w_ldv, w_lcmp, w_i2l, w_i2c, w_dup, w_dup2, w_pop, w_obj, w_max, w_if, w_icmp, w_tsw, w_lsw, w_getI, w_getR, w_putI, w_putR, w_ald, w_sld, w_slen, w_ast, w_aald, w_aast, w_new, w_newa, w_mna, w_cpy, w_call, w_ret, w_lret, w_vret, rcv, cnd, nlb, pcats, pcat, inR, inL, ixIn, arOk, List.getElem?_cons_zero, List.getElem?_cons_succ, List.set_cons_zero, List.set_cons_succ, List.length_cons, List.length_nil, List.take_succ_cons, List.take_zero, List.drop_succ_cons, List.drop_zero, List.reverse_cons, List.reverse_nil, List.nil_append, List.cons_append, List.append_nil, Option.toList, Nat.reduceDiv, Nat.reduceMod, Nat.reduceAdd, Nat.reduceLT, Nat.reduceLeDiff, Nat.zero_add, true_and, and_true, and_self, Int.toNat_natCast, Int.reduceToNat, true_or, or_true, eq_self, Int.reduceEq, Int.reduceLE, Int.reduceLT, Int.reduceNeg, Int.reduceAdd, Int.reduceSub, Int.reduceMul, Int.reduceDiv, Nat.reduceEqDiff, Nat.reduceMul, Nat.reduceSub, Qn, Nat.add_zero, Nat.le_refl, reduceIte, Option.map, Bool.false_eq_true, forall_const, not_true, not_false_iff, false_implies, implies_true, k_17_0, k_17_56, k_17_107, k_17_113, k_17_119, q_17_43, q_17_46, g_13.2.2.2, g_15.2.2.2, g_18.2.2.2, g_19.2.2.2, ne_eq, rs_s0, rs_s127, rs_s254, rs_s255, rs_s256, rs_s257, rs_s258, rs_s259, rs_s260, rs_s261, rs_s262, rs_s263, rs_s264, rs_s265, rs_s266, rs_s267, rs_s268, rs_s269, rs_s270, rs_s271, rs_s272, rs_s273, rs_s274, rs_s275, rs_s276, rs_s277, rs_r0_0, rs_r0_1, rs_r0_2, rs_r0_3, rs_r0_4, rs_r0_5, rs_r0_6, rs_r0_7, rs_r127_0, rs_r127_1, rs_r255_0, rs_r255_4, rs_r258_0, rs_r258_1, rs_r258_2, rs_r258_3, rs_r260_0, rs_r260_1, rs_r265_0, rs_r268_0, rs_r268_1, rs_r268_2, rs_r268_3, rs_r268_4, rs_r268_5, rs_r268_7, rs_r268_8, rs_r268_13]; (repeat (first | refine And.intro (by omega) ?_ | refine And.intro ?_ (by omega))))
          refine ih2 _ _ (by omega) ⟨fun r r1 r2 r3 r4 r5 => ?_, ⟨?_, ?_⟩, Or.inr ⟨64 * (8 * a + b) + y, by omega, ?_, ?_, ?_, ?_, ?_⟩⟩
          · rw [mSt_row_ne r5, f2 r r1 r2 r3 r5, f1 r r4]
            exact hR.1 r r1 r2 r3 r4 r5
          · rw [mSt_row_ne (by omega)]
            exact g7.1
          · rw [mSt_row_ne (by omega)]
            exact g7.2
          · show (m2F (opB w L 0) (opB w L 1) (Sv2 w L) (64 * (8 * a + b + 1))).1 = _
            rw [blk]
            simp only
            omega
          · show _ = (m2F (opB w L 0) (opB w L 1) (Sv2 w L) (64 * (8 * a + b + 1))).2
            rw [blk, mSt_row_ne (by omega), p1]
          · rw [mSt_row_ne (by omega), p1]
            exact sb
          · rw [mSt_same]
            omega
          · rw [mSt_col_ne (by omega), p2]
            omega
        · rw [pd1, x2, y5, cnd] at c
          rw [if_neg (fun h => c h.2.2)] at blk
          (simp only [wp, wq, wi, w_iload, w_lload, w_aload, w_istore, w_astore, w_lstore, w_iinc, w_ic, w_lc, w_rc, w_i2, w_l2, w_idv, w_ldv, w_lcmp, w_i2l, w_i2c, w_dup, w_dup2, w_pop, w_obj, w_max, w_if, w_icmp, w_tsw, w_lsw, w_getI, w_getR, w_putI, w_putR, w_ald, w_sld, w_slen, w_ast, w_aald, w_aast, w_new, w_newa, w_mna, w_cpy, w_call, w_ret, w_lret, w_vret, rcv, cnd, nlb, pcats, pcat, inR, inL, ixIn, arOk, List.getElem?_cons_zero, List.getElem?_cons_succ, List.set_cons_zero, List.set_cons_succ, List.length_cons, List.length_nil, List.take_succ_cons, List.take_zero, List.drop_succ_cons, List.drop_zero, List.reverse_cons, List.reverse_nil, List.nil_append, List.cons_append, List.append_nil, Option.toList, Nat.reduceDiv, Nat.reduceMod, Nat.reduceAdd, Nat.reduceLT, Nat.reduceLeDiff, Nat.zero_add, true_and, and_true, and_self, Int.toNat_natCast, Int.reduceToNat, true_or, or_true, eq_self, Int.reduceEq, Int.reduceLE, Int.reduceLT, Int.reduceNeg, Int.reduceAdd, Int.reduceSub, Int.reduceMul, Int.reduceDiv, Nat.reduceEqDiff, Nat.reduceMul, Nat.reduceSub, Qn, Nat.add_zero, Nat.le_refl, reduceIte, Option.map, Bool.false_eq_true, forall_const, not_true, not_false_iff, false_implies, implies_true, k_17_0, k_17_56, k_17_107, k_17_113, k_17_119, q_17_43, q_17_46, g_13.2.2.2, g_15.2.2.2, g_18.2.2.2, g_19.2.2.2, ne_eq, rs_s0, rs_s127, rs_s254, rs_s255, rs_s256, rs_s257, rs_s258, rs_s259, rs_s260, rs_s261, rs_s262, rs_s263, rs_s264, rs_s265, rs_s266, rs_s267, rs_s268, rs_s269, rs_s270, rs_s271, rs_s272, rs_s273, rs_s274, rs_s275, rs_s276, rs_s277, rs_r0_0, rs_r0_1, rs_r0_2, rs_r0_3, rs_r0_4, rs_r0_5, rs_r0_6, rs_r0_7, rs_r127_0, rs_r127_1, rs_r255_0, rs_r255_4, rs_r258_0, rs_r258_1, rs_r258_2, rs_r258_3, rs_r260_0, rs_r260_1, rs_r265_0, rs_r268_0, rs_r268_1, rs_r268_2, rs_r268_3, rs_r268_4, rs_r268_5, rs_r268_7, rs_r268_8, rs_r268_13]; (repeat (first | refine And.intro (by omega) ?_ | refine And.intro ?_ (by omega))))
          refine l_17_107 (by omega) hN ?_
          (simp only [wp, wq, wi, w_iload, w_lload, w_aload, w_istore, w_astore, w_lstore, w_iinc, w_ic, w_lc, w_rc, w_i2, w_l2, w_idv, w_ldv, w_lcmp, w_i2l, w_i2c, w_dup, w_dup2, w_pop, w_obj, w_max, w_if, w_icmp, w_tsw, w_lsw, w_getI, w_getR, w_putI, w_putR, w_ald, w_sld, w_slen, w_ast, w_aald, w_aast, w_new, w_newa, w_mna, w_cpy, w_call, w_ret, w_lret, w_vret, rcv, cnd, nlb, pcats, pcat, inR, inL, ixIn, arOk, List.getElem?_cons_zero, List.getElem?_cons_succ, List.set_cons_zero, List.set_cons_succ, List.length_cons, List.length_nil, List.take_succ_cons, List.take_zero, List.drop_succ_cons, List.drop_zero, List.reverse_cons, List.reverse_nil, List.nil_append, List.cons_append, List.append_nil, Option.toList, Nat.reduceDiv, Nat.reduceMod, Nat.reduceAdd, Nat.reduceLT, Nat.reduceLeDiff, Nat.zero_add, true_and, and_true, and_self, Int.toNat_natCast, Int.reduceToNat, true_or, or_true, eq_self, Int.reduceEq, Int.reduceLE, Int.reduceLT, Int.reduceNeg, Int.reduceAdd, Int.reduceSub, Int.reduceMul, Int.reduceDiv, Nat.reduceEqDiff, Nat.reduceMul, Nat.reduceSub, Qn, Nat.add_zero, Nat.le_refl, reduceIte, Option.map, Bool.false_eq_true, forall_const, not_true, not_false_iff, false_implies, implies_true, k_17_0, k_17_56, k_17_107, k_17_113, k_17_119, q_17_43, q_17_46, g_13.2.2.2, g_15.2.2.2, g_18.2.2.2, g_19.2.2.2]; (repeat (first | refine And.intro (by omega) ?_ | refine And.intro ?_ (by omega))))
          exact ih2 _ _ (by omega) (RS_same hR (fun r r1 r2 r3 => by rw [f2 r r1 r2, f1 r r3]) g7 blk)
      · rw [if_neg (fun h => q (by have := h.1; unfold Pc1 at this; rw [d1, d2] at this; exact this))] at blk
        (simp only [wp, wq, wi, w_iload, w_lload, w_aload, w_istore, w_astore, w_lstore, w_iinc, w_ic, w_lc, w_rc, w_i2, w_l2, w_idv, w_ldv, w_lcmp, w_i2l, w_i2c, w_dup, w_dup2, w_pop, w_obj, w_max, w_if, w_icmp, w_tsw, w_lsw, w_getI, w_getR, w_putI, w_putR, w_ald, w_sld, w_slen, w_ast, w_aald, w_aast, w_new, w_newa, w_mna, w_cpy, w_call, w_ret, w_lret, w_vret, rcv, cnd, nlb, pcats, pcat, inR, inL, ixIn, arOk, List.getElem?_cons_zero, List.getElem?_cons_succ, List.set_cons_zero, List.set_cons_succ, List.length_cons, List.length_nil, List.take_succ_cons, List.take_zero, List.drop_succ_cons, List.drop_zero, List.reverse_cons, List.reverse_nil, List.nil_append, List.cons_append, List.append_nil, Option.toList, Nat.reduceDiv, Nat.reduceMod, Nat.reduceAdd, Nat.reduceLT, Nat.reduceLeDiff, Nat.zero_add, true_and, and_true, and_self, Int.toNat_natCast, Int.reduceToNat, true_or, or_true, eq_self, Int.reduceEq, Int.reduceLE, Int.reduceLT, Int.reduceNeg, Int.reduceAdd, Int.reduceSub, Int.reduceMul, Int.reduceDiv, Nat.reduceEqDiff, Nat.reduceMul, Nat.reduceSub, Qn, Nat.add_zero, Nat.le_refl, reduceIte, Option.map, Bool.false_eq_true, forall_const, not_true, not_false_iff, false_implies, implies_true, k_17_0, k_17_56, k_17_107, k_17_113, k_17_119, q_17_43, q_17_46, g_13.2.2.2, g_15.2.2.2, g_18.2.2.2, g_19.2.2.2, ne_eq]; (repeat (first | refine And.intro (by omega) ?_ | refine And.intro ?_ (by omega))))
        refine l_17_107 (by omega) hN ?_
        (simp only [wp, wq, wi, w_iload, w_lload, w_aload, w_istore, w_astore, w_lstore, w_iinc, w_ic, w_lc, w_rc, w_i2, w_l2, w_idv, w_ldv, w_lcmp, w_i2l, w_i2c, w_dup, w_dup2, w_pop, w_obj, w_max, w_if, w_icmp, w_tsw, w_lsw, w_getI, w_getR, w_putI, w_putR, w_ald, w_sld, w_slen, w_ast, w_aald, w_aast, w_new, w_newa, w_mna, w_cpy, w_call, w_ret, w_lret, w_vret, rcv, cnd, nlb, pcats, pcat, inR, inL, ixIn, arOk, List.getElem?_cons_zero, List.getElem?_cons_succ, List.set_cons_zero, List.set_cons_succ, List.length_cons, List.length_nil, List.take_succ_cons, List.take_zero, List.drop_succ_cons, List.drop_zero, List.reverse_cons, List.reverse_nil, List.nil_append, List.cons_append, List.append_nil, Option.toList, Nat.reduceDiv, Nat.reduceMod, Nat.reduceAdd, Nat.reduceLT, Nat.reduceLeDiff, Nat.zero_add, true_and, and_true, and_self, Int.toNat_natCast, Int.reduceToNat, true_or, or_true, eq_self, Int.reduceEq, Int.reduceLE, Int.reduceLT, Int.reduceNeg, Int.reduceAdd, Int.reduceSub, Int.reduceMul, Int.reduceDiv, Nat.reduceEqDiff, Nat.reduceMul, Nat.reduceSub, Qn, Nat.add_zero, Nat.le_refl, reduceIte, Option.map, Bool.false_eq_true, forall_const, not_true, not_false_iff, false_implies, implies_true, k_17_0, k_17_56, k_17_107, k_17_113, k_17_119, q_17_43, q_17_46, g_13.2.2.2, g_15.2.2.2, g_18.2.2.2, g_19.2.2.2]; (repeat (first | refine And.intro (by omega) ?_ | refine And.intro ?_ (by omega))))
        exact ih2 _ _ (by omega) (RS_same hR (fun _ _ _ _ => rfl) hR.2.1 blk)
end J42
