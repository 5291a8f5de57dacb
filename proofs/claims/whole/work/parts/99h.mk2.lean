/-! THE MAKING: World -/
def wdO (o : Nat) (l : OL) : OL := (1, o, 9, o + 22) :: (0, o + 22, 1, 0) :: (1, o, 8, o + 17) :: evOp (o + 17) ((0, o + 17, 1, 0) :: (1, o, 7, o + 13) :: caO (o + 13) ((0, o + 13, 1, 0) :: (1, o, 6, o + 12) :: (0, o + 12, 1, 0) :: (1, o, 5, o + 11) :: (0, o + 11, 1, 0) :: (1, o, 4, o + 10) :: (0, o + 10, 1, 0) :: (1, o, 3, o + 3) :: (2, o + 3, 6, 0) :: (0, o + 3, 7, 0) :: (1, o, 2, o + 2) :: (0, o + 2, 1, 0) :: (1, o, 1, o + 1) :: (0, o + 1, 1, 0) :: l))
def evs (o : Nat) (l : OL) : Nat → OL
  | 0 => wdO o l
  | i + 1 => (1, o + 22, i, o + 23 + 5 * i) :: evOp (o + 23 + 5 * i) ((0, o + 23 + 5 * i, 1, 0) :: evs o l i)
theorem evs_9 {o : Nat} {l : OL} : ∀ i, RO (evs o l i) o 9 = some (o + 22)
  | 0 => by
    show (if o = o ∧ 9 = 9 then some (o + 22) else _) = _
    rw [if_pos ⟨rfl, rfl⟩]
  | i + 1 => by
    show RO ((1, o + 22, i, o + 23 + 5 * i) :: evOp (o + 23 + 5 * i) ((0, o + 23 + 5 * i, 1, 0) :: evs o l i)) o 9 = _
    simp only [RO]
    rw [if_neg (by omega), if_neg (by omega), if_neg (by omega), if_neg (by omega), if_neg (by omega), if_neg (by omega), if_neg (by omega), if_neg (by omega), if_neg (by omega), if_neg (by omega)]
    exact evs_9 i
theorem CW_ini {M M' : Nat → Nat → Int} {o N : Nat} {w : Nat → Int} (hn6 : 1 ≤ N ∧ N ≤ 6) (hz : ∀ a, o ≤ a → a < o + 63 → ∀ j, M a j = 0) (hB : BG M' o N) (hF : ∀ a, a < o ∨ (o + 14 ≤ a ∧ a < o + 17) ∨ o + 23 ≤ a → M' a = M a) : CW M' o (opNew w N) := by
  obtain ⟨b1, b2, b3, b4, b5, b6⟩ := hB
  have e0 : anewB (N : Int) 0 = N := rfl
  refine ⟨⟨?_, ?_, ?_, ?_⟩, fun x hx => ⟨?_, ?_, ?_⟩, fun x hx => ?_, fun x hx y hy => ?_, fun i hi => ?_, fun k hk => ⟨?_, fun q => ?_⟩, fun e he => ⟨fun i hi => ?_, fun q => ?_⟩⟩
  · rw [opNew_lt (by omega), e0]
    exact b1
  · rw [opNew_lt (by omega), anew_0 (by omega)]
    exact b4
  · rw [opNew_lt (by omega), anew_0 (by omega)]
    exact b3
  · rw [opNew_lt (by omega), anew_0 (by omega)]
    exact b2
  · rw [opNew_lt (by omega), anew_b (by omega), if_pos (by omega)]
    exact (b5 x hx).2.2.1
  · rw [opNew_lt (by omega), anew_b (by omega), if_neg (by omega)]
    exact (b5 x hx).1
  · rw [opNew_lt (by omega), anew_b (by omega), if_neg (by omega)]
    exact (b5 x hx).2.1
  · rw [(b5 x hx).2.2.2.1]
    unfold farW
    rw [far_zero (fun a ha b hb => by rw [opNew_lt (by omega), anew_0 (by omega)]) (by rw [opNew_lt (by omega), e0]; omega)]
  · rw [opNew_lt (by omega), anew_0 (by omega)]
    exact (b5 x hx).2.2.2.2 y hy
  · have := b6 i hi
    have hi2 : i = 0 ∨ i = 1 := by omega
    rcases hi2 with rfl | rfl <;> rw [opNew_lt (by omega), opNew_lt (by omega), opNew_lt (by omega), opNew_lt (by omega), opNew_lt (by omega)] <;> exact this
  · rw [hF _ (by omega)]
    exact Or.inl (hz _ (by omega) (by omega) _)
  · rw [opNew_lt (by omega), anew_0 (by omega)] at q
    omega
  · rw [hF _ (by omega)]
    exact Or.inl (hz _ (by omega) (by omega) _)
  · rw [opNew_lt (by omega), anew_0 (by omega)] at q
    omega
section MK2
variable {d o : Nat} {l : OL} {M : Nat → Nat → Int} {Qp : PQ} {lq : Launch}
theorem L_105 (hd : 6 ≤ d) (ho : o + 63 ≤ 278) (hz : ZM o M) (hW : WS (o + 63) (RO (evs o l 8)) o) (hq : ∀ M', (∀ w, CW M' o (opNew w 4)) → FR o M M' → Qp none (o + 63, RO (evs o l 8), M')) : ∀ (f i : Nat), i + f = 8 → At lq d 105 (o + 1) (Qn (o + 1 + 62) Qp) 87 [some (.inr (.inr (some o))), some (.inl (i : Int))] [] (o + 23 + 5 * i, RO (evs o l i), M)
  | 0, i, e => by
    obtain rfl : i = 8 := by omega
    have hN : o + 1 + 62 ≤ NC := by show _ ≤ 278; omega
    refine l_105_87 (by omega) hN ?_
    (simp only [wp, wq, wi, w_iload, w_lload, w_aload, w_istore, w_astore, w_lstore, w_iinc, w_ic, w_lc, w_rc, w_i2, w_l2, w_idv, w_ldv, w_lcmp, w_i2l, w_i2c, w_dup, w_dup2, w_pop, w_obj, w_max, w_if, w_icmp, w_tsw, w_lsw, w_getI, w_getR, w_putI, w_putR, w_ald, w_sld, w_slen, w_ast, w_aald, w_aast, w_new, w_newa, w_mna, w_cpy, w_call, w_ret, w_lret, w_vret, rcv, cnd, nlb, pcats, pcat, inR, inL, ixIn, arOk, List.getElem?_cons_zero, List.getElem?_cons_succ, List.set_cons_zero, List.set_cons_succ, List.length_cons, List.length_nil, List.take_succ_cons, List.take_zero, List.drop_succ_cons, List.drop_zero, List.reverse_cons, List.reverse_nil, List.nil_append, List.cons_append, List.append_nil, Option.toList, Nat.reduceDiv, Nat.reduceMod, Nat.reduceAdd, Nat.reduceLT, Nat.reduceLeDiff, Nat.zero_add, true_and, and_true, and_self, Int.toNat_natCast, Int.reduceToNat, true_or, or_true, eq_self, Int.reduceEq, Int.reduceLE, Int.reduceLT, Int.reduceNeg, Int.reduceAdd, Int.reduceSub, Int.reduceMul, Int.reduceDiv, Nat.reduceEqDiff, Nat.reduceMul, Nat.reduceSub, Qn, Nat.add_zero, Nat.le_refl, reduceIte, Option.map, Bool.false_eq_true, forall_const, not_true, not_false_iff, false_implies, implies_true, k_105_87, k_105_112, q_105_0, g_48.2.2.2, g_100.2.2.2, g_101.2.2.2, Nat.add_assoc]; (repeat (first | refine And.intro (by omega) ?_ | refine And.intro ?_ (by omega))))
    intro _
    refine l_105_112 (by omega) hN ?_
    (simp only [wp, wq, wi, w_iload, w_lload, w_aload, w_istore, w_astore, w_lstore, w_iinc, w_ic, w_lc, w_rc, w_i2, w_l2, w_idv, w_ldv, w_lcmp, w_i2l, w_i2c, w_dup, w_dup2, w_pop, w_obj, w_max, w_if, w_icmp, w_tsw, w_lsw, w_getI, w_getR, w_putI, w_putR, w_ald, w_sld, w_slen, w_ast, w_aald, w_aast, w_new, w_newa, w_mna, w_cpy, w_call, w_ret, w_lret, w_vret, rcv, cnd, nlb, pcats, pcat, inR, inL, ixIn, arOk, List.getElem?_cons_zero, List.getElem?_cons_succ, List.set_cons_zero, List.set_cons_succ, List.length_cons, List.length_nil, List.take_succ_cons, List.take_zero, List.drop_succ_cons, List.drop_zero, List.reverse_cons, List.reverse_nil, List.nil_append, List.cons_append, List.append_nil, Option.toList, Nat.reduceDiv, Nat.reduceMod, Nat.reduceAdd, Nat.reduceLT, Nat.reduceLeDiff, Nat.zero_add, true_and, and_true, and_self, Int.toNat_natCast, Int.reduceToNat, true_or, or_true, eq_self, Int.reduceEq, Int.reduceLE, Int.reduceLT, Int.reduceNeg, Int.reduceAdd, Int.reduceSub, Int.reduceMul, Int.reduceDiv, Nat.reduceEqDiff, Nat.reduceMul, Nat.reduceSub, Qn, Nat.add_zero, Nat.le_refl, reduceIte, Option.map, Bool.false_eq_true, forall_const, not_true, not_false_iff, false_implies, implies_true, k_105_87, k_105_112, q_105_0, g_48.2.2.2, g_100.2.2.2, g_101.2.2.2, Nat.add_assoc, wt_s0 hW.1]; (repeat (first | refine And.intro (by omega) ?_ | refine And.intro ?_ (by omega))))
    refine C_begin (N := 4) (o := o) (by omega) (show o + 63 ≤ NC by show _ ≤ 278; omega) hW.1 (by omega) (fun M' b1 b2 => ?_)
    (simp only [wp, wq, wi, w_iload, w_lload, w_aload, w_istore, w_astore, w_lstore, w_iinc, w_ic, w_lc, w_rc, w_i2, w_l2, w_idv, w_ldv, w_lcmp, w_i2l, w_i2c, w_dup, w_dup2, w_pop, w_obj, w_max, w_if, w_icmp, w_tsw, w_lsw, w_getI, w_getR, w_putI, w_putR, w_ald, w_sld, w_slen, w_ast, w_aald, w_aast, w_new, w_newa, w_mna, w_cpy, w_call, w_ret, w_lret, w_vret, rcv, cnd, nlb, pcats, pcat, inR, inL, ixIn, arOk, List.getElem?_cons_zero, List.getElem?_cons_succ, List.set_cons_zero, List.set_cons_succ, List.length_cons, List.length_nil, List.take_succ_cons, List.take_zero, List.drop_succ_cons, List.drop_zero, List.reverse_cons, List.reverse_nil, List.nil_append, List.cons_append, List.append_nil, Option.toList, Nat.reduceDiv, Nat.reduceMod, Nat.reduceAdd, Nat.reduceLT, Nat.reduceLeDiff, Nat.zero_add, true_and, and_true, and_self, Int.toNat_natCast, Int.reduceToNat, true_or, or_true, eq_self, Int.reduceEq, Int.reduceLE, Int.reduceLT, Int.reduceNeg, Int.reduceAdd, Int.reduceSub, Int.reduceMul, Int.reduceDiv, Nat.reduceEqDiff, Nat.reduceMul, Nat.reduceSub, Qn, Nat.add_zero, Nat.le_refl, reduceIte, Option.map, Bool.false_eq_true, forall_const, not_true, not_false_iff, false_implies, implies_true, k_105_87, k_105_112, q_105_0, g_48.2.2.2, g_100.2.2.2, g_101.2.2.2, Nat.add_assoc]; (repeat (first | refine And.intro (by omega) ?_ | refine And.intro ?_ (by omega))))
    exact hq M' (fun w => CW_ini (N := 4) (by omega) (fun a h1 h2 j => hz a h1 (by omega) j) b1 b2) (fun a ha => b2 a (by omega))
  | f + 1, i, e => by
    have hN : o + 1 + 62 ≤ NC := by show _ ≤ 278; omega
    have hi : i < 8 := by omega
    have h9 := evs_9 (o := o) (l := l) i
    obtain ⟨x1, x2, x3, x4, x5, x6, -⟩ := hW.2.2 i hi
    have y22 := wt_s22 hW.1
    refine l_105_87 (by omega) hN ?_
    (simp only [wp, wq, wi, w_iload, w_lload, w_aload, w_istore, w_astore, w_lstore, w_iinc, w_ic, w_lc, w_rc, w_i2, w_l2, w_idv, w_ldv, w_lcmp, w_i2l, w_i2c, w_dup, w_dup2, w_pop, w_obj, w_max, w_if, w_icmp, w_tsw, w_lsw, w_getI, w_getR, w_putI, w_putR, w_ald, w_sld, w_slen, w_ast, w_aald, w_aast, w_new, w_newa, w_mna, w_cpy, w_call, w_ret, w_lret, w_vret, rcv, cnd, nlb, pcats, pcat, inR, inL, ixIn, arOk, List.getElem?_cons_zero, List.getElem?_cons_succ, List.set_cons_zero, List.set_cons_succ, List.length_cons, List.length_nil, List.take_succ_cons, List.take_zero, List.drop_succ_cons, List.drop_zero, List.reverse_cons, List.reverse_nil, List.nil_append, List.cons_append, List.append_nil, Option.toList, Nat.reduceDiv, Nat.reduceMod, Nat.reduceAdd, Nat.reduceLT, Nat.reduceLeDiff, Nat.zero_add, true_and, and_true, and_self, Int.toNat_natCast, Int.reduceToNat, true_or, or_true, eq_self, Int.reduceEq, Int.reduceLE, Int.reduceLT, Int.reduceNeg, Int.reduceAdd, Int.reduceSub, Int.reduceMul, Int.reduceDiv, Nat.reduceEqDiff, Nat.reduceMul, Nat.reduceSub, Qn, Nat.add_zero, Nat.le_refl, reduceIte, Option.map, Bool.false_eq_true, forall_const, not_true, not_false_iff, false_implies, implies_true, k_105_87, k_105_112, q_105_0, g_48.2.2.2, g_100.2.2.2, g_101.2.2.2, mAl_RO, mRf_RO, wt_s0 hW.1, x2, h9, y22]; (repeat (first | refine And.intro (by omega) ?_ | refine And.intro ?_ (by omega))))
    intro _
    (repeat (first | refine And.intro (by omega) ?_ | refine And.intro ?_ (by omega)))
    refine C_101 (c := o + 23 + 5 * i) (by omega) (by omega) ?_ ⟨x2, x3, x4, x5, x6⟩ ?_
    · exact fun a h1 h2 j => by
        rw [mZ_id hz (by omega) (by omega)]
        exact hz a (by omega) h2 j
    rw [mZ_id hz (by omega) (by omega)]
    (simp only [wp, wq, wi, w_iload, w_lload, w_aload, w_istore, w_astore, w_lstore, w_iinc, w_ic, w_lc, w_rc, w_i2, w_l2, w_idv, w_ldv, w_lcmp, w_i2l, w_i2c, w_dup, w_dup2, w_pop, w_obj, w_max, w_if, w_icmp, w_tsw, w_lsw, w_getI, w_getR, w_putI, w_putR, w_ald, w_sld, w_slen, w_ast, w_aald, w_aast, w_new, w_newa, w_mna, w_cpy, w_call, w_ret, w_lret, w_vret, rcv, cnd, nlb, pcats, pcat, inR, inL, ixIn, arOk, List.getElem?_cons_zero, List.getElem?_cons_succ, List.set_cons_zero, List.set_cons_succ, List.length_cons, List.length_nil, List.take_succ_cons, List.take_zero, List.drop_succ_cons, List.drop_zero, List.reverse_cons, List.reverse_nil, List.nil_append, List.cons_append, List.append_nil, Option.toList, Nat.reduceDiv, Nat.reduceMod, Nat.reduceAdd, Nat.reduceLT, Nat.reduceLeDiff, Nat.zero_add, true_and, and_true, and_self, Int.toNat_natCast, Int.reduceToNat, true_or, or_true, eq_self, Int.reduceEq, Int.reduceLE, Int.reduceLT, Int.reduceNeg, Int.reduceAdd, Int.reduceSub, Int.reduceMul, Int.reduceDiv, Nat.reduceEqDiff, Nat.reduceMul, Nat.reduceSub, Qn, Nat.add_zero, Nat.le_refl, reduceIte, Option.map, Bool.false_eq_true, forall_const, not_true, not_false_iff, false_implies, implies_true, k_105_87, k_105_112, q_105_0, g_48.2.2.2, g_100.2.2.2, g_101.2.2.2, mAl_RO, mRf_RO, wt_s0 hW.1, x2, h9, y22]; (repeat (first | refine And.intro (by omega) ?_ | refine And.intro ?_ (by omega))))
    have := L_105 hd ho hz hW hq f (i + 1) (by omega)
    exact this
theorem C_105 (hd : 6 ≤ d) (ho : o + 63 ≤ 278) (hz : ZM o M) (hW : WS (o + 63) (RO (evs o l 8)) o) (hq : ∀ M', (∀ w, CW M' o (opNew w 4)) → FR o M M' → Qp none (o + 63, RO (evs o l 8), M')) : CallP d 105 [.inr (.inr (some o))] (o + 1, RO l, M) Qp := by
  have hN : o + 1 + 62 ≤ NC := by show _ ≤ 278; omega
  have eZ : ∀ m k, o ≤ m → m + k ≤ 278 → mZ M m k = M := fun m k h1 h2 => mZ_id hz h1 h2
  refine u_105 (by omega) hN rfl (fun lq => ?_)
  (simp only [wp, wq, wi, w_iload, w_lload, w_aload, w_istore, w_astore, w_lstore, w_iinc, w_ic, w_lc, w_rc, w_i2, w_l2, w_idv, w_ldv, w_lcmp, w_i2l, w_i2c, w_dup, w_dup2, w_pop, w_obj, w_max, w_if, w_icmp, w_tsw, w_lsw, w_getI, w_getR, w_putI, w_putR, w_ald, w_sld, w_slen, w_ast, w_aald, w_aast, w_new, w_newa, w_mna, w_cpy, w_call, w_ret, w_lret, w_vret, rcv, cnd, nlb, pcats, pcat, inR, inL, ixIn, arOk, List.getElem?_cons_zero, List.getElem?_cons_succ, List.set_cons_zero, List.set_cons_succ, List.length_cons, List.length_nil, List.take_succ_cons, List.take_zero, List.drop_succ_cons, List.drop_zero, List.reverse_cons, List.reverse_nil, List.nil_append, List.cons_append, List.append_nil, Option.toList, Nat.reduceDiv, Nat.reduceMod, Nat.reduceAdd, Nat.reduceLT, Nat.reduceLeDiff, Nat.zero_add, true_and, and_true, and_self, Int.toNat_natCast, Int.reduceToNat, true_or, or_true, eq_self, Int.reduceEq, Int.reduceLE, Int.reduceLT, Int.reduceNeg, Int.reduceAdd, Int.reduceSub, Int.reduceMul, Int.reduceDiv, Nat.reduceEqDiff, Nat.reduceMul, Nat.reduceSub, Qn, Nat.add_zero, Nat.le_refl, reduceIte, Option.map, Bool.false_eq_true, forall_const, not_true, not_false_iff, false_implies, implies_true, k_105_87, k_105_112, q_105_0, g_48.2.2.2, g_100.2.2.2, g_101.2.2.2, mAl_RO, mRf_RO, mRows_RO, Nat.add_assoc, wt_s0 hW.1, wt_s1 hW.1, wt_s2 hW.1, wt_s3 hW.1, wt_s10 hW.1, wt_s11 hW.1, wt_s12 hW.1, wt_s13 hW.1, wt_s17 hW.1, wt_s22 hW.1]; (repeat (first | refine And.intro (by omega) ?_ | refine And.intro ?_ (by omega))))
  refine And.intro (And.intro (fun i hi => ?_) (by omega)) ?_
  · have : i = 0 ∨ i = 1 ∨ i = 2 ∨ i = 3 ∨ i = 4 ∨ i = 5 := by omega
    rcases this with rfl | rfl | rfl | rfl | rfl | rfl
    · exact wt_s4 hW.1
    · exact wt_s5 hW.1
    · exact wt_s6 hW.1
    · exact wt_s7 hW.1
    · exact wt_s8 hW.1
    · exact wt_s9 hW.1
  (repeat (first | refine And.intro (by omega) ?_ | refine And.intro ?_ (by omega)))
  simp (disch := omega) only [eZ]
  refine C_100 (c := o + 13) (by omega) (by omega) (fun a h1 h2 j => hz a (by omega) h2 j) ⟨wt_s13 hW.1, wt_s14 hW.1, wt_s15 hW.1, wt_s16 hW.1⟩ ?_
  (simp only [wp, wq, wi, w_iload, w_lload, w_aload, w_istore, w_astore, w_lstore, w_iinc, w_ic, w_lc, w_rc, w_i2, w_l2, w_idv, w_ldv, w_lcmp, w_i2l, w_i2c, w_dup, w_dup2, w_pop, w_obj, w_max, w_if, w_icmp, w_tsw, w_lsw, w_getI, w_getR, w_putI, w_putR, w_ald, w_sld, w_slen, w_ast, w_aald, w_aast, w_new, w_newa, w_mna, w_cpy, w_call, w_ret, w_lret, w_vret, rcv, cnd, nlb, pcats, pcat, inR, inL, ixIn, arOk, List.getElem?_cons_zero, List.getElem?_cons_succ, List.set_cons_zero, List.set_cons_succ, List.length_cons, List.length_nil, List.take_succ_cons, List.take_zero, List.drop_succ_cons, List.drop_zero, List.reverse_cons, List.reverse_nil, List.nil_append, List.cons_append, List.append_nil, Option.toList, Nat.reduceDiv, Nat.reduceMod, Nat.reduceAdd, Nat.reduceLT, Nat.reduceLeDiff, Nat.zero_add, true_and, and_true, and_self, Int.toNat_natCast, Int.reduceToNat, true_or, or_true, eq_self, Int.reduceEq, Int.reduceLE, Int.reduceLT, Int.reduceNeg, Int.reduceAdd, Int.reduceSub, Int.reduceMul, Int.reduceDiv, Nat.reduceEqDiff, Nat.reduceMul, Nat.reduceSub, Qn, Nat.add_zero, Nat.le_refl, reduceIte, Option.map, Bool.false_eq_true, forall_const, not_true, not_false_iff, false_implies, implies_true, k_105_87, k_105_112, q_105_0, g_48.2.2.2, g_100.2.2.2, g_101.2.2.2, mAl_RO, mRf_RO, mRows_RO, Nat.add_assoc, wt_s0 hW.1, wt_s13 hW.1, wt_s17 hW.1, wt_s22 hW.1]; (repeat (first | refine And.intro (by omega) ?_ | refine And.intro ?_ (by omega))))
  simp (disch := omega) only [eZ]
  refine C_101 (c := o + 17) (by omega) (by omega) (fun a h1 h2 j => hz a (by omega) h2 j) ⟨wt_s17 hW.1, wt_s18 hW.1, wt_s19 hW.1, wt_s20 hW.1, wt_s21 hW.1⟩ ?_
  (simp only [wp, wq, wi, w_iload, w_lload, w_aload, w_istore, w_astore, w_lstore, w_iinc, w_ic, w_lc, w_rc, w_i2, w_l2, w_idv, w_ldv, w_lcmp, w_i2l, w_i2c, w_dup, w_dup2, w_pop, w_obj, w_max, w_if, w_icmp, w_tsw, w_lsw, w_getI, w_getR, w_putI, w_putR, w_ald, w_sld, w_slen, w_ast, w_aald, w_aast, w_new, w_newa, w_mna, w_cpy, w_call, w_ret, w_lret, w_vret, rcv, cnd, nlb, pcats, pcat, inR, inL, ixIn, arOk, List.getElem?_cons_zero, List.getElem?_cons_succ, List.set_cons_zero, List.set_cons_succ, List.length_cons, List.length_nil, List.take_succ_cons, List.take_zero, List.drop_succ_cons, List.drop_zero, List.reverse_cons, List.reverse_nil, List.nil_append, List.cons_append, List.append_nil, Option.toList, Nat.reduceDiv, Nat.reduceMod, Nat.reduceAdd, Nat.reduceLT, Nat.reduceLeDiff, Nat.zero_add, true_and, and_true, and_self, Int.toNat_natCast, Int.reduceToNat, true_or, or_true, eq_self, Int.reduceEq, Int.reduceLE, Int.reduceLT, Int.reduceNeg, Int.reduceAdd, Int.reduceSub, Int.reduceMul, Int.reduceDiv, Nat.reduceEqDiff, Nat.reduceMul, Nat.reduceSub, Qn, Nat.add_zero, Nat.le_refl, reduceIte, Option.map, Bool.false_eq_true, forall_const, not_true, not_false_iff, false_implies, implies_true, k_105_87, k_105_112, q_105_0, g_48.2.2.2, g_100.2.2.2, g_101.2.2.2, mAl_RO, mRf_RO, mRows_RO, Nat.add_assoc, wt_s0 hW.1, wt_s13 hW.1, wt_s17 hW.1, wt_s22 hW.1]; (repeat (first | refine And.intro (by omega) ?_ | refine And.intro ?_ (by omega))))
  simp (disch := omega) only [eZ]
  exact L_105 hd ho hz hW hq 8 0 rfl
end MK2
