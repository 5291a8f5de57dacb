/-! THE TEXT: the class's read -/
section J58
variable {d k : Nat} {M : Nat → Nat → Int} {Qp : PQ} {T : Nat → Int} {n : Nat}
theorem rdF_b (hT : TB T n) (hn : n ≤ 150) : ∀ (f p it : Nat) (rf : Int) (w : Nat → Int), p ≤ n → 2 * it ≤ p → (rf = -1 ∨ (0 ≤ rf ∧ rf < it)) → -2000 ≤ (rdF (bt T n) f p it rf w).1 ∧ (rdF (bt T n) f p it rf w).1 ≤ 150
  | 0, p, it, rf, w, hp, hit, hrf => ⟨by show (-2000 : Int) ≤ 0; omega, by show (0 : Int) ≤ 150; omega⟩
  | f + 1, p, it, rf, w, hp, hit, hrf => by
    have hs := tS_p (T := T) hp hn
    have he := tE_p hT hp hn
    have hb := tE_b hT hp hn
    have rb := rnF_b hT hn (kF (wtF (bt T n) p)) (tE (bt T n) p) hb.2
    unfold rdF
    by_cases q0 : tO (bt T n) p = 0 ∧ it ≠ 0
    · rw [if_pos q0]
      constructor
      · show -2000 ≤ (if rf = -1 then (it : Int) else -1000 - rf)
        split <;> omega
      · show (if rf = -1 then (it : Int) else -1000 - rf) ≤ 150
        split <;> omega
    · rw [if_neg q0]
      by_cases q1 : wtF (bt T n) p = -1 ∨ ¬ (wtF (bt T n) p = 0 ↔ it = 0)
      · rw [if_pos q1]
        exact ⟨by show -2000 ≤ -10 - (tS (bt T n) p : Int); omega, by show -10 - (tS (bt T n) p : Int) ≤ 150; omega⟩
      · rw [if_neg q1]
        by_cases q2 : (rnF (bt T n) (kF (wtF (bt T n) p)) (tE (bt T n) p)).1 = 0
        · rw [if_pos q2]
          exact ⟨by show -2000 ≤ -10 - ((rnF (bt T n) (kF (wtF (bt T n) p)) (tE (bt T n) p)).2.1 : Int); omega, by show -10 - ((rnF (bt T n) (kF (wtF (bt T n) p)) (tE (bt T n) p)).2.1 : Int) ≤ 150; omega⟩
        · rw [if_neg q2]
          have so1 : tO (bt T n) p = 1 := Classical.byContradiction fun z => q1 (Or.inl (if_neg z))
          have h2 := he.2 (by omega)
          have h3 := rb.2.2.2.1 (by omega)
          by_cases q3 : rf = -1
          · rw [if_pos q3]
            split
            · exact rdF_b hT hn f _ _ _ _ (by omega) (by omega) (Or.inl rfl)
            · exact rdF_b hT hn f _ _ _ _ (by omega) (by omega) (Or.inr (by omega))
          · rw [if_neg q3]
            exact rdF_b hT hn f _ _ _ _ (by omega) (by omega) (by omega)
theorem C_tellTo {w : Nat → Int} (hd : 9 ≤ d) (hx : XT M T n) (hT : TB T n) (hn : n ≤ 150) (hsp : spP M) {RS : Int × (Nat → Int)} (hRS : rdF (bt T n) 200 0 0 (-1) w = RS) (hq : ∀ M', FWd M M' → spP M' → (0 < RS.1 → WI RS.2 ∧ CW M' 64 RS.2) → Qp (some (.inl RS.1)) (278, RT, M')) : CallP d 38 [.inr (.inr (some 255)), .inr (.inr (some 64))] (278, RT, M) Qp := by
  have hN : 278 ≤ NC := by decide
  refine u_38 (by omega) hN rfl rfl (fun l => ?_)
  (simp only [wp, wq, wi, w_iload, w_lload, w_aload, w_istore, w_astore, w_lstore, w_iinc, w_ic, w_lc, w_rc, w_i2, w_l2, w_idv, w_ldv, w_lcmp, w_i2l, w_i2c, w_dup, w_dup2, w_pop, w_obj, w_max, w_if, w_icmp, w_tsw, w_lsw, w_getI, w_getR, w_putI, w_putR, w_ald, w_sld, w_slen, w_ast, w_aald, w_aast, w_new, w_newa, w_mna, w_cpy, w_call, w_ret, w_lret, w_vret, rcv, cnd, nlb, pcats, pcat, inR, inL, ixIn, arOk, List.getElem?_cons_zero, List.getElem?_cons_succ, List.set_cons_zero, List.set_cons_succ, List.length_cons, List.length_nil, List.take_succ_cons, List.take_zero, List.drop_succ_cons, List.drop_zero, List.reverse_cons, List.reverse_nil, List.nil_append, List.cons_append, List.append_nil, Option.toList, Nat.reduceDiv, Nat.reduceMod, Nat.reduceAdd, Nat.reduceLT, Nat.reduceLeDiff, Nat.zero_add, true_and, and_true, and_self, Int.toNat_natCast, Int.reduceToNat, true_or, or_true, eq_self, Int.reduceEq, Int.reduceLE, Int.reduceLT, Int.reduceNeg, Int.reduceAdd, Int.reduceSub, Int.reduceMul, Int.reduceDiv, Nat.reduceEqDiff, Nat.reduceMul, Nat.reduceSub, Qn, Nat.add_zero, Nat.le_refl, reduceIte, Option.map, Bool.false_eq_true, forall_const, not_true, not_false_iff, false_implies, implies_true, k_38_9, k_38_34, k_38_47, k_38_48, k_38_65, k_38_66, k_38_74, k_38_75, k_38_87, k_38_95, k_38_112, k_38_118, k_38_127, k_38_132, q_38_0, g_39.2.2.2, g_41.2.2.2, g_42.2.2.2, g_46.2.2.2, rs_s0, rs_s127, rs_s254, rs_s255, rs_s256, rs_s257, rs_s258, rs_s259, rs_s260, rs_s261, rs_s262, rs_s263, rs_s264, rs_s265, rs_s266, rs_s267, rs_s268, rs_s269, rs_s270, rs_s271, rs_s272, rs_s273, rs_s274, rs_s275, rs_s276, rs_s277, rs_r0_0, rs_r0_1, rs_r0_2, rs_r0_3, rs_r0_4, rs_r0_5, rs_r0_6, rs_r0_7, rs_r127_0, rs_r127_1, rs_r255_0, rs_r255_4, rs_r258_0, rs_r258_1, rs_r258_2, rs_r258_3, rs_r260_0, rs_r260_1, rs_r265_0, rs_r268_0, rs_r268_1, rs_r268_2, rs_r268_3, rs_r268_4, rs_r268_5, rs_r268_7, rs_r268_8, rs_r268_13]; (repeat (first | refine And.intro (by omega) ?_ | refine And.intro ?_ (by omega))))
  refine L_tellTo (by omega) hx hT hn hq 200 0 0 (-1) w _ none none (by omega) (by omega) (by omega) (Or.inl rfl) ⟨fun r r1 r2 r3 => mSt_row_ne r1, mSt_col_ne (by omega)⟩ mSt_same ?_ (fun _ z => absurd rfl z) hRS
  obtain ⟨ws, a, b⟩ := hsp
  exact ⟨ws, a, CW_rows a b (fun r q q2 => mSt_row_ne (by omega))⟩
abbrev FRd (M M' : Nat → Nat → Int) : Prop := (∀ r, r ≠ 255 → r ≠ 257 → 127 ≤ r → M' r = M r) ∧ M' 255 1 = M 255 1
theorem C_cRead {w : Nat → Int} (hd : 10 ≤ d) (hx : XT M T n) (hT : TB T n) (hn : n ≤ 150) (hsp : spP M) {RS : Int × (Nat → Int)} (hRS : rdF (bt T n) 200 0 0 (-1) w = RS) (h1 : 0 < RS.1 → ∀ M', FRd M M' → spP M' → WI RS.2 → CW M' 1 RS.2 → Qp (some (.inl RS.1)) (278, RT, M')) (h0 : ¬ 0 < RS.1 → ∀ M', FRd M M' → spP M' → (∀ r, r < 64 → M' r = M r) → Qp (some (.inl RS.1)) (278, RT, M')) : CallP d 83 [.inr (.inr (some 0))] (278, RT, M) Qp := by
  have hN : 278 ≤ NC := by decide
  have bb := rdF_b hT hn 200 0 0 (-1) w (by omega) (by omega) (Or.inl rfl)
  rw [hRS] at bb
  refine s_83 (by omega) hN rfl (fun l => ?_)
  (simp only [wp, wq, wi, w_iload, w_lload, w_aload, w_istore, w_astore, w_lstore, w_iinc, w_ic, w_lc, w_rc, w_i2, w_l2, w_idv, w_ldv, w_lcmp, w_i2l, w_i2c, w_dup, w_dup2, w_pop, w_obj, w_max, w_if, w_icmp, w_tsw, w_lsw, w_getI, w_getR, w_putI, w_putR, w_ald, w_sld, w_slen, w_ast, w_aald, w_aast, w_new, w_newa, w_mna, w_cpy, w_call, w_ret, w_lret, w_vret, rcv, cnd, nlb, pcats, pcat, inR, inL, ixIn, arOk, List.getElem?_cons_zero, List.getElem?_cons_succ, List.set_cons_zero, List.set_cons_succ, List.length_cons, List.length_nil, List.take_succ_cons, List.take_zero, List.drop_succ_cons, List.drop_zero, List.reverse_cons, List.reverse_nil, List.nil_append, List.cons_append, List.append_nil, Option.toList, Nat.reduceDiv, Nat.reduceMod, Nat.reduceAdd, Nat.reduceLT, Nat.reduceLeDiff, Nat.zero_add, true_and, and_true, and_self, Int.toNat_natCast, Int.reduceToNat, true_or, or_true, eq_self, Int.reduceEq, Int.reduceLE, Int.reduceLT, Int.reduceNeg, Int.reduceAdd, Int.reduceSub, Int.reduceMul, Int.reduceDiv, Nat.reduceEqDiff, Nat.reduceMul, Nat.reduceSub, Qn, Nat.add_zero, Nat.le_refl, reduceIte, Option.map, Bool.false_eq_true, forall_const, not_true, not_false_iff, false_implies, implies_true, k_83_0, k_83_27, g_38.2.2.2, g_56.2.2.2, rs_s0, rs_s127, rs_s254, rs_s255, rs_s256, rs_s257, rs_s258, rs_s259, rs_s260, rs_s261, rs_s262, rs_s263, rs_s264, rs_s265, rs_s266, rs_s267, rs_s268, rs_s269, rs_s270, rs_s271, rs_s272, rs_s273, rs_s274, rs_s275, rs_s276, rs_s277, rs_r0_0, rs_r0_1, rs_r0_2, rs_r0_3, rs_r0_4, rs_r0_5, rs_r0_6, rs_r0_7, rs_r127_0, rs_r127_1, rs_r255_0, rs_r255_4, rs_r258_0, rs_r258_1, rs_r258_2, rs_r258_3, rs_r260_0, rs_r260_1, rs_r265_0, rs_r268_0, rs_r268_1, rs_r268_2, rs_r268_3, rs_r268_4, rs_r268_5, rs_r268_7, rs_r268_8, rs_r268_13]; (repeat (first | refine And.intro (by omega) ?_ | refine And.intro ?_ (by omega))))
  refine C_tellTo (by omega) hx hT hn hsp hRS (fun M1 F1 sp1 hw => ?_)
  (simp only [wp, wq, wi, w_iload, w_lload, w_aload, w_istore, w_astore, w_lstore, w_iinc, w_ic, w_lc, w_rc, w_i2, w_l2, w_idv, w_ldv, w_lcmp, w_i2l, w_i2c, w_dup, w_dup2, w_pop, w_obj, w_max, w_if, w_icmp, w_tsw, w_lsw, w_getI, w_getR, w_putI, w_putR, w_ald, w_sld, w_slen, w_ast, w_aald, w_aast, w_new, w_newa, w_mna, w_cpy, w_call, w_ret, w_lret, w_vret, rcv, cnd, nlb, pcats, pcat, inR, inL, ixIn, arOk, List.getElem?_cons_zero, List.getElem?_cons_succ, List.set_cons_zero, List.set_cons_succ, List.length_cons, List.length_nil, List.take_succ_cons, List.take_zero, List.drop_succ_cons, List.drop_zero, List.reverse_cons, List.reverse_nil, List.nil_append, List.cons_append, List.append_nil, Option.toList, Nat.reduceDiv, Nat.reduceMod, Nat.reduceAdd, Nat.reduceLT, Nat.reduceLeDiff, Nat.zero_add, true_and, and_true, and_self, Int.toNat_natCast, Int.reduceToNat, true_or, or_true, eq_self, Int.reduceEq, Int.reduceLE, Int.reduceLT, Int.reduceNeg, Int.reduceAdd, Int.reduceSub, Int.reduceMul, Int.reduceDiv, Nat.reduceEqDiff, Nat.reduceMul, Nat.reduceSub, Qn, Nat.add_zero, Nat.le_refl, reduceIte, Option.map, Bool.false_eq_true, forall_const, not_true, not_false_iff, false_implies, implies_true, k_83_0, k_83_27, g_38.2.2.2, g_56.2.2.2, rs_s0, rs_s127, rs_s254, rs_s255, rs_s256, rs_s257, rs_s258, rs_s259, rs_s260, rs_s261, rs_s262, rs_s263, rs_s264, rs_s265, rs_s266, rs_s267, rs_s268, rs_s269, rs_s270, rs_s271, rs_s272, rs_s273, rs_s274, rs_s275, rs_s276, rs_s277, rs_r0_0, rs_r0_1, rs_r0_2, rs_r0_3, rs_r0_4, rs_r0_5, rs_r0_6, rs_r0_7, rs_r127_0, rs_r127_1, rs_r255_0, rs_r255_4, rs_r258_0, rs_r258_1, rs_r258_2, rs_r258_3, rs_r260_0, rs_r260_1, rs_r265_0, rs_r268_0, rs_r268_1, rs_r268_2, rs_r268_3, rs_r268_4, rs_r268_5, rs_r268_7, rs_r268_8, rs_r268_13]; (repeat (first | refine And.intro (by omega) ?_ | refine And.intro ?_ (by omega))))
  refine ⟨fun q => ?_, fun q => ?_⟩
  · have := h0 (by omega) M1 ⟨fun r r1 r2 r3 => F1.1 r r1 r2 (by omega), F1.2⟩ sp1 (fun r hr => F1.1 r (by omega) (by omega) (by omega))
    refine l_83_27 (by omega) hN ?_
    (simp only [wp, wq, wi, w_iload, w_lload, w_aload, w_istore, w_astore, w_lstore, w_iinc, w_ic, w_lc, w_rc, w_i2, w_l2, w_idv, w_ldv, w_lcmp, w_i2l, w_i2c, w_dup, w_dup2, w_pop, w_obj, w_max, w_if, w_icmp, w_tsw, w_lsw, w_getI, w_getR, w_putI, w_putR, w_ald, w_sld, w_slen, w_ast, w_aald, w_aast, w_new, w_newa, w_mna, w_cpy, w_call, w_ret, w_lret, w_vret, rcv, cnd, nlb, pcats, pcat, inR, inL, ixIn, arOk, List.getElem?_cons_zero, List.getElem?_cons_succ, List.set_cons_zero, List.set_cons_succ, List.length_cons, List.length_nil, List.take_succ_cons, List.take_zero, List.drop_succ_cons, List.drop_zero, List.reverse_cons, List.reverse_nil, List.nil_append, List.cons_append, List.append_nil, Option.toList, Nat.reduceDiv, Nat.reduceMod, Nat.reduceAdd, Nat.reduceLT, Nat.reduceLeDiff, Nat.zero_add, true_and, and_true, and_self, Int.toNat_natCast, Int.reduceToNat, true_or, or_true, eq_self, Int.reduceEq, Int.reduceLE, Int.reduceLT, Int.reduceNeg, Int.reduceAdd, Int.reduceSub, Int.reduceMul, Int.reduceDiv, Nat.reduceEqDiff, Nat.reduceMul, Nat.reduceSub, Qn, Nat.add_zero, Nat.le_refl, reduceIte, Option.map, Bool.false_eq_true, forall_const, not_true, not_false_iff, false_implies, implies_true, k_83_0, k_83_27, g_38.2.2.2, g_56.2.2.2]; (repeat (first | refine And.intro (by omega) ?_ | refine And.intro ?_ (by omega))))
    exact this
  · obtain ⟨a, b⟩ := hw (by omega)
    (repeat (first | refine And.intro (by omega) ?_ | refine And.intro ?_ (by omega)))
    refine And.intro (by first | rfl | decide | exact ws_now.1.1) ?_
    refine C_copyFrom (o := 1) (o2 := 64) (by omega) hN ws_now ws_spare (by omega) a b (fun M2 c2 f2 => ?_)
    (simp only [wp, wq, wi, w_iload, w_lload, w_aload, w_istore, w_astore, w_lstore, w_iinc, w_ic, w_lc, w_rc, w_i2, w_l2, w_idv, w_ldv, w_lcmp, w_i2l, w_i2c, w_dup, w_dup2, w_pop, w_obj, w_max, w_if, w_icmp, w_tsw, w_lsw, w_getI, w_getR, w_putI, w_putR, w_ald, w_sld, w_slen, w_ast, w_aald, w_aast, w_new, w_newa, w_mna, w_cpy, w_call, w_ret, w_lret, w_vret, rcv, cnd, nlb, pcats, pcat, inR, inL, ixIn, arOk, List.getElem?_cons_zero, List.getElem?_cons_succ, List.set_cons_zero, List.set_cons_succ, List.length_cons, List.length_nil, List.take_succ_cons, List.take_zero, List.drop_succ_cons, List.drop_zero, List.reverse_cons, List.reverse_nil, List.nil_append, List.cons_append, List.append_nil, Option.toList, Nat.reduceDiv, Nat.reduceMod, Nat.reduceAdd, Nat.reduceLT, Nat.reduceLeDiff, Nat.zero_add, true_and, and_true, and_self, Int.toNat_natCast, Int.reduceToNat, true_or, or_true, eq_self, Int.reduceEq, Int.reduceLE, Int.reduceLT, Int.reduceNeg, Int.reduceAdd, Int.reduceSub, Int.reduceMul, Int.reduceDiv, Nat.reduceEqDiff, Nat.reduceMul, Nat.reduceSub, Qn, Nat.add_zero, Nat.le_refl, reduceIte, Option.map, Bool.false_eq_true, forall_const, not_true, not_false_iff, false_implies, implies_true, k_83_0, k_83_27, g_38.2.2.2, g_56.2.2.2]; (repeat (first | refine And.intro (by omega) ?_ | refine And.intro ?_ (by omega))))
    refine h1 (by omega) M2 ⟨fun r r1 r2 r3 => by rw [f2 r (by omega), F1.1 r r1 r2 (by omega)], by rw [f2 255 (by omega), F1.2]⟩ ?_ a c2
    exact ⟨_, a, CW_rows a b (fun r q q2 => f2 r (by omega))⟩
end J58
