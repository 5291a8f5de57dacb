/-! BOTH: digest -/
def dgF (w : Nat → Int) (base : Nat) (h : Int) : Nat → Int
  | 0 => h
  | k + 1 => 31 * dgF w base h k + w (base + k)
theorem dgA_f {w : Nat → Int} {h : Int} : ∀ n, dgA w h n = dgF w 4 h (3 * n)
  | 0 => rfl
  | n + 1 => by
    show 31 * (31 * (31 * dgA w h n + w (4 + 3 * n)) + w (5 + 3 * n)) + w (6 + 3 * n) = 31 * (31 * (31 * dgF w 4 h (3 * n) + w (4 + 3 * n)) + w (4 + (3 * n + 1))) + w (4 + (3 * n + 2))
    rw [dgA_f n, show 4 + (3 * n + 1) = 5 + 3 * n by omega, show 4 + (3 * n + 2) = 6 + 3 * n by omega]
theorem dgC_f {w : Nat → Int} {h : Int} : ∀ n, dgC w h n = dgF w 68 h (3 * n)
  | 0 => rfl
  | n + 1 => by
    show 31 * (31 * (31 * dgC w h n + w (68 + 3 * n)) + w (69 + 3 * n)) + w (70 + 3 * n) = 31 * (31 * (31 * dgF w 68 h (3 * n) + w (68 + 3 * n)) + w (68 + (3 * n + 1))) + w (68 + (3 * n + 2))
    rw [dgC_f n, show 68 + (3 * n + 1) = 69 + 3 * n by omega, show 68 + (3 * n + 2) = 70 + 3 * n by omega]
theorem dgB_f {w : Nat → Int} {h : Int} : dgB w h 2 = dgF w 58 h 10 := rfl
theorem wb_b {w : Nat → Int} (hI : WI w) {j : Nat} (hj : 4 ≤ j ∧ j < 22) : 0 ≤ w j ∧ w j ≤ 16 := by
  have t := hI.2.1 ((j - 4) / 3) (by omega)
  have : j = 4 + 3 * ((j - 4) / 3) ∨ j = 5 + 3 * ((j - 4) / 3) ∨ j = 6 + 3 * ((j - 4) / 3) := by omega
  rcases this with e | e | e
  · rw [← e] at t
    exact t.1
  · rw [← e] at t
    exact t.2.1
  · rw [← e] at t
    exact t.2.2
theorem wb_i {w : Nat → Int} (hI : WI w) {j : Nat} (hj : 58 ≤ j ∧ j < 68) : -1 ≤ w j ∧ w j ≤ 40 := by
  have h1 := hI.1
  unfold WIa at h1
  have t0 := hI.2.2.2.1 0 (by omega)
  have t1 := hI.2.2.2.1 1 (by omega)
  have a0 := t0.2.2
  have a1 := t1.2.2
  unfold toldP at a0 a1
  simp only [Nat.mul_zero, Nat.mul_one, Nat.add_zero, Nat.reduceAdd] at t0 t1 a0 a1
  have : j = 58 ∨ j = 59 ∨ j = 60 ∨ j = 61 ∨ j = 62 ∨ j = 63 ∨ j = 64 ∨ j = 65 ∨ j = 66 ∨ j = 67 := by omega
  rcases this with rfl | rfl | rfl | rfl | rfl | rfl | rfl | rfl | rfl | rfl <;> omega
theorem wb_c {w : Nat → Int} (hI : WI w) {j : Nat} (hj : 68 ≤ j ∧ (j : Int) < 68 + 3 * w 2) : 0 ≤ w j ∧ w j ≤ 6 := by
  have h1 := hI.1
  unfold WIa at h1
  have t := hI.2.2.2.2.1 ((j - 68) / 3) (by omega) (by omega)
  have : j = 68 + 3 * ((j - 68) / 3) ∨ j = 69 + 3 * ((j - 68) / 3) ∨ j = 70 + 3 * ((j - 68) / 3) := by omega
  rcases this with e | e | e
  · rw [← e] at t
    omega
  · rw [← e] at t
    omega
  · rw [← e] at t
    omega
section J17
variable {d k : Nat} {M : Nat → Nat → Int} {Qp : PQ}
def digH (M : Nat → Nat → Int) : Nat → Int
  | 0 => 911
  | n + 1 => 31 * digH M n + cntA M n
theorem C_cDigest (hd : 5 ≤ d) (hV : Inv k M) (h1 : Qp (some (.inr (.inl (dgW (M 269) (digH M 6))))) (278, RT, M)) : CallP d 117 [.inr (.inr (some 0))] (278, RT, M) Qp := by
  have hN : 278 ≤ NC := by decide
  refine u_117 (by omega) hN rfl (fun l => ?_)
  simp only [wp, wq, wi, w_iload, w_lload, w_aload, w_istore, w_astore, w_lstore, w_iinc, w_ic, w_lc, w_rc, w_i2, w_l2, w_idv, w_ldv, w_lcmp, w_i2l, w_i2c, w_dup, w_dup2, w_pop, w_obj, w_max, w_if, w_icmp, w_tsw, w_lsw, w_getI, w_getR, w_putI, w_putR, w_ald, w_sld, w_slen, w_ast, w_aald, w_aast, w_new, w_newa, w_mna, w_cpy, w_call, w_ret, w_lret, w_vret, rcv, cnd, nlb, pcats, pcat, inR, inL, ixIn, arOk, List.getElem?_cons_zero, List.getElem?_cons_succ, List.set_cons_zero, List.set_cons_succ, List.length_cons, List.length_nil, List.take_succ_cons, List.take_zero, List.drop_succ_cons, List.drop_zero, List.reverse_cons, List.reverse_nil, List.nil_append, List.cons_append, List.append_nil, Option.toList, Nat.reduceDiv, Nat.reduceMod, Nat.reduceAdd, Nat.reduceLT, Nat.reduceLeDiff, Nat.zero_add, true_and, and_true, and_self, Int.toNat_natCast, Int.reduceToNat, true_or, or_true, eq_self, Int.reduceEq, Int.reduceLE, Int.reduceLT, Int.reduceNeg, Int.reduceAdd, Int.reduceSub, Int.reduceMul, Int.reduceDiv, Nat.reduceEqDiff, Nat.reduceMul, Nat.reduceSub, Qn, Nat.add_zero, Nat.le_refl, reduceIte, Option.map, Bool.false_eq_true, forall_const, not_true, not_false_iff, false_implies, implies_true, k_117_6, k_117_30, q_117_0, g_75.2.2.2, g_116.2.2.2]
  refine down (N := 6) (P := fun i => ∀ (t : Int), t = i → At l d 117 278 (Qn 278 Qp) 6 [some (.inr (.inr (some 0))), some (.inr (.inl (digH M i))), none, some (.inl t)] [] (278, RT, M)) ?_ ?_ 6 0 rfl 0 rfl
  · intro t ht
    subst ht
    refine l_117_6 (by omega) hN ?_
    simp only [wp, wq, wi, w_iload, w_lload, w_aload, w_istore, w_astore, w_lstore, w_iinc, w_ic, w_lc, w_rc, w_i2, w_l2, w_idv, w_ldv, w_lcmp, w_i2l, w_i2c, w_dup, w_dup2, w_pop, w_obj, w_max, w_if, w_icmp, w_tsw, w_lsw, w_getI, w_getR, w_putI, w_putR, w_ald, w_sld, w_slen, w_ast, w_aald, w_aast, w_new, w_newa, w_mna, w_cpy, w_call, w_ret, w_lret, w_vret, rcv, cnd, nlb, pcats, pcat, inR, inL, ixIn, arOk, List.getElem?_cons_zero, List.getElem?_cons_succ, List.set_cons_zero, List.set_cons_succ, List.length_cons, List.length_nil, List.take_succ_cons, List.take_zero, List.drop_succ_cons, List.drop_zero, List.reverse_cons, List.reverse_nil, List.nil_append, List.cons_append, List.append_nil, Option.toList, Nat.reduceDiv, Nat.reduceMod, Nat.reduceAdd, Nat.reduceLT, Nat.reduceLeDiff, Nat.zero_add, true_and, and_true, and_self, Int.toNat_natCast, Int.reduceToNat, true_or, or_true, eq_self, Int.reduceEq, Int.reduceLE, Int.reduceLT, Int.reduceNeg, Int.reduceAdd, Int.reduceSub, Int.reduceMul, Int.reduceDiv, Nat.reduceEqDiff, Nat.reduceMul, Nat.reduceSub, Qn, Nat.add_zero, Nat.le_refl, reduceIte, Option.map, Bool.false_eq_true, forall_const, not_true, not_false_iff, false_implies, implies_true, k_117_6, k_117_30, q_117_0, g_75.2.2.2, g_116.2.2.2]
    refine ⟨by omega, fun _ => ?_, fun q => by omega⟩
    refine l_117_30 (by omega) hN ?_
    simp only [wp, wq, wi, w_iload, w_lload, w_aload, w_istore, w_astore, w_lstore, w_iinc, w_ic, w_lc, w_rc, w_i2, w_l2, w_idv, w_ldv, w_lcmp, w_i2l, w_i2c, w_dup, w_dup2, w_pop, w_obj, w_max, w_if, w_icmp, w_tsw, w_lsw, w_getI, w_getR, w_putI, w_putR, w_ald, w_sld, w_slen, w_ast, w_aald, w_aast, w_new, w_newa, w_mna, w_cpy, w_call, w_ret, w_lret, w_vret, rcv, cnd, nlb, pcats, pcat, inR, inL, ixIn, arOk, List.getElem?_cons_zero, List.getElem?_cons_succ, List.set_cons_zero, List.set_cons_succ, List.length_cons, List.length_nil, List.take_succ_cons, List.take_zero, List.drop_succ_cons, List.drop_zero, List.reverse_cons, List.reverse_nil, List.nil_append, List.cons_append, List.append_nil, Option.toList, Nat.reduceDiv, Nat.reduceMod, Nat.reduceAdd, Nat.reduceLT, Nat.reduceLeDiff, Nat.zero_add, true_and, and_true, and_self, Int.toNat_natCast, Int.reduceToNat, true_or, or_true, eq_self, Int.reduceEq, Int.reduceLE, Int.reduceLT, Int.reduceNeg, Int.reduceAdd, Int.reduceSub, Int.reduceMul, Int.reduceDiv, Nat.reduceEqDiff, Nat.reduceMul, Nat.reduceSub, Qn, Nat.add_zero, Nat.le_refl, reduceIte, Option.map, Bool.false_eq_true, forall_const, not_true, not_false_iff, false_implies, implies_true, k_117_6, k_117_30, q_117_0, g_75.2.2.2, g_116.2.2.2, rs_s0, rs_s127, rs_s254, rs_s255, rs_s256, rs_s257, rs_s258, rs_s259, rs_s260, rs_s261, rs_s262, rs_s263, rs_s264, rs_s265, rs_s266, rs_s267, rs_s268, rs_s269, rs_s270, rs_s271, rs_s272, rs_s273, rs_s274, rs_s275, rs_s276, rs_s277, rs_r0_0, rs_r0_1, rs_r0_2, rs_r0_3, rs_r0_4, rs_r0_5, rs_r0_6, rs_r0_7, rs_r127_0, rs_r127_1, rs_r255_0, rs_r255_4, rs_r258_0, rs_r258_1, rs_r258_2, rs_r258_3, rs_r260_0, rs_r260_1, rs_r265_0, rs_r268_0, rs_r268_1, rs_r268_2, rs_r268_3, rs_r268_4, rs_r268_5, rs_r268_7, rs_r268_8, rs_r268_13, sk1]
    refine C_digestFrom (by omega) hN ws_now.1 hV.1.1 hV.1.2 ?_
    simp only [wp, wq, wi, w_iload, w_lload, w_aload, w_istore, w_astore, w_lstore, w_iinc, w_ic, w_lc, w_rc, w_i2, w_l2, w_idv, w_ldv, w_lcmp, w_i2l, w_i2c, w_dup, w_dup2, w_pop, w_obj, w_max, w_if, w_icmp, w_tsw, w_lsw, w_getI, w_getR, w_putI, w_putR, w_ald, w_sld, w_slen, w_ast, w_aald, w_aast, w_new, w_newa, w_mna, w_cpy, w_call, w_ret, w_lret, w_vret, rcv, cnd, nlb, pcats, pcat, inR, inL, ixIn, arOk, List.getElem?_cons_zero, List.getElem?_cons_succ, List.set_cons_zero, List.set_cons_succ, List.length_cons, List.length_nil, List.take_succ_cons, List.take_zero, List.drop_succ_cons, List.drop_zero, List.reverse_cons, List.reverse_nil, List.nil_append, List.cons_append, List.append_nil, Option.toList, Nat.reduceDiv, Nat.reduceMod, Nat.reduceAdd, Nat.reduceLT, Nat.reduceLeDiff, Nat.zero_add, true_and, and_true, and_self, Int.toNat_natCast, Int.reduceToNat, true_or, or_true, eq_self, Int.reduceEq, Int.reduceLE, Int.reduceLT, Int.reduceNeg, Int.reduceAdd, Int.reduceSub, Int.reduceMul, Int.reduceDiv, Nat.reduceEqDiff, Nat.reduceMul, Nat.reduceSub, Qn, Nat.add_zero, Nat.le_refl, reduceIte, Option.map, Bool.false_eq_true, forall_const, not_true, not_false_iff, false_implies, implies_true, k_117_6, k_117_30, q_117_0, g_75.2.2.2, g_116.2.2.2]
    exact h1
  · intro i hi ih t ht
    subst ht
    have nxt := ih ((i : Int) + 1) (by omega)
    have cb := cntA_b (wh := i) hV
    refine l_117_6 (by omega) hN ?_
    simp only [wp, wq, wi, w_iload, w_lload, w_aload, w_istore, w_astore, w_lstore, w_iinc, w_ic, w_lc, w_rc, w_i2, w_l2, w_idv, w_ldv, w_lcmp, w_i2l, w_i2c, w_dup, w_dup2, w_pop, w_obj, w_max, w_if, w_icmp, w_tsw, w_lsw, w_getI, w_getR, w_putI, w_putR, w_ald, w_sld, w_slen, w_ast, w_aald, w_aast, w_new, w_newa, w_mna, w_cpy, w_call, w_ret, w_lret, w_vret, rcv, cnd, nlb, pcats, pcat, inR, inL, ixIn, arOk, List.getElem?_cons_zero, List.getElem?_cons_succ, List.set_cons_zero, List.set_cons_succ, List.length_cons, List.length_nil, List.take_succ_cons, List.take_zero, List.drop_succ_cons, List.drop_zero, List.reverse_cons, List.reverse_nil, List.nil_append, List.cons_append, List.append_nil, Option.toList, Nat.reduceDiv, Nat.reduceMod, Nat.reduceAdd, Nat.reduceLT, Nat.reduceLeDiff, Nat.zero_add, true_and, and_true, and_self, Int.toNat_natCast, Int.reduceToNat, true_or, or_true, eq_self, Int.reduceEq, Int.reduceLE, Int.reduceLT, Int.reduceNeg, Int.reduceAdd, Int.reduceSub, Int.reduceMul, Int.reduceDiv, Nat.reduceEqDiff, Nat.reduceMul, Nat.reduceSub, Qn, Nat.add_zero, Nat.le_refl, reduceIte, Option.map, Bool.false_eq_true, forall_const, not_true, not_false_iff, false_implies, implies_true, k_117_6, k_117_30, q_117_0, g_75.2.2.2, g_116.2.2.2, rs_s0, rs_s127, rs_s254, rs_s255, rs_s256, rs_s257, rs_s258, rs_s259, rs_s260, rs_s261, rs_s262, rs_s263, rs_s264, rs_s265, rs_s266, rs_s267, rs_s268, rs_s269, rs_s270, rs_s271, rs_s272, rs_s273, rs_s274, rs_s275, rs_s276, rs_s277, rs_r0_0, rs_r0_1, rs_r0_2, rs_r0_3, rs_r0_4, rs_r0_5, rs_r0_6, rs_r0_7, rs_r127_0, rs_r127_1, rs_r255_0, rs_r255_4, rs_r258_0, rs_r258_1, rs_r258_2, rs_r258_3, rs_r260_0, rs_r260_1, rs_r265_0, rs_r268_0, rs_r268_1, rs_r268_2, rs_r268_3, rs_r268_4, rs_r268_5, rs_r268_7, rs_r268_8, rs_r268_13]
    refine ⟨by omega, fun q => by omega, fun _ => ?_⟩
    refine C_cCount (by omega) hV (by omega) (fun q => by omega) (fun q => ?_)
    simp only [wp, wq, wi, w_iload, w_lload, w_aload, w_istore, w_astore, w_lstore, w_iinc, w_ic, w_lc, w_rc, w_i2, w_l2, w_idv, w_ldv, w_lcmp, w_i2l, w_i2c, w_dup, w_dup2, w_pop, w_obj, w_max, w_if, w_icmp, w_tsw, w_lsw, w_getI, w_getR, w_putI, w_putR, w_ald, w_sld, w_slen, w_ast, w_aald, w_aast, w_new, w_newa, w_mna, w_cpy, w_call, w_ret, w_lret, w_vret, rcv, cnd, nlb, pcats, pcat, inR, inL, ixIn, arOk, List.getElem?_cons_zero, List.getElem?_cons_succ, List.set_cons_zero, List.set_cons_succ, List.length_cons, List.length_nil, List.take_succ_cons, List.take_zero, List.drop_succ_cons, List.drop_zero, List.reverse_cons, List.reverse_nil, List.nil_append, List.cons_append, List.append_nil, Option.toList, Nat.reduceDiv, Nat.reduceMod, Nat.reduceAdd, Nat.reduceLT, Nat.reduceLeDiff, Nat.zero_add, true_and, and_true, and_self, Int.toNat_natCast, Int.reduceToNat, true_or, or_true, eq_self, Int.reduceEq, Int.reduceLE, Int.reduceLT, Int.reduceNeg, Int.reduceAdd, Int.reduceSub, Int.reduceMul, Int.reduceDiv, Nat.reduceEqDiff, Nat.reduceMul, Nat.reduceSub, Qn, Nat.add_zero, Nat.le_refl, reduceIte, Option.map, Bool.false_eq_true, forall_const, not_true, not_false_iff, false_implies, implies_true, k_117_6, k_117_30, q_117_0, g_75.2.2.2, g_116.2.2.2]
    exact ⟨by omega, nxt⟩
end J17
