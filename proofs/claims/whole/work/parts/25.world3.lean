/-! WORLD: what changes it, small -/
theorem down {P : Nat → Prop} {N : Nat} (h0 : P N) (hs : ∀ i, i < N → P (i + 1) → P i) : ∀ (k i : Nat), i + k = N → P i
  | 0, i, h => by
    have : i = N := by omega
    rw [this]
    exact h0
  | k + 1, i, h => hs i (by omega) (down h0 hs k (i + 1) (by omega))
theorem mSt_same {M : Nat → Nat → Int} {a j : Nat} {v : Int} : mSt M a j v a j = v := if_pos ⟨rfl, rfl⟩
theorem mSt_row_ne {M : Nat → Nat → Int} {a b j : Nat} {v : Int} (h : b ≠ a) : mSt M a j v b = M b := by
  funext x
  unfold mSt
  rw [if_neg (by omega)]
theorem mSt_col_ne {M : Nat → Nat → Int} {a b j x : Nat} {v : Int} (h : x ≠ j) : mSt M a j v b x = M b x := by
  unfold mSt
  rw [if_neg (by omega)]
theorem mCp_row_ne {M : Nat → Nat → Int} {a b c sp dp k : Nat} (h : c ≠ b) : mCp M a b sp dp k c = M c := by
  funext x
  unfold mCp
  rw [if_neg (by omega)]
theorem mCp_at {M : Nat → Nat → Int} {a b k x : Nat} (h : x < k) : mCp M a b 0 0 k b x = M a x := by
  unfold mCp
  rw [if_pos (by omega)]
  simp
theorem mRow_row_ne {M : Nat → Nat → Int} {c a : Nat} {f : Nat → Int} (h : a ≠ c) : mRow M c f a = M a := by
  funext x
  exact mRow_ne h
theorem mRow_row_eq {M : Nat → Nat → Int} {c : Nat} {f : Nat → Int} : mRow M c f c = f := by
  funext x
  exact mRow_same
section EV
variable {d n : Nat} {R : Nat → Nat → Option Nat} {M : Nat → Nat → Int} {e c : Nat} {Qp : PQ}
theorem C_hear {b x kd wr : Int} (hd : 1 ≤ d) (hN : n ≤ NC) (hE : ES n R e) (hb : 0 ≤ b ∧ b ≤ 1) (hw : wr = 0 ∨ wr = 1) (h1 : Qp none (n, R, mSt (mSt (mSt M (e + 2) b.toNat x) (e + 3) b.toNat kd) (e + 4) b.toNat wr)) : CallP d 6 [.inr (.inr (some e)), .inl b, .inl x, .inl kd, .inl wr] (n, R, M) Qp := by
  refine s_6 (by omega) hN rfl rfl rfl rfl rfl (fun l => ?_)
  (simp only [wp, wq, wi, w_iload, w_lload, w_aload, w_istore, w_astore, w_lstore, w_iinc, w_ic, w_lc, w_rc, w_i2, w_l2, w_idv, w_ldv, w_lcmp, w_i2l, w_i2c, w_dup, w_dup2, w_pop, w_obj, w_max, w_if, w_icmp, w_tsw, w_lsw, w_getI, w_getR, w_putI, w_putR, w_ald, w_sld, w_slen, w_ast, w_aald, w_aast, w_new, w_newa, w_mna, w_cpy, w_call, w_ret, w_lret, w_vret, rcv, cnd, nlb, pcats, pcat, inR, inL, ixIn, arOk, List.getElem?_cons_zero, List.getElem?_cons_succ, List.set_cons_zero, List.set_cons_succ, List.length_cons, List.length_nil, List.take_succ_cons, List.take_zero, List.drop_succ_cons, List.drop_zero, List.reverse_cons, List.reverse_nil, List.nil_append, List.cons_append, List.append_nil, Option.toList, Nat.reduceDiv, Nat.reduceMod, Nat.reduceAdd, Nat.reduceLT, Nat.reduceLeDiff, Nat.zero_add, true_and, and_true, and_self, Int.toNat_natCast, Int.reduceToNat, true_or, or_true, eq_self, Int.reduceEq, Int.reduceLE, Int.reduceLT, Int.reduceNeg, Int.reduceAdd, Int.reduceSub, Int.reduceMul, Int.reduceDiv, Nat.reduceEqDiff, Nat.reduceMul, Nat.reduceSub, Qn, Nat.add_zero, Nat.le_refl, reduceIte, Option.map, Bool.false_eq_true, forall_const, not_true, not_false_iff, false_implies, implies_true, k_6_0, es_l0 hE, es_l1 hE, es_l2 hE, es_l3 hE, es_l4 hE, es_s0 hE, es_s1 hE, es_s2 hE, es_s3 hE, es_s4 hE, es_r0_1 hE, es_r0_2 hE, es_r0_3 hE, es_r0_4 hE]; repeat' (first | with_reducible intro _ | with_reducible refine And.intro ?_ ?_))
  all_goals first | (first | assumption | rfl | omega) | skip
/-- nothing heard: both birds' rows -/
def hnM (M : Nat → Nat → Int) (e : Nat) : Nat → (Nat → Nat → Int)
  | 0 => M
  | k + 1 => mSt (mSt (mSt (hnM M e k) (e + 2) k (-1)) (e + 3) k 0) (e + 4) k 0
theorem hnM_row_ne {a : Nat} (h : a < e + 2 ∨ e + 5 ≤ a) : ∀ k, hnM M e k a = M a
  | 0 => rfl
  | k + 1 => by
    show mSt (mSt (mSt (hnM M e k) (e + 2) k (-1)) (e + 3) k 0) (e + 4) k 0 a = M a
    rw [mSt_row_ne (by omega), mSt_row_ne (by omega), mSt_row_ne (by omega), hnM_row_ne h k]
theorem hnM_at : ∀ k i, i < k → hnM M e k (e + 2) i = -1 ∧ hnM M e k (e + 3) i = 0 ∧ hnM M e k (e + 4) i = 0
  | 0, i, h => by omega
  | k + 1, i, h => by
    by_cases q : i = k
    · subst q
      simp [hnM, mSt]
    · have := hnM_at k i (by omega)
      simp [hnM, mSt, q]
      exact this
theorem C_hearNo (hd : 2 ≤ d) (hN : n ≤ NC) (hE : ES n R e) (h1 : Qp none (n, R, hnM M e 2)) : CallP d 7 [.inr (.inr (some e))] (n, R, M) Qp := by
  refine u_7 (by omega) hN rfl (fun l => ?_)
  simp only [wp, wq, wi, w_iload, w_lload, w_aload, w_istore, w_astore, w_lstore, w_iinc, w_ic, w_lc, w_rc, w_i2, w_l2, w_idv, w_ldv, w_lcmp, w_i2l, w_i2c, w_dup, w_dup2, w_pop, w_obj, w_max, w_if, w_icmp, w_tsw, w_lsw, w_getI, w_getR, w_putI, w_putR, w_ald, w_sld, w_slen, w_ast, w_aald, w_aast, w_new, w_newa, w_mna, w_cpy, w_call, w_ret, w_lret, w_vret, rcv, cnd, nlb, pcats, pcat, inR, inL, ixIn, arOk, List.getElem?_cons_zero, List.getElem?_cons_succ, List.set_cons_zero, List.set_cons_succ, List.length_cons, List.length_nil, List.take_succ_cons, List.take_zero, List.drop_succ_cons, List.drop_zero, List.reverse_cons, List.reverse_nil, List.nil_append, List.cons_append, List.append_nil, Option.toList, Nat.reduceDiv, Nat.reduceMod, Nat.reduceAdd, Nat.reduceLT, Nat.reduceLeDiff, Nat.zero_add, true_and, and_true, and_self, Int.toNat_natCast, Int.reduceToNat, true_or, or_true, eq_self, Int.reduceEq, Int.reduceLE, Int.reduceLT, Int.reduceNeg, Int.reduceAdd, Int.reduceSub, Int.reduceMul, Int.reduceDiv, Nat.reduceEqDiff, Nat.reduceMul, Nat.reduceSub, Qn, Nat.add_zero, Nat.le_refl, reduceIte, Option.map, Bool.false_eq_true, forall_const, not_true, not_false_iff, false_implies, implies_true, k_7_2, k_7_21, q_7_0, g_6.2.2.2]
  refine down (N := 2) (P := fun i => ∀ t : Int, t = i → At l d 7 n (Qn n Qp) 2 [some (.inr (.inr (some e))), some (.inl t)] [] (n, R, hnM M e i)) ?_ ?_ 2 0 rfl 0 rfl
  · intro t ht
    subst ht
    refine l_7_2 (by omega) hN ?_
    simp only [wp, wq, wi, w_iload, w_lload, w_aload, w_istore, w_astore, w_lstore, w_iinc, w_ic, w_lc, w_rc, w_i2, w_l2, w_idv, w_ldv, w_lcmp, w_i2l, w_i2c, w_dup, w_dup2, w_pop, w_obj, w_max, w_if, w_icmp, w_tsw, w_lsw, w_getI, w_getR, w_putI, w_putR, w_ald, w_sld, w_slen, w_ast, w_aald, w_aast, w_new, w_newa, w_mna, w_cpy, w_call, w_ret, w_lret, w_vret, rcv, cnd, nlb, pcats, pcat, inR, inL, ixIn, arOk, List.getElem?_cons_zero, List.getElem?_cons_succ, List.set_cons_zero, List.set_cons_succ, List.length_cons, List.length_nil, List.take_succ_cons, List.take_zero, List.drop_succ_cons, List.drop_zero, List.reverse_cons, List.reverse_nil, List.nil_append, List.cons_append, List.append_nil, Option.toList, Nat.reduceDiv, Nat.reduceMod, Nat.reduceAdd, Nat.reduceLT, Nat.reduceLeDiff, Nat.zero_add, true_and, and_true, and_self, Int.toNat_natCast, Int.reduceToNat, true_or, or_true, eq_self, Int.reduceEq, Int.reduceLE, Int.reduceLT, Int.reduceNeg, Int.reduceAdd, Int.reduceSub, Int.reduceMul, Int.reduceDiv, Nat.reduceEqDiff, Nat.reduceMul, Nat.reduceSub, Qn, Nat.add_zero, Nat.le_refl, reduceIte, Option.map, Bool.false_eq_true, forall_const, not_true, not_false_iff, false_implies, implies_true, k_7_2, k_7_21, q_7_0, g_6.2.2.2, es_l0 hE, es_l1 hE, es_l2 hE, es_l3 hE, es_l4 hE, es_s0 hE, es_s1 hE, es_s2 hE, es_s3 hE, es_s4 hE, es_r0_1 hE, es_r0_2 hE, es_r0_3 hE, es_r0_4 hE]
    refine ⟨by omega, fun _ => ?_, fun q => by omega⟩
    refine l_7_21 (by omega) hN ?_
    simp only [wp, wq, wi, w_iload, w_lload, w_aload, w_istore, w_astore, w_lstore, w_iinc, w_ic, w_lc, w_rc, w_i2, w_l2, w_idv, w_ldv, w_lcmp, w_i2l, w_i2c, w_dup, w_dup2, w_pop, w_obj, w_max, w_if, w_icmp, w_tsw, w_lsw, w_getI, w_getR, w_putI, w_putR, w_ald, w_sld, w_slen, w_ast, w_aald, w_aast, w_new, w_newa, w_mna, w_cpy, w_call, w_ret, w_lret, w_vret, rcv, cnd, nlb, pcats, pcat, inR, inL, ixIn, arOk, List.getElem?_cons_zero, List.getElem?_cons_succ, List.set_cons_zero, List.set_cons_succ, List.length_cons, List.length_nil, List.take_succ_cons, List.take_zero, List.drop_succ_cons, List.drop_zero, List.reverse_cons, List.reverse_nil, List.nil_append, List.cons_append, List.append_nil, Option.toList, Nat.reduceDiv, Nat.reduceMod, Nat.reduceAdd, Nat.reduceLT, Nat.reduceLeDiff, Nat.zero_add, true_and, and_true, and_self, Int.toNat_natCast, Int.reduceToNat, true_or, or_true, eq_self, Int.reduceEq, Int.reduceLE, Int.reduceLT, Int.reduceNeg, Int.reduceAdd, Int.reduceSub, Int.reduceMul, Int.reduceDiv, Nat.reduceEqDiff, Nat.reduceMul, Nat.reduceSub, Qn, Nat.add_zero, Nat.le_refl, reduceIte, Option.map, Bool.false_eq_true, forall_const, not_true, not_false_iff, false_implies, implies_true, k_7_2, k_7_21, q_7_0, g_6.2.2.2]
    exact h1
  · intro i hi ih t ht
    subst ht
    refine l_7_2 (by omega) hN ?_
    simp only [wp, wq, wi, w_iload, w_lload, w_aload, w_istore, w_astore, w_lstore, w_iinc, w_ic, w_lc, w_rc, w_i2, w_l2, w_idv, w_ldv, w_lcmp, w_i2l, w_i2c, w_dup, w_dup2, w_pop, w_obj, w_max, w_if, w_icmp, w_tsw, w_lsw, w_getI, w_getR, w_putI, w_putR, w_ald, w_sld, w_slen, w_ast, w_aald, w_aast, w_new, w_newa, w_mna, w_cpy, w_call, w_ret, w_lret, w_vret, rcv, cnd, nlb, pcats, pcat, inR, inL, ixIn, arOk, List.getElem?_cons_zero, List.getElem?_cons_succ, List.set_cons_zero, List.set_cons_succ, List.length_cons, List.length_nil, List.take_succ_cons, List.take_zero, List.drop_succ_cons, List.drop_zero, List.reverse_cons, List.reverse_nil, List.nil_append, List.cons_append, List.append_nil, Option.toList, Nat.reduceDiv, Nat.reduceMod, Nat.reduceAdd, Nat.reduceLT, Nat.reduceLeDiff, Nat.zero_add, true_and, and_true, and_self, Int.toNat_natCast, Int.reduceToNat, true_or, or_true, eq_self, Int.reduceEq, Int.reduceLE, Int.reduceLT, Int.reduceNeg, Int.reduceAdd, Int.reduceSub, Int.reduceMul, Int.reduceDiv, Nat.reduceEqDiff, Nat.reduceMul, Nat.reduceSub, Qn, Nat.add_zero, Nat.le_refl, reduceIte, Option.map, Bool.false_eq_true, forall_const, not_true, not_false_iff, false_implies, implies_true, k_7_2, k_7_21, q_7_0, g_6.2.2.2, es_l0 hE, es_l1 hE, es_l2 hE, es_l3 hE, es_l4 hE, es_s0 hE, es_s1 hE, es_s2 hE, es_s3 hE, es_s4 hE, es_r0_1 hE, es_r0_2 hE, es_r0_3 hE, es_r0_4 hE]
    refine ⟨by omega, fun q => by omega, fun _ => ?_⟩
    refine C_hear (by omega) hN hE (by omega) (by omega) ?_
    simp only [wp, wq, wi, w_iload, w_lload, w_aload, w_istore, w_astore, w_lstore, w_iinc, w_ic, w_lc, w_rc, w_i2, w_l2, w_idv, w_ldv, w_lcmp, w_i2l, w_i2c, w_dup, w_dup2, w_pop, w_obj, w_max, w_if, w_icmp, w_tsw, w_lsw, w_getI, w_getR, w_putI, w_putR, w_ald, w_sld, w_slen, w_ast, w_aald, w_aast, w_new, w_newa, w_mna, w_cpy, w_call, w_ret, w_lret, w_vret, rcv, cnd, nlb, pcats, pcat, inR, inL, ixIn, arOk, List.getElem?_cons_zero, List.getElem?_cons_succ, List.set_cons_zero, List.set_cons_succ, List.length_cons, List.length_nil, List.take_succ_cons, List.take_zero, List.drop_succ_cons, List.drop_zero, List.reverse_cons, List.reverse_nil, List.nil_append, List.cons_append, List.append_nil, Option.toList, Nat.reduceDiv, Nat.reduceMod, Nat.reduceAdd, Nat.reduceLT, Nat.reduceLeDiff, Nat.zero_add, true_and, and_true, and_self, Int.toNat_natCast, Int.reduceToNat, true_or, or_true, eq_self, Int.reduceEq, Int.reduceLE, Int.reduceLT, Int.reduceNeg, Int.reduceAdd, Int.reduceSub, Int.reduceMul, Int.reduceDiv, Nat.reduceEqDiff, Nat.reduceMul, Nat.reduceSub, Qn, Nat.add_zero, Nat.le_refl, reduceIte, Option.map, Bool.false_eq_true, forall_const, not_true, not_false_iff, false_implies, implies_true, k_7_2, k_7_21, q_7_0, g_6.2.2.2]
    exact ih _ (by omega)
theorem C_eBegin (hd : 3 ≤ d) (hN : n ≤ NC) (hE : ES n R e) (h1 : ∀ M', M' e 0 = 0 → (∀ x, x < 6 → M' (e + 1) x = 8) → (∀ i, i < 2 → M' (e + 2) i = -1 ∧ M' (e + 3) i = 0 ∧ M' (e + 4) i = 0) → (∀ a, a < e ∨ e + 5 ≤ a → M' a = M a) → Qp none (n, R, M')) : CallP d 5 [.inr (.inr (some e))] (n, R, M) Qp := by
  refine u_5 (by omega) hN rfl (fun l => ?_)
  simp only [wp, wq, wi, w_iload, w_lload, w_aload, w_istore, w_astore, w_lstore, w_iinc, w_ic, w_lc, w_rc, w_i2, w_l2, w_idv, w_ldv, w_lcmp, w_i2l, w_i2c, w_dup, w_dup2, w_pop, w_obj, w_max, w_if, w_icmp, w_tsw, w_lsw, w_getI, w_getR, w_putI, w_putR, w_ald, w_sld, w_slen, w_ast, w_aald, w_aast, w_new, w_newa, w_mna, w_cpy, w_call, w_ret, w_lret, w_vret, rcv, cnd, nlb, pcats, pcat, inR, inL, ixIn, arOk, List.getElem?_cons_zero, List.getElem?_cons_succ, List.set_cons_zero, List.set_cons_succ, List.length_cons, List.length_nil, List.take_succ_cons, List.take_zero, List.drop_succ_cons, List.drop_zero, List.reverse_cons, List.reverse_nil, List.nil_append, List.cons_append, List.append_nil, Option.toList, Nat.reduceDiv, Nat.reduceMod, Nat.reduceAdd, Nat.reduceLT, Nat.reduceLeDiff, Nat.zero_add, true_and, and_true, and_self, Int.toNat_natCast, Int.reduceToNat, true_or, or_true, eq_self, Int.reduceEq, Int.reduceLE, Int.reduceLT, Int.reduceNeg, Int.reduceAdd, Int.reduceSub, Int.reduceMul, Int.reduceDiv, Nat.reduceEqDiff, Nat.reduceMul, Nat.reduceSub, Qn, Nat.add_zero, Nat.le_refl, reduceIte, Option.map, Bool.false_eq_true, forall_const, not_true, not_false_iff, false_implies, implies_true, k_5_7, k_5_27, q_5_0, g_7.2.2.2, es_l0 hE, es_l1 hE, es_l2 hE, es_l3 hE, es_l4 hE, es_s0 hE, es_s1 hE, es_s2 hE, es_s3 hE, es_s4 hE, es_r0_1 hE, es_r0_2 hE, es_r0_3 hE, es_r0_4 hE]
  refine down (N := 6) (P := fun i => ∀ (t : Int) (M1 : Nat → Nat → Int), t = i → M1 e 0 = 0 → (∀ x, x < i → M1 (e + 1) x = 8) → (∀ a, a < e ∨ e + 2 ≤ a → M1 a = M a) → At l d 5 n (Qn n Qp) 7 [some (.inr (.inr (some e))), some (.inl t)] [] (n, R, M1)) ?_ ?_ 6 0 rfl 0 _ rfl mSt_same (fun x hx => by omega) (fun a ha => mSt_row_ne (by omega))
  · intro t M1 ht g1 g2 g3
    subst ht
    refine l_5_7 (by omega) hN ?_
    simp only [wp, wq, wi, w_iload, w_lload, w_aload, w_istore, w_astore, w_lstore, w_iinc, w_ic, w_lc, w_rc, w_i2, w_l2, w_idv, w_ldv, w_lcmp, w_i2l, w_i2c, w_dup, w_dup2, w_pop, w_obj, w_max, w_if, w_icmp, w_tsw, w_lsw, w_getI, w_getR, w_putI, w_putR, w_ald, w_sld, w_slen, w_ast, w_aald, w_aast, w_new, w_newa, w_mna, w_cpy, w_call, w_ret, w_lret, w_vret, rcv, cnd, nlb, pcats, pcat, inR, inL, ixIn, arOk, List.getElem?_cons_zero, List.getElem?_cons_succ, List.set_cons_zero, List.set_cons_succ, List.length_cons, List.length_nil, List.take_succ_cons, List.take_zero, List.drop_succ_cons, List.drop_zero, List.reverse_cons, List.reverse_nil, List.nil_append, List.cons_append, List.append_nil, Option.toList, Nat.reduceDiv, Nat.reduceMod, Nat.reduceAdd, Nat.reduceLT, Nat.reduceLeDiff, Nat.zero_add, true_and, and_true, and_self, Int.toNat_natCast, Int.reduceToNat, true_or, or_true, eq_self, Int.reduceEq, Int.reduceLE, Int.reduceLT, Int.reduceNeg, Int.reduceAdd, Int.reduceSub, Int.reduceMul, Int.reduceDiv, Nat.reduceEqDiff, Nat.reduceMul, Nat.reduceSub, Qn, Nat.add_zero, Nat.le_refl, reduceIte, Option.map, Bool.false_eq_true, forall_const, not_true, not_false_iff, false_implies, implies_true, k_5_7, k_5_27, q_5_0, g_7.2.2.2, es_l0 hE, es_l1 hE, es_l2 hE, es_l3 hE, es_l4 hE, es_s0 hE, es_s1 hE, es_s2 hE, es_s3 hE, es_s4 hE, es_r0_1 hE, es_r0_2 hE, es_r0_3 hE, es_r0_4 hE]
    refine ⟨by omega, fun _ => ?_, fun q => by omega⟩
    refine l_5_27 (by omega) hN ?_
    simp only [wp, wq, wi, w_iload, w_lload, w_aload, w_istore, w_astore, w_lstore, w_iinc, w_ic, w_lc, w_rc, w_i2, w_l2, w_idv, w_ldv, w_lcmp, w_i2l, w_i2c, w_dup, w_dup2, w_pop, w_obj, w_max, w_if, w_icmp, w_tsw, w_lsw, w_getI, w_getR, w_putI, w_putR, w_ald, w_sld, w_slen, w_ast, w_aald, w_aast, w_new, w_newa, w_mna, w_cpy, w_call, w_ret, w_lret, w_vret, rcv, cnd, nlb, pcats, pcat, inR, inL, ixIn, arOk, List.getElem?_cons_zero, List.getElem?_cons_succ, List.set_cons_zero, List.set_cons_succ, List.length_cons, List.length_nil, List.take_succ_cons, List.take_zero, List.drop_succ_cons, List.drop_zero, List.reverse_cons, List.reverse_nil, List.nil_append, List.cons_append, List.append_nil, Option.toList, Nat.reduceDiv, Nat.reduceMod, Nat.reduceAdd, Nat.reduceLT, Nat.reduceLeDiff, Nat.zero_add, true_and, and_true, and_self, Int.toNat_natCast, Int.reduceToNat, true_or, or_true, eq_self, Int.reduceEq, Int.reduceLE, Int.reduceLT, Int.reduceNeg, Int.reduceAdd, Int.reduceSub, Int.reduceMul, Int.reduceDiv, Nat.reduceEqDiff, Nat.reduceMul, Nat.reduceSub, Qn, Nat.add_zero, Nat.le_refl, reduceIte, Option.map, Bool.false_eq_true, forall_const, not_true, not_false_iff, false_implies, implies_true, k_5_7, k_5_27, q_5_0, g_7.2.2.2, es_l0 hE, es_l1 hE, es_l2 hE, es_l3 hE, es_l4 hE, es_s0 hE, es_s1 hE, es_s2 hE, es_s3 hE, es_s4 hE, es_r0_1 hE, es_r0_2 hE, es_r0_3 hE, es_r0_4 hE]
    refine C_hearNo (by omega) hN hE ?_
    simp only [wp, wq, wi, w_iload, w_lload, w_aload, w_istore, w_astore, w_lstore, w_iinc, w_ic, w_lc, w_rc, w_i2, w_l2, w_idv, w_ldv, w_lcmp, w_i2l, w_i2c, w_dup, w_dup2, w_pop, w_obj, w_max, w_if, w_icmp, w_tsw, w_lsw, w_getI, w_getR, w_putI, w_putR, w_ald, w_sld, w_slen, w_ast, w_aald, w_aast, w_new, w_newa, w_mna, w_cpy, w_call, w_ret, w_lret, w_vret, rcv, cnd, nlb, pcats, pcat, inR, inL, ixIn, arOk, List.getElem?_cons_zero, List.getElem?_cons_succ, List.set_cons_zero, List.set_cons_succ, List.length_cons, List.length_nil, List.take_succ_cons, List.take_zero, List.drop_succ_cons, List.drop_zero, List.reverse_cons, List.reverse_nil, List.nil_append, List.cons_append, List.append_nil, Option.toList, Nat.reduceDiv, Nat.reduceMod, Nat.reduceAdd, Nat.reduceLT, Nat.reduceLeDiff, Nat.zero_add, true_and, and_true, and_self, Int.toNat_natCast, Int.reduceToNat, true_or, or_true, eq_self, Int.reduceEq, Int.reduceLE, Int.reduceLT, Int.reduceNeg, Int.reduceAdd, Int.reduceSub, Int.reduceMul, Int.reduceDiv, Nat.reduceEqDiff, Nat.reduceMul, Nat.reduceSub, Qn, Nat.add_zero, Nat.le_refl, reduceIte, Option.map, Bool.false_eq_true, forall_const, not_true, not_false_iff, false_implies, implies_true, k_5_7, k_5_27, q_5_0, g_7.2.2.2]
    refine h1 _ ?_ ?_ (hnM_at 2) ?_
    · rw [hnM_row_ne (by omega)]
      exact g1
    · intro x hx
      rw [hnM_row_ne (by omega)]
      exact g2 x hx
    · intro a ha
      rw [hnM_row_ne (by omega)]
      exact g3 a (by omega)
  · intro i hi ih t M1 ht g1 g2 g3
    subst ht
    refine l_5_7 (by omega) hN ?_
    simp only [wp, wq, wi, w_iload, w_lload, w_aload, w_istore, w_astore, w_lstore, w_iinc, w_ic, w_lc, w_rc, w_i2, w_l2, w_idv, w_ldv, w_lcmp, w_i2l, w_i2c, w_dup, w_dup2, w_pop, w_obj, w_max, w_if, w_icmp, w_tsw, w_lsw, w_getI, w_getR, w_putI, w_putR, w_ald, w_sld, w_slen, w_ast, w_aald, w_aast, w_new, w_newa, w_mna, w_cpy, w_call, w_ret, w_lret, w_vret, rcv, cnd, nlb, pcats, pcat, inR, inL, ixIn, arOk, List.getElem?_cons_zero, List.getElem?_cons_succ, List.set_cons_zero, List.set_cons_succ, List.length_cons, List.length_nil, List.take_succ_cons, List.take_zero, List.drop_succ_cons, List.drop_zero, List.reverse_cons, List.reverse_nil, List.nil_append, List.cons_append, List.append_nil, Option.toList, Nat.reduceDiv, Nat.reduceMod, Nat.reduceAdd, Nat.reduceLT, Nat.reduceLeDiff, Nat.zero_add, true_and, and_true, and_self, Int.toNat_natCast, Int.reduceToNat, true_or, or_true, eq_self, Int.reduceEq, Int.reduceLE, Int.reduceLT, Int.reduceNeg, Int.reduceAdd, Int.reduceSub, Int.reduceMul, Int.reduceDiv, Nat.reduceEqDiff, Nat.reduceMul, Nat.reduceSub, Qn, Nat.add_zero, Nat.le_refl, reduceIte, Option.map, Bool.false_eq_true, forall_const, not_true, not_false_iff, false_implies, implies_true, k_5_7, k_5_27, q_5_0, g_7.2.2.2, es_l0 hE, es_l1 hE, es_l2 hE, es_l3 hE, es_l4 hE, es_s0 hE, es_s1 hE, es_s2 hE, es_s3 hE, es_s4 hE, es_r0_1 hE, es_r0_2 hE, es_r0_3 hE, es_r0_4 hE]
    refine ⟨by omega, fun q => by omega, fun _ => ?_⟩
    refine ⟨by omega, ih _ _ (by omega) ?_ ?_ ?_⟩
    · rw [mSt_row_ne (by omega)]
      exact g1
    · intro x hx
      by_cases q : x = i
      · subst q
        exact mSt_same
      · rw [mSt_col_ne q]
        exact g2 x (by omega)
    · intro a ha
      rw [mSt_row_ne (by omega)]
      exact g3 a ha
/-- one evening as another -/
def EE (M' : Nat → Nat → Int) (e : Nat) (M : Nat → Nat → Int) (c : Nat) : Prop := M' e 0 = M c 0 ∧ (∀ x, x < 6 → M' (e + 1) x = M (c + 1) x) ∧ ∀ i, i < 2 → M' (e + 2) i = M (c + 2) i ∧ M' (e + 3) i = M (c + 3) i ∧ M' (e + 4) i = M (c + 4) i
theorem C_eCopy (hd : 1 ≤ d) (hN : n ≤ NC) (hE : ES n R e) (hC : ES n R c) (hne : c + 5 ≤ e ∨ e + 5 ≤ c) (hw : ∀ i, i < 2 → M (c + 4) i = 0 ∨ M (c + 4) i = 1) (h1 : ∀ M', EE M' e M c → (∀ a, a < e ∨ e + 5 ≤ a → M' a = M a) → Qp none (n, R, M')) : CallP d 8 [.inr (.inr (some e)), .inr (.inr (some c))] (n, R, M) Qp := by
  refine s_8 (by omega) hN rfl rfl (fun l => ?_)
  simp only [wp, wq, wi, w_iload, w_lload, w_aload, w_istore, w_astore, w_lstore, w_iinc, w_ic, w_lc, w_rc, w_i2, w_l2, w_idv, w_ldv, w_lcmp, w_i2l, w_i2c, w_dup, w_dup2, w_pop, w_obj, w_max, w_if, w_icmp, w_tsw, w_lsw, w_getI, w_getR, w_putI, w_putR, w_ald, w_sld, w_slen, w_ast, w_aald, w_aast, w_new, w_newa, w_mna, w_cpy, w_call, w_ret, w_lret, w_vret, rcv, cnd, nlb, pcats, pcat, inR, inL, ixIn, arOk, List.getElem?_cons_zero, List.getElem?_cons_succ, List.set_cons_zero, List.set_cons_succ, List.length_cons, List.length_nil, List.take_succ_cons, List.take_zero, List.drop_succ_cons, List.drop_zero, List.reverse_cons, List.reverse_nil, List.nil_append, List.cons_append, List.append_nil, Option.toList, Nat.reduceDiv, Nat.reduceMod, Nat.reduceAdd, Nat.reduceLT, Nat.reduceLeDiff, Nat.zero_add, true_and, and_true, and_self, Int.toNat_natCast, Int.reduceToNat, true_or, or_true, eq_self, Int.reduceEq, Int.reduceLE, Int.reduceLT, Int.reduceNeg, Int.reduceAdd, Int.reduceSub, Int.reduceMul, Int.reduceDiv, Nat.reduceEqDiff, Nat.reduceMul, Nat.reduceSub, Qn, Nat.add_zero, Nat.le_refl, reduceIte, Option.map, Bool.false_eq_true, forall_const, not_true, not_false_iff, false_implies, implies_true, k_8_0, es_l0 hE, es_l1 hE, es_l2 hE, es_l3 hE, es_l4 hE, es_s0 hE, es_s1 hE, es_s2 hE, es_s3 hE, es_s4 hE, es_r0_1 hE, es_r0_2 hE, es_r0_3 hE, es_r0_4 hE, es_l0 hC, es_l1 hC, es_l2 hC, es_l3 hC, es_l4 hC, es_s0 hC, es_s1 hC, es_s2 hC, es_s3 hC, es_s4 hC, es_r0_1 hC, es_r0_2 hC, es_r0_3 hC, es_r0_4 hC]
  refine ⟨by omega, by omega, by omega, ⟨Or.inr fun i hi => ?_, by omega⟩, h1 _ ⟨?_, fun x hx => ?_, fun i hi => ⟨?_, ?_, ?_⟩⟩ fun a ha => ?_⟩
  · (repeat (first | rw [mSt_row_ne (by omega)] | rw [mCp_row_ne (by omega)] | rw [mRow_row_ne (by omega)] | rw [hnM_row_ne (by omega)] | rw [mSt_same] | rw [mCp_at (by omega)] | rw [mRow_row_eq] | rw [mSt_col_ne (by omega)]))
    exact hw i hi
  all_goals (repeat (first | rw [mSt_row_ne (by omega)] | rw [mCp_row_ne (by omega)] | rw [mRow_row_ne (by omega)] | rw [hnM_row_ne (by omega)] | rw [mSt_same] | rw [mCp_at (by omega)] | rw [mRow_row_eq] | rw [mSt_col_ne (by omega)]))
end EV
section CW
variable {d n : Nat} {R : Nat → Nat → Option Nat} {M : Nat → Nat → Int} {e c : Nat} {Qp : PQ}
theorem C_cAdd {k : Nat} {x y wr : Int} (hd : 1 ≤ d) (hN : n ≤ NC) (hE : CS n R c) (hk : M c 0 = k) (hk8 : k < 8) (hw : wr = 0 ∨ wr = 1) (h1 : Qp none (n, R, mSt (mSt (mSt (mSt M (c + 1) k x) (c + 2) k y) (c + 3) k wr) c 0 (k + 1))) : CallP d 0 [.inr (.inr (some c)), .inl x, .inl y, .inl wr] (n, R, M) Qp := by
  refine s_0 (by omega) hN rfl rfl rfl rfl (fun l => ?_)
  (simp only [wp, wq, wi, w_iload, w_lload, w_aload, w_istore, w_astore, w_lstore, w_iinc, w_ic, w_lc, w_rc, w_i2, w_l2, w_idv, w_ldv, w_lcmp, w_i2l, w_i2c, w_dup, w_dup2, w_pop, w_obj, w_max, w_if, w_icmp, w_tsw, w_lsw, w_getI, w_getR, w_putI, w_putR, w_ald, w_sld, w_slen, w_ast, w_aald, w_aast, w_new, w_newa, w_mna, w_cpy, w_call, w_ret, w_lret, w_vret, rcv, cnd, nlb, pcats, pcat, inR, inL, ixIn, arOk, List.getElem?_cons_zero, List.getElem?_cons_succ, List.set_cons_zero, List.set_cons_succ, List.length_cons, List.length_nil, List.take_succ_cons, List.take_zero, List.drop_succ_cons, List.drop_zero, List.reverse_cons, List.reverse_nil, List.nil_append, List.cons_append, List.append_nil, Option.toList, Nat.reduceDiv, Nat.reduceMod, Nat.reduceAdd, Nat.reduceLT, Nat.reduceLeDiff, Nat.zero_add, true_and, and_true, and_self, Int.toNat_natCast, Int.reduceToNat, true_or, or_true, eq_self, Int.reduceEq, Int.reduceLE, Int.reduceLT, Int.reduceNeg, Int.reduceAdd, Int.reduceSub, Int.reduceMul, Int.reduceDiv, Nat.reduceEqDiff, Nat.reduceMul, Nat.reduceSub, Qn, Nat.add_zero, Nat.le_refl, reduceIte, Option.map, Bool.false_eq_true, forall_const, not_true, not_false_iff, false_implies, implies_true, k_0_0, cs_l0 hE, cs_l1 hE, cs_l2 hE, cs_l3 hE, cs_s0 hE, cs_s1 hE, cs_s2 hE, cs_s3 hE, cs_r0_1 hE, cs_r0_2 hE, cs_r0_3 hE, mSt_row_ne (show c ≠ c + 1 by omega), mSt_row_ne (show c ≠ c + 2 by omega), mSt_row_ne (show c ≠ c + 3 by omega), hk]; repeat' (first | with_reducible intro _ | with_reducible refine And.intro ?_ ?_))
  all_goals first | (first | assumption | rfl | omega) | skip
theorem C_cCopy (hd : 1 ≤ d) (hN : n ≤ NC) (hE : CS n R e) (hC : CS n R c) (hne : c + 4 ≤ e ∨ e + 4 ≤ c) (hw : ∀ i, i < 8 → M (c + 3) i = 0 ∨ M (c + 3) i = 1) (h1 : ∀ M', M' e 0 = M c 0 → (∀ i, i < 8 → M' (e + 1) i = M (c + 1) i ∧ M' (e + 2) i = M (c + 2) i ∧ M' (e + 3) i = M (c + 3) i) → (∀ a, a < e ∨ e + 4 ≤ a → M' a = M a) → Qp none (n, R, M')) : CallP d 4 [.inr (.inr (some e)), .inr (.inr (some c))] (n, R, M) Qp := by
  refine s_4 (by omega) hN rfl rfl (fun l => ?_)
  simp only [wp, wq, wi, w_iload, w_lload, w_aload, w_istore, w_astore, w_lstore, w_iinc, w_ic, w_lc, w_rc, w_i2, w_l2, w_idv, w_ldv, w_lcmp, w_i2l, w_i2c, w_dup, w_dup2, w_pop, w_obj, w_max, w_if, w_icmp, w_tsw, w_lsw, w_getI, w_getR, w_putI, w_putR, w_ald, w_sld, w_slen, w_ast, w_aald, w_aast, w_new, w_newa, w_mna, w_cpy, w_call, w_ret, w_lret, w_vret, rcv, cnd, nlb, pcats, pcat, inR, inL, ixIn, arOk, List.getElem?_cons_zero, List.getElem?_cons_succ, List.set_cons_zero, List.set_cons_succ, List.length_cons, List.length_nil, List.take_succ_cons, List.take_zero, List.drop_succ_cons, List.drop_zero, List.reverse_cons, List.reverse_nil, List.nil_append, List.cons_append, List.append_nil, Option.toList, Nat.reduceDiv, Nat.reduceMod, Nat.reduceAdd, Nat.reduceLT, Nat.reduceLeDiff, Nat.zero_add, true_and, and_true, and_self, Int.toNat_natCast, Int.reduceToNat, true_or, or_true, eq_self, Int.reduceEq, Int.reduceLE, Int.reduceLT, Int.reduceNeg, Int.reduceAdd, Int.reduceSub, Int.reduceMul, Int.reduceDiv, Nat.reduceEqDiff, Nat.reduceMul, Nat.reduceSub, Qn, Nat.add_zero, Nat.le_refl, reduceIte, Option.map, Bool.false_eq_true, forall_const, not_true, not_false_iff, false_implies, implies_true, k_4_0, cs_l0 hE, cs_l1 hE, cs_l2 hE, cs_l3 hE, cs_s0 hE, cs_s1 hE, cs_s2 hE, cs_s3 hE, cs_r0_1 hE, cs_r0_2 hE, cs_r0_3 hE, cs_l0 hC, cs_l1 hC, cs_l2 hC, cs_l3 hC, cs_s0 hC, cs_s1 hC, cs_s2 hC, cs_s3 hC, cs_r0_1 hC, cs_r0_2 hC, cs_r0_3 hC]
  refine ⟨by omega, by omega, ⟨Or.inr fun i hi => ?_, by omega⟩, h1 _ ?_ (fun i hi => ⟨?_, ?_, ?_⟩) fun a ha => ?_⟩
  · (repeat (first | rw [mSt_row_ne (by omega)] | rw [mCp_row_ne (by omega)] | rw [mRow_row_ne (by omega)] | rw [hnM_row_ne (by omega)] | rw [mSt_same] | rw [mCp_at (by omega)] | rw [mRow_row_eq] | rw [mSt_col_ne (by omega)]))
    exact hw i hi
  all_goals (repeat (first | rw [mSt_row_ne (by omega)] | rw [mCp_row_ne (by omega)] | rw [mRow_row_ne (by omega)] | rw [hnM_row_ne (by omega)] | rw [mSt_same] | rw [mCp_at (by omega)] | rw [mRow_row_eq] | rw [mSt_col_ne (by omega)]))
end CW
