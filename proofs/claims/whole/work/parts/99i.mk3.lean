/-! THE MAKING: both sides; the references behind it are RT -/
def affR (a : Nat) : Nat × (Nat × (Nat × Nat)) → Bool
  | (0, n, k, _) => Nat.ble n a && Nat.blt a (n + k)
  | (_, x, _, _) => Nat.beq a x
theorem RO_filter {a j : Nat} : ∀ l : OL, RO l a j = RO (l.filter (affR a)) a j
  | [] => rfl
  | (0, n, k, z) :: l => by
    have ih := RO_filter (a := a) (j := j) l
    by_cases h : n ≤ a ∧ a < n + k
    · have e : affR a (0, n, k, z) = true := by simp only [affR, Bool.and_eq_true, Nat.ble_eq, Nat.blt_eq]; exact h
      rw [List.filter_cons_of_pos e]
      simp only [RO, if_pos h]
    · have e : ¬ affR a (0, n, k, z) = true := by simp only [affR, Bool.and_eq_true, Nat.ble_eq, Nat.blt_eq]; exact h
      rw [List.filter_cons_of_neg e]
      simp only [RO, if_neg h]
      exact ih
  | (1, x, y, v) :: l => by
    have ih := RO_filter (a := a) (j := j) l
    by_cases h : a = x
    · have e : affR a (1, x, y, v) = true := by simp only [affR, Nat.beq_eq]; exact h
      rw [List.filter_cons_of_pos e]
      simp only [RO]
      rw [ih]
    · have e : ¬ affR a (1, x, y, v) = true := by simp only [affR, Nat.beq_eq]; exact h
      rw [List.filter_cons_of_neg e]
      simp only [RO]
      rw [if_neg (fun q => h q.1)]
      exact ih
  | (t + 2, x, n, z) :: l => by
    have ih := RO_filter (a := a) (j := j) l
    by_cases h : a = x
    · have e : affR a (t + 2, x, n, z) = true := by simp only [affR, Nat.beq_eq]; exact h
      rw [List.filter_cons_of_pos e]
      simp only [RO]
      rw [ih]
    · have e : ¬ affR a (t + 2, x, n, z) = true := by simp only [affR, Nat.beq_eq]; exact h
      rw [List.filter_cons_of_neg e]
      simp only [RO]
      rw [if_neg (fun q => h q.1)]
      exact ih
def okO : OL → Bool
  | [] => true
  | (0, _, _, _) :: l => okO l
  | (1, x, y, _) :: l => (Nat.blt x 278 && Nat.blt y 16) && okO l
  | (_, x, n, _) :: l => (Nat.blt x 278 && Nat.ble n 16) && okO l
theorem RO_out {a j : Nat} (h : 278 ≤ a ∨ 16 ≤ j) : ∀ l : OL, okO l = true → RO l a j = none
  | [], _ => rfl
  | (0, n, k, z) :: l, e => by
    simp only [okO] at e
    simp only [RO]
    split
    · rfl
    · exact RO_out h l e
  | (1, x, y, v) :: l, e => by
    simp only [okO, Bool.and_eq_true, Nat.blt_eq] at e
    simp only [RO]
    rw [if_neg (by omega)]
    exact RO_out h l e.2
  | (t + 2, x, n, z) :: l, e => by
    simp only [okO, Bool.and_eq_true, Nat.blt_eq, Nat.ble_eq] at e
    simp only [RO]
    rw [if_neg (by omega)]
    exact RO_out h l e.2
theorem RT_out {a j : Nat} (h : 278 ≤ a ∨ 16 ≤ j) : RT a j = none := by
  have e : (rtL.getD a []).getD j 0 = 0 := by
    have hl : rtL.length = 278 := by decide +kernel
    have hr : ∀ r ∈ rtL, r.length ≤ 16 := by decide +kernel
    by_cases ha : a < rtL.length
    · have hm : rtL.getD a [] ∈ rtL := by
        rw [List.getD_eq_getElem?_getD, List.getElem?_eq_getElem ha]
        exact List.getElem_mem ha
      have := hr _ hm
      rw [List.getD_eq_getElem?_getD, List.getElem?_eq_none (by omega)]
      rfl
    · have e2 : rtL.getD a [] = [] := by
        rw [List.getD_eq_getElem?_getD, List.getElem?_eq_none (by omega)]
        rfl
      rw [e2]
      rfl
  unfold RT
  rw [e]
def w1L : OL := evs 1 [(0, 1, 1, 0), (0, 0, 1, 0)] 8
def w2L : OL := evs 64 ((0, 64, 1, 0) :: (1, 0, 0, 1) :: w1L) 8
def w3L : OL := evs 128 ((0, 128, 1, 0) :: (0, 127, 1, 0) :: (1, 0, 1, 64) :: w2L) 8
def w4L : OL := evs 191 ((0, 191, 1, 0) :: (1, 127, 0, 128) :: w3L) 8
def L106 : OL := (1, 0, 7, 267) :: (0, 267, 1, 0) :: (1, 0, 6, 265) :: roO ((0, 265, 1, 0) :: (1, 0, 5, 258) :: flO ((0, 258, 1, 0) :: (1, 0, 4, 255) :: teO ((0, 255, 1, 0) :: (1, 0, 3, 254) :: (0, 254, 1, 0) :: (1, 0, 2, 127) :: (1, 127, 1, 191) :: w4L)))
def L107 : OL := (1, 268, 13, 277) :: (0, 277, 1, 0) :: (1, 268, 8, 276) :: (0, 276, 1, 0) :: (1, 268, 7, 275) :: (0, 275, 1, 0) :: (1, 268, 5, 274) :: (0, 274, 1, 0) :: (1, 268, 4, 273) :: (0, 273, 1, 0) :: (1, 268, 3, 272) :: (0, 272, 1, 0) :: (1, 268, 2, 271) :: (0, 271, 1, 0) :: (1, 268, 1, 270) :: (0, 270, 1, 0) :: (1, 268, 0, 269) :: (0, 269, 1, 0) :: (0, 268, 1, 0) :: L106
theorem L107_ok : okO L107 = true := by decide +kernel
theorem L107_at : (List.range 278).all (fun a => (List.range 16).all (fun j => decide (RO (L107.filter (affR a)) a j = RT a j))) = true := by decide +kernel
theorem RO_RT : RO L107 = RT := by
  funext a j
  by_cases h : a < 278 ∧ j < 16
  · have k := L107_at
    rw [List.all_eq_true] at k
    have k2 := k a (List.mem_range.mpr h.1)
    rw [List.all_eq_true] at k2
    have k3 := k2 j (List.mem_range.mpr h.2)
    rw [RO_filter]
    exact of_decide_eq_true k3
  · rw [RO_out (by omega) _ L107_ok, RT_out (by omega)]
theorem ws_w1 : WS 64 (RO w1L) 1 := ⟨by
  unfold WT
  repeat' apply And.intro
  all_goals decide +kernel, by decide, fun i hi => by
  unfold ES
  have : i = 0 ∨ i = 1 ∨ i = 2 ∨ i = 3 ∨ i = 4 ∨ i = 5 ∨ i = 6 ∨ i = 7 := by omega
  rcases this with rfl | rfl | rfl | rfl | rfl | rfl | rfl | rfl <;> (repeat' apply And.intro) <;> decide +kernel⟩
theorem ws_w2 : WS 127 (RO w2L) 64 := ⟨by
  unfold WT
  repeat' apply And.intro
  all_goals decide +kernel, by decide, fun i hi => by
  unfold ES
  have : i = 0 ∨ i = 1 ∨ i = 2 ∨ i = 3 ∨ i = 4 ∨ i = 5 ∨ i = 6 ∨ i = 7 := by omega
  rcases this with rfl | rfl | rfl | rfl | rfl | rfl | rfl | rfl <;> (repeat' apply And.intro) <;> decide +kernel⟩
theorem ws_w3 : WS 191 (RO w3L) 128 := ⟨by
  unfold WT
  repeat' apply And.intro
  all_goals decide +kernel, by decide, fun i hi => by
  unfold ES
  have : i = 0 ∨ i = 1 ∨ i = 2 ∨ i = 3 ∨ i = 4 ∨ i = 5 ∨ i = 6 ∨ i = 7 := by omega
  rcases this with rfl | rfl | rfl | rfl | rfl | rfl | rfl | rfl <;> (repeat' apply And.intro) <;> decide +kernel⟩
theorem ws_w4 : WS 254 (RO w4L) 191 := ⟨by
  unfold WT
  repeat' apply And.intro
  all_goals decide +kernel, by decide, fun i hi => by
  unfold ES
  have : i = 0 ∨ i = 1 ∨ i = 2 ∨ i = 3 ∨ i = 4 ∨ i = 5 ∨ i = 6 ∨ i = 7 := by omega
  rcases this with rfl | rfl | rfl | rfl | rfl | rfl | rfl | rfl <;> (repeat' apply And.intro) <;> decide +kernel⟩
section MK3
variable {d : Nat} {M : Nat → Nat → Int} {Qp : PQ}
theorem C_106 (hd : 8 ≤ d) (hz : ZM 0 M) (hq : ∀ M', (∀ w, CW M' 1 (opNew w 4)) → (∀ w, CW M' 64 (opNew w 4)) → ZM 254 M' → (∀ a, 254 ≤ a → M' a = M a) → Qp none (268, RO L106, M')) : CallP d 106 [.inr (.inr (some 0))] (1, RO [(0, 0, 1, 0)], M) Qp := by
  have hN : 268 ≤ NC := by decide
  have eZ : ∀ m k, m + k ≤ 278 → mZ M m k = M := fun m k h2 => mZ_id hz (by omega) h2
  refine s_106 (by omega) hN rfl (fun lq => ?_)
  (simp only [wp, wq, wi, w_iload, w_lload, w_aload, w_istore, w_astore, w_lstore, w_iinc, w_ic, w_lc, w_rc, w_i2, w_l2, w_idv, w_ldv, w_lcmp, w_i2l, w_i2c, w_dup, w_dup2, w_pop, w_obj, w_max, w_if, w_icmp, w_tsw, w_lsw, w_getI, w_getR, w_putI, w_putR, w_ald, w_sld, w_slen, w_ast, w_aald, w_aast, w_new, w_newa, w_mna, w_cpy, w_call, w_ret, w_lret, w_vret, rcv, cnd, nlb, pcats, pcat, inR, inL, ixIn, arOk, List.getElem?_cons_zero, List.getElem?_cons_succ, List.set_cons_zero, List.set_cons_succ, List.length_cons, List.length_nil, List.take_succ_cons, List.take_zero, List.drop_succ_cons, List.drop_zero, List.reverse_cons, List.reverse_nil, List.nil_append, List.cons_append, List.append_nil, Option.toList, Nat.reduceDiv, Nat.reduceMod, Nat.reduceAdd, Nat.reduceLT, Nat.reduceLeDiff, Nat.zero_add, true_and, and_true, and_self, Int.toNat_natCast, Int.reduceToNat, true_or, or_true, eq_self, Int.reduceEq, Int.reduceLE, Int.reduceLT, Int.reduceNeg, Int.reduceAdd, Int.reduceSub, Int.reduceMul, Int.reduceDiv, Nat.reduceEqDiff, Nat.reduceMul, Nat.reduceSub, Qn, Nat.add_zero, Nat.le_refl, reduceIte, Option.map, Bool.false_eq_true, forall_const, not_true, not_false_iff, false_implies, implies_true, k_106_0, g_102.2.2.2, g_103.2.2.2, g_104.2.2.2, g_105.2.2.2, mAl_RO, mRf_RO, mRows_RO, rs_s0, sk1, sk64, rs_s127, sk128, sk191]; (repeat (first | refine And.intro (by omega) ?_ | refine And.intro ?_ (by omega))))
  simp (disch := omega) only [eZ]
  refine C_105 (o := 1) (by omega) (by omega) (fun a h1 h2 j => hz a (by omega) h2 j) ws_w1 (fun M1 c1 f1 => ?_)
  have hz1 : ZM 64 M1 := fun a h1 h2 j => by rw [f1 a (by omega)]; exact hz a (by omega) h2 j
  have eZ1 : ∀ m k, 64 ≤ m → m + k ≤ 278 → mZ M1 m k = M1 := fun m k h1 h2 => mZ_id hz1 h1 h2
  (simp only [wp, wq, wi, w_iload, w_lload, w_aload, w_istore, w_astore, w_lstore, w_iinc, w_ic, w_lc, w_rc, w_i2, w_l2, w_idv, w_ldv, w_lcmp, w_i2l, w_i2c, w_dup, w_dup2, w_pop, w_obj, w_max, w_if, w_icmp, w_tsw, w_lsw, w_getI, w_getR, w_putI, w_putR, w_ald, w_sld, w_slen, w_ast, w_aald, w_aast, w_new, w_newa, w_mna, w_cpy, w_call, w_ret, w_lret, w_vret, rcv, cnd, nlb, pcats, pcat, inR, inL, ixIn, arOk, List.getElem?_cons_zero, List.getElem?_cons_succ, List.set_cons_zero, List.set_cons_succ, List.length_cons, List.length_nil, List.take_succ_cons, List.take_zero, List.drop_succ_cons, List.drop_zero, List.reverse_cons, List.reverse_nil, List.nil_append, List.cons_append, List.append_nil, Option.toList, Nat.reduceDiv, Nat.reduceMod, Nat.reduceAdd, Nat.reduceLT, Nat.reduceLeDiff, Nat.zero_add, true_and, and_true, and_self, Int.toNat_natCast, Int.reduceToNat, true_or, or_true, eq_self, Int.reduceEq, Int.reduceLE, Int.reduceLT, Int.reduceNeg, Int.reduceAdd, Int.reduceSub, Int.reduceMul, Int.reduceDiv, Nat.reduceEqDiff, Nat.reduceMul, Nat.reduceSub, Qn, Nat.add_zero, Nat.le_refl, reduceIte, Option.map, Bool.false_eq_true, forall_const, not_true, not_false_iff, false_implies, implies_true, k_106_0, g_102.2.2.2, g_103.2.2.2, g_104.2.2.2, g_105.2.2.2, mAl_RO, mRf_RO, mRows_RO, rs_s0, sk1, sk64, rs_s127, sk128, sk191]; (repeat (first | refine And.intro (by omega) ?_ | refine And.intro ?_ (by omega))))
  simp (disch := omega) only [eZ1]
  refine C_105 (o := 64) (by omega) (by omega) hz1 ws_w2 (fun M2 c2 f2 => ?_)
  have hz2 : ZM 127 M2 := fun a h1 h2 j => by rw [f2 a (by omega)]; exact hz1 a (by omega) h2 j
  have eZ2 : ∀ m k, 127 ≤ m → m + k ≤ 278 → mZ M2 m k = M2 := fun m k h1 h2 => mZ_id hz2 h1 h2
  (simp only [wp, wq, wi, w_iload, w_lload, w_aload, w_istore, w_astore, w_lstore, w_iinc, w_ic, w_lc, w_rc, w_i2, w_l2, w_idv, w_ldv, w_lcmp, w_i2l, w_i2c, w_dup, w_dup2, w_pop, w_obj, w_max, w_if, w_icmp, w_tsw, w_lsw, w_getI, w_getR, w_putI, w_putR, w_ald, w_sld, w_slen, w_ast, w_aald, w_aast, w_new, w_newa, w_mna, w_cpy, w_call, w_ret, w_lret, w_vret, rcv, cnd, nlb, pcats, pcat, inR, inL, ixIn, arOk, List.getElem?_cons_zero, List.getElem?_cons_succ, List.set_cons_zero, List.set_cons_succ, List.length_cons, List.length_nil, List.take_succ_cons, List.take_zero, List.drop_succ_cons, List.drop_zero, List.reverse_cons, List.reverse_nil, List.nil_append, List.cons_append, List.append_nil, Option.toList, Nat.reduceDiv, Nat.reduceMod, Nat.reduceAdd, Nat.reduceLT, Nat.reduceLeDiff, Nat.zero_add, true_and, and_true, and_self, Int.toNat_natCast, Int.reduceToNat, true_or, or_true, eq_self, Int.reduceEq, Int.reduceLE, Int.reduceLT, Int.reduceNeg, Int.reduceAdd, Int.reduceSub, Int.reduceMul, Int.reduceDiv, Nat.reduceEqDiff, Nat.reduceMul, Nat.reduceSub, Qn, Nat.add_zero, Nat.le_refl, reduceIte, Option.map, Bool.false_eq_true, forall_const, not_true, not_false_iff, false_implies, implies_true, k_106_0, g_102.2.2.2, g_103.2.2.2, g_104.2.2.2, g_105.2.2.2, mAl_RO, mRf_RO, mRows_RO, rs_s0, sk1, sk64, rs_s127, sk128, sk191]; (repeat (first | refine And.intro (by omega) ?_ | refine And.intro ?_ (by omega))))
  simp (disch := omega) only [eZ2]
  refine C_105 (o := 128) (by omega) (by omega) (fun a h1 h2 j => hz2 a (by omega) h2 j) ws_w3 (fun M3 c3 f3 => ?_)
  have hz3 : ZM 191 M3 := fun a h1 h2 j => by rw [f3 a (by omega)]; exact hz2 a (by omega) h2 j
  have eZ3 : ∀ m k, 191 ≤ m → m + k ≤ 278 → mZ M3 m k = M3 := fun m k h1 h2 => mZ_id hz3 h1 h2
  (simp only [wp, wq, wi, w_iload, w_lload, w_aload, w_istore, w_astore, w_lstore, w_iinc, w_ic, w_lc, w_rc, w_i2, w_l2, w_idv, w_ldv, w_lcmp, w_i2l, w_i2c, w_dup, w_dup2, w_pop, w_obj, w_max, w_if, w_icmp, w_tsw, w_lsw, w_getI, w_getR, w_putI, w_putR, w_ald, w_sld, w_slen, w_ast, w_aald, w_aast, w_new, w_newa, w_mna, w_cpy, w_call, w_ret, w_lret, w_vret, rcv, cnd, nlb, pcats, pcat, inR, inL, ixIn, arOk, List.getElem?_cons_zero, List.getElem?_cons_succ, List.set_cons_zero, List.set_cons_succ, List.length_cons, List.length_nil, List.take_succ_cons, List.take_zero, List.drop_succ_cons, List.drop_zero, List.reverse_cons, List.reverse_nil, List.nil_append, List.cons_append, List.append_nil, Option.toList, Nat.reduceDiv, Nat.reduceMod, Nat.reduceAdd, Nat.reduceLT, Nat.reduceLeDiff, Nat.zero_add, true_and, and_true, and_self, Int.toNat_natCast, Int.reduceToNat, true_or, or_true, eq_self, Int.reduceEq, Int.reduceLE, Int.reduceLT, Int.reduceNeg, Int.reduceAdd, Int.reduceSub, Int.reduceMul, Int.reduceDiv, Nat.reduceEqDiff, Nat.reduceMul, Nat.reduceSub, Qn, Nat.add_zero, Nat.le_refl, reduceIte, Option.map, Bool.false_eq_true, forall_const, not_true, not_false_iff, false_implies, implies_true, k_106_0, g_102.2.2.2, g_103.2.2.2, g_104.2.2.2, g_105.2.2.2, mAl_RO, mRf_RO, mRows_RO, rs_s0, sk1, sk64, rs_s127, sk128, sk191]; (repeat (first | refine And.intro (by omega) ?_ | refine And.intro ?_ (by omega))))
  simp (disch := omega) only [eZ3]
  refine C_105 (o := 191) (by omega) (by omega) hz3 ws_w4 (fun M4 c4 f4 => ?_)
  have hz4 : ZM 254 M4 := fun a h1 h2 j => by rw [f4 a (by omega)]; exact hz3 a (by omega) h2 j
  have eZ4 : ∀ m k, 254 ≤ m → m + k ≤ 278 → mZ M4 m k = M4 := fun m k h1 h2 => mZ_id hz4 h1 h2
  (simp only [wp, wq, wi, w_iload, w_lload, w_aload, w_istore, w_astore, w_lstore, w_iinc, w_ic, w_lc, w_rc, w_i2, w_l2, w_idv, w_ldv, w_lcmp, w_i2l, w_i2c, w_dup, w_dup2, w_pop, w_obj, w_max, w_if, w_icmp, w_tsw, w_lsw, w_getI, w_getR, w_putI, w_putR, w_ald, w_sld, w_slen, w_ast, w_aald, w_aast, w_new, w_newa, w_mna, w_cpy, w_call, w_ret, w_lret, w_vret, rcv, cnd, nlb, pcats, pcat, inR, inL, ixIn, arOk, List.getElem?_cons_zero, List.getElem?_cons_succ, List.set_cons_zero, List.set_cons_succ, List.length_cons, List.length_nil, List.take_succ_cons, List.take_zero, List.drop_succ_cons, List.drop_zero, List.reverse_cons, List.reverse_nil, List.nil_append, List.cons_append, List.append_nil, Option.toList, Nat.reduceDiv, Nat.reduceMod, Nat.reduceAdd, Nat.reduceLT, Nat.reduceLeDiff, Nat.zero_add, true_and, and_true, and_self, Int.toNat_natCast, Int.reduceToNat, true_or, or_true, eq_self, Int.reduceEq, Int.reduceLE, Int.reduceLT, Int.reduceNeg, Int.reduceAdd, Int.reduceSub, Int.reduceMul, Int.reduceDiv, Nat.reduceEqDiff, Nat.reduceMul, Nat.reduceSub, Qn, Nat.add_zero, Nat.le_refl, reduceIte, Option.map, Bool.false_eq_true, forall_const, not_true, not_false_iff, false_implies, implies_true, k_106_0, g_102.2.2.2, g_103.2.2.2, g_104.2.2.2, g_105.2.2.2, mAl_RO, mRf_RO, mRows_RO, rs_s0, rs_s127, sk191, rs_s254, rs_s255]; (repeat (first | refine And.intro (by omega) ?_ | refine And.intro ?_ (by omega))))
  simp (disch := omega) only [eZ4]
  refine C_104 (by omega) (fun a h1 h2 j => hz4 a (by omega) h2 j) ?_
  (simp only [wp, wq, wi, w_iload, w_lload, w_aload, w_istore, w_astore, w_lstore, w_iinc, w_ic, w_lc, w_rc, w_i2, w_l2, w_idv, w_ldv, w_lcmp, w_i2l, w_i2c, w_dup, w_dup2, w_pop, w_obj, w_max, w_if, w_icmp, w_tsw, w_lsw, w_getI, w_getR, w_putI, w_putR, w_ald, w_sld, w_slen, w_ast, w_aald, w_aast, w_new, w_newa, w_mna, w_cpy, w_call, w_ret, w_lret, w_vret, rcv, cnd, nlb, pcats, pcat, inR, inL, ixIn, arOk, List.getElem?_cons_zero, List.getElem?_cons_succ, List.set_cons_zero, List.set_cons_succ, List.length_cons, List.length_nil, List.take_succ_cons, List.take_zero, List.drop_succ_cons, List.drop_zero, List.reverse_cons, List.reverse_nil, List.nil_append, List.cons_append, List.append_nil, Option.toList, Nat.reduceDiv, Nat.reduceMod, Nat.reduceAdd, Nat.reduceLT, Nat.reduceLeDiff, Nat.zero_add, true_and, and_true, and_self, Int.toNat_natCast, Int.reduceToNat, true_or, or_true, eq_self, Int.reduceEq, Int.reduceLE, Int.reduceLT, Int.reduceNeg, Int.reduceAdd, Int.reduceSub, Int.reduceMul, Int.reduceDiv, Nat.reduceEqDiff, Nat.reduceMul, Nat.reduceSub, Qn, Nat.add_zero, Nat.le_refl, reduceIte, Option.map, Bool.false_eq_true, forall_const, not_true, not_false_iff, false_implies, implies_true, k_106_0, g_102.2.2.2, g_103.2.2.2, g_104.2.2.2, g_105.2.2.2, mAl_RO, mRf_RO, mRows_RO, rs_s0, rs_s258]; (repeat (first | refine And.intro (by omega) ?_ | refine And.intro ?_ (by omega))))
  simp (disch := omega) only [eZ4]
  refine C_102 (by omega) (fun a h1 h2 j => hz4 a (by omega) h2 j) ?_
  (simp only [wp, wq, wi, w_iload, w_lload, w_aload, w_istore, w_astore, w_lstore, w_iinc, w_ic, w_lc, w_rc, w_i2, w_l2, w_idv, w_ldv, w_lcmp, w_i2l, w_i2c, w_dup, w_dup2, w_pop, w_obj, w_max, w_if, w_icmp, w_tsw, w_lsw, w_getI, w_getR, w_putI, w_putR, w_ald, w_sld, w_slen, w_ast, w_aald, w_aast, w_new, w_newa, w_mna, w_cpy, w_call, w_ret, w_lret, w_vret, rcv, cnd, nlb, pcats, pcat, inR, inL, ixIn, arOk, List.getElem?_cons_zero, List.getElem?_cons_succ, List.set_cons_zero, List.set_cons_succ, List.length_cons, List.length_nil, List.take_succ_cons, List.take_zero, List.drop_succ_cons, List.drop_zero, List.reverse_cons, List.reverse_nil, List.nil_append, List.cons_append, List.append_nil, Option.toList, Nat.reduceDiv, Nat.reduceMod, Nat.reduceAdd, Nat.reduceLT, Nat.reduceLeDiff, Nat.zero_add, true_and, and_true, and_self, Int.toNat_natCast, Int.reduceToNat, true_or, or_true, eq_self, Int.reduceEq, Int.reduceLE, Int.reduceLT, Int.reduceNeg, Int.reduceAdd, Int.reduceSub, Int.reduceMul, Int.reduceDiv, Nat.reduceEqDiff, Nat.reduceMul, Nat.reduceSub, Qn, Nat.add_zero, Nat.le_refl, reduceIte, Option.map, Bool.false_eq_true, forall_const, not_true, not_false_iff, false_implies, implies_true, k_106_0, g_102.2.2.2, g_103.2.2.2, g_104.2.2.2, g_105.2.2.2, mAl_RO, mRf_RO, mRows_RO, rs_s0, rs_s265]; (repeat (first | refine And.intro (by omega) ?_ | refine And.intro ?_ (by omega))))
  simp (disch := omega) only [eZ4]
  refine C_103 (by omega) (fun a h1 h2 j => hz4 a (by omega) h2 j) ?_
  (simp only [wp, wq, wi, w_iload, w_lload, w_aload, w_istore, w_astore, w_lstore, w_iinc, w_ic, w_lc, w_rc, w_i2, w_l2, w_idv, w_ldv, w_lcmp, w_i2l, w_i2c, w_dup, w_dup2, w_pop, w_obj, w_max, w_if, w_icmp, w_tsw, w_lsw, w_getI, w_getR, w_putI, w_putR, w_ald, w_sld, w_slen, w_ast, w_aald, w_aast, w_new, w_newa, w_mna, w_cpy, w_call, w_ret, w_lret, w_vret, rcv, cnd, nlb, pcats, pcat, inR, inL, ixIn, arOk, List.getElem?_cons_zero, List.getElem?_cons_succ, List.set_cons_zero, List.set_cons_succ, List.length_cons, List.length_nil, List.take_succ_cons, List.take_zero, List.drop_succ_cons, List.drop_zero, List.reverse_cons, List.reverse_nil, List.nil_append, List.cons_append, List.append_nil, Option.toList, Nat.reduceDiv, Nat.reduceMod, Nat.reduceAdd, Nat.reduceLT, Nat.reduceLeDiff, Nat.zero_add, true_and, and_true, and_self, Int.toNat_natCast, Int.reduceToNat, true_or, or_true, eq_self, Int.reduceEq, Int.reduceLE, Int.reduceLT, Int.reduceNeg, Int.reduceAdd, Int.reduceSub, Int.reduceMul, Int.reduceDiv, Nat.reduceEqDiff, Nat.reduceMul, Nat.reduceSub, Qn, Nat.add_zero, Nat.le_refl, reduceIte, Option.map, Bool.false_eq_true, forall_const, not_true, not_false_iff, false_implies, implies_true, k_106_0, g_102.2.2.2, g_103.2.2.2, g_104.2.2.2, g_105.2.2.2, mAl_RO, mRf_RO, mRows_RO, rs_s0, rs_s267]; (repeat (first | refine And.intro (by omega) ?_ | refine And.intro ?_ (by omega))))
  simp (disch := omega) only [eZ4]
  refine hq M4 (fun w => ?_) (fun w => ?_) hz4 (fun a ha => by rw [f4 a (by omega), f3 a (by omega), f2 a (by omega), f1 a (by omega)])
  · exact CW_rows (WI_new (by omega)) (c1 w) (fun a h1 h2 => by rw [f4 a (by omega), f3 a (by omega), f2 a (by omega)])
  · exact CW_rows (WI_new (by omega)) (c2 w) (fun a h1 h2 => by rw [f4 a (by omega), f3 a (by omega)])
theorem C_107 (hd : 3 ≤ d) (hz : ZM 268 M) (hq : Qp none (278, RT, mRow M 269 (opNew (M 269) 4))) : CallP d 107 [.inr (.inr (some 268))] (269, RO ((0, 268, 1, 0) :: L106), M) Qp := by
  have hN : 278 ≤ NC := by decide
  have eZ : ∀ m k, 268 ≤ m → m + k ≤ 278 → mZ M m k = M := fun m k h1 h2 => mZ_id hz h1 h2
  have eR := RO_RT
  unfold L107 at eR
  refine s_107 (by omega) hN rfl (fun lq => ?_)
  (simp only [wp, wq, wi, w_iload, w_lload, w_aload, w_istore, w_astore, w_lstore, w_iinc, w_ic, w_lc, w_rc, w_i2, w_l2, w_idv, w_ldv, w_lcmp, w_i2l, w_i2c, w_dup, w_dup2, w_pop, w_obj, w_max, w_if, w_icmp, w_tsw, w_lsw, w_getI, w_getR, w_putI, w_putR, w_ald, w_sld, w_slen, w_ast, w_aald, w_aast, w_new, w_newa, w_mna, w_cpy, w_call, w_ret, w_lret, w_vret, rcv, cnd, nlb, pcats, pcat, inR, inL, ixIn, arOk, List.getElem?_cons_zero, List.getElem?_cons_succ, List.set_cons_zero, List.set_cons_succ, List.length_cons, List.length_nil, List.take_succ_cons, List.take_zero, List.drop_succ_cons, List.drop_zero, List.reverse_cons, List.reverse_nil, List.nil_append, List.cons_append, List.append_nil, Option.toList, Nat.reduceDiv, Nat.reduceMod, Nat.reduceAdd, Nat.reduceLT, Nat.reduceLeDiff, Nat.zero_add, true_and, and_true, and_self, Int.toNat_natCast, Int.reduceToNat, true_or, or_true, eq_self, Int.reduceEq, Int.reduceLE, Int.reduceLT, Int.reduceNeg, Int.reduceAdd, Int.reduceSub, Int.reduceMul, Int.reduceDiv, Nat.reduceEqDiff, Nat.reduceMul, Nat.reduceSub, Qn, Nat.add_zero, Nat.le_refl, reduceIte, Option.map, Bool.false_eq_true, forall_const, not_true, not_false_iff, false_implies, implies_true, k_107_0, g_133.2.2.2, mAl_RO, mRf_RO, mRows_RO, eR, rs_s0, rs_s127, rs_s254, rs_s255, rs_s256, rs_s257, rs_s258, rs_s259, rs_s260, rs_s261, rs_s262, rs_s263, rs_s264, rs_s265, rs_s266, rs_s267, rs_s268, rs_s269, rs_s270, rs_s271, rs_s272, rs_s273, rs_s274, rs_s275, rs_s276, rs_s277, rs_r0_0, rs_r0_1, rs_r0_2, rs_r0_3, rs_r0_4, rs_r0_5, rs_r0_6, rs_r0_7, rs_r127_0, rs_r127_1, rs_r255_0, rs_r255_4, rs_r258_0, rs_r258_1, rs_r258_2, rs_r258_3, rs_r260_0, rs_r260_1, rs_r265_0, rs_r268_0, rs_r268_1, rs_r268_2, rs_r268_3, rs_r268_4, rs_r268_5, rs_r268_7, rs_r268_8, rs_r268_13]; (repeat (first | refine And.intro (by omega) ?_ | refine And.intro ?_ (by omega))))
  simp (disch := omega) only [eZ]
  refine C_anew (by omega) hN (by omega) rs_s269 ?_
  (simp only [wp, wq, wi, w_iload, w_lload, w_aload, w_istore, w_astore, w_lstore, w_iinc, w_ic, w_lc, w_rc, w_i2, w_l2, w_idv, w_ldv, w_lcmp, w_i2l, w_i2c, w_dup, w_dup2, w_pop, w_obj, w_max, w_if, w_icmp, w_tsw, w_lsw, w_getI, w_getR, w_putI, w_putR, w_ald, w_sld, w_slen, w_ast, w_aald, w_aast, w_new, w_newa, w_mna, w_cpy, w_call, w_ret, w_lret, w_vret, rcv, cnd, nlb, pcats, pcat, inR, inL, ixIn, arOk, List.getElem?_cons_zero, List.getElem?_cons_succ, List.set_cons_zero, List.set_cons_succ, List.length_cons, List.length_nil, List.take_succ_cons, List.take_zero, List.drop_succ_cons, List.drop_zero, List.reverse_cons, List.reverse_nil, List.nil_append, List.cons_append, List.append_nil, Option.toList, Nat.reduceDiv, Nat.reduceMod, Nat.reduceAdd, Nat.reduceLT, Nat.reduceLeDiff, Nat.zero_add, true_and, and_true, and_self, Int.toNat_natCast, Int.reduceToNat, true_or, or_true, eq_self, Int.reduceEq, Int.reduceLE, Int.reduceLT, Int.reduceNeg, Int.reduceAdd, Int.reduceSub, Int.reduceMul, Int.reduceDiv, Nat.reduceEqDiff, Nat.reduceMul, Nat.reduceSub, Qn, Nat.add_zero, Nat.le_refl, reduceIte, Option.map, Bool.false_eq_true, forall_const, not_true, not_false_iff, false_implies, implies_true, k_107_0, g_133.2.2.2, rs_s0, rs_s127, rs_s254, rs_s255, rs_s256, rs_s257, rs_s258, rs_s259, rs_s260, rs_s261, rs_s262, rs_s263, rs_s264, rs_s265, rs_s266, rs_s267, rs_s268, rs_s269, rs_s270, rs_s271, rs_s272, rs_s273, rs_s274, rs_s275, rs_s276, rs_s277, rs_r0_0, rs_r0_1, rs_r0_2, rs_r0_3, rs_r0_4, rs_r0_5, rs_r0_6, rs_r0_7, rs_r127_0, rs_r127_1, rs_r255_0, rs_r255_4, rs_r258_0, rs_r258_1, rs_r258_2, rs_r258_3, rs_r260_0, rs_r260_1, rs_r265_0, rs_r268_0, rs_r268_1, rs_r268_2, rs_r268_3, rs_r268_4, rs_r268_5, rs_r268_7, rs_r268_8, rs_r268_13]; (repeat (first | refine And.intro (by omega) ?_ | refine And.intro ?_ (by omega))))
  exact hq
end MK3
