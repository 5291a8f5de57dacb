/-! THE MAKING: references as a list of what was done; the small classes -/
abbrev OL : Type := List (Nat × (Nat × (Nat × Nat)))
def RO : OL → Nat → Nat → Option Nat
  | [] => fun _ _ => none
  | (0, n, k, _) :: l => fun a j => if n ≤ a ∧ a < n + k then none else RO l a j
  | (1, x, y, v) :: l => fun a j => if a = x ∧ j = y then some v else RO l a j
  | (_, x, n, _) :: l => fun a j => if a = x ∧ j < n then some (x + 1 + j) else RO l a j
def mZ (M : Nat → Nat → Int) (n k : Nat) : Nat → Nat → Int := fun a j => if n ≤ a ∧ a < n + k then 0 else M a j
theorem mAl_RO {n k : Nat} {l : OL} {M : Nat → Nat → Int} : mAl (n, RO l, M) k = (n + k, RO ((0, n, k, 0) :: l), mZ M n k) := rfl
theorem mRf_RO {a j v : Nat} {l : OL} : mRf (RO l) a j (some v) = RO ((1, a, j, v) :: l) := rfl
theorem mRows_RO {a n : Nat} {l : OL} : mRows (RO l) a n = RO ((2, a, n, 0) :: l) := rfl
abbrev ZM (n : Nat) (M : Nat → Nat → Int) : Prop := ∀ a, n ≤ a → a < 278 → ∀ j, M a j = 0
theorem mZ_id {c m k : Nat} {M : Nat → Nat → Int} (hz : ZM c M) (h1 : c ≤ m) (h2 : m + k ≤ 278) : mZ M m k = M := by
  funext a j
  unfold mZ
  split
  · rename_i h
    rw [hz a (by omega) (by omega)]
  · rfl
abbrev caO (c : Nat) (l : OL) : OL := (1, c, 3, c + 3) :: (0, c + 3, 1, 0) :: (1, c, 2, c + 2) :: (0, c + 2, 1, 0) :: (1, c, 1, c + 1) :: (0, c + 1, 1, 0) :: l
abbrev evOp (e : Nat) (l : OL) : OL := (1, e, 4, e + 4) :: (0, e + 4, 1, 0) :: (1, e, 3, e + 3) :: (0, e + 3, 1, 0) :: (1, e, 2, e + 2) :: (0, e + 2, 1, 0) :: (1, e, 1, e + 1) :: (0, e + 1, 1, 0) :: l
section MK1
variable {d c : Nat} {l : OL} {M : Nat → Nat → Int} {Qp : PQ}
theorem C_100 (hd : 1 ≤ d) (hc : c + 4 ≤ 278) (hz : ZM c M) (hs : SK c = (0, 0) ∧ SK (c + 1) = (8, 8) ∧ SK (c + 2) = (8, 8) ∧ SK (c + 3) = (9, 8)) (hq : Qp none (c + 4, RO (caO c l), M)) : CallP d 100 [.inr (.inr (some c))] (c + 1, RO l, M) Qp := by
  have hN : c + 4 ≤ NC := hc
  obtain ⟨s0, s1, s2, s3⟩ := hs
  have eZ : ∀ m k, c ≤ m → m + k ≤ 278 → mZ M m k = M := fun m k h1 h2 => mZ_id hz h1 h2
  refine s_100 (by omega) (by omega) rfl (fun lq => ?_)
  (simp only [wp, wq, wi, w_iload, w_lload, w_aload, w_istore, w_astore, w_lstore, w_iinc, w_ic, w_lc, w_rc, w_i2, w_l2, w_idv, w_ldv, w_lcmp, w_i2l, w_i2c, w_dup, w_dup2, w_pop, w_obj, w_max, w_if, w_icmp, w_tsw, w_lsw, w_getI, w_getR, w_putI, w_putR, w_ald, w_sld, w_slen, w_ast, w_aald, w_aast, w_new, w_newa, w_mna, w_cpy, w_call, w_ret, w_lret, w_vret, rcv, cnd, nlb, pcats, pcat, inR, inL, ixIn, arOk, List.getElem?_cons_zero, List.getElem?_cons_succ, List.set_cons_zero, List.set_cons_succ, List.length_cons, List.length_nil, List.take_succ_cons, List.take_zero, List.drop_succ_cons, List.drop_zero, List.reverse_cons, List.reverse_nil, List.nil_append, List.cons_append, List.append_nil, Option.toList, Nat.reduceDiv, Nat.reduceMod, Nat.reduceAdd, Nat.reduceLT, Nat.reduceLeDiff, Nat.zero_add, true_and, and_true, and_self, Int.toNat_natCast, Int.reduceToNat, true_or, or_true, eq_self, Int.reduceEq, Int.reduceLE, Int.reduceLT, Int.reduceNeg, Int.reduceAdd, Int.reduceSub, Int.reduceMul, Int.reduceDiv, Nat.reduceEqDiff, Nat.reduceMul, Nat.reduceSub, Qn, Nat.add_zero, Nat.le_refl, reduceIte, Option.map, Bool.false_eq_true, forall_const, not_true, not_false_iff, false_implies, implies_true, k_100_0, mAl_RO, mRf_RO, Nat.add_assoc, s0, s1, s2, s3]; (repeat (first | refine And.intro (by omega) ?_ | refine And.intro ?_ (by omega))))
  simp (disch := omega) only [eZ]
  exact hq
theorem C_101 (hd : 1 ≤ d) (hc : c + 5 ≤ 278) (hz : ZM c M) (hs : SK c = (1, 0) ∧ SK (c + 1) = (8, 6) ∧ SK (c + 2) = (8, 2) ∧ SK (c + 3) = (8, 2) ∧ SK (c + 4) = (9, 2)) (hq : Qp none (c + 5, RO (evOp c l), M)) : CallP d 101 [.inr (.inr (some c))] (c + 1, RO l, M) Qp := by
  have hN : c + 5 ≤ NC := hc
  obtain ⟨s0, s1, s2, s3, s4⟩ := hs
  have eZ : ∀ m k, c ≤ m → m + k ≤ 278 → mZ M m k = M := fun m k h1 h2 => mZ_id hz h1 h2
  refine s_101 (by omega) (by omega) rfl (fun lq => ?_)
  (simp only [wp, wq, wi, w_iload, w_lload, w_aload, w_istore, w_astore, w_lstore, w_iinc, w_ic, w_lc, w_rc, w_i2, w_l2, w_idv, w_ldv, w_lcmp, w_i2l, w_i2c, w_dup, w_dup2, w_pop, w_obj, w_max, w_if, w_icmp, w_tsw, w_lsw, w_getI, w_getR, w_putI, w_putR, w_ald, w_sld, w_slen, w_ast, w_aald, w_aast, w_new, w_newa, w_mna, w_cpy, w_call, w_ret, w_lret, w_vret, rcv, cnd, nlb, pcats, pcat, inR, inL, ixIn, arOk, List.getElem?_cons_zero, List.getElem?_cons_succ, List.set_cons_zero, List.set_cons_succ, List.length_cons, List.length_nil, List.take_succ_cons, List.take_zero, List.drop_succ_cons, List.drop_zero, List.reverse_cons, List.reverse_nil, List.nil_append, List.cons_append, List.append_nil, Option.toList, Nat.reduceDiv, Nat.reduceMod, Nat.reduceAdd, Nat.reduceLT, Nat.reduceLeDiff, Nat.zero_add, true_and, and_true, and_self, Int.toNat_natCast, Int.reduceToNat, true_or, or_true, eq_self, Int.reduceEq, Int.reduceLE, Int.reduceLT, Int.reduceNeg, Int.reduceAdd, Int.reduceSub, Int.reduceMul, Int.reduceDiv, Nat.reduceEqDiff, Nat.reduceMul, Nat.reduceSub, Qn, Nat.add_zero, Nat.le_refl, reduceIte, Option.map, Bool.false_eq_true, forall_const, not_true, not_false_iff, false_implies, implies_true, k_101_0, mAl_RO, mRf_RO, Nat.add_assoc, s0, s1, s2, s3, s4]; (repeat (first | refine And.intro (by omega) ?_ | refine And.intro ?_ (by omega))))
  simp (disch := omega) only [eZ]
  exact hq
abbrev flO (l : OL) : OL := (1, 258, 3, 264) :: (0, 264, 1, 0) :: (1, 258, 2, 263) :: (0, 263, 1, 0) :: (1, 258, 1, 260) :: (2, 260, 2, 0) :: (0, 260, 3, 0) :: (1, 258, 0, 259) :: (0, 259, 1, 0) :: l
theorem C_102 (hd : 1 ≤ d) (hz : ZM 258 M) (hq : Qp none (265, RO (flO l), M)) : CallP d 102 [.inr (.inr (some 258))] (259, RO l, M) Qp := by
  have hN : 265 ≤ NC := by decide
  have eZ : ∀ m k, 258 ≤ m → m + k ≤ 278 → mZ M m k = M := fun m k h1 h2 => mZ_id hz h1 h2
  refine s_102 (by omega) hN rfl (fun lq => ?_)
  (simp only [wp, wq, wi, w_iload, w_lload, w_aload, w_istore, w_astore, w_lstore, w_iinc, w_ic, w_lc, w_rc, w_i2, w_l2, w_idv, w_ldv, w_lcmp, w_i2l, w_i2c, w_dup, w_dup2, w_pop, w_obj, w_max, w_if, w_icmp, w_tsw, w_lsw, w_getI, w_getR, w_putI, w_putR, w_ald, w_sld, w_slen, w_ast, w_aald, w_aast, w_new, w_newa, w_mna, w_cpy, w_call, w_ret, w_lret, w_vret, rcv, cnd, nlb, pcats, pcat, inR, inL, ixIn, arOk, List.getElem?_cons_zero, List.getElem?_cons_succ, List.set_cons_zero, List.set_cons_succ, List.length_cons, List.length_nil, List.take_succ_cons, List.take_zero, List.drop_succ_cons, List.drop_zero, List.reverse_cons, List.reverse_nil, List.nil_append, List.cons_append, List.append_nil, Option.toList, Nat.reduceDiv, Nat.reduceMod, Nat.reduceAdd, Nat.reduceLT, Nat.reduceLeDiff, Nat.zero_add, true_and, and_true, and_self, Int.toNat_natCast, Int.reduceToNat, true_or, or_true, eq_self, Int.reduceEq, Int.reduceLE, Int.reduceLT, Int.reduceNeg, Int.reduceAdd, Int.reduceSub, Int.reduceMul, Int.reduceDiv, Nat.reduceEqDiff, Nat.reduceMul, Nat.reduceSub, Qn, Nat.add_zero, Nat.le_refl, reduceIte, Option.map, Bool.false_eq_true, forall_const, not_true, not_false_iff, false_implies, implies_true, k_102_0, mAl_RO, mRf_RO, mRows_RO, Nat.add_assoc, rs_s258, rs_s259, rs_s260, rs_s263, rs_s264]; (repeat (first | refine And.intro (by omega) ?_ | refine And.intro ?_ (by omega))))
  refine And.intro (fun i hi => ?_) ?_
  · have : i = 0 ∨ i = 1 := by omega
    rcases this with rfl | rfl
    · exact rs_s261
    · exact rs_s262
  (repeat (first | refine And.intro (by omega) ?_ | refine And.intro ?_ (by omega)))
  simp (disch := omega) only [eZ]
  exact hq
abbrev roO (l : OL) : OL := (1, 265, 0, 266) :: (0, 266, 1, 0) :: l
theorem C_103 (hd : 1 ≤ d) (hz : ZM 265 M) (hq : Qp none (267, RO (roO l), M)) : CallP d 103 [.inr (.inr (some 265))] (266, RO l, M) Qp := by
  have hN : 267 ≤ NC := by decide
  have eZ : ∀ m k, 265 ≤ m → m + k ≤ 278 → mZ M m k = M := fun m k h1 h2 => mZ_id hz h1 h2
  refine s_103 (by omega) hN rfl (fun lq => ?_)
  (simp only [wp, wq, wi, w_iload, w_lload, w_aload, w_istore, w_astore, w_lstore, w_iinc, w_ic, w_lc, w_rc, w_i2, w_l2, w_idv, w_ldv, w_lcmp, w_i2l, w_i2c, w_dup, w_dup2, w_pop, w_obj, w_max, w_if, w_icmp, w_tsw, w_lsw, w_getI, w_getR, w_putI, w_putR, w_ald, w_sld, w_slen, w_ast, w_aald, w_aast, w_new, w_newa, w_mna, w_cpy, w_call, w_ret, w_lret, w_vret, rcv, cnd, nlb, pcats, pcat, inR, inL, ixIn, arOk, List.getElem?_cons_zero, List.getElem?_cons_succ, List.set_cons_zero, List.set_cons_succ, List.length_cons, List.length_nil, List.take_succ_cons, List.take_zero, List.drop_succ_cons, List.drop_zero, List.reverse_cons, List.reverse_nil, List.nil_append, List.cons_append, List.append_nil, Option.toList, Nat.reduceDiv, Nat.reduceMod, Nat.reduceAdd, Nat.reduceLT, Nat.reduceLeDiff, Nat.zero_add, true_and, and_true, and_self, Int.toNat_natCast, Int.reduceToNat, true_or, or_true, eq_self, Int.reduceEq, Int.reduceLE, Int.reduceLT, Int.reduceNeg, Int.reduceAdd, Int.reduceSub, Int.reduceMul, Int.reduceDiv, Nat.reduceEqDiff, Nat.reduceMul, Nat.reduceSub, Qn, Nat.add_zero, Nat.le_refl, reduceIte, Option.map, Bool.false_eq_true, forall_const, not_true, not_false_iff, false_implies, implies_true, k_103_0, mAl_RO, mRf_RO, mRows_RO, Nat.add_assoc, rs_s265, rs_s266]; (repeat (first | refine And.intro (by omega) ?_ | refine And.intro ?_ (by omega))))
  simp (disch := omega) only [eZ]
  exact hq
abbrev teO (l : OL) : OL := (1, 255, 4, 257) :: (0, 257, 1, 0) :: (1, 255, 0, 256) :: (0, 256, 1, 0) :: l
theorem C_104 (hd : 1 ≤ d) (hz : ZM 255 M) (hq : Qp none (258, RO (teO l), M)) : CallP d 104 [.inr (.inr (some 255))] (256, RO l, M) Qp := by
  have hN : 258 ≤ NC := by decide
  have eZ : ∀ m k, 255 ≤ m → m + k ≤ 278 → mZ M m k = M := fun m k h1 h2 => mZ_id hz h1 h2
  refine s_104 (by omega) hN rfl (fun lq => ?_)
  (simp only [wp, wq, wi, w_iload, w_lload, w_aload, w_istore, w_astore, w_lstore, w_iinc, w_ic, w_lc, w_rc, w_i2, w_l2, w_idv, w_ldv, w_lcmp, w_i2l, w_i2c, w_dup, w_dup2, w_pop, w_obj, w_max, w_if, w_icmp, w_tsw, w_lsw, w_getI, w_getR, w_putI, w_putR, w_ald, w_sld, w_slen, w_ast, w_aald, w_aast, w_new, w_newa, w_mna, w_cpy, w_call, w_ret, w_lret, w_vret, rcv, cnd, nlb, pcats, pcat, inR, inL, ixIn, arOk, List.getElem?_cons_zero, List.getElem?_cons_succ, List.set_cons_zero, List.set_cons_succ, List.length_cons, List.length_nil, List.take_succ_cons, List.take_zero, List.drop_succ_cons, List.drop_zero, List.reverse_cons, List.reverse_nil, List.nil_append, List.cons_append, List.append_nil, Option.toList, Nat.reduceDiv, Nat.reduceMod, Nat.reduceAdd, Nat.reduceLT, Nat.reduceLeDiff, Nat.zero_add, true_and, and_true, and_self, Int.toNat_natCast, Int.reduceToNat, true_or, or_true, eq_self, Int.reduceEq, Int.reduceLE, Int.reduceLT, Int.reduceNeg, Int.reduceAdd, Int.reduceSub, Int.reduceMul, Int.reduceDiv, Nat.reduceEqDiff, Nat.reduceMul, Nat.reduceSub, Qn, Nat.add_zero, Nat.le_refl, reduceIte, Option.map, Bool.false_eq_true, forall_const, not_true, not_false_iff, false_implies, implies_true, k_104_0, mAl_RO, mRf_RO, mRows_RO, Nat.add_assoc, rs_s255, rs_s256, rs_s257]; (repeat (first | refine And.intro (by omega) ?_ | refine And.intro ?_ (by omega))))
  simp (disch := omega) only [eZ]
  exact hq
end MK1
