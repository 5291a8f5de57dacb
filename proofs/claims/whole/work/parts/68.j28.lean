/-! THE JDK's bitCount, of the bits 0 to 5 -/
def popN (s : Int) : Nat → Int
  | 0 => 0
  | k + 1 => popN s k + btI s k
theorem popN_b {s : Int} : ∀ k : Nat, 0 ≤ popN s k ∧ popN s k ≤ k
  | 0 => ⟨Int.le_refl _, Int.le_refl _⟩
  | k + 1 => by
    have ih := popN_b (s := s) k
    have b := btI_01 s k
    show 0 ≤ popN s k + btI s k ∧ popN s k + btI s k ≤ ((k + 1 : Nat) : Int)
    omega
theorem f_211 : (((plainName (mY 211).cls && decide (rN (oN 211) = (mY 211).cls)) && decide (mML 211 = 1)) && decide (aC 211 = 0)) = true := by decide +kernel
theorem g_211 : plainName (mY 211).cls = true ∧ rN (oN 211) = (mY 211).cls ∧ mML 211 = 1 ∧ aC 211 = 0 := by
  have h := f_211
  simp only [Bool.and_eq_true, decide_eq_true_eq] at h
  exact ⟨h.1.1.1, h.1.1.2, h.1.2, h.2⟩
def bcT : List (Nat × Int) := [(265, 1431655765), (266, 858993459), (267, 252645135)]
theorem bcT_1 : inW 760 (.constant (mY 211).cls 265 (pI 1431655765)) = true := by decide +kernel
theorem bcT_2 : inW 761 (.constant (mY 211).cls 266 (pI 858993459)) = true := by decide +kernel
theorem bcT_3 : inW 762 (.constant (mY 211).cls 267 (pI 252645135)) = true := by decide +kernel
theorem bcT_ok {i : Nat} {z : Int} (h : (i, z) ∈ bcT) : Cond.constant (mY 211).cls i (pI z) ∈ WUg := by
  simp only [bcT, List.mem_cons, Prod.mk.injEq, List.not_mem_nil, or_false] at h
  rcases h with ⟨rfl, rfl⟩ | ⟨rfl, rfl⟩ | ⟨rfl, rfl⟩
  · exact inW_ok bcT_1
  · exact inW_ok bcT_2
  · exact inW_ok bcT_3
def okb1 (pc : Nat) (raw : Instr) (len : Nat) (i : Instr) : Bool := match raw, i with
  | .ldc_w idx, .bipush z => decide ((idx, z) ∈ bcT) && decide (len = 3)
  | raw, i => decide (lk 211 pc raw len = some i)
def okb : Nat → List Instr → Bool
  | _, [] => true
  | pc, i :: r => match decode (mB 211) pc with
    | .ok (raw, len) => okb1 pc raw len i && okb (pc + len) r
    | _ => false
theorem soundb {l : Launch} {d n0 : Nat} {Qp : PQ} (hN : n0 + aC 211 ≤ NC) (hd1 : 1 ≤ d) : ∀ (code : List Instr) (pc : Nat), okb pc code = true → ∀ (ls : List (Option PV)) (st : List PV) (h : PMem), wp (n0 + aC 211) (fun t => At l d 211 n0 Qp t) (CallP (d - 1)) Qp code ls st h → At l d 211 n0 Qp pc ls st h
  | [], _, _, _, _, _, hw => hw.elim
  | i :: r, pc, hc, ls, st, h, hw => by
    unfold okb at hc
    split at hc
    · rename_i raw len hdec
      rw [Bool.and_eq_true] at hc
      obtain ⟨h1, h2⟩ := hc
      have hk := fun ls st h hw => soundb (l := l) (Qp := Qp) hN hd1 r (pc + len) h2 ls st h hw
      unfold okb1 at h1
      split at h1
      · rename_i idx z
        rw [Bool.and_eq_true, decide_eq_true_eq, decide_eq_true_eq] at h1
        obtain ⟨h3, rfl⟩ := h1
        exact so_ldcw (bcT_ok h3) hdec hk hw
      · rw [decide_eq_true_eq] at h1
        exact sound1 g_211.2.1 hN hd1 h1 hdec hk hw
    · cases hc
def k_211 : List Instr := [.iload 0, .iload 0, .bipush (1), .iushr, .bipush (1431655765), .iand, .isub, .istore 0, .iload 0, .bipush (858993459), .iand, .iload 0, .bipush (2), .iushr, .bipush (858993459), .iand, .iadd, .istore 0, .iload 0, .iload 0, .bipush (4), .iushr, .iadd, .bipush (252645135), .iand, .istore 0, .iload 0, .iload 0, .bipush (8), .iushr, .iadd, .istore 0, .iload 0, .iload 0, .bipush (16), .iushr, .iadd, .istore 0, .iload 0, .bipush (63), .iand, .ireturn]
theorem k_211_ok : okb 0 k_211 = true := by decide +kernel
def bc1 (x : Int) : Int := x - bAnd (bUshr x 1) 1431655765
def bc2 (x : Int) : Int := bAnd x 858993459 + bAnd (bUshr x 2) 858993459
def bc3 (x : Int) : Int := bAnd (x + bUshr x 4) 252645135
def bc4 (x : Int) : Int := x + bUshr x 8
def bc5 (x : Int) : Int := x + bUshr x 16
def bcF (x : Int) : Int := bAnd (bc5 (bc4 (bc3 (bc2 (bc1 x))))) 63
theorem bc_all : ∀ n, n < 64 → bcF ((n : Nat) : Int) = popN ((n : Nat) : Int) 6 := by decide +kernel
theorem C_bitCount {d : Nat} {Qp : PQ} {x : Int} {h : PMem} (hd : 1 ≤ d) (hN : h.1 ≤ NC) (hx : 0 ≤ x ∧ x < 64) (h1 : Qp (some (.inl (popN x 6))) h) : CallP d 211 [.inl x] h Qp := by
  refine call_of g_211.1 (by rw [g_211.2.2.1]; simp only [pcats, pcat]; decide) (fun l => ?_)
  have e : ent (mML 211) [.inl x] = [some (.inl x)] := by rw [g_211.2.2.1]; simp [ent, pcats, pcat, List.replicate]
  rw [e]
  refine soundb (by rw [g_211.2.2.2]; exact hN) hd k_211 0 k_211_ok _ _ _ ?_
  rw [g_211.2.2.2]
  obtain ⟨n, rfl⟩ := Int.eq_ofNat_of_zero_le hx.1
  rw [← bc_all n (by omega)] at h1
  simp only [bcF, bc1, bc2, bc3, bc4, bc5] at h1
  simp only [wp, wq, wi, w_iload, w_lload, w_aload, w_istore, w_astore, w_lstore, w_iinc, w_ic, w_lc, w_rc, w_i2, w_l2, w_idv, w_ldv, w_lcmp, w_i2l, w_i2c, w_dup, w_dup2, w_pop, w_obj, w_max, w_if, w_icmp, w_tsw, w_lsw, w_getI, w_getR, w_putI, w_putR, w_ald, w_sld, w_slen, w_ast, w_aald, w_aast, w_new, w_newa, w_mna, w_cpy, w_call, w_ret, w_lret, w_vret, rcv, cnd, nlb, pcats, pcat, inR, inL, ixIn, arOk, List.getElem?_cons_zero, List.getElem?_cons_succ, List.set_cons_zero, List.set_cons_succ, List.length_cons, List.length_nil, List.take_succ_cons, List.take_zero, List.drop_succ_cons, List.drop_zero, List.reverse_cons, List.reverse_nil, List.nil_append, List.cons_append, List.append_nil, Option.toList, Nat.reduceDiv, Nat.reduceMod, Nat.reduceAdd, Nat.reduceLT, Nat.reduceLeDiff, Nat.zero_add, true_and, and_true, and_self, Int.toNat_natCast, Int.reduceToNat, true_or, or_true, eq_self, Int.reduceEq, Int.reduceLE, Int.reduceLT, Int.reduceNeg, Int.reduceAdd, Int.reduceSub, Int.reduceMul, Int.reduceDiv, Nat.reduceEqDiff, Nat.reduceMul, Nat.reduceSub, Qn, Nat.add_zero, Nat.le_refl, reduceIte, Option.map, Bool.false_eq_true, forall_const, not_true, not_false_iff, false_implies, implies_true, k_211]
  exact h1
theorem lCmp_ge {a b : Int} : 0 ≤ lCmp a b ↔ b ≤ a := by
  unfold lCmp
  split
  · omega
  · split <;> omega
theorem lCmp_eq {a b : Int} : lCmp a b = 0 ↔ a = b := by
  unfold lCmp
  split
  · omega
  · split <;> omega
theorem lCmp_b {a b : Int} : -1 ≤ lCmp a b ∧ lCmp a b ≤ 1 := by
  unfold lCmp
  split
  · omega
  · split <;> omega
