/-! BLOCKS CUT at a loop's head: q_<method>_<label> ends where the loop begins (printed by wip/whole/gen18b.py) -/
def wq (N : Nat) (J : Nat → PK) (C : Nat → List PV → PMem → PQ → Prop) (Rr : PQ) (e : Nat) : List Instr → PK
  | [] => J e
  | i :: r => wi N J C Rr i (wq N J C Rr e r)
def okq (mid e : Nat) : Nat → List Instr → Bool
  | pc, [] => pc == e
  | pc, i :: r => match decode (mB mid) pc with
    | .ok (raw, len) => decide (lk mid pc raw len = some i) && okq mid e (pc + len) r
    | _ => false
theorem soundq {l : Launch} {d mid n0 e : Nat} {Qp : PQ} (hm : rN (oN mid) = (mY mid).cls) (hN : n0 + aC mid ≤ NC) (hd1 : 1 ≤ d) : ∀ (code : List Instr) (pc : Nat), okq mid e pc code = true → ∀ (ls : List (Option PV)) (st : List PV) (h : PMem), wq (n0 + aC mid) (fun t => At l d mid n0 Qp t) (CallP (d - 1)) Qp e code ls st h → At l d mid n0 Qp pc ls st h
  | [], pc, hc, _, _, _, hw => by
    have : pc = e := eq_of_beq hc
    rw [this]
    exact hw
  | i :: r, pc, hc, ls, st, h, hw => by
    unfold okq at hc
    split at hc
    · rename_i raw len hdec
      simp only [Bool.and_eq_true, decide_eq_true_eq] at hc
      exact sound1 hm hN hd1 hc.1 hdec (fun ls st h hw => soundq hm hN hd1 r (pc + len) hc.2 ls st h hw) hw
    · cases hc
def q_1_0 : List Instr := [.bipush (0), .istore 1, .bipush (0), .istore 2]
theorem q_1_0_ok : okq 1 4 0 q_1_0 = true := by decide +kernel
theorem m_1_0 {l : Launch} {d n0 : Nat} {Qp : PQ} {ls : List (Option PV)} {st : List PV} {h : PMem} (hd : 1 ≤ d) (hN : n0 ≤ NC) (hw : wq n0 (fun t => At l d 1 n0 Qp t) (CallP (d - 1)) Qp 4 q_1_0 ls st h) : At l d 1 n0 Qp 0 ls st h := soundq g_1.2.1 (by rw [g_1.2.2.2]; exact hN) hd q_1_0 0 q_1_0_ok ls st h (by rw [g_1.2.2.2]; exact hw)
theorem u_1 {d : Nat} {Qp : PQ} {v0 : PV} {h : PMem} (hd : 1 ≤ d) (hN : h.1 ≤ NC) (c0 : pcat v0 = 1 := by rfl) (hw : ∀ l, wq h.1 (fun t => At l d 1 h.1 (Qn h.1 Qp) t) (CallP (d - 1)) (Qn h.1 Qp) 4 q_1_0 [some v0, none, none] [] h) : CallP d 1 [v0] h Qp := by
  refine call_of g_1.1 (by rw [g_1.2.2.1]; simp only [pcats, c0, pcatL]; decide) (fun l => ?_)
  have e : ent (mML 1) [v0] = [some v0, none, none] := by rw [g_1.2.2.1]; simp [ent, pcats, c0, pcatL, List.replicate]
  rw [e]
  exact m_1_0 hd hN (hw l) |> fun k => by rw [g_1.2.2.2]; exact k
def q_2_0 : List Instr := [.bipush (-1), .istore 1, .bipush (0), .istore 2]
theorem q_2_0_ok : okq 2 4 0 q_2_0 = true := by decide +kernel
theorem m_2_0 {l : Launch} {d n0 : Nat} {Qp : PQ} {ls : List (Option PV)} {st : List PV} {h : PMem} (hd : 1 ≤ d) (hN : n0 ≤ NC) (hw : wq n0 (fun t => At l d 2 n0 Qp t) (CallP (d - 1)) Qp 4 q_2_0 ls st h) : At l d 2 n0 Qp 0 ls st h := soundq g_2.2.1 (by rw [g_2.2.2.2]; exact hN) hd q_2_0 0 q_2_0_ok ls st h (by rw [g_2.2.2.2]; exact hw)
theorem u_2 {d : Nat} {Qp : PQ} {v0 : PV} {h : PMem} (hd : 1 ≤ d) (hN : h.1 ≤ NC) (c0 : pcat v0 = 1 := by rfl) (hw : ∀ l, wq h.1 (fun t => At l d 2 h.1 (Qn h.1 Qp) t) (CallP (d - 1)) (Qn h.1 Qp) 4 q_2_0 [some v0, none, none] [] h) : CallP d 2 [v0] h Qp := by
  refine call_of g_2.1 (by rw [g_2.2.2.1]; simp only [pcats, c0, pcatL]; decide) (fun l => ?_)
  have e : ent (mML 2) [v0] = [some v0, none, none] := by rw [g_2.2.2.1]; simp [ent, pcats, c0, pcatL, List.replicate]
  rw [e]
  exact m_2_0 hd hN (hw l) |> fun k => by rw [g_2.2.2.2]; exact k
def q_3_0 : List Instr := [.bipush (0), .istore 2, .bipush (0), .istore 3, .bipush (0), .istore 4]
theorem q_3_0_ok : okq 3 7 0 q_3_0 = true := by decide +kernel
theorem m_3_0 {l : Launch} {d n0 : Nat} {Qp : PQ} {ls : List (Option PV)} {st : List PV} {h : PMem} (hd : 1 ≤ d) (hN : n0 ≤ NC) (hw : wq n0 (fun t => At l d 3 n0 Qp t) (CallP (d - 1)) Qp 7 q_3_0 ls st h) : At l d 3 n0 Qp 0 ls st h := soundq g_3.2.1 (by rw [g_3.2.2.2]; exact hN) hd q_3_0 0 q_3_0_ok ls st h (by rw [g_3.2.2.2]; exact hw)
theorem u_3 {d : Nat} {Qp : PQ} {v0 : PV} {v1 : PV} {h : PMem} (hd : 1 ≤ d) (hN : h.1 ≤ NC) (c0 : pcat v0 = 1 := by rfl) (c1 : pcat v1 = 1 := by rfl) (hw : ∀ l, wq h.1 (fun t => At l d 3 h.1 (Qn h.1 Qp) t) (CallP (d - 1)) (Qn h.1 Qp) 7 q_3_0 [some v0, some v1, none, none, none] [] h) : CallP d 3 [v0, v1] h Qp := by
  refine call_of g_3.1 (by rw [g_3.2.2.1]; simp only [pcats, c0, c1, pcatL]; decide) (fun l => ?_)
  have e : ent (mML 3) [v0, v1] = [some v0, some v1, none, none, none] := by rw [g_3.2.2.1]; simp [ent, pcats, c0, c1, pcatL, List.replicate]
  rw [e]
  exact m_3_0 hd hN (hw l) |> fun k => by rw [g_3.2.2.2]; exact k
def q_5_0 : List Instr := [.aload 0, .bipush (0), .putfield 100, .bipush (0), .istore 1]
theorem q_5_0_ok : okq 5 7 0 q_5_0 = true := by decide +kernel
theorem m_5_0 {l : Launch} {d n0 : Nat} {Qp : PQ} {ls : List (Option PV)} {st : List PV} {h : PMem} (hd : 1 ≤ d) (hN : n0 ≤ NC) (hw : wq n0 (fun t => At l d 5 n0 Qp t) (CallP (d - 1)) Qp 7 q_5_0 ls st h) : At l d 5 n0 Qp 0 ls st h := soundq g_5.2.1 (by rw [g_5.2.2.2]; exact hN) hd q_5_0 0 q_5_0_ok ls st h (by rw [g_5.2.2.2]; exact hw)
theorem u_5 {d : Nat} {Qp : PQ} {v0 : PV} {h : PMem} (hd : 1 ≤ d) (hN : h.1 ≤ NC) (c0 : pcat v0 = 1 := by rfl) (hw : ∀ l, wq h.1 (fun t => At l d 5 h.1 (Qn h.1 Qp) t) (CallP (d - 1)) (Qn h.1 Qp) 7 q_5_0 [some v0, none] [] h) : CallP d 5 [v0] h Qp := by
  refine call_of g_5.1 (by rw [g_5.2.2.1]; simp only [pcats, c0, pcatL]; decide) (fun l => ?_)
  have e : ent (mML 5) [v0] = [some v0, none] := by rw [g_5.2.2.1]; simp [ent, pcats, c0, pcatL, List.replicate]
  rw [e]
  exact m_5_0 hd hN (hw l) |> fun k => by rw [g_5.2.2.2]; exact k
def q_7_0 : List Instr := [.bipush (0), .istore 1]
theorem q_7_0_ok : okq 7 2 0 q_7_0 = true := by decide +kernel
theorem m_7_0 {l : Launch} {d n0 : Nat} {Qp : PQ} {ls : List (Option PV)} {st : List PV} {h : PMem} (hd : 1 ≤ d) (hN : n0 ≤ NC) (hw : wq n0 (fun t => At l d 7 n0 Qp t) (CallP (d - 1)) Qp 2 q_7_0 ls st h) : At l d 7 n0 Qp 0 ls st h := soundq g_7.2.1 (by rw [g_7.2.2.2]; exact hN) hd q_7_0 0 q_7_0_ok ls st h (by rw [g_7.2.2.2]; exact hw)
theorem u_7 {d : Nat} {Qp : PQ} {v0 : PV} {h : PMem} (hd : 1 ≤ d) (hN : h.1 ≤ NC) (c0 : pcat v0 = 1 := by rfl) (hw : ∀ l, wq h.1 (fun t => At l d 7 h.1 (Qn h.1 Qp) t) (CallP (d - 1)) (Qn h.1 Qp) 2 q_7_0 [some v0, none] [] h) : CallP d 7 [v0] h Qp := by
  refine call_of g_7.1 (by rw [g_7.2.2.1]; simp only [pcats, c0, pcatL]; decide) (fun l => ?_)
  have e : ent (mML 7) [v0] = [some v0, none] := by rw [g_7.2.2.1]; simp [ent, pcats, c0, pcatL, List.replicate]
  rw [e]
  exact m_7_0 hd hN (hw l) |> fun k => by rw [g_7.2.2.2]; exact k
def q_9_0 : List Instr := [.aload 0, .aload 1, .iload 2, .invokeinterface 13 210, .bipush (0), .istore 3]
theorem q_9_0_ok : okq 9 8 0 q_9_0 = true := by decide +kernel
theorem m_9_0 {l : Launch} {d n0 : Nat} {Qp : PQ} {ls : List (Option PV)} {st : List PV} {h : PMem} (hd : 1 ≤ d) (hN : n0 ≤ NC) (hw : wq n0 (fun t => At l d 9 n0 Qp t) (CallP (d - 1)) Qp 8 q_9_0 ls st h) : At l d 9 n0 Qp 0 ls st h := soundq g_9.2.1 (by rw [g_9.2.2.2]; exact hN) hd q_9_0 0 q_9_0_ok ls st h (by rw [g_9.2.2.2]; exact hw)
theorem u_9 {d : Nat} {Qp : PQ} {v0 : PV} {v1 : PV} {v2 : PV} {h : PMem} (hd : 1 ≤ d) (hN : h.1 ≤ NC) (c0 : pcat v0 = 1 := by rfl) (c1 : pcat v1 = 1 := by rfl) (c2 : pcat v2 = 1 := by rfl) (hw : ∀ l, wq h.1 (fun t => At l d 9 h.1 (Qn h.1 Qp) t) (CallP (d - 1)) (Qn h.1 Qp) 8 q_9_0 [some v0, some v1, some v2, none, none] [] h) : CallP d 9 [v0, v1, v2] h Qp := by
  refine call_of g_9.1 (by rw [g_9.2.2.1]; simp only [pcats, c0, c1, c2, pcatL]; decide) (fun l => ?_)
  have e : ent (mML 9) [v0, v1, v2] = [some v0, some v1, some v2, none, none] := by rw [g_9.2.2.1]; simp [ent, pcats, c0, c1, c2, pcatL, List.replicate]
  rw [e]
  exact m_9_0 hd hN (hw l) |> fun k => by rw [g_9.2.2.2]; exact k
def q_9_8 : List Instr := [.iload 3, .bipush (2), .if_icmp .ge (67), .bipush (0), .istore 4]
theorem q_9_8_ok : okq 9 16 8 q_9_8 = true := by decide +kernel
theorem m_9_8 {l : Launch} {d n0 : Nat} {Qp : PQ} {ls : List (Option PV)} {st : List PV} {h : PMem} (hd : 1 ≤ d) (hN : n0 ≤ NC) (hw : wq n0 (fun t => At l d 9 n0 Qp t) (CallP (d - 1)) Qp 16 q_9_8 ls st h) : At l d 9 n0 Qp 8 ls st h := soundq g_9.2.1 (by rw [g_9.2.2.2]; exact hN) hd q_9_8 8 q_9_8_ok ls st h (by rw [g_9.2.2.2]; exact hw)
def q_11_0 : List Instr := [.bipush (0), .istore 2, .bipush (0), .istore 3]
theorem q_11_0_ok : okq 11 4 0 q_11_0 = true := by decide +kernel
theorem m_11_0 {l : Launch} {d n0 : Nat} {Qp : PQ} {ls : List (Option PV)} {st : List PV} {h : PMem} (hd : 1 ≤ d) (hN : n0 ≤ NC) (hw : wq n0 (fun t => At l d 11 n0 Qp t) (CallP (d - 1)) Qp 4 q_11_0 ls st h) : At l d 11 n0 Qp 0 ls st h := soundq g_11.2.1 (by rw [g_11.2.2.2]; exact hN) hd q_11_0 0 q_11_0_ok ls st h (by rw [g_11.2.2.2]; exact hw)
theorem u_11 {d : Nat} {Qp : PQ} {v0 : PV} {v1 : PV} {h : PMem} (hd : 1 ≤ d) (hN : h.1 ≤ NC) (c0 : pcat v0 = 1 := by rfl) (c1 : pcat v1 = 1 := by rfl) (hw : ∀ l, wq h.1 (fun t => At l d 11 h.1 (Qn h.1 Qp) t) (CallP (d - 1)) (Qn h.1 Qp) 4 q_11_0 [some v0, some v1, none, none, none] [] h) : CallP d 11 [v0, v1] h Qp := by
  refine call_of g_11.1 (by rw [g_11.2.2.1]; simp only [pcats, c0, c1, pcatL]; decide) (fun l => ?_)
  have e : ent (mML 11) [v0, v1] = [some v0, some v1, none, none, none] := by rw [g_11.2.2.1]; simp [ent, pcats, c0, c1, pcatL, List.replicate]
  rw [e]
  exact m_11_0 hd hN (hw l) |> fun k => by rw [g_11.2.2.2]; exact k
def q_11_4 : List Instr := [.iload 3, .bipush (8), .if_icmp .ge (73), .bipush (0), .istore 4]
theorem q_11_4_ok : okq 11 13 4 q_11_4 = true := by decide +kernel
theorem m_11_4 {l : Launch} {d n0 : Nat} {Qp : PQ} {ls : List (Option PV)} {st : List PV} {h : PMem} (hd : 1 ≤ d) (hN : n0 ≤ NC) (hw : wq n0 (fun t => At l d 11 n0 Qp t) (CallP (d - 1)) Qp 13 q_11_4 ls st h) : At l d 11 n0 Qp 4 ls st h := soundq g_11.2.1 (by rw [g_11.2.2.2]; exact hN) hd q_11_4 4 q_11_4_ok ls st h (by rw [g_11.2.2.2]; exact hw)
def q_12_0 : List Instr := [.bipush (0), .istore 3, .bipush (0), .istore 4]
theorem q_12_0_ok : okq 12 5 0 q_12_0 = true := by decide +kernel
theorem m_12_0 {l : Launch} {d n0 : Nat} {Qp : PQ} {ls : List (Option PV)} {st : List PV} {h : PMem} (hd : 1 ≤ d) (hN : n0 ≤ NC) (hw : wq n0 (fun t => At l d 12 n0 Qp t) (CallP (d - 1)) Qp 5 q_12_0 ls st h) : At l d 12 n0 Qp 0 ls st h := soundq g_12.2.1 (by rw [g_12.2.2.2]; exact hN) hd q_12_0 0 q_12_0_ok ls st h (by rw [g_12.2.2.2]; exact hw)
theorem u_12 {d : Nat} {Qp : PQ} {v0 : PV} {v1 : PV} {v2 : PV} {h : PMem} (hd : 1 ≤ d) (hN : h.1 ≤ NC) (c0 : pcat v0 = 1 := by rfl) (c1 : pcat v1 = 1 := by rfl) (c2 : pcat v2 = 1 := by rfl) (hw : ∀ l, wq h.1 (fun t => At l d 12 h.1 (Qn h.1 Qp) t) (CallP (d - 1)) (Qn h.1 Qp) 5 q_12_0 [some v0, some v1, some v2, none, none] [] h) : CallP d 12 [v0, v1, v2] h Qp := by
  refine call_of g_12.1 (by rw [g_12.2.2.1]; simp only [pcats, c0, c1, c2, pcatL]; decide) (fun l => ?_)
  have e : ent (mML 12) [v0, v1, v2] = [some v0, some v1, some v2, none, none] := by rw [g_12.2.2.1]; simp [ent, pcats, c0, c1, c2, pcatL, List.replicate]
  rw [e]
  exact m_12_0 hd hN (hw l) |> fun k => by rw [g_12.2.2.2]; exact k
def q_13_0 : List Instr := [.bipush (0), .istore 3]
theorem q_13_0_ok : okq 13 2 0 q_13_0 = true := by decide +kernel
theorem m_13_0 {l : Launch} {d n0 : Nat} {Qp : PQ} {ls : List (Option PV)} {st : List PV} {h : PMem} (hd : 1 ≤ d) (hN : n0 ≤ NC) (hw : wq n0 (fun t => At l d 13 n0 Qp t) (CallP (d - 1)) Qp 2 q_13_0 ls st h) : At l d 13 n0 Qp 0 ls st h := soundq g_13.2.1 (by rw [g_13.2.2.2]; exact hN) hd q_13_0 0 q_13_0_ok ls st h (by rw [g_13.2.2.2]; exact hw)
theorem u_13 {d : Nat} {Qp : PQ} {v0 : PV} {v1 : PV} {v2 : PV} {h : PMem} (hd : 1 ≤ d) (hN : h.1 ≤ NC) (c0 : pcat v0 = 1 := by rfl) (c1 : pcat v1 = 1 := by rfl) (c2 : pcat v2 = 1 := by rfl) (hw : ∀ l, wq h.1 (fun t => At l d 13 h.1 (Qn h.1 Qp) t) (CallP (d - 1)) (Qn h.1 Qp) 2 q_13_0 [some v0, some v1, some v2, none] [] h) : CallP d 13 [v0, v1, v2] h Qp := by
  refine call_of g_13.1 (by rw [g_13.2.2.1]; simp only [pcats, c0, c1, c2, pcatL]; decide) (fun l => ?_)
  have e : ent (mML 13) [v0, v1, v2] = [some v0, some v1, some v2, none] := by rw [g_13.2.2.1]; simp [ent, pcats, c0, c1, c2, pcatL, List.replicate]
  rw [e]
  exact m_13_0 hd hN (hw l) |> fun k => by rw [g_13.2.2.2]; exact k
def q_14_0 : List Instr := [.bipush (-1), .istore 1, .bipush (0), .istore 2, .bipush (0), .istore 3]
theorem q_14_0_ok : okq 14 6 0 q_14_0 = true := by decide +kernel
theorem m_14_0 {l : Launch} {d n0 : Nat} {Qp : PQ} {ls : List (Option PV)} {st : List PV} {h : PMem} (hd : 1 ≤ d) (hN : n0 ≤ NC) (hw : wq n0 (fun t => At l d 14 n0 Qp t) (CallP (d - 1)) Qp 6 q_14_0 ls st h) : At l d 14 n0 Qp 0 ls st h := soundq g_14.2.1 (by rw [g_14.2.2.2]; exact hN) hd q_14_0 0 q_14_0_ok ls st h (by rw [g_14.2.2.2]; exact hw)
theorem u_14 {d : Nat} {Qp : PQ} {v0 : PV} {h : PMem} (hd : 1 ≤ d) (hN : h.1 ≤ NC) (c0 : pcat v0 = 1 := by rfl) (hw : ∀ l, wq h.1 (fun t => At l d 14 h.1 (Qn h.1 Qp) t) (CallP (d - 1)) (Qn h.1 Qp) 6 q_14_0 [some v0, none, none, none, none, none] [] h) : CallP d 14 [v0] h Qp := by
  refine call_of g_14.1 (by rw [g_14.2.2.1]; simp only [pcats, c0, pcatL]; decide) (fun l => ?_)
  have e : ent (mML 14) [v0] = [some v0, none, none, none, none, none] := by rw [g_14.2.2.1]; simp [ent, pcats, c0, pcatL, List.replicate]
  rw [e]
  exact m_14_0 hd hN (hw l) |> fun k => by rw [g_14.2.2.2]; exact k
def q_14_6 : List Instr := [.iload 3, .bipush (8), .if_icmp .ge (86), .bipush (0), .istore 4]
theorem q_14_6_ok : okq 14 15 6 q_14_6 = true := by decide +kernel
theorem m_14_6 {l : Launch} {d n0 : Nat} {Qp : PQ} {ls : List (Option PV)} {st : List PV} {h : PMem} (hd : 1 ≤ d) (hN : n0 ≤ NC) (hw : wq n0 (fun t => At l d 14 n0 Qp t) (CallP (d - 1)) Qp 15 q_14_6 ls st h) : At l d 14 n0 Qp 6 ls st h := soundq g_14.2.1 (by rw [g_14.2.2.2]; exact hN) hd q_14_6 6 q_14_6_ok ls st h (by rw [g_14.2.2.2]; exact hw)
def q_17_43 : List Instr := [.bipush (0), .istore 4]
theorem q_17_43_ok : okq 17 46 43 q_17_43 = true := by decide +kernel
theorem m_17_43 {l : Launch} {d n0 : Nat} {Qp : PQ} {ls : List (Option PV)} {st : List PV} {h : PMem} (hd : 1 ≤ d) (hN : n0 ≤ NC) (hw : wq n0 (fun t => At l d 17 n0 Qp t) (CallP (d - 1)) Qp 46 q_17_43 ls st h) : At l d 17 n0 Qp 43 ls st h := soundq g_17.2.1 (by rw [g_17.2.2.2]; exact hN) hd q_17_43 43 q_17_43_ok ls st h (by rw [g_17.2.2.2]; exact hw)
def q_17_46 : List Instr := [.iload 4, .bipush (8), .if_icmp .ge (119), .bipush (0), .istore 5]
theorem q_17_46_ok : okq 17 56 46 q_17_46 = true := by decide +kernel
theorem m_17_46 {l : Launch} {d n0 : Nat} {Qp : PQ} {ls : List (Option PV)} {st : List PV} {h : PMem} (hd : 1 ≤ d) (hN : n0 ≤ NC) (hw : wq n0 (fun t => At l d 17 n0 Qp t) (CallP (d - 1)) Qp 56 q_17_46 ls st h) : At l d 17 n0 Qp 46 ls st h := soundq g_17.2.1 (by rw [g_17.2.2.2]; exact hN) hd q_17_46 46 q_17_46_ok ls st h (by rw [g_17.2.2.2]; exact hw)
def q_18_0 : List Instr := [.bipush (0), .istore 4]
theorem q_18_0_ok : okq 18 3 0 q_18_0 = true := by decide +kernel
theorem m_18_0 {l : Launch} {d n0 : Nat} {Qp : PQ} {ls : List (Option PV)} {st : List PV} {h : PMem} (hd : 1 ≤ d) (hN : n0 ≤ NC) (hw : wq n0 (fun t => At l d 18 n0 Qp t) (CallP (d - 1)) Qp 3 q_18_0 ls st h) : At l d 18 n0 Qp 0 ls st h := soundq g_18.2.1 (by rw [g_18.2.2.2]; exact hN) hd q_18_0 0 q_18_0_ok ls st h (by rw [g_18.2.2.2]; exact hw)
theorem u_18 {d : Nat} {Qp : PQ} {v0 : PV} {v1 : PV} {v2 : PV} {v3 : PV} {h : PMem} (hd : 1 ≤ d) (hN : h.1 ≤ NC) (c0 : pcat v0 = 1 := by rfl) (c1 : pcat v1 = 1 := by rfl) (c2 : pcat v2 = 1 := by rfl) (c3 : pcat v3 = 1 := by rfl) (hw : ∀ l, wq h.1 (fun t => At l d 18 h.1 (Qn h.1 Qp) t) (CallP (d - 1)) (Qn h.1 Qp) 3 q_18_0 [some v0, some v1, some v2, some v3, none, none] [] h) : CallP d 18 [v0, v1, v2, v3] h Qp := by
  refine call_of g_18.1 (by rw [g_18.2.2.1]; simp only [pcats, c0, c1, c2, c3, pcatL]; decide) (fun l => ?_)
  have e : ent (mML 18) [v0, v1, v2, v3] = [some v0, some v1, some v2, some v3, none, none] := by rw [g_18.2.2.1]; simp [ent, pcats, c0, c1, c2, c3, pcatL, List.replicate]
  rw [e]
  exact m_18_0 hd hN (hw l) |> fun k => by rw [g_18.2.2.2]; exact k
def q_19_0 : List Instr := [.bipush (0), .istore 4, .bipush (0), .istore 5]
theorem q_19_0_ok : okq 19 6 0 q_19_0 = true := by decide +kernel
theorem m_19_0 {l : Launch} {d n0 : Nat} {Qp : PQ} {ls : List (Option PV)} {st : List PV} {h : PMem} (hd : 1 ≤ d) (hN : n0 ≤ NC) (hw : wq n0 (fun t => At l d 19 n0 Qp t) (CallP (d - 1)) Qp 6 q_19_0 ls st h) : At l d 19 n0 Qp 0 ls st h := soundq g_19.2.1 (by rw [g_19.2.2.2]; exact hN) hd q_19_0 0 q_19_0_ok ls st h (by rw [g_19.2.2.2]; exact hw)
theorem u_19 {d : Nat} {Qp : PQ} {v0 : PV} {v1 : PV} {v2 : PV} {v3 : PV} {h : PMem} (hd : 1 ≤ d) (hN : h.1 ≤ NC) (c0 : pcat v0 = 1 := by rfl) (c1 : pcat v1 = 1 := by rfl) (c2 : pcat v2 = 1 := by rfl) (c3 : pcat v3 = 1 := by rfl) (hw : ∀ l, wq h.1 (fun t => At l d 19 h.1 (Qn h.1 Qp) t) (CallP (d - 1)) (Qn h.1 Qp) 6 q_19_0 [some v0, some v1, some v2, some v3, none, none, none, none, none] [] h) : CallP d 19 [v0, v1, v2, v3] h Qp := by
  refine call_of g_19.1 (by rw [g_19.2.2.1]; simp only [pcats, c0, c1, c2, c3, pcatL]; decide) (fun l => ?_)
  have e : ent (mML 19) [v0, v1, v2, v3] = [some v0, some v1, some v2, some v3, none, none, none, none, none] := by rw [g_19.2.2.1]; simp [ent, pcats, c0, c1, c2, c3, pcatL, List.replicate]
  rw [e]
  exact m_19_0 hd hN (hw l) |> fun k => by rw [g_19.2.2.2]; exact k
def q_19_46 : List Instr := [.bipush (0), .iadd, .istore 4, .bipush (0), .istore 7]
theorem q_19_46_ok : okq 19 53 46 q_19_46 = true := by decide +kernel
theorem m_19_46 {l : Launch} {d n0 : Nat} {Qp : PQ} {ls : List (Option PV)} {st : List PV} {h : PMem} (hd : 1 ≤ d) (hN : n0 ≤ NC) (hw : wq n0 (fun t => At l d 19 n0 Qp t) (CallP (d - 1)) Qp 53 q_19_46 ls st h) : At l d 19 n0 Qp 46 ls st h := soundq g_19.2.1 (by rw [g_19.2.2.2]; exact hN) hd q_19_46 46 q_19_46_ok ls st h (by rw [g_19.2.2.2]; exact hw)
def q_19_47 : List Instr := [.iadd, .istore 4, .bipush (0), .istore 7]
theorem q_19_47_ok : okq 19 53 47 q_19_47 = true := by decide +kernel
theorem m_19_47 {l : Launch} {d n0 : Nat} {Qp : PQ} {ls : List (Option PV)} {st : List PV} {h : PMem} (hd : 1 ≤ d) (hN : n0 ≤ NC) (hw : wq n0 (fun t => At l d 19 n0 Qp t) (CallP (d - 1)) Qp 53 q_19_47 ls st h) : At l d 19 n0 Qp 47 ls st h := soundq g_19.2.1 (by rw [g_19.2.2.2]; exact hN) hd q_19_47 47 q_19_47_ok ls st h (by rw [g_19.2.2.2]; exact hw)
def q_32_18 : List Instr := [.bipush (0), .istore 2]
theorem q_32_18_ok : okq 32 20 18 q_32_18 = true := by decide +kernel
theorem m_32_18 {l : Launch} {d n0 : Nat} {Qp : PQ} {ls : List (Option PV)} {st : List PV} {h : PMem} (hd : 1 ≤ d) (hN : n0 ≤ NC) (hw : wq n0 (fun t => At l d 32 n0 Qp t) (CallP (d - 1)) Qp 20 q_32_18 ls st h) : At l d 32 n0 Qp 18 ls st h := soundq g_32.2.1 (by rw [g_32.2.2.2]; exact hN) hd q_32_18 18 q_32_18_ok ls st h (by rw [g_32.2.2.2]; exact hw)
def q_34_0 : List Instr := [.bipush (0), .istore 1]
theorem q_34_0_ok : okq 34 2 0 q_34_0 = true := by decide +kernel
theorem m_34_0 {l : Launch} {d n0 : Nat} {Qp : PQ} {ls : List (Option PV)} {st : List PV} {h : PMem} (hd : 1 ≤ d) (hN : n0 ≤ NC) (hw : wq n0 (fun t => At l d 34 n0 Qp t) (CallP (d - 1)) Qp 2 q_34_0 ls st h) : At l d 34 n0 Qp 0 ls st h := soundq g_34.2.1 (by rw [g_34.2.2.2]; exact hN) hd q_34_0 0 q_34_0_ok ls st h (by rw [g_34.2.2.2]; exact hw)
theorem u_34 {d : Nat} {Qp : PQ} {v0 : PV} {h : PMem} (hd : 1 ≤ d) (hN : h.1 ≤ NC) (c0 : pcat v0 = 1 := by rfl) (hw : ∀ l, wq h.1 (fun t => At l d 34 h.1 (Qn h.1 Qp) t) (CallP (d - 1)) (Qn h.1 Qp) 2 q_34_0 [some v0, none] [] h) : CallP d 34 [v0] h Qp := by
  refine call_of g_34.1 (by rw [g_34.2.2.1]; simp only [pcats, c0, pcatL]; decide) (fun l => ?_)
  have e : ent (mML 34) [v0] = [some v0, none] := by rw [g_34.2.2.1]; simp [ent, pcats, c0, pcatL, List.replicate]
  rw [e]
  exact m_34_0 hd hN (hw l) |> fun k => by rw [g_34.2.2.2]; exact k
def q_35_0 : List Instr := [.bipush (0), .istore 3, .iload 1, .istore 4]
theorem q_35_0_ok : okq 35 5 0 q_35_0 = true := by decide +kernel
theorem m_35_0 {l : Launch} {d n0 : Nat} {Qp : PQ} {ls : List (Option PV)} {st : List PV} {h : PMem} (hd : 1 ≤ d) (hN : n0 ≤ NC) (hw : wq n0 (fun t => At l d 35 n0 Qp t) (CallP (d - 1)) Qp 5 q_35_0 ls st h) : At l d 35 n0 Qp 0 ls st h := soundq g_35.2.1 (by rw [g_35.2.2.2]; exact hN) hd q_35_0 0 q_35_0_ok ls st h (by rw [g_35.2.2.2]; exact hw)
theorem u_35 {d : Nat} {Qp : PQ} {v0 : PV} {v1 : PV} {v2 : PV} {h : PMem} (hd : 1 ≤ d) (hN : h.1 ≤ NC) (c0 : pcat v0 = 1 := by rfl) (c1 : pcat v1 = 1 := by rfl) (c2 : pcat v2 = 1 := by rfl) (hw : ∀ l, wq h.1 (fun t => At l d 35 h.1 (Qn h.1 Qp) t) (CallP (d - 1)) (Qn h.1 Qp) 5 q_35_0 [some v0, some v1, some v2, none, none, none] [] h) : CallP d 35 [v0, v1, v2] h Qp := by
  refine call_of g_35.1 (by rw [g_35.2.2.1]; simp only [pcats, c0, c1, c2, pcatL]; decide) (fun l => ?_)
  have e : ent (mML 35) [v0, v1, v2] = [some v0, some v1, some v2, none, none, none] := by rw [g_35.2.2.1]; simp [ent, pcats, c0, c1, c2, pcatL, List.replicate]
  rw [e]
  exact m_35_0 hd hN (hw l) |> fun k => by rw [g_35.2.2.2]; exact k
def q_38_0 : List Instr := [.bipush (-1), .istore 2, .bipush (0), .istore 3, .aload 0, .bipush (0), .putfield 403]
theorem q_38_0_ok : okq 38 9 0 q_38_0 = true := by decide +kernel
theorem m_38_0 {l : Launch} {d n0 : Nat} {Qp : PQ} {ls : List (Option PV)} {st : List PV} {h : PMem} (hd : 1 ≤ d) (hN : n0 ≤ NC) (hw : wq n0 (fun t => At l d 38 n0 Qp t) (CallP (d - 1)) Qp 9 q_38_0 ls st h) : At l d 38 n0 Qp 0 ls st h := soundq g_38.2.1 (by rw [g_38.2.2.2]; exact hN) hd q_38_0 0 q_38_0_ok ls st h (by rw [g_38.2.2.2]; exact hw)
theorem u_38 {d : Nat} {Qp : PQ} {v0 : PV} {v1 : PV} {h : PMem} (hd : 1 ≤ d) (hN : h.1 ≤ NC) (c0 : pcat v0 = 1 := by rfl) (c1 : pcat v1 = 1 := by rfl) (hw : ∀ l, wq h.1 (fun t => At l d 38 h.1 (Qn h.1 Qp) t) (CallP (d - 1)) (Qn h.1 Qp) 9 q_38_0 [some v0, some v1, none, none, none, none] [] h) : CallP d 38 [v0, v1] h Qp := by
  refine call_of g_38.1 (by rw [g_38.2.2.1]; simp only [pcats, c0, c1, pcatL]; decide) (fun l => ?_)
  have e : ent (mML 38) [v0, v1] = [some v0, some v1, none, none, none, none] := by rw [g_38.2.2.1]; simp [ent, pcats, c0, c1, pcatL, List.replicate]
  rw [e]
  exact m_38_0 hd hN (hw l) |> fun k => by rw [g_38.2.2.2]; exact k
def q_39_0 : List Instr := [.iload 1, .invokeinterface 40 64, .istore 2, .bipush (0), .istore 3]
theorem q_39_0_ok : okq 39 7 0 q_39_0 = true := by decide +kernel
theorem m_39_0 {l : Launch} {d n0 : Nat} {Qp : PQ} {ls : List (Option PV)} {st : List PV} {h : PMem} (hd : 1 ≤ d) (hN : n0 ≤ NC) (hw : wq n0 (fun t => At l d 39 n0 Qp t) (CallP (d - 1)) Qp 7 q_39_0 ls st h) : At l d 39 n0 Qp 0 ls st h := soundq g_39.2.1 (by rw [g_39.2.2.2]; exact hN) hd q_39_0 0 q_39_0_ok ls st h (by rw [g_39.2.2.2]; exact hw)
theorem u_39 {d : Nat} {Qp : PQ} {v0 : PV} {v1 : PV} {h : PMem} (hd : 1 ≤ d) (hN : h.1 ≤ NC) (c0 : pcat v0 = 1 := by rfl) (c1 : pcat v1 = 1 := by rfl) (hw : ∀ l, wq h.1 (fun t => At l d 39 h.1 (Qn h.1 Qp) t) (CallP (d - 1)) (Qn h.1 Qp) 7 q_39_0 [some v0, some v1, none, none] [] h) : CallP d 39 [v0, v1] h Qp := by
  refine call_of g_39.1 (by rw [g_39.2.2.1]; simp only [pcats, c0, c1, pcatL]; decide) (fun l => ?_)
  have e : ent (mML 39) [v0, v1] = [some v0, some v1, none, none] := by rw [g_39.2.2.1]; simp [ent, pcats, c0, c1, pcatL, List.replicate]
  rw [e]
  exact m_39_0 hd hN (hw l) |> fun k => by rw [g_39.2.2.2]; exact k
def q_42_0 : List Instr := [.aload 0, .aload 0, .getfield 403, .putfield 402]
theorem q_42_0_ok : okq 42 8 0 q_42_0 = true := by decide +kernel
theorem m_42_0 {l : Launch} {d n0 : Nat} {Qp : PQ} {ls : List (Option PV)} {st : List PV} {h : PMem} (hd : 1 ≤ d) (hN : n0 ≤ NC) (hw : wq n0 (fun t => At l d 42 n0 Qp t) (CallP (d - 1)) Qp 8 q_42_0 ls st h) : At l d 42 n0 Qp 0 ls st h := soundq g_42.2.1 (by rw [g_42.2.2.2]; exact hN) hd q_42_0 0 q_42_0_ok ls st h (by rw [g_42.2.2.2]; exact hw)
theorem u_42 {d : Nat} {Qp : PQ} {v0 : PV} {h : PMem} (hd : 1 ≤ d) (hN : h.1 ≤ NC) (c0 : pcat v0 = 1 := by rfl) (hw : ∀ l, wq h.1 (fun t => At l d 42 h.1 (Qn h.1 Qp) t) (CallP (d - 1)) (Qn h.1 Qp) 8 q_42_0 [some v0] [] h) : CallP d 42 [v0] h Qp := by
  refine call_of g_42.1 (by rw [g_42.2.2.1]; simp only [pcats, c0, pcatL]; decide) (fun l => ?_)
  have e : ent (mML 42) [v0] = [some v0] := by rw [g_42.2.2.1]; simp [ent, pcats, c0, pcatL, List.replicate]
  rw [e]
  exact m_42_0 hd hN (hw l) |> fun k => by rw [g_42.2.2.2]; exact k
def q_42_67 : List Instr := [.aload 0, .dup, .getfield 403, .bipush (1), .iadd, .putfield 403, .aload 0, .getstatic 400, .aload 0, .getfield 402, .caload, .invokeinterface 43 64, .ifCond .eq (133)]
theorem q_42_67_ok : okq 42 92 67 q_42_67 = true := by decide +kernel
theorem m_42_67 {l : Launch} {d n0 : Nat} {Qp : PQ} {ls : List (Option PV)} {st : List PV} {h : PMem} (hd : 1 ≤ d) (hN : n0 ≤ NC) (hw : wq n0 (fun t => At l d 42 n0 Qp t) (CallP (d - 1)) Qp 92 q_42_67 ls st h) : At l d 42 n0 Qp 67 ls st h := soundq g_42.2.1 (by rw [g_42.2.2.2]; exact hN) hd q_42_67 67 q_42_67_ok ls st h (by rw [g_42.2.2.2]; exact hw)
def q_42_133 : List Instr := [.aload 0, .getstatic 400, .aload 0, .getfield 402, .caload, .invokeinterface 44 64, .ifCond .eq (206)]
theorem q_42_133_ok : okq 42 148 133 q_42_133 = true := by decide +kernel
theorem m_42_133 {l : Launch} {d n0 : Nat} {Qp : PQ} {ls : List (Option PV)} {st : List PV} {h : PMem} (hd : 1 ≤ d) (hN : n0 ≤ NC) (hw : wq n0 (fun t => At l d 42 n0 Qp t) (CallP (d - 1)) Qp 148 q_42_133 ls st h) : At l d 42 n0 Qp 133 ls st h := soundq g_42.2.1 (by rw [g_42.2.2.2]; exact hN) hd q_42_133 133 q_42_133_ok ls st h (by rw [g_42.2.2.2]; exact hw)
def q_45_0 : List Instr := [.bipush (0), .istore 1, .aload 0, .getfield 402, .istore 2]
theorem q_45_0_ok : okq 45 7 0 q_45_0 = true := by decide +kernel
theorem m_45_0 {l : Launch} {d n0 : Nat} {Qp : PQ} {ls : List (Option PV)} {st : List PV} {h : PMem} (hd : 1 ≤ d) (hN : n0 ≤ NC) (hw : wq n0 (fun t => At l d 45 n0 Qp t) (CallP (d - 1)) Qp 7 q_45_0 ls st h) : At l d 45 n0 Qp 0 ls st h := soundq g_45.2.1 (by rw [g_45.2.2.2]; exact hN) hd q_45_0 0 q_45_0_ok ls st h (by rw [g_45.2.2.2]; exact hw)
theorem u_45 {d : Nat} {Qp : PQ} {v0 : PV} {h : PMem} (hd : 1 ≤ d) (hN : h.1 ≤ NC) (c0 : pcat v0 = 1 := by rfl) (hw : ∀ l, wq h.1 (fun t => At l d 45 h.1 (Qn h.1 Qp) t) (CallP (d - 1)) (Qn h.1 Qp) 7 q_45_0 [some v0, none, none] [] h) : CallP d 45 [v0] h Qp := by
  refine call_of g_45.1 (by rw [g_45.2.2.1]; simp only [pcats, c0, pcatL]; decide) (fun l => ?_)
  have e : ent (mML 45) [v0] = [some v0, none, none] := by rw [g_45.2.2.1]; simp [ent, pcats, c0, pcatL, List.replicate]
  rw [e]
  exact m_45_0 hd hN (hw l) |> fun k => by rw [g_45.2.2.2]; exact k
def q_47_18 : List Instr := [.bipush (0), .istore 2]
theorem q_47_18_ok : okq 47 20 18 q_47_18 = true := by decide +kernel
theorem m_47_18 {l : Launch} {d n0 : Nat} {Qp : PQ} {ls : List (Option PV)} {st : List PV} {h : PMem} (hd : 1 ≤ d) (hN : n0 ≤ NC) (hw : wq n0 (fun t => At l d 47 n0 Qp t) (CallP (d - 1)) Qp 20 q_47_18 ls st h) : At l d 47 n0 Qp 18 ls st h := soundq g_47.2.1 (by rw [g_47.2.2.2]; exact hN) hd q_47_18 18 q_47_18_ok ls st h (by rw [g_47.2.2.2]; exact hw)
def q_48_0 : List Instr := [.aload 0, .iload 1, .putfield 500, .bipush (0), .istore 2]
theorem q_48_0_ok : okq 48 7 0 q_48_0 = true := by decide +kernel
theorem m_48_0 {l : Launch} {d n0 : Nat} {Qp : PQ} {ls : List (Option PV)} {st : List PV} {h : PMem} (hd : 1 ≤ d) (hN : n0 ≤ NC) (hw : wq n0 (fun t => At l d 48 n0 Qp t) (CallP (d - 1)) Qp 7 q_48_0 ls st h) : At l d 48 n0 Qp 0 ls st h := soundq g_48.2.1 (by rw [g_48.2.2.2]; exact hN) hd q_48_0 0 q_48_0_ok ls st h (by rw [g_48.2.2.2]; exact hw)
theorem u_48 {d : Nat} {Qp : PQ} {v0 : PV} {v1 : PV} {h : PMem} (hd : 1 ≤ d) (hN : h.1 ≤ NC) (c0 : pcat v0 = 1 := by rfl) (c1 : pcat v1 = 1 := by rfl) (hw : ∀ l, wq h.1 (fun t => At l d 48 h.1 (Qn h.1 Qp) t) (CallP (d - 1)) (Qn h.1 Qp) 7 q_48_0 [some v0, some v1, none, none] [] h) : CallP d 48 [v0, v1] h Qp := by
  refine call_of g_48.1 (by rw [g_48.2.2.1]; simp only [pcats, c0, c1, pcatL]; decide) (fun l => ?_)
  have e : ent (mML 48) [v0, v1] = [some v0, some v1, none, none] := by rw [g_48.2.2.1]; simp [ent, pcats, c0, c1, pcatL, List.replicate]
  rw [e]
  exact m_48_0 hd hN (hw l) |> fun k => by rw [g_48.2.2.2]; exact k
def q_48_7 : List Instr := [.iload 2, .bipush (6), .if_icmp .ge (56), .aload 0, .getstatic 501, .iload 2, .bipush (2), .iastore, .aload 0, .getstatic 502, .iload 2, .bipush (2), .iastore, .bipush (0), .istore 3]
theorem q_48_7_ok : okq 48 29 7 q_48_7 = true := by decide +kernel
theorem m_48_7 {l : Launch} {d n0 : Nat} {Qp : PQ} {ls : List (Option PV)} {st : List PV} {h : PMem} (hd : 1 ≤ d) (hN : n0 ≤ NC) (hw : wq n0 (fun t => At l d 48 n0 Qp t) (CallP (d - 1)) Qp 29 q_48_7 ls st h) : At l d 48 n0 Qp 7 ls st h := soundq g_48.2.1 (by rw [g_48.2.2.2]; exact hN) hd q_48_7 7 q_48_7_ok ls st h (by rw [g_48.2.2.2]; exact hw)
def q_48_56 : List Instr := [.bipush (0), .istore 2]
theorem q_48_56_ok : okq 48 58 56 q_48_56 = true := by decide +kernel
theorem m_48_56 {l : Launch} {d n0 : Nat} {Qp : PQ} {ls : List (Option PV)} {st : List PV} {h : PMem} (hd : 1 ≤ d) (hN : n0 ≤ NC) (hw : wq n0 (fun t => At l d 48 n0 Qp t) (CallP (d - 1)) Qp 58 q_48_56 ls st h) : At l d 48 n0 Qp 56 ls st h := soundq g_48.2.1 (by rw [g_48.2.2.2]; exact hN) hd q_48_56 56 q_48_56_ok ls st h (by rw [g_48.2.2.2]; exact hw)
def q_56_0 : List Instr := [.aload 0, .aload 1, .getfield 500, .putfield 500, .aload 1, .getstatic 501, .bipush (0), .aload 0, .getstatic 501, .bipush (0), .bipush (6), .fmul, .aload 1, .getstatic 502, .bipush (0), .aload 0, .getstatic 502, .bipush (0), .bipush (6), .fmul, .bipush (0), .istore 2]
theorem q_56_0_ok : okq 56 40 0 q_56_0 = true := by decide +kernel
theorem m_56_0 {l : Launch} {d n0 : Nat} {Qp : PQ} {ls : List (Option PV)} {st : List PV} {h : PMem} (hd : 1 ≤ d) (hN : n0 ≤ NC) (hw : wq n0 (fun t => At l d 56 n0 Qp t) (CallP (d - 1)) Qp 40 q_56_0 ls st h) : At l d 56 n0 Qp 0 ls st h := soundq g_56.2.1 (by rw [g_56.2.2.2]; exact hN) hd q_56_0 0 q_56_0_ok ls st h (by rw [g_56.2.2.2]; exact hw)
theorem u_56 {d : Nat} {Qp : PQ} {v0 : PV} {v1 : PV} {h : PMem} (hd : 1 ≤ d) (hN : h.1 ≤ NC) (c0 : pcat v0 = 1 := by rfl) (c1 : pcat v1 = 1 := by rfl) (hw : ∀ l, wq h.1 (fun t => At l d 56 h.1 (Qn h.1 Qp) t) (CallP (d - 1)) (Qn h.1 Qp) 40 q_56_0 [some v0, some v1, none] [] h) : CallP d 56 [v0, v1] h Qp := by
  refine call_of g_56.1 (by rw [g_56.2.2.1]; simp only [pcats, c0, c1, pcatL]; decide) (fun l => ?_)
  have e : ent (mML 56) [v0, v1] = [some v0, some v1, none] := by rw [g_56.2.2.1]; simp [ent, pcats, c0, c1, pcatL, List.replicate]
  rw [e]
  exact m_56_0 hd hN (hw l) |> fun k => by rw [g_56.2.2.2]; exact k
def q_56_71 : List Instr := [.aload 1, .getstatic 504, .bipush (0), .aload 0, .getstatic 504, .bipush (0), .bipush (6), .fmul, .aload 1, .getstatic 505, .bipush (0), .aload 0, .getstatic 505, .bipush (0), .bipush (2), .fmul, .aload 1, .getstatic 506, .bipush (0), .aload 0, .getstatic 506, .bipush (0), .bipush (2), .fmul, .aload 0, .getstatic 507, .aload 1, .getstatic 507, .invokeinterface 4 144, .aload 0, .getstatic 508, .aload 1, .getstatic 508, .invokeinterface 8 145, .bipush (0), .istore 2]
theorem q_56_71_ok : okq 56 138 71 q_56_71 = true := by decide +kernel
theorem m_56_71 {l : Launch} {d n0 : Nat} {Qp : PQ} {ls : List (Option PV)} {st : List PV} {h : PMem} (hd : 1 ≤ d) (hN : n0 ≤ NC) (hw : wq n0 (fun t => At l d 56 n0 Qp t) (CallP (d - 1)) Qp 138 q_56_71 ls st h) : At l d 56 n0 Qp 71 ls st h := soundq g_56.2.1 (by rw [g_56.2.2.2]; exact hN) hd q_56_71 71 q_56_71_ok ls st h (by rw [g_56.2.2.2]; exact hw)
def q_60_0 : List Instr := [.bipush (0), .istore 1, .bipush (0), .istore 2]
theorem q_60_0_ok : okq 60 4 0 q_60_0 = true := by decide +kernel
theorem m_60_0 {l : Launch} {d n0 : Nat} {Qp : PQ} {ls : List (Option PV)} {st : List PV} {h : PMem} (hd : 1 ≤ d) (hN : n0 ≤ NC) (hw : wq n0 (fun t => At l d 60 n0 Qp t) (CallP (d - 1)) Qp 4 q_60_0 ls st h) : At l d 60 n0 Qp 0 ls st h := soundq g_60.2.1 (by rw [g_60.2.2.2]; exact hN) hd q_60_0 0 q_60_0_ok ls st h (by rw [g_60.2.2.2]; exact hw)
theorem u_60 {d : Nat} {Qp : PQ} {v0 : PV} {h : PMem} (hd : 1 ≤ d) (hN : h.1 ≤ NC) (c0 : pcat v0 = 1 := by rfl) (hw : ∀ l, wq h.1 (fun t => At l d 60 h.1 (Qn h.1 Qp) t) (CallP (d - 1)) (Qn h.1 Qp) 4 q_60_0 [some v0, none, none, none] [] h) : CallP d 60 [v0] h Qp := by
  refine call_of g_60.1 (by rw [g_60.2.2.1]; simp only [pcats, c0, pcatL]; decide) (fun l => ?_)
  have e : ent (mML 60) [v0] = [some v0, none, none, none] := by rw [g_60.2.2.1]; simp [ent, pcats, c0, pcatL, List.replicate]
  rw [e]
  exact m_60_0 hd hN (hw l) |> fun k => by rw [g_60.2.2.2]; exact k
def q_60_4 : List Instr := [.iload 2, .aload 0, .getfield 500, .if_icmp .ge (58), .iload 2, .bipush (1), .iadd, .istore 3]
theorem q_60_4_ok : okq 60 16 4 q_60_4 = true := by decide +kernel
theorem m_60_4 {l : Launch} {d n0 : Nat} {Qp : PQ} {ls : List (Option PV)} {st : List PV} {h : PMem} (hd : 1 ≤ d) (hN : n0 ≤ NC) (hw : wq n0 (fun t => At l d 60 n0 Qp t) (CallP (d - 1)) Qp 16 q_60_4 ls st h) : At l d 60 n0 Qp 4 ls st h := soundq g_60.2.1 (by rw [g_60.2.2.2]; exact hN) hd q_60_4 4 q_60_4_ok ls st h (by rw [g_60.2.2.2]; exact hw)
def q_61_0 : List Instr := [.bipush (0), .istore 1]
theorem q_61_0_ok : okq 61 2 0 q_61_0 = true := by decide +kernel
theorem m_61_0 {l : Launch} {d n0 : Nat} {Qp : PQ} {ls : List (Option PV)} {st : List PV} {h : PMem} (hd : 1 ≤ d) (hN : n0 ≤ NC) (hw : wq n0 (fun t => At l d 61 n0 Qp t) (CallP (d - 1)) Qp 2 q_61_0 ls st h) : At l d 61 n0 Qp 0 ls st h := soundq g_61.2.1 (by rw [g_61.2.2.2]; exact hN) hd q_61_0 0 q_61_0_ok ls st h (by rw [g_61.2.2.2]; exact hw)
theorem u_61 {d : Nat} {Qp : PQ} {v0 : PV} {h : PMem} (hd : 1 ≤ d) (hN : h.1 ≤ NC) (c0 : pcat v0 = 1 := by rfl) (hw : ∀ l, wq h.1 (fun t => At l d 61 h.1 (Qn h.1 Qp) t) (CallP (d - 1)) (Qn h.1 Qp) 2 q_61_0 [some v0, none, none] [] h) : CallP d 61 [v0] h Qp := by
  refine call_of g_61.1 (by rw [g_61.2.2.1]; simp only [pcats, c0, pcatL]; decide) (fun l => ?_)
  have e : ent (mML 61) [v0] = [some v0, none, none] := by rw [g_61.2.2.1]; simp [ent, pcats, c0, pcatL, List.replicate]
  rw [e]
  exact m_61_0 hd hN (hw l) |> fun k => by rw [g_61.2.2.2]; exact k
def q_61_29 : List Instr := [.bipush (0), .istore 1]
theorem q_61_29_ok : okq 61 31 29 q_61_29 = true := by decide +kernel
theorem m_61_29 {l : Launch} {d n0 : Nat} {Qp : PQ} {ls : List (Option PV)} {st : List PV} {h : PMem} (hd : 1 ≤ d) (hN : n0 ≤ NC) (hw : wq n0 (fun t => At l d 61 n0 Qp t) (CallP (d - 1)) Qp 31 q_61_29 ls st h) : At l d 61 n0 Qp 29 ls st h := soundq g_61.2.1 (by rw [g_61.2.2.2]; exact hN) hd q_61_29 29 q_61_29_ok ls st h (by rw [g_61.2.2.2]; exact hw)
def q_61_31 : List Instr := [.iload 1, .aload 0, .getfield 500, .if_icmp .ge (66), .bipush (0), .istore 2]
theorem q_61_31_ok : okq 61 41 31 q_61_31 = true := by decide +kernel
theorem m_61_31 {l : Launch} {d n0 : Nat} {Qp : PQ} {ls : List (Option PV)} {st : List PV} {h : PMem} (hd : 1 ≤ d) (hN : n0 ≤ NC) (hw : wq n0 (fun t => At l d 61 n0 Qp t) (CallP (d - 1)) Qp 41 q_61_31 ls st h) : At l d 61 n0 Qp 31 ls st h := soundq g_61.2.1 (by rw [g_61.2.2.2]; exact hN) hd q_61_31 31 q_61_31_ok ls st h (by rw [g_61.2.2.2]; exact hw)
def q_62_0 : List Instr := [.bipush (0), .istore 2]
theorem q_62_0_ok : okq 62 2 0 q_62_0 = true := by decide +kernel
theorem m_62_0 {l : Launch} {d n0 : Nat} {Qp : PQ} {ls : List (Option PV)} {st : List PV} {h : PMem} (hd : 1 ≤ d) (hN : n0 ≤ NC) (hw : wq n0 (fun t => At l d 62 n0 Qp t) (CallP (d - 1)) Qp 2 q_62_0 ls st h) : At l d 62 n0 Qp 0 ls st h := soundq g_62.2.1 (by rw [g_62.2.2.2]; exact hN) hd q_62_0 0 q_62_0_ok ls st h (by rw [g_62.2.2.2]; exact hw)
theorem u_62 {d : Nat} {Qp : PQ} {v0 : PV} {v1 : PV} {h : PMem} (hd : 1 ≤ d) (hN : h.1 ≤ NC) (c0 : pcat v0 = 1 := by rfl) (c1 : pcat v1 = 1 := by rfl) (hw : ∀ l, wq h.1 (fun t => At l d 62 h.1 (Qn h.1 Qp) t) (CallP (d - 1)) (Qn h.1 Qp) 2 q_62_0 [some v0, some v1, none, none] [] h) : CallP d 62 [v0, v1] h Qp := by
  refine call_of g_62.1 (by rw [g_62.2.2.1]; simp only [pcats, c0, c1, pcatL]; decide) (fun l => ?_)
  have e : ent (mML 62) [v0, v1] = [some v0, some v1, none, none] := by rw [g_62.2.2.1]; simp [ent, pcats, c0, c1, pcatL, List.replicate]
  rw [e]
  exact m_62_0 hd hN (hw l) |> fun k => by rw [g_62.2.2.2]; exact k
def q_64_0 : List Instr := [.bipush (0), .istore 2, .bipush (0), .istore 3]
theorem q_64_0_ok : okq 64 4 0 q_64_0 = true := by decide +kernel
theorem m_64_0 {l : Launch} {d n0 : Nat} {Qp : PQ} {ls : List (Option PV)} {st : List PV} {h : PMem} (hd : 1 ≤ d) (hN : n0 ≤ NC) (hw : wq n0 (fun t => At l d 64 n0 Qp t) (CallP (d - 1)) Qp 4 q_64_0 ls st h) : At l d 64 n0 Qp 0 ls st h := soundq g_64.2.1 (by rw [g_64.2.2.2]; exact hN) hd q_64_0 0 q_64_0_ok ls st h (by rw [g_64.2.2.2]; exact hw)
theorem u_64 {d : Nat} {Qp : PQ} {v0 : PV} {v1 : PV} {h : PMem} (hd : 1 ≤ d) (hN : h.1 ≤ NC) (c0 : pcat v0 = 1 := by rfl) (c1 : pcat v1 = 1 := by rfl) (hw : ∀ l, wq h.1 (fun t => At l d 64 h.1 (Qn h.1 Qp) t) (CallP (d - 1)) (Qn h.1 Qp) 4 q_64_0 [some v0, some v1, none, none] [] h) : CallP d 64 [v0, v1] h Qp := by
  refine call_of g_64.1 (by rw [g_64.2.2.1]; simp only [pcats, c0, c1, pcatL]; decide) (fun l => ?_)
  have e : ent (mML 64) [v0, v1] = [some v0, some v1, none, none] := by rw [g_64.2.2.1]; simp [ent, pcats, c0, c1, pcatL, List.replicate]
  rw [e]
  exact m_64_0 hd hN (hw l) |> fun k => by rw [g_64.2.2.2]; exact k
def q_68_0 : List Instr := [.iload 2, .istore 4, .bipush (0), .istore 5]
theorem q_68_0_ok : okq 68 6 0 q_68_0 = true := by decide +kernel
theorem m_68_0 {l : Launch} {d n0 : Nat} {Qp : PQ} {ls : List (Option PV)} {st : List PV} {h : PMem} (hd : 1 ≤ d) (hN : n0 ≤ NC) (hw : wq n0 (fun t => At l d 68 n0 Qp t) (CallP (d - 1)) Qp 6 q_68_0 ls st h) : At l d 68 n0 Qp 0 ls st h := soundq g_68.2.1 (by rw [g_68.2.2.2]; exact hN) hd q_68_0 0 q_68_0_ok ls st h (by rw [g_68.2.2.2]; exact hw)
theorem u_68 {d : Nat} {Qp : PQ} {v0 : PV} {v1 : PV} {v2 : PV} {v3 : PV} {h : PMem} (hd : 1 ≤ d) (hN : h.1 ≤ NC) (c0 : pcat v0 = 1 := by rfl) (c1 : pcat v1 = 1 := by rfl) (c2 : pcat v2 = 1 := by rfl) (c3 : pcat v3 = 1 := by rfl) (hw : ∀ l, wq h.1 (fun t => At l d 68 h.1 (Qn h.1 Qp) t) (CallP (d - 1)) (Qn h.1 Qp) 6 q_68_0 [some v0, some v1, some v2, some v3, none, none] [] h) : CallP d 68 [v0, v1, v2, v3] h Qp := by
  refine call_of g_68.1 (by rw [g_68.2.2.1]; simp only [pcats, c0, c1, c2, c3, pcatL]; decide) (fun l => ?_)
  have e : ent (mML 68) [v0, v1, v2, v3] = [some v0, some v1, some v2, some v3, none, none] := by rw [g_68.2.2.1]; simp [ent, pcats, c0, c1, c2, c3, pcatL, List.replicate]
  rw [e]
  exact m_68_0 hd hN (hw l) |> fun k => by rw [g_68.2.2.2]; exact k
def q_70_0 : List Instr := [.aload 0, .invokeinterface 72 85, .bipush (0), .istore 1]
theorem q_70_0_ok : okq 70 6 0 q_70_0 = true := by decide +kernel
theorem m_70_0 {l : Launch} {d n0 : Nat} {Qp : PQ} {ls : List (Option PV)} {st : List PV} {h : PMem} (hd : 1 ≤ d) (hN : n0 ≤ NC) (hw : wq n0 (fun t => At l d 70 n0 Qp t) (CallP (d - 1)) Qp 6 q_70_0 ls st h) : At l d 70 n0 Qp 0 ls st h := soundq g_70.2.1 (by rw [g_70.2.2.2]; exact hN) hd q_70_0 0 q_70_0_ok ls st h (by rw [g_70.2.2.2]; exact hw)
theorem u_70 {d : Nat} {Qp : PQ} {v0 : PV} {h : PMem} (hd : 1 ≤ d) (hN : h.1 ≤ NC) (c0 : pcat v0 = 1 := by rfl) (hw : ∀ l, wq h.1 (fun t => At l d 70 h.1 (Qn h.1 Qp) t) (CallP (d - 1)) (Qn h.1 Qp) 6 q_70_0 [some v0, none] [] h) : CallP d 70 [v0] h Qp := by
  refine call_of g_70.1 (by rw [g_70.2.2.1]; simp only [pcats, c0, pcatL]; decide) (fun l => ?_)
  have e : ent (mML 70) [v0] = [some v0, none] := by rw [g_70.2.2.1]; simp [ent, pcats, c0, pcatL, List.replicate]
  rw [e]
  exact m_70_0 hd hN (hw l) |> fun k => by rw [g_70.2.2.2]; exact k
def q_70_56 : List Instr := [.bipush (0), .istore 1]
theorem q_70_56_ok : okq 70 58 56 q_70_56 = true := by decide +kernel
theorem m_70_56 {l : Launch} {d n0 : Nat} {Qp : PQ} {ls : List (Option PV)} {st : List PV} {h : PMem} (hd : 1 ≤ d) (hN : n0 ≤ NC) (hw : wq n0 (fun t => At l d 70 n0 Qp t) (CallP (d - 1)) Qp 58 q_70_56 ls st h) : At l d 70 n0 Qp 56 ls st h := soundq g_70.2.1 (by rw [g_70.2.2.2]; exact hN) hd q_70_56 56 q_70_56_ok ls st h (by rw [g_70.2.2.2]; exact hw)
def q_72_0 : List Instr := [.aload 0, .getfield 510, .bipush (8), .if_icmp .lt (46), .bipush (1), .istore 1]
theorem q_72_0_ok : okq 72 11 0 q_72_0 = true := by decide +kernel
theorem m_72_0 {l : Launch} {d n0 : Nat} {Qp : PQ} {ls : List (Option PV)} {st : List PV} {h : PMem} (hd : 1 ≤ d) (hN : n0 ≤ NC) (hw : wq n0 (fun t => At l d 72 n0 Qp t) (CallP (d - 1)) Qp 11 q_72_0 ls st h) : At l d 72 n0 Qp 0 ls st h := soundq g_72.2.1 (by rw [g_72.2.2.2]; exact hN) hd q_72_0 0 q_72_0_ok ls st h (by rw [g_72.2.2.2]; exact hw)
theorem u_72 {d : Nat} {Qp : PQ} {v0 : PV} {h : PMem} (hd : 1 ≤ d) (hN : h.1 ≤ NC) (c0 : pcat v0 = 1 := by rfl) (hw : ∀ l, wq h.1 (fun t => At l d 72 h.1 (Qn h.1 Qp) t) (CallP (d - 1)) (Qn h.1 Qp) 11 q_72_0 [some v0, none] [] h) : CallP d 72 [v0] h Qp := by
  refine call_of g_72.1 (by rw [g_72.2.2.1]; simp only [pcats, c0, pcatL]; decide) (fun l => ?_)
  have e : ent (mML 72) [v0] = [some v0, none] := by rw [g_72.2.2.1]; simp [ent, pcats, c0, pcatL, List.replicate]
  rw [e]
  exact m_72_0 hd hN (hw l) |> fun k => by rw [g_72.2.2.2]; exact k
def q_74_0 : List Instr := [.iload 2, .i2l, .lstore 3, .bipush (0), .istore 5, .bipush (0), .istore 6, .bipush (0), .istore 7]
theorem q_74_0_ok : okq 74 12 0 q_74_0 = true := by decide +kernel
theorem m_74_0 {l : Launch} {d n0 : Nat} {Qp : PQ} {ls : List (Option PV)} {st : List PV} {h : PMem} (hd : 1 ≤ d) (hN : n0 ≤ NC) (hw : wq n0 (fun t => At l d 74 n0 Qp t) (CallP (d - 1)) Qp 12 q_74_0 ls st h) : At l d 74 n0 Qp 0 ls st h := soundq g_74.2.1 (by rw [g_74.2.2.2]; exact hN) hd q_74_0 0 q_74_0_ok ls st h (by rw [g_74.2.2.2]; exact hw)
theorem u_74 {d : Nat} {Qp : PQ} {v0 : PV} {v1 : PV} {v2 : PV} {h : PMem} (hd : 1 ≤ d) (hN : h.1 ≤ NC) (c0 : pcat v0 = 1 := by rfl) (c1 : pcat v1 = 1 := by rfl) (c2 : pcat v2 = 1 := by rfl) (hw : ∀ l, wq h.1 (fun t => At l d 74 h.1 (Qn h.1 Qp) t) (CallP (d - 1)) (Qn h.1 Qp) 12 q_74_0 [some v0, some v1, some v2, none, none, none, none, none, none, none] [] h) : CallP d 74 [v0, v1, v2] h Qp := by
  refine call_of g_74.1 (by rw [g_74.2.2.1]; simp only [pcats, c0, c1, c2, pcatL]; decide) (fun l => ?_)
  have e : ent (mML 74) [v0, v1, v2] = [some v0, some v1, some v2, none, none, none, none, none, none, none] := by rw [g_74.2.2.1]; simp [ent, pcats, c0, c1, c2, pcatL, List.replicate]
  rw [e]
  exact m_74_0 hd hN (hw l) |> fun k => by rw [g_74.2.2.2]; exact k
def q_74_12 : List Instr := [.iload 7, .iload 1, .if_icmp .ge (120), .bipush (0), .istore 8]
theorem q_74_12_ok : okq 74 21 12 q_74_12 = true := by decide +kernel
theorem m_74_12 {l : Launch} {d n0 : Nat} {Qp : PQ} {ls : List (Option PV)} {st : List PV} {h : PMem} (hd : 1 ≤ d) (hN : n0 ≤ NC) (hw : wq n0 (fun t => At l d 74 n0 Qp t) (CallP (d - 1)) Qp 21 q_74_12 ls st h) : At l d 74 n0 Qp 12 ls st h := soundq g_74.2.1 (by rw [g_74.2.2.2]; exact hN) hd q_74_12 12 q_74_12_ok ls st h (by rw [g_74.2.2.2]; exact hw)
def q_75_0 : List Instr := [.lload 1, .lstore 3, .bipush (0), .istore 5]
theorem q_75_0_ok : okq 75 5 0 q_75_0 = true := by decide +kernel
theorem m_75_0 {l : Launch} {d n0 : Nat} {Qp : PQ} {ls : List (Option PV)} {st : List PV} {h : PMem} (hd : 1 ≤ d) (hN : n0 ≤ NC) (hw : wq n0 (fun t => At l d 75 n0 Qp t) (CallP (d - 1)) Qp 5 q_75_0 ls st h) : At l d 75 n0 Qp 0 ls st h := soundq g_75.2.1 (by rw [g_75.2.2.2]; exact hN) hd q_75_0 0 q_75_0_ok ls st h (by rw [g_75.2.2.2]; exact hw)
theorem u_75 {d : Nat} {Qp : PQ} {v0 : PV} {v1 : Int} {h : PMem} (hd : 1 ≤ d) (hN : h.1 ≤ NC) (c0 : pcat v0 = 1 := by rfl) (hw : ∀ l, wq h.1 (fun t => At l d 75 h.1 (Qn h.1 Qp) t) (CallP (d - 1)) (Qn h.1 Qp) 5 q_75_0 [some v0, some (.inr (.inl v1)), none, none, none, none, none] [] h) : CallP d 75 [v0, .inr (.inl v1)] h Qp := by
  refine call_of g_75.1 (by rw [g_75.2.2.1]; simp only [pcats, c0, pcatL]; decide) (fun l => ?_)
  have e : ent (mML 75) [v0, .inr (.inl v1)] = [some v0, some (.inr (.inl v1)), none, none, none, none, none] := by rw [g_75.2.2.1]; simp [ent, pcats, c0, pcatL, List.replicate]
  rw [e]
  exact m_75_0 hd hN (hw l) |> fun k => by rw [g_75.2.2.2]; exact k
def q_75_68 : List Instr := [.bipush (0), .istore 5]
theorem q_75_68_ok : okq 75 71 68 q_75_68 = true := by decide +kernel
theorem m_75_68 {l : Launch} {d n0 : Nat} {Qp : PQ} {ls : List (Option PV)} {st : List PV} {h : PMem} (hd : 1 ≤ d) (hN : n0 ≤ NC) (hw : wq n0 (fun t => At l d 75 n0 Qp t) (CallP (d - 1)) Qp 71 q_75_68 ls st h) : At l d 75 n0 Qp 68 ls st h := soundq g_75.2.1 (by rw [g_75.2.2.2]; exact hN) hd q_75_68 68 q_75_68_ok ls st h (by rw [g_75.2.2.2]; exact hw)
def q_75_71 : List Instr := [.iload 5, .aload 0, .getfield 500, .if_icmp .ge (125), .iload 5, .bipush (1), .iadd, .istore 6]
theorem q_75_71_ok : okq 75 86 71 q_75_71 = true := by decide +kernel
theorem m_75_71 {l : Launch} {d n0 : Nat} {Qp : PQ} {ls : List (Option PV)} {st : List PV} {h : PMem} (hd : 1 ≤ d) (hN : n0 ≤ NC) (hw : wq n0 (fun t => At l d 75 n0 Qp t) (CallP (d - 1)) Qp 86 q_75_71 ls st h) : At l d 75 n0 Qp 71 ls st h := soundq g_75.2.1 (by rw [g_75.2.2.2]; exact hN) hd q_75_71 71 q_75_71_ok ls st h (by rw [g_75.2.2.2]; exact hw)
def q_75_125 : List Instr := [.bipush (0), .istore 5]
theorem q_75_125_ok : okq 75 128 125 q_75_125 = true := by decide +kernel
theorem m_75_125 {l : Launch} {d n0 : Nat} {Qp : PQ} {ls : List (Option PV)} {st : List PV} {h : PMem} (hd : 1 ≤ d) (hN : n0 ≤ NC) (hw : wq n0 (fun t => At l d 75 n0 Qp t) (CallP (d - 1)) Qp 128 q_75_125 ls st h) : At l d 75 n0 Qp 125 ls st h := soundq g_75.2.1 (by rw [g_75.2.2.2]; exact hN) hd q_75_125 125 q_75_125_ok ls st h (by rw [g_75.2.2.2]; exact hw)
def q_75_227 : List Instr := [.bipush (0), .istore 5]
theorem q_75_227_ok : okq 75 230 227 q_75_227 = true := by decide +kernel
theorem m_75_227 {l : Launch} {d n0 : Nat} {Qp : PQ} {ls : List (Option PV)} {st : List PV} {h : PMem} (hd : 1 ≤ d) (hN : n0 ≤ NC) (hw : wq n0 (fun t => At l d 75 n0 Qp t) (CallP (d - 1)) Qp 230 q_75_227 ls st h) : At l d 75 n0 Qp 227 ls st h := soundq g_75.2.1 (by rw [g_75.2.2.2]; exact hN) hd q_75_227 227 q_75_227_ok ls st h (by rw [g_75.2.2.2]; exact hw)
def q_96_21 : List Instr := [.bipush (0), .istore 3]
theorem q_96_21_ok : okq 96 23 21 q_96_21 = true := by decide +kernel
theorem m_96_21 {l : Launch} {d n0 : Nat} {Qp : PQ} {ls : List (Option PV)} {st : List PV} {h : PMem} (hd : 1 ≤ d) (hN : n0 ≤ NC) (hw : wq n0 (fun t => At l d 96 n0 Qp t) (CallP (d - 1)) Qp 23 q_96_21 ls st h) : At l d 96 n0 Qp 21 ls st h := soundq g_96.2.1 (by rw [g_96.2.2.2]; exact hN) hd q_96_21 21 q_96_21_ok ls st h (by rw [g_96.2.2.2]; exact hw)
def q_97_38 : List Instr := [.bipush (0), .istore 5]
theorem q_97_38_ok : okq 97 41 38 q_97_38 = true := by decide +kernel
theorem m_97_38 {l : Launch} {d n0 : Nat} {Qp : PQ} {ls : List (Option PV)} {st : List PV} {h : PMem} (hd : 1 ≤ d) (hN : n0 ≤ NC) (hw : wq n0 (fun t => At l d 97 n0 Qp t) (CallP (d - 1)) Qp 41 q_97_38 ls st h) : At l d 97 n0 Qp 38 ls st h := soundq g_97.2.1 (by rw [g_97.2.2.2]; exact hN) hd q_97_38 38 q_97_38_ok ls st h (by rw [g_97.2.2.2]; exact hw)
def q_105_0 : List Instr := [.aload 0, .nop, .aload 0, .bipush (6), .anewarray 8, .putstatic 501, .aload 0, .bipush (6), .anewarray 8, .putstatic 502, .aload 0, .bipush (6), .bipush (6), .multianewarray 0 0, .putstatic 503, .aload 0, .bipush (6), .anewarray 8, .putstatic 504, .aload 0, .bipush (2), .anewarray 8, .putstatic 505, .aload 0, .bipush (2), .anewarray 8, .putstatic 506, .aload 0, .new 0, .dup, .invokeinterface 100 112, .putstatic 507, .aload 0, .new 1, .dup, .invokeinterface 101 113, .putstatic 508, .aload 0, .bipush (8), .anewarray 12, .putstatic 509, .bipush (0), .istore 1]
theorem q_105_0_ok : okq 105 87 0 q_105_0 = true := by decide +kernel
theorem m_105_0 {l : Launch} {d n0 : Nat} {Qp : PQ} {ls : List (Option PV)} {st : List PV} {h : PMem} (hd : 1 ≤ d) (hN : (n0 + 62) ≤ NC) (hw : wq (n0 + 62) (fun t => At l d 105 n0 Qp t) (CallP (d - 1)) Qp 87 q_105_0 ls st h) : At l d 105 n0 Qp 0 ls st h := soundq g_105.2.1 (by rw [g_105.2.2.2]; exact hN) hd q_105_0 0 q_105_0_ok ls st h (by rw [g_105.2.2.2]; exact hw)
theorem u_105 {d : Nat} {Qp : PQ} {v0 : PV} {h : PMem} (hd : 1 ≤ d) (hN : (h.1 + 62) ≤ NC) (c0 : pcat v0 = 1 := by rfl) (hw : ∀ l, wq (h.1 + 62) (fun t => At l d 105 h.1 (Qn (h.1 + 62) Qp) t) (CallP (d - 1)) (Qn (h.1 + 62) Qp) 87 q_105_0 [some v0, none] [] h) : CallP d 105 [v0] h Qp := by
  refine call_of g_105.1 (by rw [g_105.2.2.1]; simp only [pcats, c0, pcatL]; decide) (fun l => ?_)
  have e : ent (mML 105) [v0] = [some v0, none] := by rw [g_105.2.2.1]; simp [ent, pcats, c0, pcatL, List.replicate]
  rw [e]
  exact m_105_0 hd hN (hw l) |> fun k => by rw [g_105.2.2.2]; exact k
def q_108_0 : List Instr := [.new 6, .dup, .invokeinterface 106 118, .astore 1, .new 7, .dup, .invokeinterface 107 119, .astore 2, .bipush (0), .istore 3]
theorem q_108_0_ok : okq 108 18 0 q_108_0 = true := by decide +kernel
theorem m_108_0 {l : Launch} {d n0 : Nat} {Qp : PQ} {ls : List (Option PV)} {st : List PV} {h : PMem} (hd : 1 ≤ d) (hN : (n0 + 278) ≤ NC) (hw : wq (n0 + 278) (fun t => At l d 108 n0 Qp t) (CallP (d - 1)) Qp 18 q_108_0 ls st h) : At l d 108 n0 Qp 0 ls st h := soundq g_108.2.1 (by rw [g_108.2.2.2]; exact hN) hd q_108_0 0 q_108_0_ok ls st h (by rw [g_108.2.2.2]; exact hw)
theorem u_108 {d : Nat} {Qp : PQ} {v0 : PV} {h : PMem} (hd : 1 ≤ d) (hN : (h.1 + 278) ≤ NC) (c0 : pcat v0 = 1 := by rfl) (hw : ∀ l, wq (h.1 + 278) (fun t => At l d 108 h.1 (Qn (h.1 + 278) Qp) t) (CallP (d - 1)) (Qn (h.1 + 278) Qp) 18 q_108_0 [some v0, none, none, none] [] h) : CallP d 108 [v0] h Qp := by
  refine call_of g_108.1 (by rw [g_108.2.2.1]; simp only [pcats, c0, pcatL]; decide) (fun l => ?_)
  have e : ent (mML 108) [v0] = [some v0, none, none, none] := by rw [g_108.2.2.1]; simp [ent, pcats, c0, pcatL, List.replicate]
  rw [e]
  exact m_108_0 hd hN (hw l) |> fun k => by rw [g_108.2.2.2]; exact k
def q_111_85 : List Instr := [.bipush (1), .iload 4, .ishl, .ior, .istore 6, .bipush (0), .istore 7, .bipush (0), .istore 8]
theorem q_111_85_ok : okq 111 98 85 q_111_85 = true := by decide +kernel
theorem m_111_85 {l : Launch} {d n0 : Nat} {Qp : PQ} {ls : List (Option PV)} {st : List PV} {h : PMem} (hd : 1 ≤ d) (hN : n0 ≤ NC) (hw : wq n0 (fun t => At l d 111 n0 Qp t) (CallP (d - 1)) Qp 98 q_111_85 ls st h) : At l d 111 n0 Qp 85 ls st h := soundq g_111.2.1 (by rw [g_111.2.2.2]; exact hN) hd q_111_85 85 q_111_85_ok ls st h (by rw [g_111.2.2.2]; exact hw)
def q_111_89 : List Instr := [.ior, .istore 6, .bipush (0), .istore 7, .bipush (0), .istore 8]
theorem q_111_89_ok : okq 111 98 89 q_111_89 = true := by decide +kernel
theorem m_111_89 {l : Launch} {d n0 : Nat} {Qp : PQ} {ls : List (Option PV)} {st : List PV} {h : PMem} (hd : 1 ≤ d) (hN : n0 ≤ NC) (hw : wq n0 (fun t => At l d 111 n0 Qp t) (CallP (d - 1)) Qp 98 q_111_89 ls st h) : At l d 111 n0 Qp 89 ls st h := soundq g_111.2.1 (by rw [g_111.2.2.2]; exact hN) hd q_111_89 89 q_111_89_ok ls st h (by rw [g_111.2.2.2]; exact hw)
def q_117_0 : List Instr := [.sipush (911), .lstore 1, .bipush (0), .istore 3]
theorem q_117_0_ok : okq 117 6 0 q_117_0 = true := by decide +kernel
theorem m_117_0 {l : Launch} {d n0 : Nat} {Qp : PQ} {ls : List (Option PV)} {st : List PV} {h : PMem} (hd : 1 ≤ d) (hN : n0 ≤ NC) (hw : wq n0 (fun t => At l d 117 n0 Qp t) (CallP (d - 1)) Qp 6 q_117_0 ls st h) : At l d 117 n0 Qp 0 ls st h := soundq g_117.2.1 (by rw [g_117.2.2.2]; exact hN) hd q_117_0 0 q_117_0_ok ls st h (by rw [g_117.2.2.2]; exact hw)
theorem u_117 {d : Nat} {Qp : PQ} {v0 : PV} {h : PMem} (hd : 1 ≤ d) (hN : h.1 ≤ NC) (c0 : pcat v0 = 1 := by rfl) (hw : ∀ l, wq h.1 (fun t => At l d 117 h.1 (Qn h.1 Qp) t) (CallP (d - 1)) (Qn h.1 Qp) 6 q_117_0 [some v0, none, none, none] [] h) : CallP d 117 [v0] h Qp := by
  refine call_of g_117.1 (by rw [g_117.2.2.1]; simp only [pcats, c0, pcatL]; decide) (fun l => ?_)
  have e : ent (mML 117) [v0] = [some v0, none, none, none] := by rw [g_117.2.2.1]; simp [ent, pcats, c0, pcatL, List.replicate]
  rw [e]
  exact m_117_0 hd hN (hw l) |> fun k => by rw [g_117.2.2.2]; exact k
def q_132_0 : List Instr := [.bipush (0), .istore 4]
theorem q_132_0_ok : okq 132 3 0 q_132_0 = true := by decide +kernel
theorem m_132_0 {l : Launch} {d n0 : Nat} {Qp : PQ} {ls : List (Option PV)} {st : List PV} {h : PMem} (hd : 1 ≤ d) (hN : n0 ≤ NC) (hw : wq n0 (fun t => At l d 132 n0 Qp t) (CallP (d - 1)) Qp 3 q_132_0 ls st h) : At l d 132 n0 Qp 0 ls st h := soundq g_132.2.1 (by rw [g_132.2.2.2]; exact hN) hd q_132_0 0 q_132_0_ok ls st h (by rw [g_132.2.2.2]; exact hw)
theorem u_132 {d : Nat} {Qp : PQ} {v0 : PV} {v1 : PV} {v2 : PV} {v3 : PV} {h : PMem} (hd : 1 ≤ d) (hN : h.1 ≤ NC) (c0 : pcat v0 = 1 := by rfl) (c1 : pcat v1 = 1 := by rfl) (c2 : pcat v2 = 1 := by rfl) (c3 : pcat v3 = 1 := by rfl) (hw : ∀ l, wq h.1 (fun t => At l d 132 h.1 (Qn h.1 Qp) t) (CallP (d - 1)) (Qn h.1 Qp) 3 q_132_0 [some v0, some v1, some v2, some v3, none] [] h) : CallP d 132 [v0, v1, v2, v3] h Qp := by
  refine call_of g_132.1 (by rw [g_132.2.2.1]; simp only [pcats, c0, c1, c2, c3, pcatL]; decide) (fun l => ?_)
  have e : ent (mML 132) [v0, v1, v2, v3] = [some v0, some v1, some v2, some v3, none] := by rw [g_132.2.2.1]; simp [ent, pcats, c0, c1, c2, c3, pcatL, List.replicate]
  rw [e]
  exact m_132_0 hd hN (hw l) |> fun k => by rw [g_132.2.2.2]; exact k
def q_133_0 : List Instr := [.bipush (0), .istore 2]
theorem q_133_0_ok : okq 133 2 0 q_133_0 = true := by decide +kernel
theorem m_133_0 {l : Launch} {d n0 : Nat} {Qp : PQ} {ls : List (Option PV)} {st : List PV} {h : PMem} (hd : 1 ≤ d) (hN : n0 ≤ NC) (hw : wq n0 (fun t => At l d 133 n0 Qp t) (CallP (d - 1)) Qp 2 q_133_0 ls st h) : At l d 133 n0 Qp 0 ls st h := soundq g_133.2.1 (by rw [g_133.2.2.2]; exact hN) hd q_133_0 0 q_133_0_ok ls st h (by rw [g_133.2.2.2]; exact hw)
theorem u_133 {d : Nat} {Qp : PQ} {v0 : PV} {v1 : PV} {h : PMem} (hd : 1 ≤ d) (hN : h.1 ≤ NC) (c0 : pcat v0 = 1 := by rfl) (c1 : pcat v1 = 1 := by rfl) (hw : ∀ l, wq h.1 (fun t => At l d 133 h.1 (Qn h.1 Qp) t) (CallP (d - 1)) (Qn h.1 Qp) 2 q_133_0 [some v0, some v1, none] [] h) : CallP d 133 [v0, v1] h Qp := by
  refine call_of g_133.1 (by rw [g_133.2.2.1]; simp only [pcats, c0, c1, pcatL]; decide) (fun l => ?_)
  have e : ent (mML 133) [v0, v1] = [some v0, some v1, none] := by rw [g_133.2.2.1]; simp [ent, pcats, c0, c1, pcatL, List.replicate]
  rw [e]
  exact m_133_0 hd hN (hw l) |> fun k => by rw [g_133.2.2.2]; exact k
def q_133_19 : List Instr := [.aload 0, .bipush (0), .iload 1, .iastore, .bipush (0), .istore 2]
theorem q_133_19_ok : okq 133 25 19 q_133_19 = true := by decide +kernel
theorem m_133_19 {l : Launch} {d n0 : Nat} {Qp : PQ} {ls : List (Option PV)} {st : List PV} {h : PMem} (hd : 1 ≤ d) (hN : n0 ≤ NC) (hw : wq n0 (fun t => At l d 133 n0 Qp t) (CallP (d - 1)) Qp 25 q_133_19 ls st h) : At l d 133 n0 Qp 19 ls st h := soundq g_133.2.1 (by rw [g_133.2.2.2]; exact hN) hd q_133_19 19 q_133_19_ok ls st h (by rw [g_133.2.2.2]; exact hw)
def q_133_68 : List Instr := [.bipush (0), .istore 2]
theorem q_133_68_ok : okq 133 70 68 q_133_68 = true := by decide +kernel
theorem m_133_68 {l : Launch} {d n0 : Nat} {Qp : PQ} {ls : List (Option PV)} {st : List PV} {h : PMem} (hd : 1 ≤ d) (hN : n0 ≤ NC) (hw : wq n0 (fun t => At l d 133 n0 Qp t) (CallP (d - 1)) Qp 70 q_133_68 ls st h) : At l d 133 n0 Qp 68 ls st h := soundq g_133.2.1 (by rw [g_133.2.2.2]; exact hN) hd q_133_68 68 q_133_68_ok ls st h (by rw [g_133.2.2.2]; exact hw)
def q_141_0 : List Instr := [.bipush (0), .istore 1]
theorem q_141_0_ok : okq 141 2 0 q_141_0 = true := by decide +kernel
theorem m_141_0 {l : Launch} {d n0 : Nat} {Qp : PQ} {ls : List (Option PV)} {st : List PV} {h : PMem} (hd : 1 ≤ d) (hN : n0 ≤ NC) (hw : wq n0 (fun t => At l d 141 n0 Qp t) (CallP (d - 1)) Qp 2 q_141_0 ls st h) : At l d 141 n0 Qp 0 ls st h := soundq g_141.2.1 (by rw [g_141.2.2.2]; exact hN) hd q_141_0 0 q_141_0_ok ls st h (by rw [g_141.2.2.2]; exact hw)
theorem u_141 {d : Nat} {Qp : PQ} {v0 : PV} {h : PMem} (hd : 1 ≤ d) (hN : h.1 ≤ NC) (c0 : pcat v0 = 1 := by rfl) (hw : ∀ l, wq h.1 (fun t => At l d 141 h.1 (Qn h.1 Qp) t) (CallP (d - 1)) (Qn h.1 Qp) 2 q_141_0 [some v0, none] [] h) : CallP d 141 [v0] h Qp := by
  refine call_of g_141.1 (by rw [g_141.2.2.1]; simp only [pcats, c0, pcatL]; decide) (fun l => ?_)
  have e : ent (mML 141) [v0] = [some v0, none] := by rw [g_141.2.2.1]; simp [ent, pcats, c0, pcatL, List.replicate]
  rw [e]
  exact m_141_0 hd hN (hw l) |> fun k => by rw [g_141.2.2.2]; exact k
def q_153_26 : List Instr := [.aload 0, .aload 0, .getfield 709, .putfield 710, .aload 0, .bipush (0), .putfield 711, .aload 0, .aload 0, .aload 0, .getfield 709, .invokeinterface 151 151, .invokeinterface 152 64, .putfield 712]
theorem q_153_26_ok : okq 153 54 26 q_153_26 = true := by decide +kernel
theorem m_153_26 {l : Launch} {d n0 : Nat} {Qp : PQ} {ls : List (Option PV)} {st : List PV} {h : PMem} (hd : 1 ≤ d) (hN : n0 ≤ NC) (hw : wq n0 (fun t => At l d 153 n0 Qp t) (CallP (d - 1)) Qp 54 q_153_26 ls st h) : At l d 153 n0 Qp 26 ls st h := soundq g_153.2.1 (by rw [g_153.2.2.2]; exact hN) hd q_153_26 26 q_153_26_ok ls st h (by rw [g_153.2.2.2]; exact hw)
def q_155_0 : List Instr := [.sipush (0), .lstore 1, .bipush (0), .istore 3]
theorem q_155_0_ok : okq 155 4 0 q_155_0 = true := by decide +kernel
theorem m_155_0 {l : Launch} {d n0 : Nat} {Qp : PQ} {ls : List (Option PV)} {st : List PV} {h : PMem} (hd : 1 ≤ d) (hN : n0 ≤ NC) (hw : wq n0 (fun t => At l d 155 n0 Qp t) (CallP (d - 1)) Qp 4 q_155_0 ls st h) : At l d 155 n0 Qp 0 ls st h := soundq g_155.2.1 (by rw [g_155.2.2.2]; exact hN) hd q_155_0 0 q_155_0_ok ls st h (by rw [g_155.2.2.2]; exact hw)
theorem u_155 {d : Nat} {Qp : PQ} {v0 : PV} {h : PMem} (hd : 1 ≤ d) (hN : h.1 ≤ NC) (c0 : pcat v0 = 1 := by rfl) (hw : ∀ l, wq h.1 (fun t => At l d 155 h.1 (Qn h.1 Qp) t) (CallP (d - 1)) (Qn h.1 Qp) 4 q_155_0 [some v0, none, none, none] [] h) : CallP d 155 [v0] h Qp := by
  refine call_of g_155.1 (by rw [g_155.2.2.1]; simp only [pcats, c0, pcatL]; decide) (fun l => ?_)
  have e : ent (mML 155) [v0] = [some v0, none, none, none] := by rw [g_155.2.2.1]; simp [ent, pcats, c0, pcatL, List.replicate]
  rw [e]
  exact m_155_0 hd hN (hw l) |> fun k => by rw [g_155.2.2.2]; exact k
def q_157_0 : List Instr := [.bipush (0), .istore 2]
theorem q_157_0_ok : okq 157 2 0 q_157_0 = true := by decide +kernel
theorem m_157_0 {l : Launch} {d n0 : Nat} {Qp : PQ} {ls : List (Option PV)} {st : List PV} {h : PMem} (hd : 1 ≤ d) (hN : n0 ≤ NC) (hw : wq n0 (fun t => At l d 157 n0 Qp t) (CallP (d - 1)) Qp 2 q_157_0 ls st h) : At l d 157 n0 Qp 0 ls st h := soundq g_157.2.1 (by rw [g_157.2.2.2]; exact hN) hd q_157_0 0 q_157_0_ok ls st h (by rw [g_157.2.2.2]; exact hw)
theorem u_157 {d : Nat} {Qp : PQ} {v0 : PV} {v1 : PV} {h : PMem} (hd : 1 ≤ d) (hN : h.1 ≤ NC) (c0 : pcat v0 = 1 := by rfl) (c1 : pcat v1 = 1 := by rfl) (hw : ∀ l, wq h.1 (fun t => At l d 157 h.1 (Qn h.1 Qp) t) (CallP (d - 1)) (Qn h.1 Qp) 2 q_157_0 [some v0, some v1, none, none] [] h) : CallP d 157 [v0, v1] h Qp := by
  refine call_of g_157.1 (by rw [g_157.2.2.1]; simp only [pcats, c0, c1, pcatL]; decide) (fun l => ?_)
  have e : ent (mML 157) [v0, v1] = [some v0, some v1, none, none] := by rw [g_157.2.2.1]; simp [ent, pcats, c0, c1, pcatL, List.replicate]
  rw [e]
  exact m_157_0 hd hN (hw l) |> fun k => by rw [g_157.2.2.2]; exact k
def q_159_0 : List Instr := [.aload 0, .getstatic 701, .bipush (1), .invokeinterface 133 128, .aload 0, .bipush (-1), .putfield 714, .aload 0, .bipush (0), .putfield 709, .bipush (0), .istore 1, .aload 0, .invokeinterface 153 87]
theorem q_159_0_ok : okq 159 24 0 q_159_0 = true := by decide +kernel
theorem m_159_0 {l : Launch} {d n0 : Nat} {Qp : PQ} {ls : List (Option PV)} {st : List PV} {h : PMem} (hd : 1 ≤ d) (hN : n0 ≤ NC) (hw : wq n0 (fun t => At l d 159 n0 Qp t) (CallP (d - 1)) Qp 24 q_159_0 ls st h) : At l d 159 n0 Qp 0 ls st h := soundq g_159.2.1 (by rw [g_159.2.2.2]; exact hN) hd q_159_0 0 q_159_0_ok ls st h (by rw [g_159.2.2.2]; exact hw)
theorem u_159 {d : Nat} {Qp : PQ} {v0 : PV} {h : PMem} (hd : 1 ≤ d) (hN : h.1 ≤ NC) (c0 : pcat v0 = 1 := by rfl) (hw : ∀ l, wq h.1 (fun t => At l d 159 h.1 (Qn h.1 Qp) t) (CallP (d - 1)) (Qn h.1 Qp) 24 q_159_0 [some v0, none, none] [] h) : CallP d 159 [v0] h Qp := by
  refine call_of g_159.1 (by rw [g_159.2.2.1]; simp only [pcats, c0, pcatL]; decide) (fun l => ?_)
  have e : ent (mML 159) [v0] = [some v0, none, none] := by rw [g_159.2.2.1]; simp [ent, pcats, c0, pcatL, List.replicate]
  rw [e]
  exact m_159_0 hd hN (hw l) |> fun k => by rw [g_159.2.2.2]; exact k
def q_161_0 : List Instr := [.bipush (0), .istore 1]
theorem q_161_0_ok : okq 161 2 0 q_161_0 = true := by decide +kernel
theorem m_161_0 {l : Launch} {d n0 : Nat} {Qp : PQ} {ls : List (Option PV)} {st : List PV} {h : PMem} (hd : 1 ≤ d) (hN : n0 ≤ NC) (hw : wq n0 (fun t => At l d 161 n0 Qp t) (CallP (d - 1)) Qp 2 q_161_0 ls st h) : At l d 161 n0 Qp 0 ls st h := soundq g_161.2.1 (by rw [g_161.2.2.2]; exact hN) hd q_161_0 0 q_161_0_ok ls st h (by rw [g_161.2.2.2]; exact hw)
theorem u_161 {d : Nat} {Qp : PQ} {v0 : PV} {h : PMem} (hd : 1 ≤ d) (hN : h.1 ≤ NC) (c0 : pcat v0 = 1 := by rfl) (hw : ∀ l, wq h.1 (fun t => At l d 161 h.1 (Qn h.1 Qp) t) (CallP (d - 1)) (Qn h.1 Qp) 2 q_161_0 [some v0, none, none, none, none, none] [] h) : CallP d 161 [v0] h Qp := by
  refine call_of g_161.1 (by rw [g_161.2.2.1]; simp only [pcats, c0, pcatL]; decide) (fun l => ?_)
  have e : ent (mML 161) [v0] = [some v0, none, none, none, none, none] := by rw [g_161.2.2.1]; simp [ent, pcats, c0, pcatL, List.replicate]
  rw [e]
  exact m_161_0 hd hN (hw l) |> fun k => by rw [g_161.2.2.2]; exact k
def q_161_29 : List Instr := [.bipush (0), .istore 1]
theorem q_161_29_ok : okq 161 31 29 q_161_29 = true := by decide +kernel
theorem m_161_29 {l : Launch} {d n0 : Nat} {Qp : PQ} {ls : List (Option PV)} {st : List PV} {h : PMem} (hd : 1 ≤ d) (hN : n0 ≤ NC) (hw : wq n0 (fun t => At l d 161 n0 Qp t) (CallP (d - 1)) Qp 31 q_161_29 ls st h) : At l d 161 n0 Qp 29 ls st h := soundq g_161.2.1 (by rw [g_161.2.2.2]; exact hN) hd q_161_29 29 q_161_29_ok ls st h (by rw [g_161.2.2.2]; exact hw)
def q_161_31 : List Instr := [.iload 1, .bipush (6), .if_icmp .ge (174), .bipush (0), .istore 2]
theorem q_161_31_ok : okq 161 39 31 q_161_31 = true := by decide +kernel
theorem m_161_31 {l : Launch} {d n0 : Nat} {Qp : PQ} {ls : List (Option PV)} {st : List PV} {h : PMem} (hd : 1 ≤ d) (hN : n0 ≤ NC) (hw : wq n0 (fun t => At l d 161 n0 Qp t) (CallP (d - 1)) Qp 39 q_161_31 ls st h) : At l d 161 n0 Qp 31 ls st h := soundq g_161.2.1 (by rw [g_161.2.2.2]; exact hN) hd q_161_31 31 q_161_31_ok ls st h (by rw [g_161.2.2.2]; exact hw)
def q_161_39 : List Instr := [.iload 2, .aload 0, .getstatic 700, .bipush (0), .iaload, .if_icmp .ge (168), .bipush (0), .istore 3]
theorem q_161_39_ok : okq 161 51 39 q_161_39 = true := by decide +kernel
theorem m_161_39 {l : Launch} {d n0 : Nat} {Qp : PQ} {ls : List (Option PV)} {st : List PV} {h : PMem} (hd : 1 ≤ d) (hN : n0 ≤ NC) (hw : wq n0 (fun t => At l d 161 n0 Qp t) (CallP (d - 1)) Qp 51 q_161_39 ls st h) : At l d 161 n0 Qp 39 ls st h := soundq g_161.2.1 (by rw [g_161.2.2.2]; exact hN) hd q_161_39 39 q_161_39_ok ls st h (by rw [g_161.2.2.2]; exact hw)
def q_163_0 : List Instr := [.aload 0, .invokeinterface 161 87, .bipush (0), .istore 2, .bipush (0), .istore 3]
theorem q_163_0_ok : okq 163 8 0 q_163_0 = true := by decide +kernel
theorem m_163_0 {l : Launch} {d n0 : Nat} {Qp : PQ} {ls : List (Option PV)} {st : List PV} {h : PMem} (hd : 1 ≤ d) (hN : n0 ≤ NC) (hw : wq n0 (fun t => At l d 163 n0 Qp t) (CallP (d - 1)) Qp 8 q_163_0 ls st h) : At l d 163 n0 Qp 0 ls st h := soundq g_163.2.1 (by rw [g_163.2.2.2]; exact hN) hd q_163_0 0 q_163_0_ok ls st h (by rw [g_163.2.2.2]; exact hw)
theorem u_163 {d : Nat} {Qp : PQ} {v0 : PV} {v1 : PV} {h : PMem} (hd : 1 ≤ d) (hN : h.1 ≤ NC) (c0 : pcat v0 = 1 := by rfl) (c1 : pcat v1 = 1 := by rfl) (hw : ∀ l, wq h.1 (fun t => At l d 163 h.1 (Qn h.1 Qp) t) (CallP (d - 1)) (Qn h.1 Qp) 8 q_163_0 [some v0, some v1, none, none] [] h) : CallP d 163 [v0, v1] h Qp := by
  refine call_of g_163.1 (by rw [g_163.2.2.1]; simp only [pcats, c0, c1, pcatL]; decide) (fun l => ?_)
  have e : ent (mML 163) [v0, v1] = [some v0, some v1, none, none] := by rw [g_163.2.2.1]; simp [ent, pcats, c0, c1, pcatL, List.replicate]
  rw [e]
  exact m_163_0 hd hN (hw l) |> fun k => by rw [g_163.2.2.2]; exact k
def q_170_0 : List Instr := [.aload 0, .getstatic 700, .bipush (3), .iaload, .bipush (8), .if_icmp .ne (52), .bipush (92), .istore 1]
theorem q_170_0_ok : okq 170 14 0 q_170_0 = true := by decide +kernel
theorem m_170_0 {l : Launch} {d n0 : Nat} {Qp : PQ} {ls : List (Option PV)} {st : List PV} {h : PMem} (hd : 1 ≤ d) (hN : n0 ≤ NC) (hw : wq n0 (fun t => At l d 170 n0 Qp t) (CallP (d - 1)) Qp 14 q_170_0 ls st h) : At l d 170 n0 Qp 0 ls st h := soundq g_170.2.1 (by rw [g_170.2.2.2]; exact hN) hd q_170_0 0 q_170_0_ok ls st h (by rw [g_170.2.2.2]; exact hw)
theorem u_170 {d : Nat} {Qp : PQ} {v0 : PV} {h : PMem} (hd : 1 ≤ d) (hN : h.1 ≤ NC) (c0 : pcat v0 = 1 := by rfl) (hw : ∀ l, wq h.1 (fun t => At l d 170 h.1 (Qn h.1 Qp) t) (CallP (d - 1)) (Qn h.1 Qp) 14 q_170_0 [some v0, none, none, none] [] h) : CallP d 170 [v0] h Qp := by
  refine call_of g_170.1 (by rw [g_170.2.2.1]; simp only [pcats, c0, pcatL]; decide) (fun l => ?_)
  have e : ent (mML 170) [v0] = [some v0, none, none, none] := by rw [g_170.2.2.1]; simp [ent, pcats, c0, pcatL, List.replicate]
  rw [e]
  exact m_170_0 hd hN (hw l) |> fun k => by rw [g_170.2.2.2]; exact k
def q_170_42 : List Instr := [.aload 0, .getstatic 700, .bipush (3), .dup2, .iaload, .bipush (1), .isub, .iastore, .bipush (92), .bipush (13), .aload 0, .getstatic 700, .bipush (3), .iaload, .imul, .iadd, .istore 1, .bipush (0), .istore 2]
theorem q_170_42_ok : okq 170 67 42 q_170_42 = true := by decide +kernel
theorem m_170_42 {l : Launch} {d n0 : Nat} {Qp : PQ} {ls : List (Option PV)} {st : List PV} {h : PMem} (hd : 1 ≤ d) (hN : n0 ≤ NC) (hw : wq n0 (fun t => At l d 170 n0 Qp t) (CallP (d - 1)) Qp 67 q_170_42 ls st h) : At l d 170 n0 Qp 42 ls st h := soundq g_170.2.1 (by rw [g_170.2.2.2]; exact hN) hd q_170_42 42 q_170_42_ok ls st h (by rw [g_170.2.2.2]; exact hw)
def q_170_52 : List Instr := [.bipush (92), .bipush (13), .aload 0, .getstatic 700, .bipush (3), .iaload, .imul, .iadd, .istore 1, .bipush (0), .istore 2]
theorem q_170_52_ok : okq 170 67 52 q_170_52 = true := by decide +kernel
theorem m_170_52 {l : Launch} {d n0 : Nat} {Qp : PQ} {ls : List (Option PV)} {st : List PV} {h : PMem} (hd : 1 ≤ d) (hN : n0 ≤ NC) (hw : wq n0 (fun t => At l d 170 n0 Qp t) (CallP (d - 1)) Qp 67 q_170_52 ls st h) : At l d 170 n0 Qp 52 ls st h := soundq g_170.2.1 (by rw [g_170.2.2.2]; exact hN) hd q_170_52 52 q_170_52_ok ls st h (by rw [g_170.2.2.2]; exact hw)
def q_170_99 : List Instr := [.bipush (0), .istore 2]
theorem q_170_99_ok : okq 170 101 99 q_170_99 = true := by decide +kernel
theorem m_170_99 {l : Launch} {d n0 : Nat} {Qp : PQ} {ls : List (Option PV)} {st : List PV} {h : PMem} (hd : 1 ≤ d) (hN : n0 ≤ NC) (hw : wq n0 (fun t => At l d 170 n0 Qp t) (CallP (d - 1)) Qp 101 q_170_99 ls st h) : At l d 170 n0 Qp 99 ls st h := soundq g_170.2.1 (by rw [g_170.2.2.2]; exact hN) hd q_170_99 99 q_170_99_ok ls st h (by rw [g_170.2.2.2]; exact hw)
def q_170_101 : List Instr := [.iload 2, .bipush (2), .if_icmp .ge (155), .bipush (0), .istore 3]
theorem q_170_101_ok : okq 170 108 101 q_170_101 = true := by decide +kernel
theorem m_170_101 {l : Launch} {d n0 : Nat} {Qp : PQ} {ls : List (Option PV)} {st : List PV} {h : PMem} (hd : 1 ≤ d) (hN : n0 ≤ NC) (hw : wq n0 (fun t => At l d 170 n0 Qp t) (CallP (d - 1)) Qp 108 q_170_101 ls st h) : At l d 170 n0 Qp 101 ls st h := soundq g_170.2.1 (by rw [g_170.2.2.2]; exact hN) hd q_170_101 101 q_170_101_ok ls st h (by rw [g_170.2.2.2]; exact hw)
def q_171_17 : List Instr := [.aload 0, .invokeinterface 170 87, .aload 0, .invokeinterface 161 87, .bipush (0), .istore 1]
theorem q_171_17_ok : okq 171 27 17 q_171_17 = true := by decide +kernel
theorem m_171_17 {l : Launch} {d n0 : Nat} {Qp : PQ} {ls : List (Option PV)} {st : List PV} {h : PMem} (hd : 1 ≤ d) (hN : n0 ≤ NC) (hw : wq n0 (fun t => At l d 171 n0 Qp t) (CallP (d - 1)) Qp 27 q_171_17 ls st h) : At l d 171 n0 Qp 17 ls st h := soundq g_171.2.1 (by rw [g_171.2.2.2]; exact hN) hd q_171_17 17 q_171_17_ok ls st h (by rw [g_171.2.2.2]; exact hw)
def q_171_98 : List Instr := [.bipush (16), .iload 4, .isub, .invokeinterface 167 128, .istore 5, .bipush (0), .istore 6]
theorem q_171_98_ok : okq 171 111 98 q_171_98 = true := by decide +kernel
theorem m_171_98 {l : Launch} {d n0 : Nat} {Qp : PQ} {ls : List (Option PV)} {st : List PV} {h : PMem} (hd : 1 ≤ d) (hN : n0 ≤ NC) (hw : wq n0 (fun t => At l d 171 n0 Qp t) (CallP (d - 1)) Qp 111 q_171_98 ls st h) : At l d 171 n0 Qp 98 ls st h := soundq g_171.2.1 (by rw [g_171.2.2.2]; exact hN) hd q_171_98 98 q_171_98_ok ls st h (by rw [g_171.2.2.2]; exact hw)
def q_171_103 : List Instr := [.invokeinterface 167 128, .istore 5, .bipush (0), .istore 6]
theorem q_171_103_ok : okq 171 111 103 q_171_103 = true := by decide +kernel
theorem m_171_103 {l : Launch} {d n0 : Nat} {Qp : PQ} {ls : List (Option PV)} {st : List PV} {h : PMem} (hd : 1 ≤ d) (hN : n0 ≤ NC) (hw : wq n0 (fun t => At l d 171 n0 Qp t) (CallP (d - 1)) Qp 111 q_171_103 ls st h) : At l d 171 n0 Qp 103 ls st h := soundq g_171.2.1 (by rw [g_171.2.2.2]; exact hN) hd q_171_103 103 q_171_103_ok ls st h (by rw [g_171.2.2.2]; exact hw)
def q_171_189 : List Instr := [.bipush (0), .istore 1]
theorem q_171_189_ok : okq 171 191 189 q_171_189 = true := by decide +kernel
theorem m_171_189 {l : Launch} {d n0 : Nat} {Qp : PQ} {ls : List (Option PV)} {st : List PV} {h : PMem} (hd : 1 ≤ d) (hN : n0 ≤ NC) (hw : wq n0 (fun t => At l d 171 n0 Qp t) (CallP (d - 1)) Qp 191 q_171_189 ls st h) : At l d 171 n0 Qp 189 ls st h := soundq g_171.2.1 (by rw [g_171.2.2.2]; exact hN) hd q_171_189 189 q_171_189_ok ls st h (by rw [g_171.2.2.2]; exact hw)
def q_172_14 : List Instr := [.aload 0, .getstatic 700, .bipush (3), .dup2, .iaload, .bipush (1), .isub, .iastore, .bipush (92), .bipush (13), .aload 0, .getstatic 700, .bipush (3), .iaload, .imul, .iadd, .istore 1, .bipush (0), .istore 2]
theorem q_172_14_ok : okq 172 39 14 q_172_14 = true := by decide +kernel
theorem m_172_14 {l : Launch} {d n0 : Nat} {Qp : PQ} {ls : List (Option PV)} {st : List PV} {h : PMem} (hd : 1 ≤ d) (hN : n0 ≤ NC) (hw : wq n0 (fun t => At l d 172 n0 Qp t) (CallP (d - 1)) Qp 39 q_172_14 ls st h) : At l d 172 n0 Qp 14 ls st h := soundq g_172.2.1 (by rw [g_172.2.2.2]; exact hN) hd q_172_14 14 q_172_14_ok ls st h (by rw [g_172.2.2.2]; exact hw)
def q_172_71 : List Instr := [.bipush (0), .istore 2]
theorem q_172_71_ok : okq 172 73 71 q_172_71 = true := by decide +kernel
theorem m_172_71 {l : Launch} {d n0 : Nat} {Qp : PQ} {ls : List (Option PV)} {st : List PV} {h : PMem} (hd : 1 ≤ d) (hN : n0 ≤ NC) (hw : wq n0 (fun t => At l d 172 n0 Qp t) (CallP (d - 1)) Qp 73 q_172_71 ls st h) : At l d 172 n0 Qp 71 ls st h := soundq g_172.2.1 (by rw [g_172.2.2.2]; exact hN) hd q_172_71 71 q_172_71_ok ls st h (by rw [g_172.2.2.2]; exact hw)
def q_172_73 : List Instr := [.iload 2, .bipush (2), .if_icmp .ge (127), .bipush (0), .istore 3]
theorem q_172_73_ok : okq 172 80 73 q_172_73 = true := by decide +kernel
theorem m_172_73 {l : Launch} {d n0 : Nat} {Qp : PQ} {ls : List (Option PV)} {st : List PV} {h : PMem} (hd : 1 ≤ d) (hN : n0 ≤ NC) (hw : wq n0 (fun t => At l d 172 n0 Qp t) (CallP (d - 1)) Qp 80 q_172_73 ls st h) : At l d 172 n0 Qp 73 ls st h := soundq g_172.2.1 (by rw [g_172.2.2.2]; exact hN) hd q_172_73 73 q_172_73_ok ls st h (by rw [g_172.2.2.2]; exact hw)
def q_178_26 : List Instr := [.aload 0, .getstatic 700, .bipush (4), .bipush (3), .iload 1, .imul, .iadd, .iaload, .istore 3, .bipush (0), .istore 4]
theorem q_178_26_ok : okq 178 40 26 q_178_26 = true := by decide +kernel
theorem m_178_26 {l : Launch} {d n0 : Nat} {Qp : PQ} {ls : List (Option PV)} {st : List PV} {h : PMem} (hd : 1 ≤ d) (hN : n0 ≤ NC) (hw : wq n0 (fun t => At l d 178 n0 Qp t) (CallP (d - 1)) Qp 40 q_178_26 ls st h) : At l d 178 n0 Qp 26 ls st h := soundq g_178.2.1 (by rw [g_178.2.2.2]; exact hN) hd q_178_26 26 q_178_26_ok ls st h (by rw [g_178.2.2.2]; exact hw)
def q_184_0 : List Instr := [.aload 0, .bipush (-1), .putfield 715, .aload 0, .bipush (0), .putfield 716, .bipush (0), .istore 2]
theorem q_184_0_ok : okq 184 12 0 q_184_0 = true := by decide +kernel
theorem m_184_0 {l : Launch} {d n0 : Nat} {Qp : PQ} {ls : List (Option PV)} {st : List PV} {h : PMem} (hd : 1 ≤ d) (hN : n0 ≤ NC) (hw : wq n0 (fun t => At l d 184 n0 Qp t) (CallP (d - 1)) Qp 12 q_184_0 ls st h) : At l d 184 n0 Qp 0 ls st h := soundq g_184.2.1 (by rw [g_184.2.2.2]; exact hN) hd q_184_0 0 q_184_0_ok ls st h (by rw [g_184.2.2.2]; exact hw)
theorem u_184 {d : Nat} {Qp : PQ} {v0 : PV} {v1 : PV} {h : PMem} (hd : 1 ≤ d) (hN : h.1 ≤ NC) (c0 : pcat v0 = 1 := by rfl) (c1 : pcat v1 = 1 := by rfl) (hw : ∀ l, wq h.1 (fun t => At l d 184 h.1 (Qn h.1 Qp) t) (CallP (d - 1)) (Qn h.1 Qp) 12 q_184_0 [some v0, some v1, none, none, none, none] [] h) : CallP d 184 [v0, v1] h Qp := by
  refine call_of g_184.1 (by rw [g_184.2.2.1]; simp only [pcats, c0, c1, pcatL]; decide) (fun l => ?_)
  have e : ent (mML 184) [v0, v1] = [some v0, some v1, none, none, none, none] := by rw [g_184.2.2.1]; simp [ent, pcats, c0, c1, pcatL, List.replicate]
  rw [e]
  exact m_184_0 hd hN (hw l) |> fun k => by rw [g_184.2.2.2]; exact k
def q_186_13 : List Instr := [.aload 0, .iload 1, .invokeinterface 184 151, .aload 0, .getfield 716, .istore 2, .bipush (0), .istore 3]
theorem q_186_13_ok : okq 186 25 13 q_186_13 = true := by decide +kernel
theorem m_186_13 {l : Launch} {d n0 : Nat} {Qp : PQ} {ls : List (Option PV)} {st : List PV} {h : PMem} (hd : 1 ≤ d) (hN : n0 ≤ NC) (hw : wq n0 (fun t => At l d 186 n0 Qp t) (CallP (d - 1)) Qp 25 q_186_13 ls st h) : At l d 186 n0 Qp 13 ls st h := soundq g_186.2.1 (by rw [g_186.2.2.2]; exact hN) hd q_186_13 13 q_186_13_ok ls st h (by rw [g_186.2.2.2]; exact hw)
def q_188_0 : List Instr := [.aload 0, .bipush (0), .iload 1, .bipush (8), .idiv, .invokeinterface 187 215, .aload 0, .bipush (1), .iload 1, .bipush (8), .irem, .invokeinterface 187 215, .bipush (0), .istore 2]
theorem q_188_0_ok : okq 188 20 0 q_188_0 = true := by decide +kernel
theorem m_188_0 {l : Launch} {d n0 : Nat} {Qp : PQ} {ls : List (Option PV)} {st : List PV} {h : PMem} (hd : 1 ≤ d) (hN : n0 ≤ NC) (hw : wq n0 (fun t => At l d 188 n0 Qp t) (CallP (d - 1)) Qp 20 q_188_0 ls st h) : At l d 188 n0 Qp 0 ls st h := soundq g_188.2.1 (by rw [g_188.2.2.2]; exact hN) hd q_188_0 0 q_188_0_ok ls st h (by rw [g_188.2.2.2]; exact hw)
theorem u_188 {d : Nat} {Qp : PQ} {v0 : PV} {v1 : PV} {h : PMem} (hd : 1 ≤ d) (hN : h.1 ≤ NC) (c0 : pcat v0 = 1 := by rfl) (c1 : pcat v1 = 1 := by rfl) (hw : ∀ l, wq h.1 (fun t => At l d 188 h.1 (Qn h.1 Qp) t) (CallP (d - 1)) (Qn h.1 Qp) 20 q_188_0 [some v0, some v1, none] [] h) : CallP d 188 [v0, v1] h Qp := by
  refine call_of g_188.1 (by rw [g_188.2.2.1]; simp only [pcats, c0, c1, pcatL]; decide) (fun l => ?_)
  have e : ent (mML 188) [v0, v1] = [some v0, some v1, none] := by rw [g_188.2.2.1]; simp [ent, pcats, c0, c1, pcatL, List.replicate]
  rw [e]
  exact m_188_0 hd hN (hw l) |> fun k => by rw [g_188.2.2.2]; exact k
def q_190_37 : List Instr := [.iload 2, .aload 0, .bipush (0), .invokeinterface 163 151, .iand, .istore 4, .iload 2, .aload 0, .bipush (1), .invokeinterface 163 151, .iand, .istore 5, .bipush (-1), .istore 6, .bipush (0), .istore 7, .bipush (0), .istore 8]
theorem q_190_37_ok : okq 190 64 37 q_190_37 = true := by decide +kernel
theorem m_190_37 {l : Launch} {d n0 : Nat} {Qp : PQ} {ls : List (Option PV)} {st : List PV} {h : PMem} (hd : 1 ≤ d) (hN : n0 ≤ NC) (hw : wq n0 (fun t => At l d 190 n0 Qp t) (CallP (d - 1)) Qp 64 q_190_37 ls st h) : At l d 190 n0 Qp 37 ls st h := soundq g_190.2.1 (by rw [g_190.2.2.2]; exact hN) hd q_190_37 37 q_190_37_ok ls st h (by rw [g_190.2.2.2]; exact hw)
def q_190_137 : List Instr := [.bipush (0), .istore 10, .bipush (0), .istore 11]
theorem q_190_137_ok : okq 190 143 137 q_190_137 = true := by decide +kernel
theorem m_190_137 {l : Launch} {d n0 : Nat} {Qp : PQ} {ls : List (Option PV)} {st : List PV} {h : PMem} (hd : 1 ≤ d) (hN : n0 ≤ NC) (hw : wq n0 (fun t => At l d 190 n0 Qp t) (CallP (d - 1)) Qp 143 q_190_137 ls st h) : At l d 190 n0 Qp 137 ls st h := soundq g_190.2.1 (by rw [g_190.2.2.2]; exact hN) hd q_190_137 137 q_190_137_ok ls st h (by rw [g_190.2.2.2]; exact hw)
def q_190_138 : List Instr := [.istore 10, .bipush (0), .istore 11]
theorem q_190_138_ok : okq 190 143 138 q_190_138 = true := by decide +kernel
theorem m_190_138 {l : Launch} {d n0 : Nat} {Qp : PQ} {ls : List (Option PV)} {st : List PV} {h : PMem} (hd : 1 ≤ d) (hN : n0 ≤ NC) (hw : wq n0 (fun t => At l d 190 n0 Qp t) (CallP (d - 1)) Qp 143 q_190_138 ls st h) : At l d 190 n0 Qp 138 ls st h := soundq g_190.2.1 (by rw [g_190.2.2.2]; exact hN) hd q_190_138 138 q_190_138_ok ls st h (by rw [g_190.2.2.2]; exact hw)
def q_190_174 : List Instr := [.iload 10, .ifCond .eq (271), .aload 0, .iload 9, .invokeinterface 188 151, .iload 1, .bipush (2), .if_icmp .ne (199), .aload 0, .iload 8, .bipush (64), .irem, .invokeinterface 188 151, .bipush (0), .istore 11, .bipush (0), .istore 12]
theorem q_190_174_ok : okq 190 205 174 q_190_174 = true := by decide +kernel
theorem m_190_174 {l : Launch} {d n0 : Nat} {Qp : PQ} {ls : List (Option PV)} {st : List PV} {h : PMem} (hd : 1 ≤ d) (hN : n0 ≤ NC) (hw : wq n0 (fun t => At l d 190 n0 Qp t) (CallP (d - 1)) Qp 205 q_190_174 ls st h) : At l d 190 n0 Qp 174 ls st h := soundq g_190.2.1 (by rw [g_190.2.2.2]; exact hN) hd q_190_174 174 q_190_174_ok ls st h (by rw [g_190.2.2.2]; exact hw)
def q_190_199 : List Instr := [.bipush (0), .istore 11, .bipush (0), .istore 12]
theorem q_190_199_ok : okq 190 205 199 q_190_199 = true := by decide +kernel
theorem m_190_199 {l : Launch} {d n0 : Nat} {Qp : PQ} {ls : List (Option PV)} {st : List PV} {h : PMem} (hd : 1 ≤ d) (hN : n0 ≤ NC) (hw : wq n0 (fun t => At l d 190 n0 Qp t) (CallP (d - 1)) Qp 205 q_190_199 ls st h) : At l d 190 n0 Qp 199 ls st h := soundq g_190.2.1 (by rw [g_190.2.2.2]; exact hN) hd q_190_199 199 q_190_199_ok ls st h (by rw [g_190.2.2.2]; exact hw)
def q_193_19 : List Instr := [.bipush (0), .istore 3]
theorem q_193_19_ok : okq 193 21 19 q_193_19 = true := by decide +kernel
theorem m_193_19 {l : Launch} {d n0 : Nat} {Qp : PQ} {ls : List (Option PV)} {st : List PV} {h : PMem} (hd : 1 ≤ d) (hN : n0 ≤ NC) (hw : wq n0 (fun t => At l d 193 n0 Qp t) (CallP (d - 1)) Qp 21 q_193_19 ls st h) : At l d 193 n0 Qp 19 ls st h := soundq g_193.2.1 (by rw [g_193.2.2.2]; exact hN) hd q_193_19 19 q_193_19_ok ls st h (by rw [g_193.2.2.2]; exact hw)
def q_194_36 : List Instr := [.bipush (0), .istore 5]
theorem q_194_36_ok : okq 194 39 36 q_194_36 = true := by decide +kernel
theorem m_194_36 {l : Launch} {d n0 : Nat} {Qp : PQ} {ls : List (Option PV)} {st : List PV} {h : PMem} (hd : 1 ≤ d) (hN : n0 ≤ NC) (hw : wq n0 (fun t => At l d 194 n0 Qp t) (CallP (d - 1)) Qp 39 q_194_36 ls st h) : At l d 194 n0 Qp 36 ls st h := soundq g_194.2.1 (by rw [g_194.2.2.2]; exact hN) hd q_194_36 36 q_194_36_ok ls st h (by rw [g_194.2.2.2]; exact hw)
def q_195_0 : List Instr := [.bipush (1), .istore 2, .bipush (0), .istore 3]
theorem q_195_0_ok : okq 195 4 0 q_195_0 = true := by decide +kernel
theorem m_195_0 {l : Launch} {d n0 : Nat} {Qp : PQ} {ls : List (Option PV)} {st : List PV} {h : PMem} (hd : 1 ≤ d) (hN : n0 ≤ NC) (hw : wq n0 (fun t => At l d 195 n0 Qp t) (CallP (d - 1)) Qp 4 q_195_0 ls st h) : At l d 195 n0 Qp 0 ls st h := soundq g_195.2.1 (by rw [g_195.2.2.2]; exact hN) hd q_195_0 0 q_195_0_ok ls st h (by rw [g_195.2.2.2]; exact hw)
theorem u_195 {d : Nat} {Qp : PQ} {v0 : PV} {v1 : PV} {h : PMem} (hd : 1 ≤ d) (hN : h.1 ≤ NC) (c0 : pcat v0 = 1 := by rfl) (c1 : pcat v1 = 1 := by rfl) (hw : ∀ l, wq h.1 (fun t => At l d 195 h.1 (Qn h.1 Qp) t) (CallP (d - 1)) (Qn h.1 Qp) 4 q_195_0 [some v0, some v1, none, none] [] h) : CallP d 195 [v0, v1] h Qp := by
  refine call_of g_195.1 (by rw [g_195.2.2.1]; simp only [pcats, c0, c1, pcatL]; decide) (fun l => ?_)
  have e : ent (mML 195) [v0, v1] = [some v0, some v1, none, none] := by rw [g_195.2.2.1]; simp [ent, pcats, c0, c1, pcatL, List.replicate]
  rw [e]
  exact m_195_0 hd hN (hw l) |> fun k => by rw [g_195.2.2.2]; exact k
def q_196_0 : List Instr := [.bipush (1), .istore 4, .bipush (0), .istore 5]
theorem q_196_0_ok : okq 196 6 0 q_196_0 = true := by decide +kernel
theorem m_196_0 {l : Launch} {d n0 : Nat} {Qp : PQ} {ls : List (Option PV)} {st : List PV} {h : PMem} (hd : 1 ≤ d) (hN : n0 ≤ NC) (hw : wq n0 (fun t => At l d 196 n0 Qp t) (CallP (d - 1)) Qp 6 q_196_0 ls st h) : At l d 196 n0 Qp 0 ls st h := soundq g_196.2.1 (by rw [g_196.2.2.2]; exact hN) hd q_196_0 0 q_196_0_ok ls st h (by rw [g_196.2.2.2]; exact hw)
theorem u_196 {d : Nat} {Qp : PQ} {v0 : PV} {v1 : PV} {v2 : PV} {v3 : PV} {h : PMem} (hd : 1 ≤ d) (hN : h.1 ≤ NC) (c0 : pcat v0 = 1 := by rfl) (c1 : pcat v1 = 1 := by rfl) (c2 : pcat v2 = 1 := by rfl) (c3 : pcat v3 = 1 := by rfl) (hw : ∀ l, wq h.1 (fun t => At l d 196 h.1 (Qn h.1 Qp) t) (CallP (d - 1)) (Qn h.1 Qp) 6 q_196_0 [some v0, some v1, some v2, some v3, none, none, none, none] [] h) : CallP d 196 [v0, v1, v2, v3] h Qp := by
  refine call_of g_196.1 (by rw [g_196.2.2.1]; simp only [pcats, c0, c1, c2, c3, pcatL]; decide) (fun l => ?_)
  have e : ent (mML 196) [v0, v1, v2, v3] = [some v0, some v1, some v2, some v3, none, none, none, none] := by rw [g_196.2.2.1]; simp [ent, pcats, c0, c1, c2, c3, pcatL, List.replicate]
  rw [e]
  exact m_196_0 hd hN (hw l) |> fun k => by rw [g_196.2.2.2]; exact k
def q_196_6 : List Instr := [.iload 5, .iload 1, .if_icmp .ge (85), .bipush (0), .istore 6, .bipush (0), .istore 7]
theorem q_196_6_ok : okq 196 18 6 q_196_6 = true := by decide +kernel
theorem m_196_6 {l : Launch} {d n0 : Nat} {Qp : PQ} {ls : List (Option PV)} {st : List PV} {h : PMem} (hd : 1 ≤ d) (hN : n0 ≤ NC) (hw : wq n0 (fun t => At l d 196 n0 Qp t) (CallP (d - 1)) Qp 18 q_196_6 ls st h) : At l d 196 n0 Qp 6 ls st h := soundq g_196.2.1 (by rw [g_196.2.2.2]; exact hN) hd q_196_6 6 q_196_6_ok ls st h (by rw [g_196.2.2.2]; exact hw)
def q_197_39 : List Instr := [.aload 0, .bipush (0), .invokeinterface 163 151, .istore 5, .bipush (0), .istore 6]
theorem q_197_39_ok : okq 197 49 39 q_197_39 = true := by decide +kernel
theorem m_197_39 {l : Launch} {d n0 : Nat} {Qp : PQ} {ls : List (Option PV)} {st : List PV} {h : PMem} (hd : 1 ≤ d) (hN : n0 ≤ NC) (hw : wq n0 (fun t => At l d 197 n0 Qp t) (CallP (d - 1)) Qp 49 q_197_39 ls st h) : At l d 197 n0 Qp 39 ls st h := soundq g_197.2.1 (by rw [g_197.2.2.2]; exact hN) hd q_197_39 39 q_197_39_ok ls st h (by rw [g_197.2.2.2]; exact hw)
def q_197_49 : List Instr := [.iload 6, .bipush (6), .iload 1, .invokeinterface 195 128, .if_icmp .ge (162), .bipush (1), .istore 7, .bipush (0), .istore 8]
theorem q_197_49_ok : okq 197 66 49 q_197_49 = true := by decide +kernel
theorem m_197_49 {l : Launch} {d n0 : Nat} {Qp : PQ} {ls : List (Option PV)} {st : List PV} {h : PMem} (hd : 1 ≤ d) (hN : n0 ≤ NC) (hw : wq n0 (fun t => At l d 197 n0 Qp t) (CallP (d - 1)) Qp 66 q_197_49 ls st h) : At l d 197 n0 Qp 49 ls st h := soundq g_197.2.1 (by rw [g_197.2.2.2]; exact hN) hd q_197_49 49 q_197_49_ok ls st h (by rw [g_197.2.2.2]; exact hw)
def q_200_0 : List Instr := [.bipush (0), .istore 2, .bipush (0), .istore 3, .bipush (0), .istore 4]
theorem q_200_0_ok : okq 200 7 0 q_200_0 = true := by decide +kernel
theorem m_200_0 {l : Launch} {d n0 : Nat} {Qp : PQ} {ls : List (Option PV)} {st : List PV} {h : PMem} (hd : 1 ≤ d) (hN : n0 ≤ NC) (hw : wq n0 (fun t => At l d 200 n0 Qp t) (CallP (d - 1)) Qp 7 q_200_0 ls st h) : At l d 200 n0 Qp 0 ls st h := soundq g_200.2.1 (by rw [g_200.2.2.2]; exact hN) hd q_200_0 0 q_200_0_ok ls st h (by rw [g_200.2.2.2]; exact hw)
theorem u_200 {d : Nat} {Qp : PQ} {v0 : PV} {v1 : PV} {h : PMem} (hd : 1 ≤ d) (hN : h.1 ≤ NC) (c0 : pcat v0 = 1 := by rfl) (c1 : pcat v1 = 1 := by rfl) (hw : ∀ l, wq h.1 (fun t => At l d 200 h.1 (Qn h.1 Qp) t) (CallP (d - 1)) (Qn h.1 Qp) 7 q_200_0 [some v0, some v1, none, none, none, none, none] [] h) : CallP d 200 [v0, v1] h Qp := by
  refine call_of g_200.1 (by rw [g_200.2.2.1]; simp only [pcats, c0, c1, pcatL]; decide) (fun l => ?_)
  have e : ent (mML 200) [v0, v1] = [some v0, some v1, none, none, none, none, none] := by rw [g_200.2.2.1]; simp [ent, pcats, c0, c1, pcatL, List.replicate]
  rw [e]
  exact m_200_0 hd hN (hw l) |> fun k => by rw [g_200.2.2.2]; exact k
def q_201_16 : List Instr := [.bipush (0), .istore 2, .bipush (15), .istore 3, .bipush (0), .istore 4]
theorem q_201_16_ok : okq 201 24 16 q_201_16 = true := by decide +kernel
theorem m_201_16 {l : Launch} {d n0 : Nat} {Qp : PQ} {ls : List (Option PV)} {st : List PV} {h : PMem} (hd : 1 ≤ d) (hN : n0 ≤ NC) (hw : wq n0 (fun t => At l d 201 n0 Qp t) (CallP (d - 1)) Qp 24 q_201_16 ls st h) : At l d 201 n0 Qp 16 ls st h := soundq g_201.2.1 (by rw [g_201.2.2.2]; exact hN) hd q_201_16 16 q_201_16_ok ls st h (by rw [g_201.2.2.2]; exact hw)
def q_202_55 : List Instr := [.bipush (0), .istore 5, .bipush (0), .istore 6]
theorem q_202_55_ok : okq 202 61 55 q_202_55 = true := by decide +kernel
theorem m_202_55 {l : Launch} {d n0 : Nat} {Qp : PQ} {ls : List (Option PV)} {st : List PV} {h : PMem} (hd : 1 ≤ d) (hN : n0 ≤ NC) (hw : wq n0 (fun t => At l d 202 n0 Qp t) (CallP (d - 1)) Qp 61 q_202_55 ls st h) : At l d 202 n0 Qp 55 ls st h := soundq g_202.2.1 (by rw [g_202.2.2.2]; exact hN) hd q_202_55 55 q_202_55_ok ls st h (by rw [g_202.2.2.2]; exact hw)
def q_202_61 : List Instr := [.iload 6, .bipush (1), .aload 0, .getstatic 700, .bipush (0), .iaload, .ishl, .if_icmp .ge (161), .bipush (0), .istore 7, .bipush (0), .istore 8]
theorem q_202_61_ok : okq 202 80 61 q_202_61 = true := by decide +kernel
theorem m_202_61 {l : Launch} {d n0 : Nat} {Qp : PQ} {ls : List (Option PV)} {st : List PV} {h : PMem} (hd : 1 ≤ d) (hN : n0 ≤ NC) (hw : wq n0 (fun t => At l d 202 n0 Qp t) (CallP (d - 1)) Qp 80 q_202_61 ls st h) : At l d 202 n0 Qp 61 ls st h := soundq g_202.2.1 (by rw [g_202.2.2.2]; exact hN) hd q_202_61 61 q_202_61_ok ls st h (by rw [g_202.2.2.2]; exact hw)
def q_203_25 : List Instr := [.iload 2, .i2l, .lstore 3, .bipush (0), .istore 5, .bipush (0), .istore 6, .bipush (0), .istore 7]
theorem q_203_25_ok : okq 203 37 25 q_203_25 = true := by decide +kernel
theorem m_203_25 {l : Launch} {d n0 : Nat} {Qp : PQ} {ls : List (Option PV)} {st : List PV} {h : PMem} (hd : 1 ≤ d) (hN : n0 ≤ NC) (hw : wq n0 (fun t => At l d 203 n0 Qp t) (CallP (d - 1)) Qp 37 q_203_25 ls st h) : At l d 203 n0 Qp 25 ls st h := soundq g_203.2.1 (by rw [g_203.2.2.2]; exact hN) hd q_203_25 25 q_203_25_ok ls st h (by rw [g_203.2.2.2]; exact hw)
def q_203_37 : List Instr := [.iload 7, .iload 1, .if_icmp .ge (169), .bipush (0), .istore 8]
theorem q_203_37_ok : okq 203 46 37 q_203_37 = true := by decide +kernel
theorem m_203_37 {l : Launch} {d n0 : Nat} {Qp : PQ} {ls : List (Option PV)} {st : List PV} {h : PMem} (hd : 1 ≤ d) (hN : n0 ≤ NC) (hw : wq n0 (fun t => At l d 203 n0 Qp t) (CallP (d - 1)) Qp 46 q_203_37 ls st h) : At l d 203 n0 Qp 37 ls st h := soundq g_203.2.1 (by rw [g_203.2.2.2]; exact hN) hd q_203_37 37 q_203_37_ok ls st h (by rw [g_203.2.2.2]; exact hw)
def q_203_135 : List Instr := [.bipush (0), .istore 8]
theorem q_203_135_ok : okq 203 138 135 q_203_135 = true := by decide +kernel
theorem m_203_135 {l : Launch} {d n0 : Nat} {Qp : PQ} {ls : List (Option PV)} {st : List PV} {h : PMem} (hd : 1 ≤ d) (hN : n0 ≤ NC) (hw : wq n0 (fun t => At l d 203 n0 Qp t) (CallP (d - 1)) Qp 138 q_203_135 ls st h) : At l d 203 n0 Qp 135 ls st h := soundq g_203.2.1 (by rw [g_203.2.2.2]; exact hN) hd q_203_135 135 q_203_135_ok ls st h (by rw [g_203.2.2.2]; exact hw)
def q_207_0 : List Instr := [.bipush (0), .istore 1, .bipush (0), .istore 2]
theorem q_207_0_ok : okq 207 4 0 q_207_0 = true := by decide +kernel
theorem m_207_0 {l : Launch} {d n0 : Nat} {Qp : PQ} {ls : List (Option PV)} {st : List PV} {h : PMem} (hd : 1 ≤ d) (hN : n0 ≤ NC) (hw : wq n0 (fun t => At l d 207 n0 Qp t) (CallP (d - 1)) Qp 4 q_207_0 ls st h) : At l d 207 n0 Qp 0 ls st h := soundq g_207.2.1 (by rw [g_207.2.2.2]; exact hN) hd q_207_0 0 q_207_0_ok ls st h (by rw [g_207.2.2.2]; exact hw)
theorem u_207 {d : Nat} {Qp : PQ} {v0 : PV} {h : PMem} (hd : 1 ≤ d) (hN : h.1 ≤ NC) (c0 : pcat v0 = 1 := by rfl) (hw : ∀ l, wq h.1 (fun t => At l d 207 h.1 (Qn h.1 Qp) t) (CallP (d - 1)) (Qn h.1 Qp) 4 q_207_0 [some v0, none, none, none] [] h) : CallP d 207 [v0] h Qp := by
  refine call_of g_207.1 (by rw [g_207.2.2.1]; simp only [pcats, c0, pcatL]; decide) (fun l => ?_)
  have e : ent (mML 207) [v0] = [some v0, none, none, none] := by rw [g_207.2.2.1]; simp [ent, pcats, c0, pcatL, List.replicate]
  rw [e]
  exact m_207_0 hd hN (hw l) |> fun k => by rw [g_207.2.2.2]; exact k
def q_207_4 : List Instr := [.iload 2, .bipush (6), .if_icmp .ge (57), .iload 2, .bipush (1), .iadd, .istore 3]
theorem q_207_4_ok : okq 207 14 4 q_207_4 = true := by decide +kernel
theorem m_207_4 {l : Launch} {d n0 : Nat} {Qp : PQ} {ls : List (Option PV)} {st : List PV} {h : PMem} (hd : 1 ≤ d) (hN : n0 ≤ NC) (hw : wq n0 (fun t => At l d 207 n0 Qp t) (CallP (d - 1)) Qp 14 q_207_4 ls st h) : At l d 207 n0 Qp 4 ls st h := soundq g_207.2.1 (by rw [g_207.2.2.2]; exact hN) hd q_207_4 4 q_207_4_ok ls st h (by rw [g_207.2.2.2]; exact hw)
def q_210_0 : List Instr := [.sipush (911), .lstore 1, .bipush (0), .istore 3]
theorem q_210_0_ok : okq 210 6 0 q_210_0 = true := by decide +kernel
theorem m_210_0 {l : Launch} {d n0 : Nat} {Qp : PQ} {ls : List (Option PV)} {st : List PV} {h : PMem} (hd : 1 ≤ d) (hN : n0 ≤ NC) (hw : wq n0 (fun t => At l d 210 n0 Qp t) (CallP (d - 1)) Qp 6 q_210_0 ls st h) : At l d 210 n0 Qp 0 ls st h := soundq g_210.2.1 (by rw [g_210.2.2.2]; exact hN) hd q_210_0 0 q_210_0_ok ls st h (by rw [g_210.2.2.2]; exact hw)
theorem u_210 {d : Nat} {Qp : PQ} {v0 : PV} {h : PMem} (hd : 1 ≤ d) (hN : h.1 ≤ NC) (c0 : pcat v0 = 1 := by rfl) (hw : ∀ l, wq h.1 (fun t => At l d 210 h.1 (Qn h.1 Qp) t) (CallP (d - 1)) (Qn h.1 Qp) 6 q_210_0 [some v0, none, none, none, none] [] h) : CallP d 210 [v0] h Qp := by
  refine call_of g_210.1 (by rw [g_210.2.2.1]; simp only [pcats, c0, pcatL]; decide) (fun l => ?_)
  have e : ent (mML 210) [v0] = [some v0, none, none, none, none] := by rw [g_210.2.2.1]; simp [ent, pcats, c0, pcatL, List.replicate]
  rw [e]
  exact m_210_0 hd hN (hw l) |> fun k => by rw [g_210.2.2.2]; exact k
def q_210_31 : List Instr := [.bipush (0), .istore 3]
theorem q_210_31_ok : okq 210 33 31 q_210_31 = true := by decide +kernel
theorem m_210_31 {l : Launch} {d n0 : Nat} {Qp : PQ} {ls : List (Option PV)} {st : List PV} {h : PMem} (hd : 1 ≤ d) (hN : n0 ≤ NC) (hw : wq n0 (fun t => At l d 210 n0 Qp t) (CallP (d - 1)) Qp 33 q_210_31 ls st h) : At l d 210 n0 Qp 31 ls st h := soundq g_210.2.1 (by rw [g_210.2.2.2]; exact hN) hd q_210_31 31 q_210_31_ok ls st h (by rw [g_210.2.2.2]; exact hw)
def q_210_67 : List Instr := [.bipush (0), .istore 3]
theorem q_210_67_ok : okq 210 69 67 q_210_67 = true := by decide +kernel
theorem m_210_67 {l : Launch} {d n0 : Nat} {Qp : PQ} {ls : List (Option PV)} {st : List PV} {h : PMem} (hd : 1 ≤ d) (hN : n0 ≤ NC) (hw : wq n0 (fun t => At l d 210 n0 Qp t) (CallP (d - 1)) Qp 69 q_210_67 ls st h) : At l d 210 n0 Qp 67 ls st h := soundq g_210.2.1 (by rw [g_210.2.2.2]; exact hN) hd q_210_67 67 q_210_67_ok ls st h (by rw [g_210.2.2.2]; exact hw)
def q_210_69 : List Instr := [.iload 3, .aload 0, .getstatic 700, .bipush (0), .iaload, .if_icmp .ge (130), .iload 3, .bipush (1), .iadd, .istore 4]
theorem q_210_69_ok : okq 210 84 69 q_210_69 = true := by decide +kernel
theorem m_210_69 {l : Launch} {d n0 : Nat} {Qp : PQ} {ls : List (Option PV)} {st : List PV} {h : PMem} (hd : 1 ≤ d) (hN : n0 ≤ NC) (hw : wq n0 (fun t => At l d 210 n0 Qp t) (CallP (d - 1)) Qp 84 q_210_69 ls st h) : At l d 210 n0 Qp 69 ls st h := soundq g_210.2.1 (by rw [g_210.2.2.2]; exact hN) hd q_210_69 69 q_210_69_ok ls st h (by rw [g_210.2.2.2]; exact hw)
def q_210_130 : List Instr := [.bipush (0), .istore 3]
theorem q_210_130_ok : okq 210 132 130 q_210_130 = true := by decide +kernel
theorem m_210_130 {l : Launch} {d n0 : Nat} {Qp : PQ} {ls : List (Option PV)} {st : List PV} {h : PMem} (hd : 1 ≤ d) (hN : n0 ≤ NC) (hw : wq n0 (fun t => At l d 210 n0 Qp t) (CallP (d - 1)) Qp 132 q_210_130 ls st h) : At l d 210 n0 Qp 130 ls st h := soundq g_210.2.1 (by rw [g_210.2.2.2]; exact hN) hd q_210_130 130 q_210_130_ok ls st h (by rw [g_210.2.2.2]; exact hw)
def q_210_161 : List Instr := [.bipush (0), .istore 3]
theorem q_210_161_ok : okq 210 163 161 q_210_161 = true := by decide +kernel
theorem m_210_161 {l : Launch} {d n0 : Nat} {Qp : PQ} {ls : List (Option PV)} {st : List PV} {h : PMem} (hd : 1 ≤ d) (hN : n0 ≤ NC) (hw : wq n0 (fun t => At l d 210 n0 Qp t) (CallP (d - 1)) Qp 163 q_210_161 ls st h) : At l d 210 n0 Qp 161 ls st h := soundq g_210.2.1 (by rw [g_210.2.2.2]; exact hN) hd q_210_161 161 q_210_161_ok ls st h (by rw [g_210.2.2.2]; exact hw)
