/-! STARTS (s_<method>) AND LABELS (l_<method>_<label>) of the methods, over wp (printed by wip/whole/gen18.py) -/
theorem pcatL {z : Int} : pcat (.inr (.inl z)) = 2 := rfl
theorem f_0 : (((plainName (mY 0).cls && decide (rN (oN 0) = (mY 0).cls)) && decide (mML 0 = 4)) && decide (aC 0 = 0)) = true := by decide +kernel
theorem g_0 : plainName (mY 0).cls = true ∧ rN (oN 0) = (mY 0).cls ∧ mML 0 = 4 ∧ aC 0 = 0 := by
  have h := f_0
  simp only [Bool.and_eq_true, decide_eq_true_eq] at h
  exact ⟨h.1.1.1, h.1.1.2, h.1.2, h.2⟩
theorem s_0 {d : Nat} {Qp : PQ} {v0 : PV} {v1 : PV} {v2 : PV} {v3 : PV} {h : PMem} (hd : 1 ≤ d) (hN : h.1 ≤ NC) (c0 : pcat v0 = 1 := by rfl) (c1 : pcat v1 = 1 := by rfl) (c2 : pcat v2 = 1 := by rfl) (c3 : pcat v3 = 1 := by rfl) (hw : ∀ l, wp h.1 (fun t => At l d 0 h.1 (Qn h.1 Qp) t) (CallP (d - 1)) (Qn h.1 Qp) k_0_0 [some v0, some v1, some v2, some v3] [] h) : CallP d 0 [v0, v1, v2, v3] h Qp := by
  refine call_of g_0.1 (by rw [g_0.2.2.1]; simp only [pcats, c0, c1, c2, c3, pcatL]; decide) (fun l => ?_)
  have e : ent (mML 0) [v0, v1, v2, v3] = [some v0, some v1, some v2, some v3] := by rw [g_0.2.2.1]; simp [ent, pcats, c0, c1, c2, c3, pcatL, List.replicate]
  rw [e]
  refine sound g_0.2.1 (by rw [g_0.2.2.2]; exact hN) hd k_0_0 0 k_0_0_ok _ _ _ ?_
  rw [g_0.2.2.2]
  exact hw l
theorem f_1 : (((plainName (mY 1).cls && decide (rN (oN 1) = (mY 1).cls)) && decide (mML 1 = 3)) && decide (aC 1 = 0)) = true := by decide +kernel
theorem g_1 : plainName (mY 1).cls = true ∧ rN (oN 1) = (mY 1).cls ∧ mML 1 = 3 ∧ aC 1 = 0 := by
  have h := f_1
  simp only [Bool.and_eq_true, decide_eq_true_eq] at h
  exact ⟨h.1.1.1, h.1.1.2, h.1.2, h.2⟩
theorem s_1 {d : Nat} {Qp : PQ} {v0 : PV} {h : PMem} (hd : 1 ≤ d) (hN : h.1 ≤ NC) (c0 : pcat v0 = 1 := by rfl) (hw : ∀ l, wp h.1 (fun t => At l d 1 h.1 (Qn h.1 Qp) t) (CallP (d - 1)) (Qn h.1 Qp) k_1_0 [some v0, none, none] [] h) : CallP d 1 [v0] h Qp := by
  refine call_of g_1.1 (by rw [g_1.2.2.1]; simp only [pcats, c0, pcatL]; decide) (fun l => ?_)
  have e : ent (mML 1) [v0] = [some v0, none, none] := by rw [g_1.2.2.1]; simp [ent, pcats, c0, pcatL, List.replicate]
  rw [e]
  refine sound g_1.2.1 (by rw [g_1.2.2.2]; exact hN) hd k_1_0 0 k_1_0_ok _ _ _ ?_
  rw [g_1.2.2.2]
  exact hw l
theorem l_1_4 {l : Launch} {d n0 : Nat} {Qp : PQ} {ls : List (Option PV)} {st : List PV} {h : PMem} (hd : 1 ≤ d) (hN : n0 ≤ NC) (hw : wp n0 (fun t => At l d 1 n0 Qp t) (CallP (d - 1)) Qp k_1_4 ls st h) : At l d 1 n0 Qp 4 ls st h := sound g_1.2.1 (by rw [g_1.2.2.2]; exact hN) hd k_1_4 4 k_1_4_ok ls st h (by rw [g_1.2.2.2]; exact hw)
theorem l_1_27 {l : Launch} {d n0 : Nat} {Qp : PQ} {ls : List (Option PV)} {st : List PV} {h : PMem} (hd : 1 ≤ d) (hN : n0 ≤ NC) (hw : wp n0 (fun t => At l d 1 n0 Qp t) (CallP (d - 1)) Qp k_1_27 ls st h) : At l d 1 n0 Qp 27 ls st h := sound g_1.2.1 (by rw [g_1.2.2.2]; exact hN) hd k_1_27 27 k_1_27_ok ls st h (by rw [g_1.2.2.2]; exact hw)
theorem f_2 : (((plainName (mY 2).cls && decide (rN (oN 2) = (mY 2).cls)) && decide (mML 2 = 3)) && decide (aC 2 = 0)) = true := by decide +kernel
theorem g_2 : plainName (mY 2).cls = true ∧ rN (oN 2) = (mY 2).cls ∧ mML 2 = 3 ∧ aC 2 = 0 := by
  have h := f_2
  simp only [Bool.and_eq_true, decide_eq_true_eq] at h
  exact ⟨h.1.1.1, h.1.1.2, h.1.2, h.2⟩
theorem s_2 {d : Nat} {Qp : PQ} {v0 : PV} {h : PMem} (hd : 1 ≤ d) (hN : h.1 ≤ NC) (c0 : pcat v0 = 1 := by rfl) (hw : ∀ l, wp h.1 (fun t => At l d 2 h.1 (Qn h.1 Qp) t) (CallP (d - 1)) (Qn h.1 Qp) k_2_0 [some v0, none, none] [] h) : CallP d 2 [v0] h Qp := by
  refine call_of g_2.1 (by rw [g_2.2.2.1]; simp only [pcats, c0, pcatL]; decide) (fun l => ?_)
  have e : ent (mML 2) [v0] = [some v0, none, none] := by rw [g_2.2.2.1]; simp [ent, pcats, c0, pcatL, List.replicate]
  rw [e]
  refine sound g_2.2.1 (by rw [g_2.2.2.2]; exact hN) hd k_2_0 0 k_2_0_ok _ _ _ ?_
  rw [g_2.2.2.2]
  exact hw l
theorem l_2_4 {l : Launch} {d n0 : Nat} {Qp : PQ} {ls : List (Option PV)} {st : List PV} {h : PMem} (hd : 1 ≤ d) (hN : n0 ≤ NC) (hw : wp n0 (fun t => At l d 2 n0 Qp t) (CallP (d - 1)) Qp k_2_4 ls st h) : At l d 2 n0 Qp 4 ls st h := sound g_2.2.1 (by rw [g_2.2.2.2]; exact hN) hd k_2_4 4 k_2_4_ok ls st h (by rw [g_2.2.2.2]; exact hw)
theorem l_2_27 {l : Launch} {d n0 : Nat} {Qp : PQ} {ls : List (Option PV)} {st : List PV} {h : PMem} (hd : 1 ≤ d) (hN : n0 ≤ NC) (hw : wp n0 (fun t => At l d 2 n0 Qp t) (CallP (d - 1)) Qp k_2_27 ls st h) : At l d 2 n0 Qp 27 ls st h := sound g_2.2.1 (by rw [g_2.2.2.2]; exact hN) hd k_2_27 27 k_2_27_ok ls st h (by rw [g_2.2.2.2]; exact hw)
theorem l_2_30 {l : Launch} {d n0 : Nat} {Qp : PQ} {ls : List (Option PV)} {st : List PV} {h : PMem} (hd : 1 ≤ d) (hN : n0 ≤ NC) (hw : wp n0 (fun t => At l d 2 n0 Qp t) (CallP (d - 1)) Qp k_2_30 ls st h) : At l d 2 n0 Qp 30 ls st h := sound g_2.2.1 (by rw [g_2.2.2.2]; exact hN) hd k_2_30 30 k_2_30_ok ls st h (by rw [g_2.2.2.2]; exact hw)
theorem l_2_31 {l : Launch} {d n0 : Nat} {Qp : PQ} {ls : List (Option PV)} {st : List PV} {h : PMem} (hd : 1 ≤ d) (hN : n0 ≤ NC) (hw : wp n0 (fun t => At l d 2 n0 Qp t) (CallP (d - 1)) Qp k_2_31 ls st h) : At l d 2 n0 Qp 31 ls st h := sound g_2.2.1 (by rw [g_2.2.2.2]; exact hN) hd k_2_31 31 k_2_31_ok ls st h (by rw [g_2.2.2.2]; exact hw)
theorem l_2_37 {l : Launch} {d n0 : Nat} {Qp : PQ} {ls : List (Option PV)} {st : List PV} {h : PMem} (hd : 1 ≤ d) (hN : n0 ≤ NC) (hw : wp n0 (fun t => At l d 2 n0 Qp t) (CallP (d - 1)) Qp k_2_37 ls st h) : At l d 2 n0 Qp 37 ls st h := sound g_2.2.1 (by rw [g_2.2.2.2]; exact hN) hd k_2_37 37 k_2_37_ok ls st h (by rw [g_2.2.2.2]; exact hw)
theorem f_3 : (((plainName (mY 3).cls && decide (rN (oN 3) = (mY 3).cls)) && decide (mML 3 = 5)) && decide (aC 3 = 0)) = true := by decide +kernel
theorem g_3 : plainName (mY 3).cls = true ∧ rN (oN 3) = (mY 3).cls ∧ mML 3 = 5 ∧ aC 3 = 0 := by
  have h := f_3
  simp only [Bool.and_eq_true, decide_eq_true_eq] at h
  exact ⟨h.1.1.1, h.1.1.2, h.1.2, h.2⟩
theorem s_3 {d : Nat} {Qp : PQ} {v0 : PV} {v1 : PV} {h : PMem} (hd : 1 ≤ d) (hN : h.1 ≤ NC) (c0 : pcat v0 = 1 := by rfl) (c1 : pcat v1 = 1 := by rfl) (hw : ∀ l, wp h.1 (fun t => At l d 3 h.1 (Qn h.1 Qp) t) (CallP (d - 1)) (Qn h.1 Qp) k_3_0 [some v0, some v1, none, none, none] [] h) : CallP d 3 [v0, v1] h Qp := by
  refine call_of g_3.1 (by rw [g_3.2.2.1]; simp only [pcats, c0, c1, pcatL]; decide) (fun l => ?_)
  have e : ent (mML 3) [v0, v1] = [some v0, some v1, none, none, none] := by rw [g_3.2.2.1]; simp [ent, pcats, c0, c1, pcatL, List.replicate]
  rw [e]
  refine sound g_3.2.1 (by rw [g_3.2.2.2]; exact hN) hd k_3_0 0 k_3_0_ok _ _ _ ?_
  rw [g_3.2.2.2]
  exact hw l
theorem l_3_7 {l : Launch} {d n0 : Nat} {Qp : PQ} {ls : List (Option PV)} {st : List PV} {h : PMem} (hd : 1 ≤ d) (hN : n0 ≤ NC) (hw : wp n0 (fun t => At l d 3 n0 Qp t) (CallP (d - 1)) Qp k_3_7 ls st h) : At l d 3 n0 Qp 7 ls st h := sound g_3.2.1 (by rw [g_3.2.2.2]; exact hN) hd k_3_7 7 k_3_7_ok ls st h (by rw [g_3.2.2.2]; exact hw)
theorem l_3_52 {l : Launch} {d n0 : Nat} {Qp : PQ} {ls : List (Option PV)} {st : List PV} {h : PMem} (hd : 1 ≤ d) (hN : n0 ≤ NC) (hw : wp n0 (fun t => At l d 3 n0 Qp t) (CallP (d - 1)) Qp k_3_52 ls st h) : At l d 3 n0 Qp 52 ls st h := sound g_3.2.1 (by rw [g_3.2.2.2]; exact hN) hd k_3_52 52 k_3_52_ok ls st h (by rw [g_3.2.2.2]; exact hw)
theorem l_3_64 {l : Launch} {d n0 : Nat} {Qp : PQ} {ls : List (Option PV)} {st : List PV} {h : PMem} (hd : 1 ≤ d) (hN : n0 ≤ NC) (hw : wp n0 (fun t => At l d 3 n0 Qp t) (CallP (d - 1)) Qp k_3_64 ls st h) : At l d 3 n0 Qp 64 ls st h := sound g_3.2.1 (by rw [g_3.2.2.2]; exact hN) hd k_3_64 64 k_3_64_ok ls st h (by rw [g_3.2.2.2]; exact hw)
theorem l_3_70 {l : Launch} {d n0 : Nat} {Qp : PQ} {ls : List (Option PV)} {st : List PV} {h : PMem} (hd : 1 ≤ d) (hN : n0 ≤ NC) (hw : wp n0 (fun t => At l d 3 n0 Qp t) (CallP (d - 1)) Qp k_3_70 ls st h) : At l d 3 n0 Qp 70 ls st h := sound g_3.2.1 (by rw [g_3.2.2.2]; exact hN) hd k_3_70 70 k_3_70_ok ls st h (by rw [g_3.2.2.2]; exact hw)
theorem l_3_80 {l : Launch} {d n0 : Nat} {Qp : PQ} {ls : List (Option PV)} {st : List PV} {h : PMem} (hd : 1 ≤ d) (hN : n0 ≤ NC) (hw : wp n0 (fun t => At l d 3 n0 Qp t) (CallP (d - 1)) Qp k_3_80 ls st h) : At l d 3 n0 Qp 80 ls st h := sound g_3.2.1 (by rw [g_3.2.2.2]; exact hN) hd k_3_80 80 k_3_80_ok ls st h (by rw [g_3.2.2.2]; exact hw)
theorem l_3_81 {l : Launch} {d n0 : Nat} {Qp : PQ} {ls : List (Option PV)} {st : List PV} {h : PMem} (hd : 1 ≤ d) (hN : n0 ≤ NC) (hw : wp n0 (fun t => At l d 3 n0 Qp t) (CallP (d - 1)) Qp k_3_81 ls st h) : At l d 3 n0 Qp 81 ls st h := sound g_3.2.1 (by rw [g_3.2.2.2]; exact hN) hd k_3_81 81 k_3_81_ok ls st h (by rw [g_3.2.2.2]; exact hw)
theorem f_4 : (((plainName (mY 4).cls && decide (rN (oN 4) = (mY 4).cls)) && decide (mML 4 = 2)) && decide (aC 4 = 0)) = true := by decide +kernel
theorem g_4 : plainName (mY 4).cls = true ∧ rN (oN 4) = (mY 4).cls ∧ mML 4 = 2 ∧ aC 4 = 0 := by
  have h := f_4
  simp only [Bool.and_eq_true, decide_eq_true_eq] at h
  exact ⟨h.1.1.1, h.1.1.2, h.1.2, h.2⟩
theorem s_4 {d : Nat} {Qp : PQ} {v0 : PV} {v1 : PV} {h : PMem} (hd : 1 ≤ d) (hN : h.1 ≤ NC) (c0 : pcat v0 = 1 := by rfl) (c1 : pcat v1 = 1 := by rfl) (hw : ∀ l, wp h.1 (fun t => At l d 4 h.1 (Qn h.1 Qp) t) (CallP (d - 1)) (Qn h.1 Qp) k_4_0 [some v0, some v1] [] h) : CallP d 4 [v0, v1] h Qp := by
  refine call_of g_4.1 (by rw [g_4.2.2.1]; simp only [pcats, c0, c1, pcatL]; decide) (fun l => ?_)
  have e : ent (mML 4) [v0, v1] = [some v0, some v1] := by rw [g_4.2.2.1]; simp [ent, pcats, c0, c1, pcatL, List.replicate]
  rw [e]
  refine sound g_4.2.1 (by rw [g_4.2.2.2]; exact hN) hd k_4_0 0 k_4_0_ok _ _ _ ?_
  rw [g_4.2.2.2]
  exact hw l
theorem f_5 : (((plainName (mY 5).cls && decide (rN (oN 5) = (mY 5).cls)) && decide (mML 5 = 2)) && decide (aC 5 = 0)) = true := by decide +kernel
theorem g_5 : plainName (mY 5).cls = true ∧ rN (oN 5) = (mY 5).cls ∧ mML 5 = 2 ∧ aC 5 = 0 := by
  have h := f_5
  simp only [Bool.and_eq_true, decide_eq_true_eq] at h
  exact ⟨h.1.1.1, h.1.1.2, h.1.2, h.2⟩
theorem s_5 {d : Nat} {Qp : PQ} {v0 : PV} {h : PMem} (hd : 1 ≤ d) (hN : h.1 ≤ NC) (c0 : pcat v0 = 1 := by rfl) (hw : ∀ l, wp h.1 (fun t => At l d 5 h.1 (Qn h.1 Qp) t) (CallP (d - 1)) (Qn h.1 Qp) k_5_0 [some v0, none] [] h) : CallP d 5 [v0] h Qp := by
  refine call_of g_5.1 (by rw [g_5.2.2.1]; simp only [pcats, c0, pcatL]; decide) (fun l => ?_)
  have e : ent (mML 5) [v0] = [some v0, none] := by rw [g_5.2.2.1]; simp [ent, pcats, c0, pcatL, List.replicate]
  rw [e]
  refine sound g_5.2.1 (by rw [g_5.2.2.2]; exact hN) hd k_5_0 0 k_5_0_ok _ _ _ ?_
  rw [g_5.2.2.2]
  exact hw l
theorem l_5_7 {l : Launch} {d n0 : Nat} {Qp : PQ} {ls : List (Option PV)} {st : List PV} {h : PMem} (hd : 1 ≤ d) (hN : n0 ≤ NC) (hw : wp n0 (fun t => At l d 5 n0 Qp t) (CallP (d - 1)) Qp k_5_7 ls st h) : At l d 5 n0 Qp 7 ls st h := sound g_5.2.1 (by rw [g_5.2.2.2]; exact hN) hd k_5_7 7 k_5_7_ok ls st h (by rw [g_5.2.2.2]; exact hw)
theorem l_5_27 {l : Launch} {d n0 : Nat} {Qp : PQ} {ls : List (Option PV)} {st : List PV} {h : PMem} (hd : 1 ≤ d) (hN : n0 ≤ NC) (hw : wp n0 (fun t => At l d 5 n0 Qp t) (CallP (d - 1)) Qp k_5_27 ls st h) : At l d 5 n0 Qp 27 ls st h := sound g_5.2.1 (by rw [g_5.2.2.2]; exact hN) hd k_5_27 27 k_5_27_ok ls st h (by rw [g_5.2.2.2]; exact hw)
theorem f_6 : (((plainName (mY 6).cls && decide (rN (oN 6) = (mY 6).cls)) && decide (mML 6 = 5)) && decide (aC 6 = 0)) = true := by decide +kernel
theorem g_6 : plainName (mY 6).cls = true ∧ rN (oN 6) = (mY 6).cls ∧ mML 6 = 5 ∧ aC 6 = 0 := by
  have h := f_6
  simp only [Bool.and_eq_true, decide_eq_true_eq] at h
  exact ⟨h.1.1.1, h.1.1.2, h.1.2, h.2⟩
theorem s_6 {d : Nat} {Qp : PQ} {v0 : PV} {v1 : PV} {v2 : PV} {v3 : PV} {v4 : PV} {h : PMem} (hd : 1 ≤ d) (hN : h.1 ≤ NC) (c0 : pcat v0 = 1 := by rfl) (c1 : pcat v1 = 1 := by rfl) (c2 : pcat v2 = 1 := by rfl) (c3 : pcat v3 = 1 := by rfl) (c4 : pcat v4 = 1 := by rfl) (hw : ∀ l, wp h.1 (fun t => At l d 6 h.1 (Qn h.1 Qp) t) (CallP (d - 1)) (Qn h.1 Qp) k_6_0 [some v0, some v1, some v2, some v3, some v4] [] h) : CallP d 6 [v0, v1, v2, v3, v4] h Qp := by
  refine call_of g_6.1 (by rw [g_6.2.2.1]; simp only [pcats, c0, c1, c2, c3, c4, pcatL]; decide) (fun l => ?_)
  have e : ent (mML 6) [v0, v1, v2, v3, v4] = [some v0, some v1, some v2, some v3, some v4] := by rw [g_6.2.2.1]; simp [ent, pcats, c0, c1, c2, c3, c4, pcatL, List.replicate]
  rw [e]
  refine sound g_6.2.1 (by rw [g_6.2.2.2]; exact hN) hd k_6_0 0 k_6_0_ok _ _ _ ?_
  rw [g_6.2.2.2]
  exact hw l
theorem f_7 : (((plainName (mY 7).cls && decide (rN (oN 7) = (mY 7).cls)) && decide (mML 7 = 2)) && decide (aC 7 = 0)) = true := by decide +kernel
theorem g_7 : plainName (mY 7).cls = true ∧ rN (oN 7) = (mY 7).cls ∧ mML 7 = 2 ∧ aC 7 = 0 := by
  have h := f_7
  simp only [Bool.and_eq_true, decide_eq_true_eq] at h
  exact ⟨h.1.1.1, h.1.1.2, h.1.2, h.2⟩
theorem s_7 {d : Nat} {Qp : PQ} {v0 : PV} {h : PMem} (hd : 1 ≤ d) (hN : h.1 ≤ NC) (c0 : pcat v0 = 1 := by rfl) (hw : ∀ l, wp h.1 (fun t => At l d 7 h.1 (Qn h.1 Qp) t) (CallP (d - 1)) (Qn h.1 Qp) k_7_0 [some v0, none] [] h) : CallP d 7 [v0] h Qp := by
  refine call_of g_7.1 (by rw [g_7.2.2.1]; simp only [pcats, c0, pcatL]; decide) (fun l => ?_)
  have e : ent (mML 7) [v0] = [some v0, none] := by rw [g_7.2.2.1]; simp [ent, pcats, c0, pcatL, List.replicate]
  rw [e]
  refine sound g_7.2.1 (by rw [g_7.2.2.2]; exact hN) hd k_7_0 0 k_7_0_ok _ _ _ ?_
  rw [g_7.2.2.2]
  exact hw l
theorem l_7_2 {l : Launch} {d n0 : Nat} {Qp : PQ} {ls : List (Option PV)} {st : List PV} {h : PMem} (hd : 1 ≤ d) (hN : n0 ≤ NC) (hw : wp n0 (fun t => At l d 7 n0 Qp t) (CallP (d - 1)) Qp k_7_2 ls st h) : At l d 7 n0 Qp 2 ls st h := sound g_7.2.1 (by rw [g_7.2.2.2]; exact hN) hd k_7_2 2 k_7_2_ok ls st h (by rw [g_7.2.2.2]; exact hw)
theorem l_7_21 {l : Launch} {d n0 : Nat} {Qp : PQ} {ls : List (Option PV)} {st : List PV} {h : PMem} (hd : 1 ≤ d) (hN : n0 ≤ NC) (hw : wp n0 (fun t => At l d 7 n0 Qp t) (CallP (d - 1)) Qp k_7_21 ls st h) : At l d 7 n0 Qp 21 ls st h := sound g_7.2.1 (by rw [g_7.2.2.2]; exact hN) hd k_7_21 21 k_7_21_ok ls st h (by rw [g_7.2.2.2]; exact hw)
theorem f_8 : (((plainName (mY 8).cls && decide (rN (oN 8) = (mY 8).cls)) && decide (mML 8 = 2)) && decide (aC 8 = 0)) = true := by decide +kernel
theorem g_8 : plainName (mY 8).cls = true ∧ rN (oN 8) = (mY 8).cls ∧ mML 8 = 2 ∧ aC 8 = 0 := by
  have h := f_8
  simp only [Bool.and_eq_true, decide_eq_true_eq] at h
  exact ⟨h.1.1.1, h.1.1.2, h.1.2, h.2⟩
theorem s_8 {d : Nat} {Qp : PQ} {v0 : PV} {v1 : PV} {h : PMem} (hd : 1 ≤ d) (hN : h.1 ≤ NC) (c0 : pcat v0 = 1 := by rfl) (c1 : pcat v1 = 1 := by rfl) (hw : ∀ l, wp h.1 (fun t => At l d 8 h.1 (Qn h.1 Qp) t) (CallP (d - 1)) (Qn h.1 Qp) k_8_0 [some v0, some v1] [] h) : CallP d 8 [v0, v1] h Qp := by
  refine call_of g_8.1 (by rw [g_8.2.2.1]; simp only [pcats, c0, c1, pcatL]; decide) (fun l => ?_)
  have e : ent (mML 8) [v0, v1] = [some v0, some v1] := by rw [g_8.2.2.1]; simp [ent, pcats, c0, c1, pcatL, List.replicate]
  rw [e]
  refine sound g_8.2.1 (by rw [g_8.2.2.2]; exact hN) hd k_8_0 0 k_8_0_ok _ _ _ ?_
  rw [g_8.2.2.2]
  exact hw l
theorem f_9 : (((plainName (mY 9).cls && decide (rN (oN 9) = (mY 9).cls)) && decide (mML 9 = 5)) && decide (aC 9 = 0)) = true := by decide +kernel
theorem g_9 : plainName (mY 9).cls = true ∧ rN (oN 9) = (mY 9).cls ∧ mML 9 = 5 ∧ aC 9 = 0 := by
  have h := f_9
  simp only [Bool.and_eq_true, decide_eq_true_eq] at h
  exact ⟨h.1.1.1, h.1.1.2, h.1.2, h.2⟩
theorem s_9 {d : Nat} {Qp : PQ} {v0 : PV} {v1 : PV} {v2 : PV} {h : PMem} (hd : 1 ≤ d) (hN : h.1 ≤ NC) (c0 : pcat v0 = 1 := by rfl) (c1 : pcat v1 = 1 := by rfl) (c2 : pcat v2 = 1 := by rfl) (hw : ∀ l, wp h.1 (fun t => At l d 9 h.1 (Qn h.1 Qp) t) (CallP (d - 1)) (Qn h.1 Qp) k_9_0 [some v0, some v1, some v2, none, none] [] h) : CallP d 9 [v0, v1, v2] h Qp := by
  refine call_of g_9.1 (by rw [g_9.2.2.1]; simp only [pcats, c0, c1, c2, pcatL]; decide) (fun l => ?_)
  have e : ent (mML 9) [v0, v1, v2] = [some v0, some v1, some v2, none, none] := by rw [g_9.2.2.1]; simp [ent, pcats, c0, c1, c2, pcatL, List.replicate]
  rw [e]
  refine sound g_9.2.1 (by rw [g_9.2.2.2]; exact hN) hd k_9_0 0 k_9_0_ok _ _ _ ?_
  rw [g_9.2.2.2]
  exact hw l
theorem l_9_8 {l : Launch} {d n0 : Nat} {Qp : PQ} {ls : List (Option PV)} {st : List PV} {h : PMem} (hd : 1 ≤ d) (hN : n0 ≤ NC) (hw : wp n0 (fun t => At l d 9 n0 Qp t) (CallP (d - 1)) Qp k_9_8 ls st h) : At l d 9 n0 Qp 8 ls st h := sound g_9.2.1 (by rw [g_9.2.2.2]; exact hN) hd k_9_8 8 k_9_8_ok ls st h (by rw [g_9.2.2.2]; exact hw)
theorem l_9_16 {l : Launch} {d n0 : Nat} {Qp : PQ} {ls : List (Option PV)} {st : List PV} {h : PMem} (hd : 1 ≤ d) (hN : n0 ≤ NC) (hw : wp n0 (fun t => At l d 9 n0 Qp t) (CallP (d - 1)) Qp k_9_16 ls st h) : At l d 9 n0 Qp 16 ls st h := sound g_9.2.1 (by rw [g_9.2.2.2]; exact hN) hd k_9_16 16 k_9_16_ok ls st h (by rw [g_9.2.2.2]; exact hw)
theorem l_9_55 {l : Launch} {d n0 : Nat} {Qp : PQ} {ls : List (Option PV)} {st : List PV} {h : PMem} (hd : 1 ≤ d) (hN : n0 ≤ NC) (hw : wp n0 (fun t => At l d 9 n0 Qp t) (CallP (d - 1)) Qp k_9_55 ls st h) : At l d 9 n0 Qp 55 ls st h := sound g_9.2.1 (by rw [g_9.2.2.2]; exact hN) hd k_9_55 55 k_9_55_ok ls st h (by rw [g_9.2.2.2]; exact hw)
theorem l_9_61 {l : Launch} {d n0 : Nat} {Qp : PQ} {ls : List (Option PV)} {st : List PV} {h : PMem} (hd : 1 ≤ d) (hN : n0 ≤ NC) (hw : wp n0 (fun t => At l d 9 n0 Qp t) (CallP (d - 1)) Qp k_9_61 ls st h) : At l d 9 n0 Qp 61 ls st h := sound g_9.2.1 (by rw [g_9.2.2.2]; exact hN) hd k_9_61 61 k_9_61_ok ls st h (by rw [g_9.2.2.2]; exact hw)
theorem l_9_67 {l : Launch} {d n0 : Nat} {Qp : PQ} {ls : List (Option PV)} {st : List PV} {h : PMem} (hd : 1 ≤ d) (hN : n0 ≤ NC) (hw : wp n0 (fun t => At l d 9 n0 Qp t) (CallP (d - 1)) Qp k_9_67 ls st h) : At l d 9 n0 Qp 67 ls st h := sound g_9.2.1 (by rw [g_9.2.2.2]; exact hN) hd k_9_67 67 k_9_67_ok ls st h (by rw [g_9.2.2.2]; exact hw)
theorem f_10 : (((plainName (mY 10).cls && decide (rN (oN 10) = (mY 10).cls)) && decide (mML 10 = 4)) && decide (aC 10 = 0)) = true := by decide +kernel
theorem g_10 : plainName (mY 10).cls = true ∧ rN (oN 10) = (mY 10).cls ∧ mML 10 = 4 ∧ aC 10 = 0 := by
  have h := f_10
  simp only [Bool.and_eq_true, decide_eq_true_eq] at h
  exact ⟨h.1.1.1, h.1.1.2, h.1.2, h.2⟩
theorem s_10 {d : Nat} {Qp : PQ} {v0 : PV} {v1 : PV} {h : PMem} (hd : 1 ≤ d) (hN : h.1 ≤ NC) (c0 : pcat v0 = 1 := by rfl) (c1 : pcat v1 = 1 := by rfl) (hw : ∀ l, wp h.1 (fun t => At l d 10 h.1 (Qn h.1 Qp) t) (CallP (d - 1)) (Qn h.1 Qp) k_10_0 [some v0, some v1, none, none] [] h) : CallP d 10 [v0, v1] h Qp := by
  refine call_of g_10.1 (by rw [g_10.2.2.1]; simp only [pcats, c0, c1, pcatL]; decide) (fun l => ?_)
  have e : ent (mML 10) [v0, v1] = [some v0, some v1, none, none] := by rw [g_10.2.2.1]; simp [ent, pcats, c0, c1, pcatL, List.replicate]
  rw [e]
  refine sound g_10.2.1 (by rw [g_10.2.2.2]; exact hN) hd k_10_0 0 k_10_0_ok _ _ _ ?_
  rw [g_10.2.2.2]
  exact hw l
theorem l_10_44 {l : Launch} {d n0 : Nat} {Qp : PQ} {ls : List (Option PV)} {st : List PV} {h : PMem} (hd : 1 ≤ d) (hN : n0 ≤ NC) (hw : wp n0 (fun t => At l d 10 n0 Qp t) (CallP (d - 1)) Qp k_10_44 ls st h) : At l d 10 n0 Qp 44 ls st h := sound g_10.2.1 (by rw [g_10.2.2.2]; exact hN) hd k_10_44 44 k_10_44_ok ls st h (by rw [g_10.2.2.2]; exact hw)
theorem l_10_45 {l : Launch} {d n0 : Nat} {Qp : PQ} {ls : List (Option PV)} {st : List PV} {h : PMem} (hd : 1 ≤ d) (hN : n0 ≤ NC) (hw : wp n0 (fun t => At l d 10 n0 Qp t) (CallP (d - 1)) Qp k_10_45 ls st h) : At l d 10 n0 Qp 45 ls st h := sound g_10.2.1 (by rw [g_10.2.2.2]; exact hN) hd k_10_45 45 k_10_45_ok ls st h (by rw [g_10.2.2.2]; exact hw)
theorem f_11 : (((plainName (mY 11).cls && decide (rN (oN 11) = (mY 11).cls)) && decide (mML 11 = 5)) && decide (aC 11 = 0)) = true := by decide +kernel
theorem g_11 : plainName (mY 11).cls = true ∧ rN (oN 11) = (mY 11).cls ∧ mML 11 = 5 ∧ aC 11 = 0 := by
  have h := f_11
  simp only [Bool.and_eq_true, decide_eq_true_eq] at h
  exact ⟨h.1.1.1, h.1.1.2, h.1.2, h.2⟩
theorem s_11 {d : Nat} {Qp : PQ} {v0 : PV} {v1 : PV} {h : PMem} (hd : 1 ≤ d) (hN : h.1 ≤ NC) (c0 : pcat v0 = 1 := by rfl) (c1 : pcat v1 = 1 := by rfl) (hw : ∀ l, wp h.1 (fun t => At l d 11 h.1 (Qn h.1 Qp) t) (CallP (d - 1)) (Qn h.1 Qp) k_11_0 [some v0, some v1, none, none, none] [] h) : CallP d 11 [v0, v1] h Qp := by
  refine call_of g_11.1 (by rw [g_11.2.2.1]; simp only [pcats, c0, c1, pcatL]; decide) (fun l => ?_)
  have e : ent (mML 11) [v0, v1] = [some v0, some v1, none, none, none] := by rw [g_11.2.2.1]; simp [ent, pcats, c0, c1, pcatL, List.replicate]
  rw [e]
  refine sound g_11.2.1 (by rw [g_11.2.2.2]; exact hN) hd k_11_0 0 k_11_0_ok _ _ _ ?_
  rw [g_11.2.2.2]
  exact hw l
theorem l_11_4 {l : Launch} {d n0 : Nat} {Qp : PQ} {ls : List (Option PV)} {st : List PV} {h : PMem} (hd : 1 ≤ d) (hN : n0 ≤ NC) (hw : wp n0 (fun t => At l d 11 n0 Qp t) (CallP (d - 1)) Qp k_11_4 ls st h) : At l d 11 n0 Qp 4 ls st h := sound g_11.2.1 (by rw [g_11.2.2.2]; exact hN) hd k_11_4 4 k_11_4_ok ls st h (by rw [g_11.2.2.2]; exact hw)
theorem l_11_13 {l : Launch} {d n0 : Nat} {Qp : PQ} {ls : List (Option PV)} {st : List PV} {h : PMem} (hd : 1 ≤ d) (hN : n0 ≤ NC) (hw : wp n0 (fun t => At l d 11 n0 Qp t) (CallP (d - 1)) Qp k_11_13 ls st h) : At l d 11 n0 Qp 13 ls st h := sound g_11.2.1 (by rw [g_11.2.2.2]; exact hN) hd k_11_13 13 k_11_13_ok ls st h (by rw [g_11.2.2.2]; exact hw)
theorem l_11_61 {l : Launch} {d n0 : Nat} {Qp : PQ} {ls : List (Option PV)} {st : List PV} {h : PMem} (hd : 1 ≤ d) (hN : n0 ≤ NC) (hw : wp n0 (fun t => At l d 11 n0 Qp t) (CallP (d - 1)) Qp k_11_61 ls st h) : At l d 11 n0 Qp 61 ls st h := sound g_11.2.1 (by rw [g_11.2.2.2]; exact hN) hd k_11_61 61 k_11_61_ok ls st h (by rw [g_11.2.2.2]; exact hw)
theorem l_11_67 {l : Launch} {d n0 : Nat} {Qp : PQ} {ls : List (Option PV)} {st : List PV} {h : PMem} (hd : 1 ≤ d) (hN : n0 ≤ NC) (hw : wp n0 (fun t => At l d 11 n0 Qp t) (CallP (d - 1)) Qp k_11_67 ls st h) : At l d 11 n0 Qp 67 ls st h := sound g_11.2.1 (by rw [g_11.2.2.2]; exact hN) hd k_11_67 67 k_11_67_ok ls st h (by rw [g_11.2.2.2]; exact hw)
theorem l_11_73 {l : Launch} {d n0 : Nat} {Qp : PQ} {ls : List (Option PV)} {st : List PV} {h : PMem} (hd : 1 ≤ d) (hN : n0 ≤ NC) (hw : wp n0 (fun t => At l d 11 n0 Qp t) (CallP (d - 1)) Qp k_11_73 ls st h) : At l d 11 n0 Qp 73 ls st h := sound g_11.2.1 (by rw [g_11.2.2.2]; exact hN) hd k_11_73 73 k_11_73_ok ls st h (by rw [g_11.2.2.2]; exact hw)
theorem f_12 : (((plainName (mY 12).cls && decide (rN (oN 12) = (mY 12).cls)) && decide (mML 12 = 5)) && decide (aC 12 = 0)) = true := by decide +kernel
theorem g_12 : plainName (mY 12).cls = true ∧ rN (oN 12) = (mY 12).cls ∧ mML 12 = 5 ∧ aC 12 = 0 := by
  have h := f_12
  simp only [Bool.and_eq_true, decide_eq_true_eq] at h
  exact ⟨h.1.1.1, h.1.1.2, h.1.2, h.2⟩
theorem s_12 {d : Nat} {Qp : PQ} {v0 : PV} {v1 : PV} {v2 : PV} {h : PMem} (hd : 1 ≤ d) (hN : h.1 ≤ NC) (c0 : pcat v0 = 1 := by rfl) (c1 : pcat v1 = 1 := by rfl) (c2 : pcat v2 = 1 := by rfl) (hw : ∀ l, wp h.1 (fun t => At l d 12 h.1 (Qn h.1 Qp) t) (CallP (d - 1)) (Qn h.1 Qp) k_12_0 [some v0, some v1, some v2, none, none] [] h) : CallP d 12 [v0, v1, v2] h Qp := by
  refine call_of g_12.1 (by rw [g_12.2.2.1]; simp only [pcats, c0, c1, c2, pcatL]; decide) (fun l => ?_)
  have e : ent (mML 12) [v0, v1, v2] = [some v0, some v1, some v2, none, none] := by rw [g_12.2.2.1]; simp [ent, pcats, c0, c1, c2, pcatL, List.replicate]
  rw [e]
  refine sound g_12.2.1 (by rw [g_12.2.2.2]; exact hN) hd k_12_0 0 k_12_0_ok _ _ _ ?_
  rw [g_12.2.2.2]
  exact hw l
theorem l_12_5 {l : Launch} {d n0 : Nat} {Qp : PQ} {ls : List (Option PV)} {st : List PV} {h : PMem} (hd : 1 ≤ d) (hN : n0 ≤ NC) (hw : wp n0 (fun t => At l d 12 n0 Qp t) (CallP (d - 1)) Qp k_12_5 ls st h) : At l d 12 n0 Qp 5 ls st h := sound g_12.2.1 (by rw [g_12.2.2.2]; exact hN) hd k_12_5 5 k_12_5_ok ls st h (by rw [g_12.2.2.2]; exact hw)
theorem l_12_58 {l : Launch} {d n0 : Nat} {Qp : PQ} {ls : List (Option PV)} {st : List PV} {h : PMem} (hd : 1 ≤ d) (hN : n0 ≤ NC) (hw : wp n0 (fun t => At l d 12 n0 Qp t) (CallP (d - 1)) Qp k_12_58 ls st h) : At l d 12 n0 Qp 58 ls st h := sound g_12.2.1 (by rw [g_12.2.2.2]; exact hN) hd k_12_58 58 k_12_58_ok ls st h (by rw [g_12.2.2.2]; exact hw)
theorem l_12_64 {l : Launch} {d n0 : Nat} {Qp : PQ} {ls : List (Option PV)} {st : List PV} {h : PMem} (hd : 1 ≤ d) (hN : n0 ≤ NC) (hw : wp n0 (fun t => At l d 12 n0 Qp t) (CallP (d - 1)) Qp k_12_64 ls st h) : At l d 12 n0 Qp 64 ls st h := sound g_12.2.1 (by rw [g_12.2.2.2]; exact hN) hd k_12_64 64 k_12_64_ok ls st h (by rw [g_12.2.2.2]; exact hw)
theorem f_13 : (((plainName (mY 13).cls && decide (rN (oN 13) = (mY 13).cls)) && decide (mML 13 = 4)) && decide (aC 13 = 0)) = true := by decide +kernel
theorem g_13 : plainName (mY 13).cls = true ∧ rN (oN 13) = (mY 13).cls ∧ mML 13 = 4 ∧ aC 13 = 0 := by
  have h := f_13
  simp only [Bool.and_eq_true, decide_eq_true_eq] at h
  exact ⟨h.1.1.1, h.1.1.2, h.1.2, h.2⟩
theorem s_13 {d : Nat} {Qp : PQ} {v0 : PV} {v1 : PV} {v2 : PV} {h : PMem} (hd : 1 ≤ d) (hN : h.1 ≤ NC) (c0 : pcat v0 = 1 := by rfl) (c1 : pcat v1 = 1 := by rfl) (c2 : pcat v2 = 1 := by rfl) (hw : ∀ l, wp h.1 (fun t => At l d 13 h.1 (Qn h.1 Qp) t) (CallP (d - 1)) (Qn h.1 Qp) k_13_0 [some v0, some v1, some v2, none] [] h) : CallP d 13 [v0, v1, v2] h Qp := by
  refine call_of g_13.1 (by rw [g_13.2.2.1]; simp only [pcats, c0, c1, c2, pcatL]; decide) (fun l => ?_)
  have e : ent (mML 13) [v0, v1, v2] = [some v0, some v1, some v2, none] := by rw [g_13.2.2.1]; simp [ent, pcats, c0, c1, c2, pcatL, List.replicate]
  rw [e]
  refine sound g_13.2.1 (by rw [g_13.2.2.2]; exact hN) hd k_13_0 0 k_13_0_ok _ _ _ ?_
  rw [g_13.2.2.2]
  exact hw l
theorem l_13_2 {l : Launch} {d n0 : Nat} {Qp : PQ} {ls : List (Option PV)} {st : List PV} {h : PMem} (hd : 1 ≤ d) (hN : n0 ≤ NC) (hw : wp n0 (fun t => At l d 13 n0 Qp t) (CallP (d - 1)) Qp k_13_2 ls st h) : At l d 13 n0 Qp 2 ls st h := sound g_13.2.1 (by rw [g_13.2.2.2]; exact hN) hd k_13_2 2 k_13_2_ok ls st h (by rw [g_13.2.2.2]; exact hw)
theorem l_13_30 {l : Launch} {d n0 : Nat} {Qp : PQ} {ls : List (Option PV)} {st : List PV} {h : PMem} (hd : 1 ≤ d) (hN : n0 ≤ NC) (hw : wp n0 (fun t => At l d 13 n0 Qp t) (CallP (d - 1)) Qp k_13_30 ls st h) : At l d 13 n0 Qp 30 ls st h := sound g_13.2.1 (by rw [g_13.2.2.2]; exact hN) hd k_13_30 30 k_13_30_ok ls st h (by rw [g_13.2.2.2]; exact hw)
theorem f_14 : (((plainName (mY 14).cls && decide (rN (oN 14) = (mY 14).cls)) && decide (mML 14 = 6)) && decide (aC 14 = 0)) = true := by decide +kernel
theorem g_14 : plainName (mY 14).cls = true ∧ rN (oN 14) = (mY 14).cls ∧ mML 14 = 6 ∧ aC 14 = 0 := by
  have h := f_14
  simp only [Bool.and_eq_true, decide_eq_true_eq] at h
  exact ⟨h.1.1.1, h.1.1.2, h.1.2, h.2⟩
theorem s_14 {d : Nat} {Qp : PQ} {v0 : PV} {h : PMem} (hd : 1 ≤ d) (hN : h.1 ≤ NC) (c0 : pcat v0 = 1 := by rfl) (hw : ∀ l, wp h.1 (fun t => At l d 14 h.1 (Qn h.1 Qp) t) (CallP (d - 1)) (Qn h.1 Qp) k_14_0 [some v0, none, none, none, none, none] [] h) : CallP d 14 [v0] h Qp := by
  refine call_of g_14.1 (by rw [g_14.2.2.1]; simp only [pcats, c0, pcatL]; decide) (fun l => ?_)
  have e : ent (mML 14) [v0] = [some v0, none, none, none, none, none] := by rw [g_14.2.2.1]; simp [ent, pcats, c0, pcatL, List.replicate]
  rw [e]
  refine sound g_14.2.1 (by rw [g_14.2.2.2]; exact hN) hd k_14_0 0 k_14_0_ok _ _ _ ?_
  rw [g_14.2.2.2]
  exact hw l
theorem l_14_6 {l : Launch} {d n0 : Nat} {Qp : PQ} {ls : List (Option PV)} {st : List PV} {h : PMem} (hd : 1 ≤ d) (hN : n0 ≤ NC) (hw : wp n0 (fun t => At l d 14 n0 Qp t) (CallP (d - 1)) Qp k_14_6 ls st h) : At l d 14 n0 Qp 6 ls st h := sound g_14.2.1 (by rw [g_14.2.2.2]; exact hN) hd k_14_6 6 k_14_6_ok ls st h (by rw [g_14.2.2.2]; exact hw)
theorem l_14_15 {l : Launch} {d n0 : Nat} {Qp : PQ} {ls : List (Option PV)} {st : List PV} {h : PMem} (hd : 1 ≤ d) (hN : n0 ≤ NC) (hw : wp n0 (fun t => At l d 14 n0 Qp t) (CallP (d - 1)) Qp k_14_15 ls st h) : At l d 14 n0 Qp 15 ls st h := sound g_14.2.1 (by rw [g_14.2.2.2]; exact hN) hd k_14_15 15 k_14_15_ok ls st h (by rw [g_14.2.2.2]; exact hw)
theorem l_14_63 {l : Launch} {d n0 : Nat} {Qp : PQ} {ls : List (Option PV)} {st : List PV} {h : PMem} (hd : 1 ≤ d) (hN : n0 ≤ NC) (hw : wp n0 (fun t => At l d 14 n0 Qp t) (CallP (d - 1)) Qp k_14_63 ls st h) : At l d 14 n0 Qp 63 ls st h := sound g_14.2.1 (by rw [g_14.2.2.2]; exact hN) hd k_14_63 63 k_14_63_ok ls st h (by rw [g_14.2.2.2]; exact hw)
theorem l_14_74 {l : Launch} {d n0 : Nat} {Qp : PQ} {ls : List (Option PV)} {st : List PV} {h : PMem} (hd : 1 ≤ d) (hN : n0 ≤ NC) (hw : wp n0 (fun t => At l d 14 n0 Qp t) (CallP (d - 1)) Qp k_14_74 ls st h) : At l d 14 n0 Qp 74 ls st h := sound g_14.2.1 (by rw [g_14.2.2.2]; exact hN) hd k_14_74 74 k_14_74_ok ls st h (by rw [g_14.2.2.2]; exact hw)
theorem l_14_80 {l : Launch} {d n0 : Nat} {Qp : PQ} {ls : List (Option PV)} {st : List PV} {h : PMem} (hd : 1 ≤ d) (hN : n0 ≤ NC) (hw : wp n0 (fun t => At l d 14 n0 Qp t) (CallP (d - 1)) Qp k_14_80 ls st h) : At l d 14 n0 Qp 80 ls st h := sound g_14.2.1 (by rw [g_14.2.2.2]; exact hN) hd k_14_80 80 k_14_80_ok ls st h (by rw [g_14.2.2.2]; exact hw)
theorem l_14_86 {l : Launch} {d n0 : Nat} {Qp : PQ} {ls : List (Option PV)} {st : List PV} {h : PMem} (hd : 1 ≤ d) (hN : n0 ≤ NC) (hw : wp n0 (fun t => At l d 14 n0 Qp t) (CallP (d - 1)) Qp k_14_86 ls st h) : At l d 14 n0 Qp 86 ls st h := sound g_14.2.1 (by rw [g_14.2.2.2]; exact hN) hd k_14_86 86 k_14_86_ok ls st h (by rw [g_14.2.2.2]; exact hw)
theorem f_15 : (((plainName (mY 15).cls && decide (rN (oN 15) = (mY 15).cls)) && decide (mML 15 = 3)) && decide (aC 15 = 0)) = true := by decide +kernel
theorem g_15 : plainName (mY 15).cls = true ∧ rN (oN 15) = (mY 15).cls ∧ mML 15 = 3 ∧ aC 15 = 0 := by
  have h := f_15
  simp only [Bool.and_eq_true, decide_eq_true_eq] at h
  exact ⟨h.1.1.1, h.1.1.2, h.1.2, h.2⟩
theorem s_15 {d : Nat} {Qp : PQ} {v0 : PV} {v1 : PV} {v2 : PV} {h : PMem} (hd : 1 ≤ d) (hN : h.1 ≤ NC) (c0 : pcat v0 = 1 := by rfl) (c1 : pcat v1 = 1 := by rfl) (c2 : pcat v2 = 1 := by rfl) (hw : ∀ l, wp h.1 (fun t => At l d 15 h.1 (Qn h.1 Qp) t) (CallP (d - 1)) (Qn h.1 Qp) k_15_0 [some v0, some v1, some v2] [] h) : CallP d 15 [v0, v1, v2] h Qp := by
  refine call_of g_15.1 (by rw [g_15.2.2.1]; simp only [pcats, c0, c1, c2, pcatL]; decide) (fun l => ?_)
  have e : ent (mML 15) [v0, v1, v2] = [some v0, some v1, some v2] := by rw [g_15.2.2.1]; simp [ent, pcats, c0, c1, c2, pcatL, List.replicate]
  rw [e]
  refine sound g_15.2.1 (by rw [g_15.2.2.2]; exact hN) hd k_15_0 0 k_15_0_ok _ _ _ ?_
  rw [g_15.2.2.2]
  exact hw l
theorem l_15_38 {l : Launch} {d n0 : Nat} {Qp : PQ} {ls : List (Option PV)} {st : List PV} {h : PMem} (hd : 1 ≤ d) (hN : n0 ≤ NC) (hw : wp n0 (fun t => At l d 15 n0 Qp t) (CallP (d - 1)) Qp k_15_38 ls st h) : At l d 15 n0 Qp 38 ls st h := sound g_15.2.1 (by rw [g_15.2.2.2]; exact hN) hd k_15_38 38 k_15_38_ok ls st h (by rw [g_15.2.2.2]; exact hw)
theorem l_15_39 {l : Launch} {d n0 : Nat} {Qp : PQ} {ls : List (Option PV)} {st : List PV} {h : PMem} (hd : 1 ≤ d) (hN : n0 ≤ NC) (hw : wp n0 (fun t => At l d 15 n0 Qp t) (CallP (d - 1)) Qp k_15_39 ls st h) : At l d 15 n0 Qp 39 ls st h := sound g_15.2.1 (by rw [g_15.2.2.2]; exact hN) hd k_15_39 39 k_15_39_ok ls st h (by rw [g_15.2.2.2]; exact hw)
theorem f_16 : (((plainName (mY 16).cls && decide (rN (oN 16) = (mY 16).cls)) && decide (mML 16 = 2)) && decide (aC 16 = 0)) = true := by decide +kernel
theorem g_16 : plainName (mY 16).cls = true ∧ rN (oN 16) = (mY 16).cls ∧ mML 16 = 2 ∧ aC 16 = 0 := by
  have h := f_16
  simp only [Bool.and_eq_true, decide_eq_true_eq] at h
  exact ⟨h.1.1.1, h.1.1.2, h.1.2, h.2⟩
theorem s_16 {d : Nat} {Qp : PQ} {v0 : PV} {v1 : PV} {h : PMem} (hd : 1 ≤ d) (hN : h.1 ≤ NC) (c0 : pcat v0 = 1 := by rfl) (c1 : pcat v1 = 1 := by rfl) (hw : ∀ l, wp h.1 (fun t => At l d 16 h.1 (Qn h.1 Qp) t) (CallP (d - 1)) (Qn h.1 Qp) k_16_0 [some v0, some v1] [] h) : CallP d 16 [v0, v1] h Qp := by
  refine call_of g_16.1 (by rw [g_16.2.2.1]; simp only [pcats, c0, c1, pcatL]; decide) (fun l => ?_)
  have e : ent (mML 16) [v0, v1] = [some v0, some v1] := by rw [g_16.2.2.1]; simp [ent, pcats, c0, c1, pcatL, List.replicate]
  rw [e]
  refine sound g_16.2.1 (by rw [g_16.2.2.2]; exact hN) hd k_16_0 0 k_16_0_ok _ _ _ ?_
  rw [g_16.2.2.2]
  exact hw l
theorem l_16_11 {l : Launch} {d n0 : Nat} {Qp : PQ} {ls : List (Option PV)} {st : List PV} {h : PMem} (hd : 1 ≤ d) (hN : n0 ≤ NC) (hw : wp n0 (fun t => At l d 16 n0 Qp t) (CallP (d - 1)) Qp k_16_11 ls st h) : At l d 16 n0 Qp 11 ls st h := sound g_16.2.1 (by rw [g_16.2.2.2]; exact hN) hd k_16_11 11 k_16_11_ok ls st h (by rw [g_16.2.2.2]; exact hw)
theorem l_16_15 {l : Launch} {d n0 : Nat} {Qp : PQ} {ls : List (Option PV)} {st : List PV} {h : PMem} (hd : 1 ≤ d) (hN : n0 ≤ NC) (hw : wp n0 (fun t => At l d 16 n0 Qp t) (CallP (d - 1)) Qp k_16_15 ls st h) : At l d 16 n0 Qp 15 ls st h := sound g_16.2.1 (by rw [g_16.2.2.2]; exact hN) hd k_16_15 15 k_16_15_ok ls st h (by rw [g_16.2.2.2]; exact hw)
theorem l_16_16 {l : Launch} {d n0 : Nat} {Qp : PQ} {ls : List (Option PV)} {st : List PV} {h : PMem} (hd : 1 ≤ d) (hN : n0 ≤ NC) (hw : wp n0 (fun t => At l d 16 n0 Qp t) (CallP (d - 1)) Qp k_16_16 ls st h) : At l d 16 n0 Qp 16 ls st h := sound g_16.2.1 (by rw [g_16.2.2.2]; exact hN) hd k_16_16 16 k_16_16_ok ls st h (by rw [g_16.2.2.2]; exact hw)
theorem f_17 : (((plainName (mY 17).cls && decide (rN (oN 17) = (mY 17).cls)) && decide (mML 17 = 6)) && decide (aC 17 = 0)) = true := by decide +kernel
theorem g_17 : plainName (mY 17).cls = true ∧ rN (oN 17) = (mY 17).cls ∧ mML 17 = 6 ∧ aC 17 = 0 := by
  have h := f_17
  simp only [Bool.and_eq_true, decide_eq_true_eq] at h
  exact ⟨h.1.1.1, h.1.1.2, h.1.2, h.2⟩
theorem s_17 {d : Nat} {Qp : PQ} {v0 : PV} {v1 : PV} {v2 : PV} {v3 : PV} {h : PMem} (hd : 1 ≤ d) (hN : h.1 ≤ NC) (c0 : pcat v0 = 1 := by rfl) (c1 : pcat v1 = 1 := by rfl) (c2 : pcat v2 = 1 := by rfl) (c3 : pcat v3 = 1 := by rfl) (hw : ∀ l, wp h.1 (fun t => At l d 17 h.1 (Qn h.1 Qp) t) (CallP (d - 1)) (Qn h.1 Qp) k_17_0 [some v0, some v1, some v2, some v3, none, none] [] h) : CallP d 17 [v0, v1, v2, v3] h Qp := by
  refine call_of g_17.1 (by rw [g_17.2.2.1]; simp only [pcats, c0, c1, c2, c3, pcatL]; decide) (fun l => ?_)
  have e : ent (mML 17) [v0, v1, v2, v3] = [some v0, some v1, some v2, some v3, none, none] := by rw [g_17.2.2.1]; simp [ent, pcats, c0, c1, c2, c3, pcatL, List.replicate]
  rw [e]
  refine sound g_17.2.1 (by rw [g_17.2.2.2]; exact hN) hd k_17_0 0 k_17_0_ok _ _ _ ?_
  rw [g_17.2.2.2]
  exact hw l
theorem l_17_43 {l : Launch} {d n0 : Nat} {Qp : PQ} {ls : List (Option PV)} {st : List PV} {h : PMem} (hd : 1 ≤ d) (hN : n0 ≤ NC) (hw : wp n0 (fun t => At l d 17 n0 Qp t) (CallP (d - 1)) Qp k_17_43 ls st h) : At l d 17 n0 Qp 43 ls st h := sound g_17.2.1 (by rw [g_17.2.2.2]; exact hN) hd k_17_43 43 k_17_43_ok ls st h (by rw [g_17.2.2.2]; exact hw)
theorem l_17_46 {l : Launch} {d n0 : Nat} {Qp : PQ} {ls : List (Option PV)} {st : List PV} {h : PMem} (hd : 1 ≤ d) (hN : n0 ≤ NC) (hw : wp n0 (fun t => At l d 17 n0 Qp t) (CallP (d - 1)) Qp k_17_46 ls st h) : At l d 17 n0 Qp 46 ls st h := sound g_17.2.1 (by rw [g_17.2.2.2]; exact hN) hd k_17_46 46 k_17_46_ok ls st h (by rw [g_17.2.2.2]; exact hw)
theorem l_17_56 {l : Launch} {d n0 : Nat} {Qp : PQ} {ls : List (Option PV)} {st : List PV} {h : PMem} (hd : 1 ≤ d) (hN : n0 ≤ NC) (hw : wp n0 (fun t => At l d 17 n0 Qp t) (CallP (d - 1)) Qp k_17_56 ls st h) : At l d 17 n0 Qp 56 ls st h := sound g_17.2.1 (by rw [g_17.2.2.2]; exact hN) hd k_17_56 56 k_17_56_ok ls st h (by rw [g_17.2.2.2]; exact hw)
theorem l_17_107 {l : Launch} {d n0 : Nat} {Qp : PQ} {ls : List (Option PV)} {st : List PV} {h : PMem} (hd : 1 ≤ d) (hN : n0 ≤ NC) (hw : wp n0 (fun t => At l d 17 n0 Qp t) (CallP (d - 1)) Qp k_17_107 ls st h) : At l d 17 n0 Qp 107 ls st h := sound g_17.2.1 (by rw [g_17.2.2.2]; exact hN) hd k_17_107 107 k_17_107_ok ls st h (by rw [g_17.2.2.2]; exact hw)
theorem l_17_113 {l : Launch} {d n0 : Nat} {Qp : PQ} {ls : List (Option PV)} {st : List PV} {h : PMem} (hd : 1 ≤ d) (hN : n0 ≤ NC) (hw : wp n0 (fun t => At l d 17 n0 Qp t) (CallP (d - 1)) Qp k_17_113 ls st h) : At l d 17 n0 Qp 113 ls st h := sound g_17.2.1 (by rw [g_17.2.2.2]; exact hN) hd k_17_113 113 k_17_113_ok ls st h (by rw [g_17.2.2.2]; exact hw)
theorem l_17_119 {l : Launch} {d n0 : Nat} {Qp : PQ} {ls : List (Option PV)} {st : List PV} {h : PMem} (hd : 1 ≤ d) (hN : n0 ≤ NC) (hw : wp n0 (fun t => At l d 17 n0 Qp t) (CallP (d - 1)) Qp k_17_119 ls st h) : At l d 17 n0 Qp 119 ls st h := sound g_17.2.1 (by rw [g_17.2.2.2]; exact hN) hd k_17_119 119 k_17_119_ok ls st h (by rw [g_17.2.2.2]; exact hw)
theorem f_18 : (((plainName (mY 18).cls && decide (rN (oN 18) = (mY 18).cls)) && decide (mML 18 = 6)) && decide (aC 18 = 0)) = true := by decide +kernel
theorem g_18 : plainName (mY 18).cls = true ∧ rN (oN 18) = (mY 18).cls ∧ mML 18 = 6 ∧ aC 18 = 0 := by
  have h := f_18
  simp only [Bool.and_eq_true, decide_eq_true_eq] at h
  exact ⟨h.1.1.1, h.1.1.2, h.1.2, h.2⟩
theorem s_18 {d : Nat} {Qp : PQ} {v0 : PV} {v1 : PV} {v2 : PV} {v3 : PV} {h : PMem} (hd : 1 ≤ d) (hN : h.1 ≤ NC) (c0 : pcat v0 = 1 := by rfl) (c1 : pcat v1 = 1 := by rfl) (c2 : pcat v2 = 1 := by rfl) (c3 : pcat v3 = 1 := by rfl) (hw : ∀ l, wp h.1 (fun t => At l d 18 h.1 (Qn h.1 Qp) t) (CallP (d - 1)) (Qn h.1 Qp) k_18_0 [some v0, some v1, some v2, some v3, none, none] [] h) : CallP d 18 [v0, v1, v2, v3] h Qp := by
  refine call_of g_18.1 (by rw [g_18.2.2.1]; simp only [pcats, c0, c1, c2, c3, pcatL]; decide) (fun l => ?_)
  have e : ent (mML 18) [v0, v1, v2, v3] = [some v0, some v1, some v2, some v3, none, none] := by rw [g_18.2.2.1]; simp [ent, pcats, c0, c1, c2, c3, pcatL, List.replicate]
  rw [e]
  refine sound g_18.2.1 (by rw [g_18.2.2.2]; exact hN) hd k_18_0 0 k_18_0_ok _ _ _ ?_
  rw [g_18.2.2.2]
  exact hw l
theorem l_18_3 {l : Launch} {d n0 : Nat} {Qp : PQ} {ls : List (Option PV)} {st : List PV} {h : PMem} (hd : 1 ≤ d) (hN : n0 ≤ NC) (hw : wp n0 (fun t => At l d 18 n0 Qp t) (CallP (d - 1)) Qp k_18_3 ls st h) : At l d 18 n0 Qp 3 ls st h := sound g_18.2.1 (by rw [g_18.2.2.2]; exact hN) hd k_18_3 3 k_18_3_ok ls st h (by rw [g_18.2.2.2]; exact hw)
theorem l_18_36 {l : Launch} {d n0 : Nat} {Qp : PQ} {ls : List (Option PV)} {st : List PV} {h : PMem} (hd : 1 ≤ d) (hN : n0 ≤ NC) (hw : wp n0 (fun t => At l d 18 n0 Qp t) (CallP (d - 1)) Qp k_18_36 ls st h) : At l d 18 n0 Qp 36 ls st h := sound g_18.2.1 (by rw [g_18.2.2.2]; exact hN) hd k_18_36 36 k_18_36_ok ls st h (by rw [g_18.2.2.2]; exact hw)
theorem l_18_47 {l : Launch} {d n0 : Nat} {Qp : PQ} {ls : List (Option PV)} {st : List PV} {h : PMem} (hd : 1 ≤ d) (hN : n0 ≤ NC) (hw : wp n0 (fun t => At l d 18 n0 Qp t) (CallP (d - 1)) Qp k_18_47 ls st h) : At l d 18 n0 Qp 47 ls st h := sound g_18.2.1 (by rw [g_18.2.2.2]; exact hN) hd k_18_47 47 k_18_47_ok ls st h (by rw [g_18.2.2.2]; exact hw)
theorem l_18_48 {l : Launch} {d n0 : Nat} {Qp : PQ} {ls : List (Option PV)} {st : List PV} {h : PMem} (hd : 1 ≤ d) (hN : n0 ≤ NC) (hw : wp n0 (fun t => At l d 18 n0 Qp t) (CallP (d - 1)) Qp k_18_48 ls st h) : At l d 18 n0 Qp 48 ls st h := sound g_18.2.1 (by rw [g_18.2.2.2]; exact hN) hd k_18_48 48 k_18_48_ok ls st h (by rw [g_18.2.2.2]; exact hw)
theorem l_18_57 {l : Launch} {d n0 : Nat} {Qp : PQ} {ls : List (Option PV)} {st : List PV} {h : PMem} (hd : 1 ≤ d) (hN : n0 ≤ NC) (hw : wp n0 (fun t => At l d 18 n0 Qp t) (CallP (d - 1)) Qp k_18_57 ls st h) : At l d 18 n0 Qp 57 ls st h := sound g_18.2.1 (by rw [g_18.2.2.2]; exact hN) hd k_18_57 57 k_18_57_ok ls st h (by rw [g_18.2.2.2]; exact hw)
theorem l_18_79 {l : Launch} {d n0 : Nat} {Qp : PQ} {ls : List (Option PV)} {st : List PV} {h : PMem} (hd : 1 ≤ d) (hN : n0 ≤ NC) (hw : wp n0 (fun t => At l d 18 n0 Qp t) (CallP (d - 1)) Qp k_18_79 ls st h) : At l d 18 n0 Qp 79 ls st h := sound g_18.2.1 (by rw [g_18.2.2.2]; exact hN) hd k_18_79 79 k_18_79_ok ls st h (by rw [g_18.2.2.2]; exact hw)
theorem f_19 : (((plainName (mY 19).cls && decide (rN (oN 19) = (mY 19).cls)) && decide (mML 19 = 9)) && decide (aC 19 = 0)) = true := by decide +kernel
theorem g_19 : plainName (mY 19).cls = true ∧ rN (oN 19) = (mY 19).cls ∧ mML 19 = 9 ∧ aC 19 = 0 := by
  have h := f_19
  simp only [Bool.and_eq_true, decide_eq_true_eq] at h
  exact ⟨h.1.1.1, h.1.1.2, h.1.2, h.2⟩
theorem s_19 {d : Nat} {Qp : PQ} {v0 : PV} {v1 : PV} {v2 : PV} {v3 : PV} {h : PMem} (hd : 1 ≤ d) (hN : h.1 ≤ NC) (c0 : pcat v0 = 1 := by rfl) (c1 : pcat v1 = 1 := by rfl) (c2 : pcat v2 = 1 := by rfl) (c3 : pcat v3 = 1 := by rfl) (hw : ∀ l, wp h.1 (fun t => At l d 19 h.1 (Qn h.1 Qp) t) (CallP (d - 1)) (Qn h.1 Qp) k_19_0 [some v0, some v1, some v2, some v3, none, none, none, none, none] [] h) : CallP d 19 [v0, v1, v2, v3] h Qp := by
  refine call_of g_19.1 (by rw [g_19.2.2.1]; simp only [pcats, c0, c1, c2, c3, pcatL]; decide) (fun l => ?_)
  have e : ent (mML 19) [v0, v1, v2, v3] = [some v0, some v1, some v2, some v3, none, none, none, none, none] := by rw [g_19.2.2.1]; simp [ent, pcats, c0, c1, c2, c3, pcatL, List.replicate]
  rw [e]
  refine sound g_19.2.1 (by rw [g_19.2.2.2]; exact hN) hd k_19_0 0 k_19_0_ok _ _ _ ?_
  rw [g_19.2.2.2]
  exact hw l
theorem l_19_6 {l : Launch} {d n0 : Nat} {Qp : PQ} {ls : List (Option PV)} {st : List PV} {h : PMem} (hd : 1 ≤ d) (hN : n0 ≤ NC) (hw : wp n0 (fun t => At l d 19 n0 Qp t) (CallP (d - 1)) Qp k_19_6 ls st h) : At l d 19 n0 Qp 6 ls st h := sound g_19.2.1 (by rw [g_19.2.2.2]; exact hN) hd k_19_6 6 k_19_6_ok ls st h (by rw [g_19.2.2.2]; exact hw)
theorem l_19_46 {l : Launch} {d n0 : Nat} {Qp : PQ} {ls : List (Option PV)} {st : List PV} {h : PMem} (hd : 1 ≤ d) (hN : n0 ≤ NC) (hw : wp n0 (fun t => At l d 19 n0 Qp t) (CallP (d - 1)) Qp k_19_46 ls st h) : At l d 19 n0 Qp 46 ls st h := sound g_19.2.1 (by rw [g_19.2.2.2]; exact hN) hd k_19_46 46 k_19_46_ok ls st h (by rw [g_19.2.2.2]; exact hw)
theorem l_19_47 {l : Launch} {d n0 : Nat} {Qp : PQ} {ls : List (Option PV)} {st : List PV} {h : PMem} (hd : 1 ≤ d) (hN : n0 ≤ NC) (hw : wp n0 (fun t => At l d 19 n0 Qp t) (CallP (d - 1)) Qp k_19_47 ls st h) : At l d 19 n0 Qp 47 ls st h := sound g_19.2.1 (by rw [g_19.2.2.2]; exact hN) hd k_19_47 47 k_19_47_ok ls st h (by rw [g_19.2.2.2]; exact hw)
theorem l_19_53 {l : Launch} {d n0 : Nat} {Qp : PQ} {ls : List (Option PV)} {st : List PV} {h : PMem} (hd : 1 ≤ d) (hN : n0 ≤ NC) (hw : wp n0 (fun t => At l d 19 n0 Qp t) (CallP (d - 1)) Qp k_19_53 ls st h) : At l d 19 n0 Qp 53 ls st h := sound g_19.2.1 (by rw [g_19.2.2.2]; exact hN) hd k_19_53 53 k_19_53_ok ls st h (by rw [g_19.2.2.2]; exact hw)
theorem l_19_112 {l : Launch} {d n0 : Nat} {Qp : PQ} {ls : List (Option PV)} {st : List PV} {h : PMem} (hd : 1 ≤ d) (hN : n0 ≤ NC) (hw : wp n0 (fun t => At l d 19 n0 Qp t) (CallP (d - 1)) Qp k_19_112 ls st h) : At l d 19 n0 Qp 112 ls st h := sound g_19.2.1 (by rw [g_19.2.2.2]; exact hN) hd k_19_112 112 k_19_112_ok ls st h (by rw [g_19.2.2.2]; exact hw)
theorem l_19_118 {l : Launch} {d n0 : Nat} {Qp : PQ} {ls : List (Option PV)} {st : List PV} {h : PMem} (hd : 1 ≤ d) (hN : n0 ≤ NC) (hw : wp n0 (fun t => At l d 19 n0 Qp t) (CallP (d - 1)) Qp k_19_118 ls st h) : At l d 19 n0 Qp 118 ls st h := sound g_19.2.1 (by rw [g_19.2.2.2]; exact hN) hd k_19_118 118 k_19_118_ok ls st h (by rw [g_19.2.2.2]; exact hw)
theorem l_19_124 {l : Launch} {d n0 : Nat} {Qp : PQ} {ls : List (Option PV)} {st : List PV} {h : PMem} (hd : 1 ≤ d) (hN : n0 ≤ NC) (hw : wp n0 (fun t => At l d 19 n0 Qp t) (CallP (d - 1)) Qp k_19_124 ls st h) : At l d 19 n0 Qp 124 ls st h := sound g_19.2.1 (by rw [g_19.2.2.2]; exact hN) hd k_19_124 124 k_19_124_ok ls st h (by rw [g_19.2.2.2]; exact hw)
theorem l_19_160 {l : Launch} {d n0 : Nat} {Qp : PQ} {ls : List (Option PV)} {st : List PV} {h : PMem} (hd : 1 ≤ d) (hN : n0 ≤ NC) (hw : wp n0 (fun t => At l d 19 n0 Qp t) (CallP (d - 1)) Qp k_19_160 ls st h) : At l d 19 n0 Qp 160 ls st h := sound g_19.2.1 (by rw [g_19.2.2.2]; exact hN) hd k_19_160 160 k_19_160_ok ls st h (by rw [g_19.2.2.2]; exact hw)
theorem f_20 : (((plainName (mY 20).cls && decide (rN (oN 20) = (mY 20).cls)) && decide (mML 20 = 4)) && decide (aC 20 = 0)) = true := by decide +kernel
theorem g_20 : plainName (mY 20).cls = true ∧ rN (oN 20) = (mY 20).cls ∧ mML 20 = 4 ∧ aC 20 = 0 := by
  have h := f_20
  simp only [Bool.and_eq_true, decide_eq_true_eq] at h
  exact ⟨h.1.1.1, h.1.1.2, h.1.2, h.2⟩
theorem s_20 {d : Nat} {Qp : PQ} {v0 : PV} {v1 : PV} {v2 : PV} {v3 : PV} {h : PMem} (hd : 1 ≤ d) (hN : h.1 ≤ NC) (c0 : pcat v0 = 1 := by rfl) (c1 : pcat v1 = 1 := by rfl) (c2 : pcat v2 = 1 := by rfl) (c3 : pcat v3 = 1 := by rfl) (hw : ∀ l, wp h.1 (fun t => At l d 20 h.1 (Qn h.1 Qp) t) (CallP (d - 1)) (Qn h.1 Qp) k_20_0 [some v0, some v1, some v2, some v3] [] h) : CallP d 20 [v0, v1, v2, v3] h Qp := by
  refine call_of g_20.1 (by rw [g_20.2.2.1]; simp only [pcats, c0, c1, c2, c3, pcatL]; decide) (fun l => ?_)
  have e : ent (mML 20) [v0, v1, v2, v3] = [some v0, some v1, some v2, some v3] := by rw [g_20.2.2.1]; simp [ent, pcats, c0, c1, c2, c3, pcatL, List.replicate]
  rw [e]
  refine sound g_20.2.1 (by rw [g_20.2.2.2]; exact hN) hd k_20_0 0 k_20_0_ok _ _ _ ?_
  rw [g_20.2.2.2]
  exact hw l
theorem f_21 : (((plainName (mY 21).cls && decide (rN (oN 21) = (mY 21).cls)) && decide (mML 21 = 3)) && decide (aC 21 = 0)) = true := by decide +kernel
theorem g_21 : plainName (mY 21).cls = true ∧ rN (oN 21) = (mY 21).cls ∧ mML 21 = 3 ∧ aC 21 = 0 := by
  have h := f_21
  simp only [Bool.and_eq_true, decide_eq_true_eq] at h
  exact ⟨h.1.1.1, h.1.1.2, h.1.2, h.2⟩
theorem s_21 {d : Nat} {Qp : PQ} {v0 : PV} {v1 : PV} {v2 : PV} {h : PMem} (hd : 1 ≤ d) (hN : h.1 ≤ NC) (c0 : pcat v0 = 1 := by rfl) (c1 : pcat v1 = 1 := by rfl) (c2 : pcat v2 = 1 := by rfl) (hw : ∀ l, wp h.1 (fun t => At l d 21 h.1 (Qn h.1 Qp) t) (CallP (d - 1)) (Qn h.1 Qp) k_21_0 [some v0, some v1, some v2] [] h) : CallP d 21 [v0, v1, v2] h Qp := by
  refine call_of g_21.1 (by rw [g_21.2.2.1]; simp only [pcats, c0, c1, c2, pcatL]; decide) (fun l => ?_)
  have e : ent (mML 21) [v0, v1, v2] = [some v0, some v1, some v2] := by rw [g_21.2.2.1]; simp [ent, pcats, c0, c1, c2, pcatL, List.replicate]
  rw [e]
  refine sound g_21.2.1 (by rw [g_21.2.2.2]; exact hN) hd k_21_0 0 k_21_0_ok _ _ _ ?_
  rw [g_21.2.2.2]
  exact hw l
theorem f_22 : (((plainName (mY 22).cls && decide (rN (oN 22) = (mY 22).cls)) && decide (mML 22 = 1)) && decide (aC 22 = 0)) = true := by decide +kernel
theorem g_22 : plainName (mY 22).cls = true ∧ rN (oN 22) = (mY 22).cls ∧ mML 22 = 1 ∧ aC 22 = 0 := by
  have h := f_22
  simp only [Bool.and_eq_true, decide_eq_true_eq] at h
  exact ⟨h.1.1.1, h.1.1.2, h.1.2, h.2⟩
theorem s_22 {d : Nat} {Qp : PQ} {v0 : PV} {h : PMem} (hd : 1 ≤ d) (hN : h.1 ≤ NC) (c0 : pcat v0 = 1 := by rfl) (hw : ∀ l, wp h.1 (fun t => At l d 22 h.1 (Qn h.1 Qp) t) (CallP (d - 1)) (Qn h.1 Qp) k_22_0 [some v0] [] h) : CallP d 22 [v0] h Qp := by
  refine call_of g_22.1 (by rw [g_22.2.2.1]; simp only [pcats, c0, pcatL]; decide) (fun l => ?_)
  have e : ent (mML 22) [v0] = [some v0] := by rw [g_22.2.2.1]; simp [ent, pcats, c0, pcatL, List.replicate]
  rw [e]
  refine sound g_22.2.1 (by rw [g_22.2.2.2]; exact hN) hd k_22_0 0 k_22_0_ok _ _ _ ?_
  rw [g_22.2.2.2]
  exact hw l
theorem f_23 : (((plainName (mY 23).cls && decide (rN (oN 23) = (mY 23).cls)) && decide (mML 23 = 2)) && decide (aC 23 = 0)) = true := by decide +kernel
theorem g_23 : plainName (mY 23).cls = true ∧ rN (oN 23) = (mY 23).cls ∧ mML 23 = 2 ∧ aC 23 = 0 := by
  have h := f_23
  simp only [Bool.and_eq_true, decide_eq_true_eq] at h
  exact ⟨h.1.1.1, h.1.1.2, h.1.2, h.2⟩
theorem s_23 {d : Nat} {Qp : PQ} {v0 : PV} {v1 : PV} {h : PMem} (hd : 1 ≤ d) (hN : h.1 ≤ NC) (c0 : pcat v0 = 1 := by rfl) (c1 : pcat v1 = 1 := by rfl) (hw : ∀ l, wp h.1 (fun t => At l d 23 h.1 (Qn h.1 Qp) t) (CallP (d - 1)) (Qn h.1 Qp) k_23_0 [some v0, some v1] [] h) : CallP d 23 [v0, v1] h Qp := by
  refine call_of g_23.1 (by rw [g_23.2.2.1]; simp only [pcats, c0, c1, pcatL]; decide) (fun l => ?_)
  have e : ent (mML 23) [v0, v1] = [some v0, some v1] := by rw [g_23.2.2.1]; simp [ent, pcats, c0, c1, pcatL, List.replicate]
  rw [e]
  refine sound g_23.2.1 (by rw [g_23.2.2.2]; exact hN) hd k_23_0 0 k_23_0_ok _ _ _ ?_
  rw [g_23.2.2.2]
  exact hw l
theorem f_24 : (((plainName (mY 24).cls && decide (rN (oN 24) = (mY 24).cls)) && decide (mML 24 = 5)) && decide (aC 24 = 0)) = true := by decide +kernel
theorem g_24 : plainName (mY 24).cls = true ∧ rN (oN 24) = (mY 24).cls ∧ mML 24 = 5 ∧ aC 24 = 0 := by
  have h := f_24
  simp only [Bool.and_eq_true, decide_eq_true_eq] at h
  exact ⟨h.1.1.1, h.1.1.2, h.1.2, h.2⟩
theorem s_24 {d : Nat} {Qp : PQ} {v0 : PV} {v1 : PV} {v2 : PV} {h : PMem} (hd : 1 ≤ d) (hN : h.1 ≤ NC) (c0 : pcat v0 = 1 := by rfl) (c1 : pcat v1 = 1 := by rfl) (c2 : pcat v2 = 1 := by rfl) (hw : ∀ l, wp h.1 (fun t => At l d 24 h.1 (Qn h.1 Qp) t) (CallP (d - 1)) (Qn h.1 Qp) k_24_0 [some v0, some v1, some v2, none, none] [] h) : CallP d 24 [v0, v1, v2] h Qp := by
  refine call_of g_24.1 (by rw [g_24.2.2.1]; simp only [pcats, c0, c1, c2, pcatL]; decide) (fun l => ?_)
  have e : ent (mML 24) [v0, v1, v2] = [some v0, some v1, some v2, none, none] := by rw [g_24.2.2.1]; simp [ent, pcats, c0, c1, c2, pcatL, List.replicate]
  rw [e]
  refine sound g_24.2.1 (by rw [g_24.2.2.2]; exact hN) hd k_24_0 0 k_24_0_ok _ _ _ ?_
  rw [g_24.2.2.2]
  exact hw l
theorem l_24_8 {l : Launch} {d n0 : Nat} {Qp : PQ} {ls : List (Option PV)} {st : List PV} {h : PMem} (hd : 1 ≤ d) (hN : n0 ≤ NC) (hw : wp n0 (fun t => At l d 24 n0 Qp t) (CallP (d - 1)) Qp k_24_8 ls st h) : At l d 24 n0 Qp 8 ls st h := sound g_24.2.1 (by rw [g_24.2.2.2]; exact hN) hd k_24_8 8 k_24_8_ok ls st h (by rw [g_24.2.2.2]; exact hw)
theorem l_24_12 {l : Launch} {d n0 : Nat} {Qp : PQ} {ls : List (Option PV)} {st : List PV} {h : PMem} (hd : 1 ≤ d) (hN : n0 ≤ NC) (hw : wp n0 (fun t => At l d 24 n0 Qp t) (CallP (d - 1)) Qp k_24_12 ls st h) : At l d 24 n0 Qp 12 ls st h := sound g_24.2.1 (by rw [g_24.2.2.2]; exact hN) hd k_24_12 12 k_24_12_ok ls st h (by rw [g_24.2.2.2]; exact hw)
theorem l_24_29 {l : Launch} {d n0 : Nat} {Qp : PQ} {ls : List (Option PV)} {st : List PV} {h : PMem} (hd : 1 ≤ d) (hN : n0 ≤ NC) (hw : wp n0 (fun t => At l d 24 n0 Qp t) (CallP (d - 1)) Qp k_24_29 ls st h) : At l d 24 n0 Qp 29 ls st h := sound g_24.2.1 (by rw [g_24.2.2.2]; exact hN) hd k_24_29 29 k_24_29_ok ls st h (by rw [g_24.2.2.2]; exact hw)
theorem l_24_38 {l : Launch} {d n0 : Nat} {Qp : PQ} {ls : List (Option PV)} {st : List PV} {h : PMem} (hd : 1 ≤ d) (hN : n0 ≤ NC) (hw : wp n0 (fun t => At l d 24 n0 Qp t) (CallP (d - 1)) Qp k_24_38 ls st h) : At l d 24 n0 Qp 38 ls st h := sound g_24.2.1 (by rw [g_24.2.2.2]; exact hN) hd k_24_38 38 k_24_38_ok ls st h (by rw [g_24.2.2.2]; exact hw)
theorem f_25 : (((plainName (mY 25).cls && decide (rN (oN 25) = (mY 25).cls)) && decide (mML 25 = 1)) && decide (aC 25 = 0)) = true := by decide +kernel
theorem g_25 : plainName (mY 25).cls = true ∧ rN (oN 25) = (mY 25).cls ∧ mML 25 = 1 ∧ aC 25 = 0 := by
  have h := f_25
  simp only [Bool.and_eq_true, decide_eq_true_eq] at h
  exact ⟨h.1.1.1, h.1.1.2, h.1.2, h.2⟩
theorem s_25 {d : Nat} {Qp : PQ} {v0 : PV} {h : PMem} (hd : 1 ≤ d) (hN : h.1 ≤ NC) (c0 : pcat v0 = 1 := by rfl) (hw : ∀ l, wp h.1 (fun t => At l d 25 h.1 (Qn h.1 Qp) t) (CallP (d - 1)) (Qn h.1 Qp) k_25_0 [some v0] [] h) : CallP d 25 [v0] h Qp := by
  refine call_of g_25.1 (by rw [g_25.2.2.1]; simp only [pcats, c0, pcatL]; decide) (fun l => ?_)
  have e : ent (mML 25) [v0] = [some v0] := by rw [g_25.2.2.1]; simp [ent, pcats, c0, pcatL, List.replicate]
  rw [e]
  refine sound g_25.2.1 (by rw [g_25.2.2.2]; exact hN) hd k_25_0 0 k_25_0_ok _ _ _ ?_
  rw [g_25.2.2.2]
  exact hw l
theorem l_25_10 {l : Launch} {d n0 : Nat} {Qp : PQ} {ls : List (Option PV)} {st : List PV} {h : PMem} (hd : 1 ≤ d) (hN : n0 ≤ NC) (hw : wp n0 (fun t => At l d 25 n0 Qp t) (CallP (d - 1)) Qp k_25_10 ls st h) : At l d 25 n0 Qp 10 ls st h := sound g_25.2.1 (by rw [g_25.2.2.2]; exact hN) hd k_25_10 10 k_25_10_ok ls st h (by rw [g_25.2.2.2]; exact hw)
theorem l_25_11 {l : Launch} {d n0 : Nat} {Qp : PQ} {ls : List (Option PV)} {st : List PV} {h : PMem} (hd : 1 ≤ d) (hN : n0 ≤ NC) (hw : wp n0 (fun t => At l d 25 n0 Qp t) (CallP (d - 1)) Qp k_25_11 ls st h) : At l d 25 n0 Qp 11 ls st h := sound g_25.2.1 (by rw [g_25.2.2.2]; exact hN) hd k_25_11 11 k_25_11_ok ls st h (by rw [g_25.2.2.2]; exact hw)
theorem f_26 : (((plainName (mY 26).cls && decide (rN (oN 26) = (mY 26).cls)) && decide (mML 26 = 6)) && decide (aC 26 = 0)) = true := by decide +kernel
theorem g_26 : plainName (mY 26).cls = true ∧ rN (oN 26) = (mY 26).cls ∧ mML 26 = 6 ∧ aC 26 = 0 := by
  have h := f_26
  simp only [Bool.and_eq_true, decide_eq_true_eq] at h
  exact ⟨h.1.1.1, h.1.1.2, h.1.2, h.2⟩
theorem s_26 {d : Nat} {Qp : PQ} {v0 : PV} {v1 : PV} {h : PMem} (hd : 1 ≤ d) (hN : h.1 ≤ NC) (c0 : pcat v0 = 1 := by rfl) (c1 : pcat v1 = 1 := by rfl) (hw : ∀ l, wp h.1 (fun t => At l d 26 h.1 (Qn h.1 Qp) t) (CallP (d - 1)) (Qn h.1 Qp) k_26_0 [some v0, some v1, none, none, none, none] [] h) : CallP d 26 [v0, v1] h Qp := by
  refine call_of g_26.1 (by rw [g_26.2.2.1]; simp only [pcats, c0, c1, pcatL]; decide) (fun l => ?_)
  have e : ent (mML 26) [v0, v1] = [some v0, some v1, none, none, none, none] := by rw [g_26.2.2.1]; simp [ent, pcats, c0, c1, pcatL, List.replicate]
  rw [e]
  refine sound g_26.2.1 (by rw [g_26.2.2.2]; exact hN) hd k_26_0 0 k_26_0_ok _ _ _ ?_
  rw [g_26.2.2.2]
  exact hw l
theorem f_27 : (((plainName (mY 27).cls && decide (rN (oN 27) = (mY 27).cls)) && decide (mML 27 = 2)) && decide (aC 27 = 0)) = true := by decide +kernel
theorem g_27 : plainName (mY 27).cls = true ∧ rN (oN 27) = (mY 27).cls ∧ mML 27 = 2 ∧ aC 27 = 0 := by
  have h := f_27
  simp only [Bool.and_eq_true, decide_eq_true_eq] at h
  exact ⟨h.1.1.1, h.1.1.2, h.1.2, h.2⟩
theorem s_27 {d : Nat} {Qp : PQ} {v0 : PV} {v1 : PV} {h : PMem} (hd : 1 ≤ d) (hN : h.1 ≤ NC) (c0 : pcat v0 = 1 := by rfl) (c1 : pcat v1 = 1 := by rfl) (hw : ∀ l, wp h.1 (fun t => At l d 27 h.1 (Qn h.1 Qp) t) (CallP (d - 1)) (Qn h.1 Qp) k_27_0 [some v0, some v1] [] h) : CallP d 27 [v0, v1] h Qp := by
  refine call_of g_27.1 (by rw [g_27.2.2.1]; simp only [pcats, c0, c1, pcatL]; decide) (fun l => ?_)
  have e : ent (mML 27) [v0, v1] = [some v0, some v1] := by rw [g_27.2.2.1]; simp [ent, pcats, c0, c1, pcatL, List.replicate]
  rw [e]
  refine sound g_27.2.1 (by rw [g_27.2.2.2]; exact hN) hd k_27_0 0 k_27_0_ok _ _ _ ?_
  rw [g_27.2.2.2]
  exact hw l
theorem l_27_32 {l : Launch} {d n0 : Nat} {Qp : PQ} {ls : List (Option PV)} {st : List PV} {h : PMem} (hd : 1 ≤ d) (hN : n0 ≤ NC) (hw : wp n0 (fun t => At l d 27 n0 Qp t) (CallP (d - 1)) Qp k_27_32 ls st h) : At l d 27 n0 Qp 32 ls st h := sound g_27.2.1 (by rw [g_27.2.2.2]; exact hN) hd k_27_32 32 k_27_32_ok ls st h (by rw [g_27.2.2.2]; exact hw)
theorem l_27_38 {l : Launch} {d n0 : Nat} {Qp : PQ} {ls : List (Option PV)} {st : List PV} {h : PMem} (hd : 1 ≤ d) (hN : n0 ≤ NC) (hw : wp n0 (fun t => At l d 27 n0 Qp t) (CallP (d - 1)) Qp k_27_38 ls st h) : At l d 27 n0 Qp 38 ls st h := sound g_27.2.1 (by rw [g_27.2.2.2]; exact hN) hd k_27_38 38 k_27_38_ok ls st h (by rw [g_27.2.2.2]; exact hw)
theorem l_27_43 {l : Launch} {d n0 : Nat} {Qp : PQ} {ls : List (Option PV)} {st : List PV} {h : PMem} (hd : 1 ≤ d) (hN : n0 ≤ NC) (hw : wp n0 (fun t => At l d 27 n0 Qp t) (CallP (d - 1)) Qp k_27_43 ls st h) : At l d 27 n0 Qp 43 ls st h := sound g_27.2.1 (by rw [g_27.2.2.2]; exact hN) hd k_27_43 43 k_27_43_ok ls st h (by rw [g_27.2.2.2]; exact hw)
theorem l_27_57 {l : Launch} {d n0 : Nat} {Qp : PQ} {ls : List (Option PV)} {st : List PV} {h : PMem} (hd : 1 ≤ d) (hN : n0 ≤ NC) (hw : wp n0 (fun t => At l d 27 n0 Qp t) (CallP (d - 1)) Qp k_27_57 ls st h) : At l d 27 n0 Qp 57 ls st h := sound g_27.2.1 (by rw [g_27.2.2.2]; exact hN) hd k_27_57 57 k_27_57_ok ls st h (by rw [g_27.2.2.2]; exact hw)
theorem l_27_63 {l : Launch} {d n0 : Nat} {Qp : PQ} {ls : List (Option PV)} {st : List PV} {h : PMem} (hd : 1 ≤ d) (hN : n0 ≤ NC) (hw : wp n0 (fun t => At l d 27 n0 Qp t) (CallP (d - 1)) Qp k_27_63 ls st h) : At l d 27 n0 Qp 63 ls st h := sound g_27.2.1 (by rw [g_27.2.2.2]; exact hN) hd k_27_63 63 k_27_63_ok ls st h (by rw [g_27.2.2.2]; exact hw)
theorem f_28 : (((plainName (mY 28).cls && decide (rN (oN 28) = (mY 28).cls)) && decide (mML 28 = 2)) && decide (aC 28 = 0)) = true := by decide +kernel
theorem g_28 : plainName (mY 28).cls = true ∧ rN (oN 28) = (mY 28).cls ∧ mML 28 = 2 ∧ aC 28 = 0 := by
  have h := f_28
  simp only [Bool.and_eq_true, decide_eq_true_eq] at h
  exact ⟨h.1.1.1, h.1.1.2, h.1.2, h.2⟩
theorem s_28 {d : Nat} {Qp : PQ} {v0 : PV} {v1 : PV} {h : PMem} (hd : 1 ≤ d) (hN : h.1 ≤ NC) (c0 : pcat v0 = 1 := by rfl) (c1 : pcat v1 = 1 := by rfl) (hw : ∀ l, wp h.1 (fun t => At l d 28 h.1 (Qn h.1 Qp) t) (CallP (d - 1)) (Qn h.1 Qp) k_28_0 [some v0, some v1] [] h) : CallP d 28 [v0, v1] h Qp := by
  refine call_of g_28.1 (by rw [g_28.2.2.1]; simp only [pcats, c0, c1, pcatL]; decide) (fun l => ?_)
  have e : ent (mML 28) [v0, v1] = [some v0, some v1] := by rw [g_28.2.2.1]; simp [ent, pcats, c0, c1, pcatL, List.replicate]
  rw [e]
  refine sound g_28.2.1 (by rw [g_28.2.2.2]; exact hN) hd k_28_0 0 k_28_0_ok _ _ _ ?_
  rw [g_28.2.2.2]
  exact hw l
theorem f_29 : (((plainName (mY 29).cls && decide (rN (oN 29) = (mY 29).cls)) && decide (mML 29 = 1)) && decide (aC 29 = 0)) = true := by decide +kernel
theorem g_29 : plainName (mY 29).cls = true ∧ rN (oN 29) = (mY 29).cls ∧ mML 29 = 1 ∧ aC 29 = 0 := by
  have h := f_29
  simp only [Bool.and_eq_true, decide_eq_true_eq] at h
  exact ⟨h.1.1.1, h.1.1.2, h.1.2, h.2⟩
theorem s_29 {d : Nat} {Qp : PQ} {v0 : PV} {h : PMem} (hd : 1 ≤ d) (hN : h.1 ≤ NC) (c0 : pcat v0 = 1 := by rfl) (hw : ∀ l, wp h.1 (fun t => At l d 29 h.1 (Qn h.1 Qp) t) (CallP (d - 1)) (Qn h.1 Qp) k_29_0 [some v0] [] h) : CallP d 29 [v0] h Qp := by
  refine call_of g_29.1 (by rw [g_29.2.2.1]; simp only [pcats, c0, pcatL]; decide) (fun l => ?_)
  have e : ent (mML 29) [v0] = [some v0] := by rw [g_29.2.2.1]; simp [ent, pcats, c0, pcatL, List.replicate]
  rw [e]
  refine sound g_29.2.1 (by rw [g_29.2.2.2]; exact hN) hd k_29_0 0 k_29_0_ok _ _ _ ?_
  rw [g_29.2.2.2]
  exact hw l
theorem l_29_28 {l : Launch} {d n0 : Nat} {Qp : PQ} {ls : List (Option PV)} {st : List PV} {h : PMem} (hd : 1 ≤ d) (hN : n0 ≤ NC) (hw : wp n0 (fun t => At l d 29 n0 Qp t) (CallP (d - 1)) Qp k_29_28 ls st h) : At l d 29 n0 Qp 28 ls st h := sound g_29.2.1 (by rw [g_29.2.2.2]; exact hN) hd k_29_28 28 k_29_28_ok ls st h (by rw [g_29.2.2.2]; exact hw)
theorem l_29_30 {l : Launch} {d n0 : Nat} {Qp : PQ} {ls : List (Option PV)} {st : List PV} {h : PMem} (hd : 1 ≤ d) (hN : n0 ≤ NC) (hw : wp n0 (fun t => At l d 29 n0 Qp t) (CallP (d - 1)) Qp k_29_30 ls st h) : At l d 29 n0 Qp 30 ls st h := sound g_29.2.1 (by rw [g_29.2.2.2]; exact hN) hd k_29_30 30 k_29_30_ok ls st h (by rw [g_29.2.2.2]; exact hw)
theorem l_29_32 {l : Launch} {d n0 : Nat} {Qp : PQ} {ls : List (Option PV)} {st : List PV} {h : PMem} (hd : 1 ≤ d) (hN : n0 ≤ NC) (hw : wp n0 (fun t => At l d 29 n0 Qp t) (CallP (d - 1)) Qp k_29_32 ls st h) : At l d 29 n0 Qp 32 ls st h := sound g_29.2.1 (by rw [g_29.2.2.2]; exact hN) hd k_29_32 32 k_29_32_ok ls st h (by rw [g_29.2.2.2]; exact hw)
theorem f_30 : (((plainName (mY 30).cls && decide (rN (oN 30) = (mY 30).cls)) && decide (mML 30 = 3)) && decide (aC 30 = 0)) = true := by decide +kernel
theorem g_30 : plainName (mY 30).cls = true ∧ rN (oN 30) = (mY 30).cls ∧ mML 30 = 3 ∧ aC 30 = 0 := by
  have h := f_30
  simp only [Bool.and_eq_true, decide_eq_true_eq] at h
  exact ⟨h.1.1.1, h.1.1.2, h.1.2, h.2⟩
theorem s_30 {d : Nat} {Qp : PQ} {v0 : PV} {v1 : PV} {v2 : PV} {h : PMem} (hd : 1 ≤ d) (hN : h.1 ≤ NC) (c0 : pcat v0 = 1 := by rfl) (c1 : pcat v1 = 1 := by rfl) (c2 : pcat v2 = 1 := by rfl) (hw : ∀ l, wp h.1 (fun t => At l d 30 h.1 (Qn h.1 Qp) t) (CallP (d - 1)) (Qn h.1 Qp) k_30_0 [some v0, some v1, some v2] [] h) : CallP d 30 [v0, v1, v2] h Qp := by
  refine call_of g_30.1 (by rw [g_30.2.2.1]; simp only [pcats, c0, c1, c2, pcatL]; decide) (fun l => ?_)
  have e : ent (mML 30) [v0, v1, v2] = [some v0, some v1, some v2] := by rw [g_30.2.2.1]; simp [ent, pcats, c0, c1, c2, pcatL, List.replicate]
  rw [e]
  refine sound g_30.2.1 (by rw [g_30.2.2.2]; exact hN) hd k_30_0 0 k_30_0_ok _ _ _ ?_
  rw [g_30.2.2.2]
  exact hw l
theorem l_30_16 {l : Launch} {d n0 : Nat} {Qp : PQ} {ls : List (Option PV)} {st : List PV} {h : PMem} (hd : 1 ≤ d) (hN : n0 ≤ NC) (hw : wp n0 (fun t => At l d 30 n0 Qp t) (CallP (d - 1)) Qp k_30_16 ls st h) : At l d 30 n0 Qp 16 ls st h := sound g_30.2.1 (by rw [g_30.2.2.2]; exact hN) hd k_30_16 16 k_30_16_ok ls st h (by rw [g_30.2.2.2]; exact hw)
theorem l_30_17 {l : Launch} {d n0 : Nat} {Qp : PQ} {ls : List (Option PV)} {st : List PV} {h : PMem} (hd : 1 ≤ d) (hN : n0 ≤ NC) (hw : wp n0 (fun t => At l d 30 n0 Qp t) (CallP (d - 1)) Qp k_30_17 ls st h) : At l d 30 n0 Qp 17 ls st h := sound g_30.2.1 (by rw [g_30.2.2.2]; exact hN) hd k_30_17 17 k_30_17_ok ls st h (by rw [g_30.2.2.2]; exact hw)
theorem f_31 : (((plainName (mY 31).cls && decide (rN (oN 31) = (mY 31).cls)) && decide (mML 31 = 5)) && decide (aC 31 = 0)) = true := by decide +kernel
theorem g_31 : plainName (mY 31).cls = true ∧ rN (oN 31) = (mY 31).cls ∧ mML 31 = 5 ∧ aC 31 = 0 := by
  have h := f_31
  simp only [Bool.and_eq_true, decide_eq_true_eq] at h
  exact ⟨h.1.1.1, h.1.1.2, h.1.2, h.2⟩
theorem s_31 {d : Nat} {Qp : PQ} {v0 : PV} {v1 : PV} {v2 : PV} {v3 : PV} {v4 : PV} {h : PMem} (hd : 1 ≤ d) (hN : h.1 ≤ NC) (c0 : pcat v0 = 1 := by rfl) (c1 : pcat v1 = 1 := by rfl) (c2 : pcat v2 = 1 := by rfl) (c3 : pcat v3 = 1 := by rfl) (c4 : pcat v4 = 1 := by rfl) (hw : ∀ l, wp h.1 (fun t => At l d 31 h.1 (Qn h.1 Qp) t) (CallP (d - 1)) (Qn h.1 Qp) k_31_0 [some v0, some v1, some v2, some v3, some v4] [] h) : CallP d 31 [v0, v1, v2, v3, v4] h Qp := by
  refine call_of g_31.1 (by rw [g_31.2.2.1]; simp only [pcats, c0, c1, c2, c3, c4, pcatL]; decide) (fun l => ?_)
  have e : ent (mML 31) [v0, v1, v2, v3, v4] = [some v0, some v1, some v2, some v3, some v4] := by rw [g_31.2.2.1]; simp [ent, pcats, c0, c1, c2, c3, c4, pcatL, List.replicate]
  rw [e]
  refine sound g_31.2.1 (by rw [g_31.2.2.2]; exact hN) hd k_31_0 0 k_31_0_ok _ _ _ ?_
  rw [g_31.2.2.2]
  exact hw l
theorem l_31_57 {l : Launch} {d n0 : Nat} {Qp : PQ} {ls : List (Option PV)} {st : List PV} {h : PMem} (hd : 1 ≤ d) (hN : n0 ≤ NC) (hw : wp n0 (fun t => At l d 31 n0 Qp t) (CallP (d - 1)) Qp k_31_57 ls st h) : At l d 31 n0 Qp 57 ls st h := sound g_31.2.1 (by rw [g_31.2.2.2]; exact hN) hd k_31_57 57 k_31_57_ok ls st h (by rw [g_31.2.2.2]; exact hw)
theorem l_31_58 {l : Launch} {d n0 : Nat} {Qp : PQ} {ls : List (Option PV)} {st : List PV} {h : PMem} (hd : 1 ≤ d) (hN : n0 ≤ NC) (hw : wp n0 (fun t => At l d 31 n0 Qp t) (CallP (d - 1)) Qp k_31_58 ls st h) : At l d 31 n0 Qp 58 ls st h := sound g_31.2.1 (by rw [g_31.2.2.2]; exact hN) hd k_31_58 58 k_31_58_ok ls st h (by rw [g_31.2.2.2]; exact hw)
theorem f_32 : (((plainName (mY 32).cls && decide (rN (oN 32) = (mY 32).cls)) && decide (mML 32 = 3)) && decide (aC 32 = 0)) = true := by decide +kernel
theorem g_32 : plainName (mY 32).cls = true ∧ rN (oN 32) = (mY 32).cls ∧ mML 32 = 3 ∧ aC 32 = 0 := by
  have h := f_32
  simp only [Bool.and_eq_true, decide_eq_true_eq] at h
  exact ⟨h.1.1.1, h.1.1.2, h.1.2, h.2⟩
theorem s_32 {d : Nat} {Qp : PQ} {v0 : PV} {v1 : PV} {h : PMem} (hd : 1 ≤ d) (hN : h.1 ≤ NC) (c0 : pcat v0 = 1 := by rfl) (c1 : pcat v1 = 1 := by rfl) (hw : ∀ l, wp h.1 (fun t => At l d 32 h.1 (Qn h.1 Qp) t) (CallP (d - 1)) (Qn h.1 Qp) k_32_0 [some v0, some v1, none] [] h) : CallP d 32 [v0, v1] h Qp := by
  refine call_of g_32.1 (by rw [g_32.2.2.1]; simp only [pcats, c0, c1, pcatL]; decide) (fun l => ?_)
  have e : ent (mML 32) [v0, v1] = [some v0, some v1, none] := by rw [g_32.2.2.1]; simp [ent, pcats, c0, c1, pcatL, List.replicate]
  rw [e]
  refine sound g_32.2.1 (by rw [g_32.2.2.2]; exact hN) hd k_32_0 0 k_32_0_ok _ _ _ ?_
  rw [g_32.2.2.2]
  exact hw l
theorem l_32_13 {l : Launch} {d n0 : Nat} {Qp : PQ} {ls : List (Option PV)} {st : List PV} {h : PMem} (hd : 1 ≤ d) (hN : n0 ≤ NC) (hw : wp n0 (fun t => At l d 32 n0 Qp t) (CallP (d - 1)) Qp k_32_13 ls st h) : At l d 32 n0 Qp 13 ls st h := sound g_32.2.1 (by rw [g_32.2.2.2]; exact hN) hd k_32_13 13 k_32_13_ok ls st h (by rw [g_32.2.2.2]; exact hw)
theorem l_32_18 {l : Launch} {d n0 : Nat} {Qp : PQ} {ls : List (Option PV)} {st : List PV} {h : PMem} (hd : 1 ≤ d) (hN : n0 ≤ NC) (hw : wp n0 (fun t => At l d 32 n0 Qp t) (CallP (d - 1)) Qp k_32_18 ls st h) : At l d 32 n0 Qp 18 ls st h := sound g_32.2.1 (by rw [g_32.2.2.2]; exact hN) hd k_32_18 18 k_32_18_ok ls st h (by rw [g_32.2.2.2]; exact hw)
theorem l_32_20 {l : Launch} {d n0 : Nat} {Qp : PQ} {ls : List (Option PV)} {st : List PV} {h : PMem} (hd : 1 ≤ d) (hN : n0 ≤ NC) (hw : wp n0 (fun t => At l d 32 n0 Qp t) (CallP (d - 1)) Qp k_32_20 ls st h) : At l d 32 n0 Qp 20 ls st h := sound g_32.2.1 (by rw [g_32.2.2.2]; exact hN) hd k_32_20 20 k_32_20_ok ls st h (by rw [g_32.2.2.2]; exact hw)
theorem l_32_64 {l : Launch} {d n0 : Nat} {Qp : PQ} {ls : List (Option PV)} {st : List PV} {h : PMem} (hd : 1 ≤ d) (hN : n0 ≤ NC) (hw : wp n0 (fun t => At l d 32 n0 Qp t) (CallP (d - 1)) Qp k_32_64 ls st h) : At l d 32 n0 Qp 64 ls st h := sound g_32.2.1 (by rw [g_32.2.2.2]; exact hN) hd k_32_64 64 k_32_64_ok ls st h (by rw [g_32.2.2.2]; exact hw)
theorem l_32_70 {l : Launch} {d n0 : Nat} {Qp : PQ} {ls : List (Option PV)} {st : List PV} {h : PMem} (hd : 1 ≤ d) (hN : n0 ≤ NC) (hw : wp n0 (fun t => At l d 32 n0 Qp t) (CallP (d - 1)) Qp k_32_70 ls st h) : At l d 32 n0 Qp 70 ls st h := sound g_32.2.1 (by rw [g_32.2.2.2]; exact hN) hd k_32_70 70 k_32_70_ok ls st h (by rw [g_32.2.2.2]; exact hw)
theorem f_33 : (((plainName (mY 33).cls && decide (rN (oN 33) = (mY 33).cls)) && decide (mML 33 = 4)) && decide (aC 33 = 0)) = true := by decide +kernel
theorem g_33 : plainName (mY 33).cls = true ∧ rN (oN 33) = (mY 33).cls ∧ mML 33 = 4 ∧ aC 33 = 0 := by
  have h := f_33
  simp only [Bool.and_eq_true, decide_eq_true_eq] at h
  exact ⟨h.1.1.1, h.1.1.2, h.1.2, h.2⟩
theorem s_33 {d : Nat} {Qp : PQ} {v0 : PV} {v1 : PV} {h : PMem} (hd : 1 ≤ d) (hN : h.1 ≤ NC) (c0 : pcat v0 = 1 := by rfl) (c1 : pcat v1 = 1 := by rfl) (hw : ∀ l, wp h.1 (fun t => At l d 33 h.1 (Qn h.1 Qp) t) (CallP (d - 1)) (Qn h.1 Qp) k_33_0 [some v0, some v1, none, none] [] h) : CallP d 33 [v0, v1] h Qp := by
  refine call_of g_33.1 (by rw [g_33.2.2.1]; simp only [pcats, c0, c1, pcatL]; decide) (fun l => ?_)
  have e : ent (mML 33) [v0, v1] = [some v0, some v1, none, none] := by rw [g_33.2.2.1]; simp [ent, pcats, c0, c1, pcatL, List.replicate]
  rw [e]
  refine sound g_33.2.1 (by rw [g_33.2.2.2]; exact hN) hd k_33_0 0 k_33_0_ok _ _ _ ?_
  rw [g_33.2.2.2]
  exact hw l
theorem l_33_48 {l : Launch} {d n0 : Nat} {Qp : PQ} {ls : List (Option PV)} {st : List PV} {h : PMem} (hd : 1 ≤ d) (hN : n0 ≤ NC) (hw : wp n0 (fun t => At l d 33 n0 Qp t) (CallP (d - 1)) Qp k_33_48 ls st h) : At l d 33 n0 Qp 48 ls st h := sound g_33.2.1 (by rw [g_33.2.2.2]; exact hN) hd k_33_48 48 k_33_48_ok ls st h (by rw [g_33.2.2.2]; exact hw)
theorem l_33_49 {l : Launch} {d n0 : Nat} {Qp : PQ} {ls : List (Option PV)} {st : List PV} {h : PMem} (hd : 1 ≤ d) (hN : n0 ≤ NC) (hw : wp n0 (fun t => At l d 33 n0 Qp t) (CallP (d - 1)) Qp k_33_49 ls st h) : At l d 33 n0 Qp 49 ls st h := sound g_33.2.1 (by rw [g_33.2.2.2]; exact hN) hd k_33_49 49 k_33_49_ok ls st h (by rw [g_33.2.2.2]; exact hw)
theorem f_34 : (((plainName (mY 34).cls && decide (rN (oN 34) = (mY 34).cls)) && decide (mML 34 = 2)) && decide (aC 34 = 0)) = true := by decide +kernel
theorem g_34 : plainName (mY 34).cls = true ∧ rN (oN 34) = (mY 34).cls ∧ mML 34 = 2 ∧ aC 34 = 0 := by
  have h := f_34
  simp only [Bool.and_eq_true, decide_eq_true_eq] at h
  exact ⟨h.1.1.1, h.1.1.2, h.1.2, h.2⟩
theorem s_34 {d : Nat} {Qp : PQ} {v0 : PV} {h : PMem} (hd : 1 ≤ d) (hN : h.1 ≤ NC) (c0 : pcat v0 = 1 := by rfl) (hw : ∀ l, wp h.1 (fun t => At l d 34 h.1 (Qn h.1 Qp) t) (CallP (d - 1)) (Qn h.1 Qp) k_34_0 [some v0, none] [] h) : CallP d 34 [v0] h Qp := by
  refine call_of g_34.1 (by rw [g_34.2.2.1]; simp only [pcats, c0, pcatL]; decide) (fun l => ?_)
  have e : ent (mML 34) [v0] = [some v0, none] := by rw [g_34.2.2.1]; simp [ent, pcats, c0, pcatL, List.replicate]
  rw [e]
  refine sound g_34.2.1 (by rw [g_34.2.2.2]; exact hN) hd k_34_0 0 k_34_0_ok _ _ _ ?_
  rw [g_34.2.2.2]
  exact hw l
theorem l_34_2 {l : Launch} {d n0 : Nat} {Qp : PQ} {ls : List (Option PV)} {st : List PV} {h : PMem} (hd : 1 ≤ d) (hN : n0 ≤ NC) (hw : wp n0 (fun t => At l d 34 n0 Qp t) (CallP (d - 1)) Qp k_34_2 ls st h) : At l d 34 n0 Qp 2 ls st h := sound g_34.2.1 (by rw [g_34.2.2.2]; exact hN) hd k_34_2 2 k_34_2_ok ls st h (by rw [g_34.2.2.2]; exact hw)
theorem l_34_33 {l : Launch} {d n0 : Nat} {Qp : PQ} {ls : List (Option PV)} {st : List PV} {h : PMem} (hd : 1 ≤ d) (hN : n0 ≤ NC) (hw : wp n0 (fun t => At l d 34 n0 Qp t) (CallP (d - 1)) Qp k_34_33 ls st h) : At l d 34 n0 Qp 33 ls st h := sound g_34.2.1 (by rw [g_34.2.2.2]; exact hN) hd k_34_33 33 k_34_33_ok ls st h (by rw [g_34.2.2.2]; exact hw)
theorem l_34_39 {l : Launch} {d n0 : Nat} {Qp : PQ} {ls : List (Option PV)} {st : List PV} {h : PMem} (hd : 1 ≤ d) (hN : n0 ≤ NC) (hw : wp n0 (fun t => At l d 34 n0 Qp t) (CallP (d - 1)) Qp k_34_39 ls st h) : At l d 34 n0 Qp 39 ls st h := sound g_34.2.1 (by rw [g_34.2.2.2]; exact hN) hd k_34_39 39 k_34_39_ok ls st h (by rw [g_34.2.2.2]; exact hw)
theorem f_35 : (((plainName (mY 35).cls && decide (rN (oN 35) = (mY 35).cls)) && decide (mML 35 = 6)) && decide (aC 35 = 0)) = true := by decide +kernel
theorem g_35 : plainName (mY 35).cls = true ∧ rN (oN 35) = (mY 35).cls ∧ mML 35 = 6 ∧ aC 35 = 0 := by
  have h := f_35
  simp only [Bool.and_eq_true, decide_eq_true_eq] at h
  exact ⟨h.1.1.1, h.1.1.2, h.1.2, h.2⟩
theorem s_35 {d : Nat} {Qp : PQ} {v0 : PV} {v1 : PV} {v2 : PV} {h : PMem} (hd : 1 ≤ d) (hN : h.1 ≤ NC) (c0 : pcat v0 = 1 := by rfl) (c1 : pcat v1 = 1 := by rfl) (c2 : pcat v2 = 1 := by rfl) (hw : ∀ l, wp h.1 (fun t => At l d 35 h.1 (Qn h.1 Qp) t) (CallP (d - 1)) (Qn h.1 Qp) k_35_0 [some v0, some v1, some v2, none, none, none] [] h) : CallP d 35 [v0, v1, v2] h Qp := by
  refine call_of g_35.1 (by rw [g_35.2.2.1]; simp only [pcats, c0, c1, c2, pcatL]; decide) (fun l => ?_)
  have e : ent (mML 35) [v0, v1, v2] = [some v0, some v1, some v2, none, none, none] := by rw [g_35.2.2.1]; simp [ent, pcats, c0, c1, c2, pcatL, List.replicate]
  rw [e]
  refine sound g_35.2.1 (by rw [g_35.2.2.2]; exact hN) hd k_35_0 0 k_35_0_ok _ _ _ ?_
  rw [g_35.2.2.2]
  exact hw l
theorem l_35_5 {l : Launch} {d n0 : Nat} {Qp : PQ} {ls : List (Option PV)} {st : List PV} {h : PMem} (hd : 1 ≤ d) (hN : n0 ≤ NC) (hw : wp n0 (fun t => At l d 35 n0 Qp t) (CallP (d - 1)) Qp k_35_5 ls st h) : At l d 35 n0 Qp 5 ls st h := sound g_35.2.1 (by rw [g_35.2.2.2]; exact hN) hd k_35_5 5 k_35_5_ok ls st h (by rw [g_35.2.2.2]; exact hw)
theorem l_35_27 {l : Launch} {d n0 : Nat} {Qp : PQ} {ls : List (Option PV)} {st : List PV} {h : PMem} (hd : 1 ≤ d) (hN : n0 ≤ NC) (hw : wp n0 (fun t => At l d 35 n0 Qp t) (CallP (d - 1)) Qp k_35_27 ls st h) : At l d 35 n0 Qp 27 ls st h := sound g_35.2.1 (by rw [g_35.2.2.2]; exact hN) hd k_35_27 27 k_35_27_ok ls st h (by rw [g_35.2.2.2]; exact hw)
theorem l_35_34 {l : Launch} {d n0 : Nat} {Qp : PQ} {ls : List (Option PV)} {st : List PV} {h : PMem} (hd : 1 ≤ d) (hN : n0 ≤ NC) (hw : wp n0 (fun t => At l d 35 n0 Qp t) (CallP (d - 1)) Qp k_35_34 ls st h) : At l d 35 n0 Qp 34 ls st h := sound g_35.2.1 (by rw [g_35.2.2.2]; exact hN) hd k_35_34 34 k_35_34_ok ls st h (by rw [g_35.2.2.2]; exact hw)
theorem l_35_59 {l : Launch} {d n0 : Nat} {Qp : PQ} {ls : List (Option PV)} {st : List PV} {h : PMem} (hd : 1 ≤ d) (hN : n0 ≤ NC) (hw : wp n0 (fun t => At l d 35 n0 Qp t) (CallP (d - 1)) Qp k_35_59 ls st h) : At l d 35 n0 Qp 59 ls st h := sound g_35.2.1 (by rw [g_35.2.2.2]; exact hN) hd k_35_59 59 k_35_59_ok ls st h (by rw [g_35.2.2.2]; exact hw)
theorem l_35_60 {l : Launch} {d n0 : Nat} {Qp : PQ} {ls : List (Option PV)} {st : List PV} {h : PMem} (hd : 1 ≤ d) (hN : n0 ≤ NC) (hw : wp n0 (fun t => At l d 35 n0 Qp t) (CallP (d - 1)) Qp k_35_60 ls st h) : At l d 35 n0 Qp 60 ls st h := sound g_35.2.1 (by rw [g_35.2.2.2]; exact hN) hd k_35_60 60 k_35_60_ok ls st h (by rw [g_35.2.2.2]; exact hw)
theorem l_35_68 {l : Launch} {d n0 : Nat} {Qp : PQ} {ls : List (Option PV)} {st : List PV} {h : PMem} (hd : 1 ≤ d) (hN : n0 ≤ NC) (hw : wp n0 (fun t => At l d 35 n0 Qp t) (CallP (d - 1)) Qp k_35_68 ls st h) : At l d 35 n0 Qp 68 ls st h := sound g_35.2.1 (by rw [g_35.2.2.2]; exact hN) hd k_35_68 68 k_35_68_ok ls st h (by rw [g_35.2.2.2]; exact hw)
theorem f_36 : (((plainName (mY 36).cls && decide (rN (oN 36) = (mY 36).cls)) && decide (mML 36 = 2)) && decide (aC 36 = 0)) = true := by decide +kernel
theorem g_36 : plainName (mY 36).cls = true ∧ rN (oN 36) = (mY 36).cls ∧ mML 36 = 2 ∧ aC 36 = 0 := by
  have h := f_36
  simp only [Bool.and_eq_true, decide_eq_true_eq] at h
  exact ⟨h.1.1.1, h.1.1.2, h.1.2, h.2⟩
theorem s_36 {d : Nat} {Qp : PQ} {v0 : PV} {v1 : PV} {h : PMem} (hd : 1 ≤ d) (hN : h.1 ≤ NC) (c0 : pcat v0 = 1 := by rfl) (c1 : pcat v1 = 1 := by rfl) (hw : ∀ l, wp h.1 (fun t => At l d 36 h.1 (Qn h.1 Qp) t) (CallP (d - 1)) (Qn h.1 Qp) k_36_0 [some v0, some v1] [] h) : CallP d 36 [v0, v1] h Qp := by
  refine call_of g_36.1 (by rw [g_36.2.2.1]; simp only [pcats, c0, c1, pcatL]; decide) (fun l => ?_)
  have e : ent (mML 36) [v0, v1] = [some v0, some v1] := by rw [g_36.2.2.1]; simp [ent, pcats, c0, c1, pcatL, List.replicate]
  rw [e]
  refine sound g_36.2.1 (by rw [g_36.2.2.2]; exact hN) hd k_36_0 0 k_36_0_ok _ _ _ ?_
  rw [g_36.2.2.2]
  exact hw l
theorem l_36_13 {l : Launch} {d n0 : Nat} {Qp : PQ} {ls : List (Option PV)} {st : List PV} {h : PMem} (hd : 1 ≤ d) (hN : n0 ≤ NC) (hw : wp n0 (fun t => At l d 36 n0 Qp t) (CallP (d - 1)) Qp k_36_13 ls st h) : At l d 36 n0 Qp 13 ls st h := sound g_36.2.1 (by rw [g_36.2.2.2]; exact hN) hd k_36_13 13 k_36_13_ok ls st h (by rw [g_36.2.2.2]; exact hw)
theorem l_36_26 {l : Launch} {d n0 : Nat} {Qp : PQ} {ls : List (Option PV)} {st : List PV} {h : PMem} (hd : 1 ≤ d) (hN : n0 ≤ NC) (hw : wp n0 (fun t => At l d 36 n0 Qp t) (CallP (d - 1)) Qp k_36_26 ls st h) : At l d 36 n0 Qp 26 ls st h := sound g_36.2.1 (by rw [g_36.2.2.2]; exact hN) hd k_36_26 26 k_36_26_ok ls st h (by rw [g_36.2.2.2]; exact hw)
theorem f_37 : (((plainName (mY 37).cls && decide (rN (oN 37) = (mY 37).cls)) && decide (mML 37 = 2)) && decide (aC 37 = 0)) = true := by decide +kernel
theorem g_37 : plainName (mY 37).cls = true ∧ rN (oN 37) = (mY 37).cls ∧ mML 37 = 2 ∧ aC 37 = 0 := by
  have h := f_37
  simp only [Bool.and_eq_true, decide_eq_true_eq] at h
  exact ⟨h.1.1.1, h.1.1.2, h.1.2, h.2⟩
theorem s_37 {d : Nat} {Qp : PQ} {v0 : PV} {h : PMem} (hd : 1 ≤ d) (hN : h.1 ≤ NC) (c0 : pcat v0 = 1 := by rfl) (hw : ∀ l, wp h.1 (fun t => At l d 37 h.1 (Qn h.1 Qp) t) (CallP (d - 1)) (Qn h.1 Qp) k_37_0 [some v0, none] [] h) : CallP d 37 [v0] h Qp := by
  refine call_of g_37.1 (by rw [g_37.2.2.1]; simp only [pcats, c0, pcatL]; decide) (fun l => ?_)
  have e : ent (mML 37) [v0] = [some v0, none] := by rw [g_37.2.2.1]; simp [ent, pcats, c0, pcatL, List.replicate]
  rw [e]
  refine sound g_37.2.1 (by rw [g_37.2.2.2]; exact hN) hd k_37_0 0 k_37_0_ok _ _ _ ?_
  rw [g_37.2.2.2]
  exact hw l
theorem f_38 : (((plainName (mY 38).cls && decide (rN (oN 38) = (mY 38).cls)) && decide (mML 38 = 6)) && decide (aC 38 = 0)) = true := by decide +kernel
theorem g_38 : plainName (mY 38).cls = true ∧ rN (oN 38) = (mY 38).cls ∧ mML 38 = 6 ∧ aC 38 = 0 := by
  have h := f_38
  simp only [Bool.and_eq_true, decide_eq_true_eq] at h
  exact ⟨h.1.1.1, h.1.1.2, h.1.2, h.2⟩
theorem s_38 {d : Nat} {Qp : PQ} {v0 : PV} {v1 : PV} {h : PMem} (hd : 1 ≤ d) (hN : h.1 ≤ NC) (c0 : pcat v0 = 1 := by rfl) (c1 : pcat v1 = 1 := by rfl) (hw : ∀ l, wp h.1 (fun t => At l d 38 h.1 (Qn h.1 Qp) t) (CallP (d - 1)) (Qn h.1 Qp) k_38_0 [some v0, some v1, none, none, none, none] [] h) : CallP d 38 [v0, v1] h Qp := by
  refine call_of g_38.1 (by rw [g_38.2.2.1]; simp only [pcats, c0, c1, pcatL]; decide) (fun l => ?_)
  have e : ent (mML 38) [v0, v1] = [some v0, some v1, none, none, none, none] := by rw [g_38.2.2.1]; simp [ent, pcats, c0, c1, pcatL, List.replicate]
  rw [e]
  refine sound g_38.2.1 (by rw [g_38.2.2.2]; exact hN) hd k_38_0 0 k_38_0_ok _ _ _ ?_
  rw [g_38.2.2.2]
  exact hw l
theorem l_38_9 {l : Launch} {d n0 : Nat} {Qp : PQ} {ls : List (Option PV)} {st : List PV} {h : PMem} (hd : 1 ≤ d) (hN : n0 ≤ NC) (hw : wp n0 (fun t => At l d 38 n0 Qp t) (CallP (d - 1)) Qp k_38_9 ls st h) : At l d 38 n0 Qp 9 ls st h := sound g_38.2.1 (by rw [g_38.2.2.2]; exact hN) hd k_38_9 9 k_38_9_ok ls st h (by rw [g_38.2.2.2]; exact hw)
theorem l_38_34 {l : Launch} {d n0 : Nat} {Qp : PQ} {ls : List (Option PV)} {st : List PV} {h : PMem} (hd : 1 ≤ d) (hN : n0 ≤ NC) (hw : wp n0 (fun t => At l d 38 n0 Qp t) (CallP (d - 1)) Qp k_38_34 ls st h) : At l d 38 n0 Qp 34 ls st h := sound g_38.2.1 (by rw [g_38.2.2.2]; exact hN) hd k_38_34 34 k_38_34_ok ls st h (by rw [g_38.2.2.2]; exact hw)
theorem l_38_47 {l : Launch} {d n0 : Nat} {Qp : PQ} {ls : List (Option PV)} {st : List PV} {h : PMem} (hd : 1 ≤ d) (hN : n0 ≤ NC) (hw : wp n0 (fun t => At l d 38 n0 Qp t) (CallP (d - 1)) Qp k_38_47 ls st h) : At l d 38 n0 Qp 47 ls st h := sound g_38.2.1 (by rw [g_38.2.2.2]; exact hN) hd k_38_47 47 k_38_47_ok ls st h (by rw [g_38.2.2.2]; exact hw)
theorem l_38_48 {l : Launch} {d n0 : Nat} {Qp : PQ} {ls : List (Option PV)} {st : List PV} {h : PMem} (hd : 1 ≤ d) (hN : n0 ≤ NC) (hw : wp n0 (fun t => At l d 38 n0 Qp t) (CallP (d - 1)) Qp k_38_48 ls st h) : At l d 38 n0 Qp 48 ls st h := sound g_38.2.1 (by rw [g_38.2.2.2]; exact hN) hd k_38_48 48 k_38_48_ok ls st h (by rw [g_38.2.2.2]; exact hw)
theorem l_38_65 {l : Launch} {d n0 : Nat} {Qp : PQ} {ls : List (Option PV)} {st : List PV} {h : PMem} (hd : 1 ≤ d) (hN : n0 ≤ NC) (hw : wp n0 (fun t => At l d 38 n0 Qp t) (CallP (d - 1)) Qp k_38_65 ls st h) : At l d 38 n0 Qp 65 ls st h := sound g_38.2.1 (by rw [g_38.2.2.2]; exact hN) hd k_38_65 65 k_38_65_ok ls st h (by rw [g_38.2.2.2]; exact hw)
theorem l_38_66 {l : Launch} {d n0 : Nat} {Qp : PQ} {ls : List (Option PV)} {st : List PV} {h : PMem} (hd : 1 ≤ d) (hN : n0 ≤ NC) (hw : wp n0 (fun t => At l d 38 n0 Qp t) (CallP (d - 1)) Qp k_38_66 ls st h) : At l d 38 n0 Qp 66 ls st h := sound g_38.2.1 (by rw [g_38.2.2.2]; exact hN) hd k_38_66 66 k_38_66_ok ls st h (by rw [g_38.2.2.2]; exact hw)
theorem l_38_74 {l : Launch} {d n0 : Nat} {Qp : PQ} {ls : List (Option PV)} {st : List PV} {h : PMem} (hd : 1 ≤ d) (hN : n0 ≤ NC) (hw : wp n0 (fun t => At l d 38 n0 Qp t) (CallP (d - 1)) Qp k_38_74 ls st h) : At l d 38 n0 Qp 74 ls st h := sound g_38.2.1 (by rw [g_38.2.2.2]; exact hN) hd k_38_74 74 k_38_74_ok ls st h (by rw [g_38.2.2.2]; exact hw)
theorem l_38_75 {l : Launch} {d n0 : Nat} {Qp : PQ} {ls : List (Option PV)} {st : List PV} {h : PMem} (hd : 1 ≤ d) (hN : n0 ≤ NC) (hw : wp n0 (fun t => At l d 38 n0 Qp t) (CallP (d - 1)) Qp k_38_75 ls st h) : At l d 38 n0 Qp 75 ls st h := sound g_38.2.1 (by rw [g_38.2.2.2]; exact hN) hd k_38_75 75 k_38_75_ok ls st h (by rw [g_38.2.2.2]; exact hw)
theorem l_38_87 {l : Launch} {d n0 : Nat} {Qp : PQ} {ls : List (Option PV)} {st : List PV} {h : PMem} (hd : 1 ≤ d) (hN : n0 ≤ NC) (hw : wp n0 (fun t => At l d 38 n0 Qp t) (CallP (d - 1)) Qp k_38_87 ls st h) : At l d 38 n0 Qp 87 ls st h := sound g_38.2.1 (by rw [g_38.2.2.2]; exact hN) hd k_38_87 87 k_38_87_ok ls st h (by rw [g_38.2.2.2]; exact hw)
theorem l_38_95 {l : Launch} {d n0 : Nat} {Qp : PQ} {ls : List (Option PV)} {st : List PV} {h : PMem} (hd : 1 ≤ d) (hN : n0 ≤ NC) (hw : wp n0 (fun t => At l d 38 n0 Qp t) (CallP (d - 1)) Qp k_38_95 ls st h) : At l d 38 n0 Qp 95 ls st h := sound g_38.2.1 (by rw [g_38.2.2.2]; exact hN) hd k_38_95 95 k_38_95_ok ls st h (by rw [g_38.2.2.2]; exact hw)
theorem l_38_112 {l : Launch} {d n0 : Nat} {Qp : PQ} {ls : List (Option PV)} {st : List PV} {h : PMem} (hd : 1 ≤ d) (hN : n0 ≤ NC) (hw : wp n0 (fun t => At l d 38 n0 Qp t) (CallP (d - 1)) Qp k_38_112 ls st h) : At l d 38 n0 Qp 112 ls st h := sound g_38.2.1 (by rw [g_38.2.2.2]; exact hN) hd k_38_112 112 k_38_112_ok ls st h (by rw [g_38.2.2.2]; exact hw)
theorem l_38_118 {l : Launch} {d n0 : Nat} {Qp : PQ} {ls : List (Option PV)} {st : List PV} {h : PMem} (hd : 1 ≤ d) (hN : n0 ≤ NC) (hw : wp n0 (fun t => At l d 38 n0 Qp t) (CallP (d - 1)) Qp k_38_118 ls st h) : At l d 38 n0 Qp 118 ls st h := sound g_38.2.1 (by rw [g_38.2.2.2]; exact hN) hd k_38_118 118 k_38_118_ok ls st h (by rw [g_38.2.2.2]; exact hw)
theorem l_38_127 {l : Launch} {d n0 : Nat} {Qp : PQ} {ls : List (Option PV)} {st : List PV} {h : PMem} (hd : 1 ≤ d) (hN : n0 ≤ NC) (hw : wp n0 (fun t => At l d 38 n0 Qp t) (CallP (d - 1)) Qp k_38_127 ls st h) : At l d 38 n0 Qp 127 ls st h := sound g_38.2.1 (by rw [g_38.2.2.2]; exact hN) hd k_38_127 127 k_38_127_ok ls st h (by rw [g_38.2.2.2]; exact hw)
theorem l_38_132 {l : Launch} {d n0 : Nat} {Qp : PQ} {ls : List (Option PV)} {st : List PV} {h : PMem} (hd : 1 ≤ d) (hN : n0 ≤ NC) (hw : wp n0 (fun t => At l d 38 n0 Qp t) (CallP (d - 1)) Qp k_38_132 ls st h) : At l d 38 n0 Qp 132 ls st h := sound g_38.2.1 (by rw [g_38.2.2.2]; exact hN) hd k_38_132 132 k_38_132_ok ls st h (by rw [g_38.2.2.2]; exact hw)
theorem f_39 : (((plainName (mY 39).cls && decide (rN (oN 39) = (mY 39).cls)) && decide (mML 39 = 4)) && decide (aC 39 = 0)) = true := by decide +kernel
theorem g_39 : plainName (mY 39).cls = true ∧ rN (oN 39) = (mY 39).cls ∧ mML 39 = 4 ∧ aC 39 = 0 := by
  have h := f_39
  simp only [Bool.and_eq_true, decide_eq_true_eq] at h
  exact ⟨h.1.1.1, h.1.1.2, h.1.2, h.2⟩
theorem s_39 {d : Nat} {Qp : PQ} {v0 : PV} {v1 : PV} {h : PMem} (hd : 1 ≤ d) (hN : h.1 ≤ NC) (c0 : pcat v0 = 1 := by rfl) (c1 : pcat v1 = 1 := by rfl) (hw : ∀ l, wp h.1 (fun t => At l d 39 h.1 (Qn h.1 Qp) t) (CallP (d - 1)) (Qn h.1 Qp) k_39_0 [some v0, some v1, none, none] [] h) : CallP d 39 [v0, v1] h Qp := by
  refine call_of g_39.1 (by rw [g_39.2.2.1]; simp only [pcats, c0, c1, pcatL]; decide) (fun l => ?_)
  have e : ent (mML 39) [v0, v1] = [some v0, some v1, none, none] := by rw [g_39.2.2.1]; simp [ent, pcats, c0, c1, pcatL, List.replicate]
  rw [e]
  refine sound g_39.2.1 (by rw [g_39.2.2.2]; exact hN) hd k_39_0 0 k_39_0_ok _ _ _ ?_
  rw [g_39.2.2.2]
  exact hw l
theorem l_39_7 {l : Launch} {d n0 : Nat} {Qp : PQ} {ls : List (Option PV)} {st : List PV} {h : PMem} (hd : 1 ≤ d) (hN : n0 ≤ NC) (hw : wp n0 (fun t => At l d 39 n0 Qp t) (CallP (d - 1)) Qp k_39_7 ls st h) : At l d 39 n0 Qp 7 ls st h := sound g_39.2.1 (by rw [g_39.2.2.2]; exact hN) hd k_39_7 7 k_39_7_ok ls st h (by rw [g_39.2.2.2]; exact hw)
theorem l_39_22 {l : Launch} {d n0 : Nat} {Qp : PQ} {ls : List (Option PV)} {st : List PV} {h : PMem} (hd : 1 ≤ d) (hN : n0 ≤ NC) (hw : wp n0 (fun t => At l d 39 n0 Qp t) (CallP (d - 1)) Qp k_39_22 ls st h) : At l d 39 n0 Qp 22 ls st h := sound g_39.2.1 (by rw [g_39.2.2.2]; exact hN) hd k_39_22 22 k_39_22_ok ls st h (by rw [g_39.2.2.2]; exact hw)
theorem l_39_38 {l : Launch} {d n0 : Nat} {Qp : PQ} {ls : List (Option PV)} {st : List PV} {h : PMem} (hd : 1 ≤ d) (hN : n0 ≤ NC) (hw : wp n0 (fun t => At l d 39 n0 Qp t) (CallP (d - 1)) Qp k_39_38 ls st h) : At l d 39 n0 Qp 38 ls st h := sound g_39.2.1 (by rw [g_39.2.2.2]; exact hN) hd k_39_38 38 k_39_38_ok ls st h (by rw [g_39.2.2.2]; exact hw)
theorem l_39_50 {l : Launch} {d n0 : Nat} {Qp : PQ} {ls : List (Option PV)} {st : List PV} {h : PMem} (hd : 1 ≤ d) (hN : n0 ≤ NC) (hw : wp n0 (fun t => At l d 39 n0 Qp t) (CallP (d - 1)) Qp k_39_50 ls st h) : At l d 39 n0 Qp 50 ls st h := sound g_39.2.1 (by rw [g_39.2.2.2]; exact hN) hd k_39_50 50 k_39_50_ok ls st h (by rw [g_39.2.2.2]; exact hw)
theorem l_39_51 {l : Launch} {d n0 : Nat} {Qp : PQ} {ls : List (Option PV)} {st : List PV} {h : PMem} (hd : 1 ≤ d) (hN : n0 ≤ NC) (hw : wp n0 (fun t => At l d 39 n0 Qp t) (CallP (d - 1)) Qp k_39_51 ls st h) : At l d 39 n0 Qp 51 ls st h := sound g_39.2.1 (by rw [g_39.2.2.2]; exact hN) hd k_39_51 51 k_39_51_ok ls st h (by rw [g_39.2.2.2]; exact hw)
theorem f_40 : (((plainName (mY 40).cls && decide (rN (oN 40) = (mY 40).cls)) && decide (mML 40 = 1)) && decide (aC 40 = 0)) = true := by decide +kernel
theorem g_40 : plainName (mY 40).cls = true ∧ rN (oN 40) = (mY 40).cls ∧ mML 40 = 1 ∧ aC 40 = 0 := by
  have h := f_40
  simp only [Bool.and_eq_true, decide_eq_true_eq] at h
  exact ⟨h.1.1.1, h.1.1.2, h.1.2, h.2⟩
theorem s_40 {d : Nat} {Qp : PQ} {v0 : PV} {h : PMem} (hd : 1 ≤ d) (hN : h.1 ≤ NC) (c0 : pcat v0 = 1 := by rfl) (hw : ∀ l, wp h.1 (fun t => At l d 40 h.1 (Qn h.1 Qp) t) (CallP (d - 1)) (Qn h.1 Qp) k_40_0 [some v0] [] h) : CallP d 40 [v0] h Qp := by
  refine call_of g_40.1 (by rw [g_40.2.2.1]; simp only [pcats, c0, pcatL]; decide) (fun l => ?_)
  have e : ent (mML 40) [v0] = [some v0] := by rw [g_40.2.2.1]; simp [ent, pcats, c0, pcatL, List.replicate]
  rw [e]
  refine sound g_40.2.1 (by rw [g_40.2.2.2]; exact hN) hd k_40_0 0 k_40_0_ok _ _ _ ?_
  rw [g_40.2.2.2]
  exact hw l
theorem l_40_28 {l : Launch} {d n0 : Nat} {Qp : PQ} {ls : List (Option PV)} {st : List PV} {h : PMem} (hd : 1 ≤ d) (hN : n0 ≤ NC) (hw : wp n0 (fun t => At l d 40 n0 Qp t) (CallP (d - 1)) Qp k_40_28 ls st h) : At l d 40 n0 Qp 28 ls st h := sound g_40.2.1 (by rw [g_40.2.2.2]; exact hN) hd k_40_28 28 k_40_28_ok ls st h (by rw [g_40.2.2.2]; exact hw)
theorem l_40_30 {l : Launch} {d n0 : Nat} {Qp : PQ} {ls : List (Option PV)} {st : List PV} {h : PMem} (hd : 1 ≤ d) (hN : n0 ≤ NC) (hw : wp n0 (fun t => At l d 40 n0 Qp t) (CallP (d - 1)) Qp k_40_30 ls st h) : At l d 40 n0 Qp 30 ls st h := sound g_40.2.1 (by rw [g_40.2.2.2]; exact hN) hd k_40_30 30 k_40_30_ok ls st h (by rw [g_40.2.2.2]; exact hw)
theorem l_40_32 {l : Launch} {d n0 : Nat} {Qp : PQ} {ls : List (Option PV)} {st : List PV} {h : PMem} (hd : 1 ≤ d) (hN : n0 ≤ NC) (hw : wp n0 (fun t => At l d 40 n0 Qp t) (CallP (d - 1)) Qp k_40_32 ls st h) : At l d 40 n0 Qp 32 ls st h := sound g_40.2.1 (by rw [g_40.2.2.2]; exact hN) hd k_40_32 32 k_40_32_ok ls st h (by rw [g_40.2.2.2]; exact hw)
theorem f_41 : (((plainName (mY 41).cls && decide (rN (oN 41) = (mY 41).cls)) && decide (mML 41 = 3)) && decide (aC 41 = 0)) = true := by decide +kernel
theorem g_41 : plainName (mY 41).cls = true ∧ rN (oN 41) = (mY 41).cls ∧ mML 41 = 3 ∧ aC 41 = 0 := by
  have h := f_41
  simp only [Bool.and_eq_true, decide_eq_true_eq] at h
  exact ⟨h.1.1.1, h.1.1.2, h.1.2, h.2⟩
theorem s_41 {d : Nat} {Qp : PQ} {v0 : PV} {v1 : PV} {v2 : PV} {h : PMem} (hd : 1 ≤ d) (hN : h.1 ≤ NC) (c0 : pcat v0 = 1 := by rfl) (c1 : pcat v1 = 1 := by rfl) (c2 : pcat v2 = 1 := by rfl) (hw : ∀ l, wp h.1 (fun t => At l d 41 h.1 (Qn h.1 Qp) t) (CallP (d - 1)) (Qn h.1 Qp) k_41_0 [some v0, some v1, some v2] [] h) : CallP d 41 [v0, v1, v2] h Qp := by
  refine call_of g_41.1 (by rw [g_41.2.2.1]; simp only [pcats, c0, c1, c2, pcatL]; decide) (fun l => ?_)
  have e : ent (mML 41) [v0, v1, v2] = [some v0, some v1, some v2] := by rw [g_41.2.2.1]; simp [ent, pcats, c0, c1, c2, pcatL, List.replicate]
  rw [e]
  refine sound g_41.2.1 (by rw [g_41.2.2.2]; exact hN) hd k_41_0 0 k_41_0_ok _ _ _ ?_
  rw [g_41.2.2.2]
  exact hw l
theorem l_41_32 {l : Launch} {d n0 : Nat} {Qp : PQ} {ls : List (Option PV)} {st : List PV} {h : PMem} (hd : 1 ≤ d) (hN : n0 ≤ NC) (hw : wp n0 (fun t => At l d 41 n0 Qp t) (CallP (d - 1)) Qp k_41_32 ls st h) : At l d 41 n0 Qp 32 ls st h := sound g_41.2.1 (by rw [g_41.2.2.2]; exact hN) hd k_41_32 32 k_41_32_ok ls st h (by rw [g_41.2.2.2]; exact hw)
theorem l_41_43 {l : Launch} {d n0 : Nat} {Qp : PQ} {ls : List (Option PV)} {st : List PV} {h : PMem} (hd : 1 ≤ d) (hN : n0 ≤ NC) (hw : wp n0 (fun t => At l d 41 n0 Qp t) (CallP (d - 1)) Qp k_41_43 ls st h) : At l d 41 n0 Qp 43 ls st h := sound g_41.2.1 (by rw [g_41.2.2.2]; exact hN) hd k_41_43 43 k_41_43_ok ls st h (by rw [g_41.2.2.2]; exact hw)
theorem l_41_60 {l : Launch} {d n0 : Nat} {Qp : PQ} {ls : List (Option PV)} {st : List PV} {h : PMem} (hd : 1 ≤ d) (hN : n0 ≤ NC) (hw : wp n0 (fun t => At l d 41 n0 Qp t) (CallP (d - 1)) Qp k_41_60 ls st h) : At l d 41 n0 Qp 60 ls st h := sound g_41.2.1 (by rw [g_41.2.2.2]; exact hN) hd k_41_60 60 k_41_60_ok ls st h (by rw [g_41.2.2.2]; exact hw)
theorem l_41_83 {l : Launch} {d n0 : Nat} {Qp : PQ} {ls : List (Option PV)} {st : List PV} {h : PMem} (hd : 1 ≤ d) (hN : n0 ≤ NC) (hw : wp n0 (fun t => At l d 41 n0 Qp t) (CallP (d - 1)) Qp k_41_83 ls st h) : At l d 41 n0 Qp 83 ls st h := sound g_41.2.1 (by rw [g_41.2.2.2]; exact hN) hd k_41_83 83 k_41_83_ok ls st h (by rw [g_41.2.2.2]; exact hw)
theorem l_41_106 {l : Launch} {d n0 : Nat} {Qp : PQ} {ls : List (Option PV)} {st : List PV} {h : PMem} (hd : 1 ≤ d) (hN : n0 ≤ NC) (hw : wp n0 (fun t => At l d 41 n0 Qp t) (CallP (d - 1)) Qp k_41_106 ls st h) : At l d 41 n0 Qp 106 ls st h := sound g_41.2.1 (by rw [g_41.2.2.2]; exact hN) hd k_41_106 106 k_41_106_ok ls st h (by rw [g_41.2.2.2]; exact hw)
theorem f_42 : (((plainName (mY 42).cls && decide (rN (oN 42) = (mY 42).cls)) && decide (mML 42 = 1)) && decide (aC 42 = 0)) = true := by decide +kernel
theorem g_42 : plainName (mY 42).cls = true ∧ rN (oN 42) = (mY 42).cls ∧ mML 42 = 1 ∧ aC 42 = 0 := by
  have h := f_42
  simp only [Bool.and_eq_true, decide_eq_true_eq] at h
  exact ⟨h.1.1.1, h.1.1.2, h.1.2, h.2⟩
theorem s_42 {d : Nat} {Qp : PQ} {v0 : PV} {h : PMem} (hd : 1 ≤ d) (hN : h.1 ≤ NC) (c0 : pcat v0 = 1 := by rfl) (hw : ∀ l, wp h.1 (fun t => At l d 42 h.1 (Qn h.1 Qp) t) (CallP (d - 1)) (Qn h.1 Qp) k_42_0 [some v0] [] h) : CallP d 42 [v0] h Qp := by
  refine call_of g_42.1 (by rw [g_42.2.2.1]; simp only [pcats, c0, pcatL]; decide) (fun l => ?_)
  have e : ent (mML 42) [v0] = [some v0] := by rw [g_42.2.2.1]; simp [ent, pcats, c0, pcatL, List.replicate]
  rw [e]
  refine sound g_42.2.1 (by rw [g_42.2.2.2]; exact hN) hd k_42_0 0 k_42_0_ok _ _ _ ?_
  rw [g_42.2.2.2]
  exact hw l
theorem l_42_8 {l : Launch} {d n0 : Nat} {Qp : PQ} {ls : List (Option PV)} {st : List PV} {h : PMem} (hd : 1 ≤ d) (hN : n0 ≤ NC) (hw : wp n0 (fun t => At l d 42 n0 Qp t) (CallP (d - 1)) Qp k_42_8 ls st h) : At l d 42 n0 Qp 8 ls st h := sound g_42.2.1 (by rw [g_42.2.2.2]; exact hN) hd k_42_8 8 k_42_8_ok ls st h (by rw [g_42.2.2.2]; exact hw)
theorem l_42_46 {l : Launch} {d n0 : Nat} {Qp : PQ} {ls : List (Option PV)} {st : List PV} {h : PMem} (hd : 1 ≤ d) (hN : n0 ≤ NC) (hw : wp n0 (fun t => At l d 42 n0 Qp t) (CallP (d - 1)) Qp k_42_46 ls st h) : At l d 42 n0 Qp 46 ls st h := sound g_42.2.1 (by rw [g_42.2.2.2]; exact hN) hd k_42_46 46 k_42_46_ok ls st h (by rw [g_42.2.2.2]; exact hw)
theorem l_42_67 {l : Launch} {d n0 : Nat} {Qp : PQ} {ls : List (Option PV)} {st : List PV} {h : PMem} (hd : 1 ≤ d) (hN : n0 ≤ NC) (hw : wp n0 (fun t => At l d 42 n0 Qp t) (CallP (d - 1)) Qp k_42_67 ls st h) : At l d 42 n0 Qp 67 ls st h := sound g_42.2.1 (by rw [g_42.2.2.2]; exact hN) hd k_42_67 67 k_42_67_ok ls st h (by rw [g_42.2.2.2]; exact hw)
theorem l_42_92 {l : Launch} {d n0 : Nat} {Qp : PQ} {ls : List (Option PV)} {st : List PV} {h : PMem} (hd : 1 ≤ d) (hN : n0 ≤ NC) (hw : wp n0 (fun t => At l d 42 n0 Qp t) (CallP (d - 1)) Qp k_42_92 ls st h) : At l d 42 n0 Qp 92 ls st h := sound g_42.2.1 (by rw [g_42.2.2.2]; exact hN) hd k_42_92 92 k_42_92_ok ls st h (by rw [g_42.2.2.2]; exact hw)
theorem l_42_131 {l : Launch} {d n0 : Nat} {Qp : PQ} {ls : List (Option PV)} {st : List PV} {h : PMem} (hd : 1 ≤ d) (hN : n0 ≤ NC) (hw : wp n0 (fun t => At l d 42 n0 Qp t) (CallP (d - 1)) Qp k_42_131 ls st h) : At l d 42 n0 Qp 131 ls st h := sound g_42.2.1 (by rw [g_42.2.2.2]; exact hN) hd k_42_131 131 k_42_131_ok ls st h (by rw [g_42.2.2.2]; exact hw)
theorem l_42_133 {l : Launch} {d n0 : Nat} {Qp : PQ} {ls : List (Option PV)} {st : List PV} {h : PMem} (hd : 1 ≤ d) (hN : n0 ≤ NC) (hw : wp n0 (fun t => At l d 42 n0 Qp t) (CallP (d - 1)) Qp k_42_133 ls st h) : At l d 42 n0 Qp 133 ls st h := sound g_42.2.1 (by rw [g_42.2.2.2]; exact hN) hd k_42_133 133 k_42_133_ok ls st h (by rw [g_42.2.2.2]; exact hw)
theorem l_42_148 {l : Launch} {d n0 : Nat} {Qp : PQ} {ls : List (Option PV)} {st : List PV} {h : PMem} (hd : 1 ≤ d) (hN : n0 ≤ NC) (hw : wp n0 (fun t => At l d 42 n0 Qp t) (CallP (d - 1)) Qp k_42_148 ls st h) : At l d 42 n0 Qp 148 ls st h := sound g_42.2.1 (by rw [g_42.2.2.2]; exact hN) hd k_42_148 148 k_42_148_ok ls st h (by rw [g_42.2.2.2]; exact hw)
theorem l_42_187 {l : Launch} {d n0 : Nat} {Qp : PQ} {ls : List (Option PV)} {st : List PV} {h : PMem} (hd : 1 ≤ d) (hN : n0 ≤ NC) (hw : wp n0 (fun t => At l d 42 n0 Qp t) (CallP (d - 1)) Qp k_42_187 ls st h) : At l d 42 n0 Qp 187 ls st h := sound g_42.2.1 (by rw [g_42.2.2.2]; exact hN) hd k_42_187 187 k_42_187_ok ls st h (by rw [g_42.2.2.2]; exact hw)
theorem l_42_204 {l : Launch} {d n0 : Nat} {Qp : PQ} {ls : List (Option PV)} {st : List PV} {h : PMem} (hd : 1 ≤ d) (hN : n0 ≤ NC) (hw : wp n0 (fun t => At l d 42 n0 Qp t) (CallP (d - 1)) Qp k_42_204 ls st h) : At l d 42 n0 Qp 204 ls st h := sound g_42.2.1 (by rw [g_42.2.2.2]; exact hN) hd k_42_204 204 k_42_204_ok ls st h (by rw [g_42.2.2.2]; exact hw)
theorem l_42_205 {l : Launch} {d n0 : Nat} {Qp : PQ} {ls : List (Option PV)} {st : List PV} {h : PMem} (hd : 1 ≤ d) (hN : n0 ≤ NC) (hw : wp n0 (fun t => At l d 42 n0 Qp t) (CallP (d - 1)) Qp k_42_205 ls st h) : At l d 42 n0 Qp 205 ls st h := sound g_42.2.1 (by rw [g_42.2.2.2]; exact hN) hd k_42_205 205 k_42_205_ok ls st h (by rw [g_42.2.2.2]; exact hw)
theorem l_42_206 {l : Launch} {d n0 : Nat} {Qp : PQ} {ls : List (Option PV)} {st : List PV} {h : PMem} (hd : 1 ≤ d) (hN : n0 ≤ NC) (hw : wp n0 (fun t => At l d 42 n0 Qp t) (CallP (d - 1)) Qp k_42_206 ls st h) : At l d 42 n0 Qp 206 ls st h := sound g_42.2.1 (by rw [g_42.2.2.2]; exact hN) hd k_42_206 206 k_42_206_ok ls st h (by rw [g_42.2.2.2]; exact hw)
theorem l_42_224 {l : Launch} {d n0 : Nat} {Qp : PQ} {ls : List (Option PV)} {st : List PV} {h : PMem} (hd : 1 ≤ d) (hN : n0 ≤ NC) (hw : wp n0 (fun t => At l d 42 n0 Qp t) (CallP (d - 1)) Qp k_42_224 ls st h) : At l d 42 n0 Qp 224 ls st h := sound g_42.2.1 (by rw [g_42.2.2.2]; exact hN) hd k_42_224 224 k_42_224_ok ls st h (by rw [g_42.2.2.2]; exact hw)
theorem l_42_225 {l : Launch} {d n0 : Nat} {Qp : PQ} {ls : List (Option PV)} {st : List PV} {h : PMem} (hd : 1 ≤ d) (hN : n0 ≤ NC) (hw : wp n0 (fun t => At l d 42 n0 Qp t) (CallP (d - 1)) Qp k_42_225 ls st h) : At l d 42 n0 Qp 225 ls st h := sound g_42.2.1 (by rw [g_42.2.2.2]; exact hN) hd k_42_225 225 k_42_225_ok ls st h (by rw [g_42.2.2.2]; exact hw)
theorem f_43 : (((plainName (mY 43).cls && decide (rN (oN 43) = (mY 43).cls)) && decide (mML 43 = 1)) && decide (aC 43 = 0)) = true := by decide +kernel
theorem g_43 : plainName (mY 43).cls = true ∧ rN (oN 43) = (mY 43).cls ∧ mML 43 = 1 ∧ aC 43 = 0 := by
  have h := f_43
  simp only [Bool.and_eq_true, decide_eq_true_eq] at h
  exact ⟨h.1.1.1, h.1.1.2, h.1.2, h.2⟩
theorem s_43 {d : Nat} {Qp : PQ} {v0 : PV} {h : PMem} (hd : 1 ≤ d) (hN : h.1 ≤ NC) (c0 : pcat v0 = 1 := by rfl) (hw : ∀ l, wp h.1 (fun t => At l d 43 h.1 (Qn h.1 Qp) t) (CallP (d - 1)) (Qn h.1 Qp) k_43_0 [some v0] [] h) : CallP d 43 [v0] h Qp := by
  refine call_of g_43.1 (by rw [g_43.2.2.1]; simp only [pcats, c0, pcatL]; decide) (fun l => ?_)
  have e : ent (mML 43) [v0] = [some v0] := by rw [g_43.2.2.1]; simp [ent, pcats, c0, pcatL, List.replicate]
  rw [e]
  refine sound g_43.2.1 (by rw [g_43.2.2.2]; exact hN) hd k_43_0 0 k_43_0_ok _ _ _ ?_
  rw [g_43.2.2.2]
  exact hw l
theorem l_43_16 {l : Launch} {d n0 : Nat} {Qp : PQ} {ls : List (Option PV)} {st : List PV} {h : PMem} (hd : 1 ≤ d) (hN : n0 ≤ NC) (hw : wp n0 (fun t => At l d 43 n0 Qp t) (CallP (d - 1)) Qp k_43_16 ls st h) : At l d 43 n0 Qp 16 ls st h := sound g_43.2.1 (by rw [g_43.2.2.2]; exact hN) hd k_43_16 16 k_43_16_ok ls st h (by rw [g_43.2.2.2]; exact hw)
theorem l_43_17 {l : Launch} {d n0 : Nat} {Qp : PQ} {ls : List (Option PV)} {st : List PV} {h : PMem} (hd : 1 ≤ d) (hN : n0 ≤ NC) (hw : wp n0 (fun t => At l d 43 n0 Qp t) (CallP (d - 1)) Qp k_43_17 ls st h) : At l d 43 n0 Qp 17 ls st h := sound g_43.2.1 (by rw [g_43.2.2.2]; exact hN) hd k_43_17 17 k_43_17_ok ls st h (by rw [g_43.2.2.2]; exact hw)
theorem f_44 : (((plainName (mY 44).cls && decide (rN (oN 44) = (mY 44).cls)) && decide (mML 44 = 1)) && decide (aC 44 = 0)) = true := by decide +kernel
theorem g_44 : plainName (mY 44).cls = true ∧ rN (oN 44) = (mY 44).cls ∧ mML 44 = 1 ∧ aC 44 = 0 := by
  have h := f_44
  simp only [Bool.and_eq_true, decide_eq_true_eq] at h
  exact ⟨h.1.1.1, h.1.1.2, h.1.2, h.2⟩
theorem s_44 {d : Nat} {Qp : PQ} {v0 : PV} {h : PMem} (hd : 1 ≤ d) (hN : h.1 ≤ NC) (c0 : pcat v0 = 1 := by rfl) (hw : ∀ l, wp h.1 (fun t => At l d 44 h.1 (Qn h.1 Qp) t) (CallP (d - 1)) (Qn h.1 Qp) k_44_0 [some v0] [] h) : CallP d 44 [v0] h Qp := by
  refine call_of g_44.1 (by rw [g_44.2.2.1]; simp only [pcats, c0, pcatL]; decide) (fun l => ?_)
  have e : ent (mML 44) [v0] = [some v0] := by rw [g_44.2.2.1]; simp [ent, pcats, c0, pcatL, List.replicate]
  rw [e]
  refine sound g_44.2.1 (by rw [g_44.2.2.2]; exact hN) hd k_44_0 0 k_44_0_ok _ _ _ ?_
  rw [g_44.2.2.2]
  exact hw l
theorem l_44_16 {l : Launch} {d n0 : Nat} {Qp : PQ} {ls : List (Option PV)} {st : List PV} {h : PMem} (hd : 1 ≤ d) (hN : n0 ≤ NC) (hw : wp n0 (fun t => At l d 44 n0 Qp t) (CallP (d - 1)) Qp k_44_16 ls st h) : At l d 44 n0 Qp 16 ls st h := sound g_44.2.1 (by rw [g_44.2.2.2]; exact hN) hd k_44_16 16 k_44_16_ok ls st h (by rw [g_44.2.2.2]; exact hw)
theorem l_44_17 {l : Launch} {d n0 : Nat} {Qp : PQ} {ls : List (Option PV)} {st : List PV} {h : PMem} (hd : 1 ≤ d) (hN : n0 ≤ NC) (hw : wp n0 (fun t => At l d 44 n0 Qp t) (CallP (d - 1)) Qp k_44_17 ls st h) : At l d 44 n0 Qp 17 ls st h := sound g_44.2.1 (by rw [g_44.2.2.2]; exact hN) hd k_44_17 17 k_44_17_ok ls st h (by rw [g_44.2.2.2]; exact hw)
theorem f_45 : (((plainName (mY 45).cls && decide (rN (oN 45) = (mY 45).cls)) && decide (mML 45 = 3)) && decide (aC 45 = 0)) = true := by decide +kernel
theorem g_45 : plainName (mY 45).cls = true ∧ rN (oN 45) = (mY 45).cls ∧ mML 45 = 3 ∧ aC 45 = 0 := by
  have h := f_45
  simp only [Bool.and_eq_true, decide_eq_true_eq] at h
  exact ⟨h.1.1.1, h.1.1.2, h.1.2, h.2⟩
theorem s_45 {d : Nat} {Qp : PQ} {v0 : PV} {h : PMem} (hd : 1 ≤ d) (hN : h.1 ≤ NC) (c0 : pcat v0 = 1 := by rfl) (hw : ∀ l, wp h.1 (fun t => At l d 45 h.1 (Qn h.1 Qp) t) (CallP (d - 1)) (Qn h.1 Qp) k_45_0 [some v0, none, none] [] h) : CallP d 45 [v0] h Qp := by
  refine call_of g_45.1 (by rw [g_45.2.2.1]; simp only [pcats, c0, pcatL]; decide) (fun l => ?_)
  have e : ent (mML 45) [v0] = [some v0, none, none] := by rw [g_45.2.2.1]; simp [ent, pcats, c0, pcatL, List.replicate]
  rw [e]
  refine sound g_45.2.1 (by rw [g_45.2.2.2]; exact hN) hd k_45_0 0 k_45_0_ok _ _ _ ?_
  rw [g_45.2.2.2]
  exact hw l
theorem l_45_7 {l : Launch} {d n0 : Nat} {Qp : PQ} {ls : List (Option PV)} {st : List PV} {h : PMem} (hd : 1 ≤ d) (hN : n0 ≤ NC) (hw : wp n0 (fun t => At l d 45 n0 Qp t) (CallP (d - 1)) Qp k_45_7 ls st h) : At l d 45 n0 Qp 7 ls st h := sound g_45.2.1 (by rw [g_45.2.2.2]; exact hN) hd k_45_7 7 k_45_7_ok ls st h (by rw [g_45.2.2.2]; exact hw)
theorem l_45_36 {l : Launch} {d n0 : Nat} {Qp : PQ} {ls : List (Option PV)} {st : List PV} {h : PMem} (hd : 1 ≤ d) (hN : n0 ≤ NC) (hw : wp n0 (fun t => At l d 45 n0 Qp t) (CallP (d - 1)) Qp k_45_36 ls st h) : At l d 45 n0 Qp 36 ls st h := sound g_45.2.1 (by rw [g_45.2.2.2]; exact hN) hd k_45_36 36 k_45_36_ok ls st h (by rw [g_45.2.2.2]; exact hw)
theorem f_46 : (((plainName (mY 46).cls && decide (rN (oN 46) = (mY 46).cls)) && decide (mML 46 = 1)) && decide (aC 46 = 0)) = true := by decide +kernel
theorem g_46 : plainName (mY 46).cls = true ∧ rN (oN 46) = (mY 46).cls ∧ mML 46 = 1 ∧ aC 46 = 0 := by
  have h := f_46
  simp only [Bool.and_eq_true, decide_eq_true_eq] at h
  exact ⟨h.1.1.1, h.1.1.2, h.1.2, h.2⟩
theorem s_46 {d : Nat} {Qp : PQ} {v0 : PV} {h : PMem} (hd : 1 ≤ d) (hN : h.1 ≤ NC) (c0 : pcat v0 = 1 := by rfl) (hw : ∀ l, wp h.1 (fun t => At l d 46 h.1 (Qn h.1 Qp) t) (CallP (d - 1)) (Qn h.1 Qp) k_46_0 [some v0] [] h) : CallP d 46 [v0] h Qp := by
  refine call_of g_46.1 (by rw [g_46.2.2.1]; simp only [pcats, c0, pcatL]; decide) (fun l => ?_)
  have e : ent (mML 46) [v0] = [some v0] := by rw [g_46.2.2.1]; simp [ent, pcats, c0, pcatL, List.replicate]
  rw [e]
  refine sound g_46.2.1 (by rw [g_46.2.2.2]; exact hN) hd k_46_0 0 k_46_0_ok _ _ _ ?_
  rw [g_46.2.2.2]
  exact hw l
theorem l_46_11 {l : Launch} {d n0 : Nat} {Qp : PQ} {ls : List (Option PV)} {st : List PV} {h : PMem} (hd : 1 ≤ d) (hN : n0 ≤ NC) (hw : wp n0 (fun t => At l d 46 n0 Qp t) (CallP (d - 1)) Qp k_46_11 ls st h) : At l d 46 n0 Qp 11 ls st h := sound g_46.2.1 (by rw [g_46.2.2.2]; exact hN) hd k_46_11 11 k_46_11_ok ls st h (by rw [g_46.2.2.2]; exact hw)
theorem l_46_22 {l : Launch} {d n0 : Nat} {Qp : PQ} {ls : List (Option PV)} {st : List PV} {h : PMem} (hd : 1 ≤ d) (hN : n0 ≤ NC) (hw : wp n0 (fun t => At l d 46 n0 Qp t) (CallP (d - 1)) Qp k_46_22 ls st h) : At l d 46 n0 Qp 22 ls st h := sound g_46.2.1 (by rw [g_46.2.2.2]; exact hN) hd k_46_22 22 k_46_22_ok ls st h (by rw [g_46.2.2.2]; exact hw)
theorem l_46_33 {l : Launch} {d n0 : Nat} {Qp : PQ} {ls : List (Option PV)} {st : List PV} {h : PMem} (hd : 1 ≤ d) (hN : n0 ≤ NC) (hw : wp n0 (fun t => At l d 46 n0 Qp t) (CallP (d - 1)) Qp k_46_33 ls st h) : At l d 46 n0 Qp 33 ls st h := sound g_46.2.1 (by rw [g_46.2.2.2]; exact hN) hd k_46_33 33 k_46_33_ok ls st h (by rw [g_46.2.2.2]; exact hw)
theorem l_46_44 {l : Launch} {d n0 : Nat} {Qp : PQ} {ls : List (Option PV)} {st : List PV} {h : PMem} (hd : 1 ≤ d) (hN : n0 ≤ NC) (hw : wp n0 (fun t => At l d 46 n0 Qp t) (CallP (d - 1)) Qp k_46_44 ls st h) : At l d 46 n0 Qp 44 ls st h := sound g_46.2.1 (by rw [g_46.2.2.2]; exact hN) hd k_46_44 44 k_46_44_ok ls st h (by rw [g_46.2.2.2]; exact hw)
theorem l_46_57 {l : Launch} {d n0 : Nat} {Qp : PQ} {ls : List (Option PV)} {st : List PV} {h : PMem} (hd : 1 ≤ d) (hN : n0 ≤ NC) (hw : wp n0 (fun t => At l d 46 n0 Qp t) (CallP (d - 1)) Qp k_46_57 ls st h) : At l d 46 n0 Qp 57 ls st h := sound g_46.2.1 (by rw [g_46.2.2.2]; exact hN) hd k_46_57 57 k_46_57_ok ls st h (by rw [g_46.2.2.2]; exact hw)
theorem l_46_58 {l : Launch} {d n0 : Nat} {Qp : PQ} {ls : List (Option PV)} {st : List PV} {h : PMem} (hd : 1 ≤ d) (hN : n0 ≤ NC) (hw : wp n0 (fun t => At l d 46 n0 Qp t) (CallP (d - 1)) Qp k_46_58 ls st h) : At l d 46 n0 Qp 58 ls st h := sound g_46.2.1 (by rw [g_46.2.2.2]; exact hN) hd k_46_58 58 k_46_58_ok ls st h (by rw [g_46.2.2.2]; exact hw)
theorem f_47 : (((plainName (mY 47).cls && decide (rN (oN 47) = (mY 47).cls)) && decide (mML 47 = 3)) && decide (aC 47 = 0)) = true := by decide +kernel
theorem g_47 : plainName (mY 47).cls = true ∧ rN (oN 47) = (mY 47).cls ∧ mML 47 = 3 ∧ aC 47 = 0 := by
  have h := f_47
  simp only [Bool.and_eq_true, decide_eq_true_eq] at h
  exact ⟨h.1.1.1, h.1.1.2, h.1.2, h.2⟩
theorem s_47 {d : Nat} {Qp : PQ} {v0 : PV} {v1 : PV} {h : PMem} (hd : 1 ≤ d) (hN : h.1 ≤ NC) (c0 : pcat v0 = 1 := by rfl) (c1 : pcat v1 = 1 := by rfl) (hw : ∀ l, wp h.1 (fun t => At l d 47 h.1 (Qn h.1 Qp) t) (CallP (d - 1)) (Qn h.1 Qp) k_47_0 [some v0, some v1, none] [] h) : CallP d 47 [v0, v1] h Qp := by
  refine call_of g_47.1 (by rw [g_47.2.2.1]; simp only [pcats, c0, c1, pcatL]; decide) (fun l => ?_)
  have e : ent (mML 47) [v0, v1] = [some v0, some v1, none] := by rw [g_47.2.2.1]; simp [ent, pcats, c0, c1, pcatL, List.replicate]
  rw [e]
  refine sound g_47.2.1 (by rw [g_47.2.2.2]; exact hN) hd k_47_0 0 k_47_0_ok _ _ _ ?_
  rw [g_47.2.2.2]
  exact hw l
theorem l_47_18 {l : Launch} {d n0 : Nat} {Qp : PQ} {ls : List (Option PV)} {st : List PV} {h : PMem} (hd : 1 ≤ d) (hN : n0 ≤ NC) (hw : wp n0 (fun t => At l d 47 n0 Qp t) (CallP (d - 1)) Qp k_47_18 ls st h) : At l d 47 n0 Qp 18 ls st h := sound g_47.2.1 (by rw [g_47.2.2.2]; exact hN) hd k_47_18 18 k_47_18_ok ls st h (by rw [g_47.2.2.2]; exact hw)
theorem l_47_20 {l : Launch} {d n0 : Nat} {Qp : PQ} {ls : List (Option PV)} {st : List PV} {h : PMem} (hd : 1 ≤ d) (hN : n0 ≤ NC) (hw : wp n0 (fun t => At l d 47 n0 Qp t) (CallP (d - 1)) Qp k_47_20 ls st h) : At l d 47 n0 Qp 20 ls st h := sound g_47.2.1 (by rw [g_47.2.2.2]; exact hN) hd k_47_20 20 k_47_20_ok ls st h (by rw [g_47.2.2.2]; exact hw)
theorem l_47_49 {l : Launch} {d n0 : Nat} {Qp : PQ} {ls : List (Option PV)} {st : List PV} {h : PMem} (hd : 1 ≤ d) (hN : n0 ≤ NC) (hw : wp n0 (fun t => At l d 47 n0 Qp t) (CallP (d - 1)) Qp k_47_49 ls st h) : At l d 47 n0 Qp 49 ls st h := sound g_47.2.1 (by rw [g_47.2.2.2]; exact hN) hd k_47_49 49 k_47_49_ok ls st h (by rw [g_47.2.2.2]; exact hw)
theorem l_47_55 {l : Launch} {d n0 : Nat} {Qp : PQ} {ls : List (Option PV)} {st : List PV} {h : PMem} (hd : 1 ≤ d) (hN : n0 ≤ NC) (hw : wp n0 (fun t => At l d 47 n0 Qp t) (CallP (d - 1)) Qp k_47_55 ls st h) : At l d 47 n0 Qp 55 ls st h := sound g_47.2.1 (by rw [g_47.2.2.2]; exact hN) hd k_47_55 55 k_47_55_ok ls st h (by rw [g_47.2.2.2]; exact hw)
theorem f_48 : (((plainName (mY 48).cls && decide (rN (oN 48) = (mY 48).cls)) && decide (mML 48 = 4)) && decide (aC 48 = 0)) = true := by decide +kernel
theorem g_48 : plainName (mY 48).cls = true ∧ rN (oN 48) = (mY 48).cls ∧ mML 48 = 4 ∧ aC 48 = 0 := by
  have h := f_48
  simp only [Bool.and_eq_true, decide_eq_true_eq] at h
  exact ⟨h.1.1.1, h.1.1.2, h.1.2, h.2⟩
theorem s_48 {d : Nat} {Qp : PQ} {v0 : PV} {v1 : PV} {h : PMem} (hd : 1 ≤ d) (hN : h.1 ≤ NC) (c0 : pcat v0 = 1 := by rfl) (c1 : pcat v1 = 1 := by rfl) (hw : ∀ l, wp h.1 (fun t => At l d 48 h.1 (Qn h.1 Qp) t) (CallP (d - 1)) (Qn h.1 Qp) k_48_0 [some v0, some v1, none, none] [] h) : CallP d 48 [v0, v1] h Qp := by
  refine call_of g_48.1 (by rw [g_48.2.2.1]; simp only [pcats, c0, c1, pcatL]; decide) (fun l => ?_)
  have e : ent (mML 48) [v0, v1] = [some v0, some v1, none, none] := by rw [g_48.2.2.1]; simp [ent, pcats, c0, c1, pcatL, List.replicate]
  rw [e]
  refine sound g_48.2.1 (by rw [g_48.2.2.2]; exact hN) hd k_48_0 0 k_48_0_ok _ _ _ ?_
  rw [g_48.2.2.2]
  exact hw l
theorem l_48_7 {l : Launch} {d n0 : Nat} {Qp : PQ} {ls : List (Option PV)} {st : List PV} {h : PMem} (hd : 1 ≤ d) (hN : n0 ≤ NC) (hw : wp n0 (fun t => At l d 48 n0 Qp t) (CallP (d - 1)) Qp k_48_7 ls st h) : At l d 48 n0 Qp 7 ls st h := sound g_48.2.1 (by rw [g_48.2.2.2]; exact hN) hd k_48_7 7 k_48_7_ok ls st h (by rw [g_48.2.2.2]; exact hw)
theorem l_48_29 {l : Launch} {d n0 : Nat} {Qp : PQ} {ls : List (Option PV)} {st : List PV} {h : PMem} (hd : 1 ≤ d) (hN : n0 ≤ NC) (hw : wp n0 (fun t => At l d 48 n0 Qp t) (CallP (d - 1)) Qp k_48_29 ls st h) : At l d 48 n0 Qp 29 ls st h := sound g_48.2.1 (by rw [g_48.2.2.2]; exact hN) hd k_48_29 29 k_48_29_ok ls st h (by rw [g_48.2.2.2]; exact hw)
theorem l_48_50 {l : Launch} {d n0 : Nat} {Qp : PQ} {ls : List (Option PV)} {st : List PV} {h : PMem} (hd : 1 ≤ d) (hN : n0 ≤ NC) (hw : wp n0 (fun t => At l d 48 n0 Qp t) (CallP (d - 1)) Qp k_48_50 ls st h) : At l d 48 n0 Qp 50 ls st h := sound g_48.2.1 (by rw [g_48.2.2.2]; exact hN) hd k_48_50 50 k_48_50_ok ls st h (by rw [g_48.2.2.2]; exact hw)
theorem l_48_56 {l : Launch} {d n0 : Nat} {Qp : PQ} {ls : List (Option PV)} {st : List PV} {h : PMem} (hd : 1 ≤ d) (hN : n0 ≤ NC) (hw : wp n0 (fun t => At l d 48 n0 Qp t) (CallP (d - 1)) Qp k_48_56 ls st h) : At l d 48 n0 Qp 56 ls st h := sound g_48.2.1 (by rw [g_48.2.2.2]; exact hN) hd k_48_56 56 k_48_56_ok ls st h (by rw [g_48.2.2.2]; exact hw)
theorem l_48_58 {l : Launch} {d n0 : Nat} {Qp : PQ} {ls : List (Option PV)} {st : List PV} {h : PMem} (hd : 1 ≤ d) (hN : n0 ≤ NC) (hw : wp n0 (fun t => At l d 48 n0 Qp t) (CallP (d - 1)) Qp k_48_58 ls st h) : At l d 48 n0 Qp 58 ls st h := sound g_48.2.1 (by rw [g_48.2.2.2]; exact hN) hd k_48_58 58 k_48_58_ok ls st h (by rw [g_48.2.2.2]; exact hw)
theorem l_48_84 {l : Launch} {d n0 : Nat} {Qp : PQ} {ls : List (Option PV)} {st : List PV} {h : PMem} (hd : 1 ≤ d) (hN : n0 ≤ NC) (hw : wp n0 (fun t => At l d 48 n0 Qp t) (CallP (d - 1)) Qp k_48_84 ls st h) : At l d 48 n0 Qp 84 ls st h := sound g_48.2.1 (by rw [g_48.2.2.2]; exact hN) hd k_48_84 84 k_48_84_ok ls st h (by rw [g_48.2.2.2]; exact hw)
theorem f_49 : (((plainName (mY 49).cls && decide (rN (oN 49) = (mY 49).cls)) && decide (mML 49 = 3)) && decide (aC 49 = 0)) = true := by decide +kernel
theorem g_49 : plainName (mY 49).cls = true ∧ rN (oN 49) = (mY 49).cls ∧ mML 49 = 3 ∧ aC 49 = 0 := by
  have h := f_49
  simp only [Bool.and_eq_true, decide_eq_true_eq] at h
  exact ⟨h.1.1.1, h.1.1.2, h.1.2, h.2⟩
theorem s_49 {d : Nat} {Qp : PQ} {v0 : PV} {v1 : PV} {h : PMem} (hd : 1 ≤ d) (hN : h.1 ≤ NC) (c0 : pcat v0 = 1 := by rfl) (c1 : pcat v1 = 1 := by rfl) (hw : ∀ l, wp h.1 (fun t => At l d 49 h.1 (Qn h.1 Qp) t) (CallP (d - 1)) (Qn h.1 Qp) k_49_0 [some v0, some v1, none] [] h) : CallP d 49 [v0, v1] h Qp := by
  refine call_of g_49.1 (by rw [g_49.2.2.1]; simp only [pcats, c0, c1, pcatL]; decide) (fun l => ?_)
  have e : ent (mML 49) [v0, v1] = [some v0, some v1, none] := by rw [g_49.2.2.1]; simp [ent, pcats, c0, c1, pcatL, List.replicate]
  rw [e]
  refine sound g_49.2.1 (by rw [g_49.2.2.2]; exact hN) hd k_49_0 0 k_49_0_ok _ _ _ ?_
  rw [g_49.2.2.2]
  exact hw l
theorem l_49_13 {l : Launch} {d n0 : Nat} {Qp : PQ} {ls : List (Option PV)} {st : List PV} {h : PMem} (hd : 1 ≤ d) (hN : n0 ≤ NC) (hw : wp n0 (fun t => At l d 49 n0 Qp t) (CallP (d - 1)) Qp k_49_13 ls st h) : At l d 49 n0 Qp 13 ls st h := sound g_49.2.1 (by rw [g_49.2.2.2]; exact hN) hd k_49_13 13 k_49_13_ok ls st h (by rw [g_49.2.2.2]; exact hw)
theorem f_50 : (((plainName (mY 50).cls && decide (rN (oN 50) = (mY 50).cls)) && decide (mML 50 = 4)) && decide (aC 50 = 0)) = true := by decide +kernel
theorem g_50 : plainName (mY 50).cls = true ∧ rN (oN 50) = (mY 50).cls ∧ mML 50 = 4 ∧ aC 50 = 0 := by
  have h := f_50
  simp only [Bool.and_eq_true, decide_eq_true_eq] at h
  exact ⟨h.1.1.1, h.1.1.2, h.1.2, h.2⟩
theorem s_50 {d : Nat} {Qp : PQ} {v0 : PV} {v1 : PV} {v2 : PV} {h : PMem} (hd : 1 ≤ d) (hN : h.1 ≤ NC) (c0 : pcat v0 = 1 := by rfl) (c1 : pcat v1 = 1 := by rfl) (c2 : pcat v2 = 1 := by rfl) (hw : ∀ l, wp h.1 (fun t => At l d 50 h.1 (Qn h.1 Qp) t) (CallP (d - 1)) (Qn h.1 Qp) k_50_0 [some v0, some v1, some v2, none] [] h) : CallP d 50 [v0, v1, v2] h Qp := by
  refine call_of g_50.1 (by rw [g_50.2.2.1]; simp only [pcats, c0, c1, c2, pcatL]; decide) (fun l => ?_)
  have e : ent (mML 50) [v0, v1, v2] = [some v0, some v1, some v2, none] := by rw [g_50.2.2.1]; simp [ent, pcats, c0, c1, c2, pcatL, List.replicate]
  rw [e]
  refine sound g_50.2.1 (by rw [g_50.2.2.2]; exact hN) hd k_50_0 0 k_50_0_ok _ _ _ ?_
  rw [g_50.2.2.2]
  exact hw l
theorem l_50_18 {l : Launch} {d n0 : Nat} {Qp : PQ} {ls : List (Option PV)} {st : List PV} {h : PMem} (hd : 1 ≤ d) (hN : n0 ≤ NC) (hw : wp n0 (fun t => At l d 50 n0 Qp t) (CallP (d - 1)) Qp k_50_18 ls st h) : At l d 50 n0 Qp 18 ls st h := sound g_50.2.1 (by rw [g_50.2.2.2]; exact hN) hd k_50_18 18 k_50_18_ok ls st h (by rw [g_50.2.2.2]; exact hw)
theorem l_50_21 {l : Launch} {d n0 : Nat} {Qp : PQ} {ls : List (Option PV)} {st : List PV} {h : PMem} (hd : 1 ≤ d) (hN : n0 ≤ NC) (hw : wp n0 (fun t => At l d 50 n0 Qp t) (CallP (d - 1)) Qp k_50_21 ls st h) : At l d 50 n0 Qp 21 ls st h := sound g_50.2.1 (by rw [g_50.2.2.2]; exact hN) hd k_50_21 21 k_50_21_ok ls st h (by rw [g_50.2.2.2]; exact hw)
theorem f_51 : (((plainName (mY 51).cls && decide (rN (oN 51) = (mY 51).cls)) && decide (mML 51 = 5)) && decide (aC 51 = 0)) = true := by decide +kernel
theorem g_51 : plainName (mY 51).cls = true ∧ rN (oN 51) = (mY 51).cls ∧ mML 51 = 5 ∧ aC 51 = 0 := by
  have h := f_51
  simp only [Bool.and_eq_true, decide_eq_true_eq] at h
  exact ⟨h.1.1.1, h.1.1.2, h.1.2, h.2⟩
theorem s_51 {d : Nat} {Qp : PQ} {v0 : PV} {v1 : PV} {v2 : PV} {v3 : PV} {h : PMem} (hd : 1 ≤ d) (hN : h.1 ≤ NC) (c0 : pcat v0 = 1 := by rfl) (c1 : pcat v1 = 1 := by rfl) (c2 : pcat v2 = 1 := by rfl) (c3 : pcat v3 = 1 := by rfl) (hw : ∀ l, wp h.1 (fun t => At l d 51 h.1 (Qn h.1 Qp) t) (CallP (d - 1)) (Qn h.1 Qp) k_51_0 [some v0, some v1, some v2, some v3, none] [] h) : CallP d 51 [v0, v1, v2, v3] h Qp := by
  refine call_of g_51.1 (by rw [g_51.2.2.1]; simp only [pcats, c0, c1, c2, c3, pcatL]; decide) (fun l => ?_)
  have e : ent (mML 51) [v0, v1, v2, v3] = [some v0, some v1, some v2, some v3, none] := by rw [g_51.2.2.1]; simp [ent, pcats, c0, c1, c2, c3, pcatL, List.replicate]
  rw [e]
  refine sound g_51.2.1 (by rw [g_51.2.2.2]; exact hN) hd k_51_0 0 k_51_0_ok _ _ _ ?_
  rw [g_51.2.2.2]
  exact hw l
theorem l_51_28 {l : Launch} {d n0 : Nat} {Qp : PQ} {ls : List (Option PV)} {st : List PV} {h : PMem} (hd : 1 ≤ d) (hN : n0 ≤ NC) (hw : wp n0 (fun t => At l d 51 n0 Qp t) (CallP (d - 1)) Qp k_51_28 ls st h) : At l d 51 n0 Qp 28 ls st h := sound g_51.2.1 (by rw [g_51.2.2.2]; exact hN) hd k_51_28 28 k_51_28_ok ls st h (by rw [g_51.2.2.2]; exact hw)
theorem l_51_31 {l : Launch} {d n0 : Nat} {Qp : PQ} {ls : List (Option PV)} {st : List PV} {h : PMem} (hd : 1 ≤ d) (hN : n0 ≤ NC) (hw : wp n0 (fun t => At l d 51 n0 Qp t) (CallP (d - 1)) Qp k_51_31 ls st h) : At l d 51 n0 Qp 31 ls st h := sound g_51.2.1 (by rw [g_51.2.2.2]; exact hN) hd k_51_31 31 k_51_31_ok ls st h (by rw [g_51.2.2.2]; exact hw)
theorem f_52 : (((plainName (mY 52).cls && decide (rN (oN 52) = (mY 52).cls)) && decide (mML 52 = 5)) && decide (aC 52 = 0)) = true := by decide +kernel
theorem g_52 : plainName (mY 52).cls = true ∧ rN (oN 52) = (mY 52).cls ∧ mML 52 = 5 ∧ aC 52 = 0 := by
  have h := f_52
  simp only [Bool.and_eq_true, decide_eq_true_eq] at h
  exact ⟨h.1.1.1, h.1.1.2, h.1.2, h.2⟩
theorem s_52 {d : Nat} {Qp : PQ} {v0 : PV} {v1 : PV} {v2 : PV} {v3 : PV} {h : PMem} (hd : 1 ≤ d) (hN : h.1 ≤ NC) (c0 : pcat v0 = 1 := by rfl) (c1 : pcat v1 = 1 := by rfl) (c2 : pcat v2 = 1 := by rfl) (c3 : pcat v3 = 1 := by rfl) (hw : ∀ l, wp h.1 (fun t => At l d 52 h.1 (Qn h.1 Qp) t) (CallP (d - 1)) (Qn h.1 Qp) k_52_0 [some v0, some v1, some v2, some v3, none] [] h) : CallP d 52 [v0, v1, v2, v3] h Qp := by
  refine call_of g_52.1 (by rw [g_52.2.2.1]; simp only [pcats, c0, c1, c2, c3, pcatL]; decide) (fun l => ?_)
  have e : ent (mML 52) [v0, v1, v2, v3] = [some v0, some v1, some v2, some v3, none] := by rw [g_52.2.2.1]; simp [ent, pcats, c0, c1, c2, c3, pcatL, List.replicate]
  rw [e]
  refine sound g_52.2.1 (by rw [g_52.2.2.2]; exact hN) hd k_52_0 0 k_52_0_ok _ _ _ ?_
  rw [g_52.2.2.2]
  exact hw l
theorem l_52_19 {l : Launch} {d n0 : Nat} {Qp : PQ} {ls : List (Option PV)} {st : List PV} {h : PMem} (hd : 1 ≤ d) (hN : n0 ≤ NC) (hw : wp n0 (fun t => At l d 52 n0 Qp t) (CallP (d - 1)) Qp k_52_19 ls st h) : At l d 52 n0 Qp 19 ls st h := sound g_52.2.1 (by rw [g_52.2.2.2]; exact hN) hd k_52_19 19 k_52_19_ok ls st h (by rw [g_52.2.2.2]; exact hw)
theorem l_52_22 {l : Launch} {d n0 : Nat} {Qp : PQ} {ls : List (Option PV)} {st : List PV} {h : PMem} (hd : 1 ≤ d) (hN : n0 ≤ NC) (hw : wp n0 (fun t => At l d 52 n0 Qp t) (CallP (d - 1)) Qp k_52_22 ls st h) : At l d 52 n0 Qp 22 ls st h := sound g_52.2.1 (by rw [g_52.2.2.2]; exact hN) hd k_52_22 22 k_52_22_ok ls st h (by rw [g_52.2.2.2]; exact hw)
theorem f_53 : (((plainName (mY 53).cls && decide (rN (oN 53) = (mY 53).cls)) && decide (mML 53 = 5)) && decide (aC 53 = 0)) = true := by decide +kernel
theorem g_53 : plainName (mY 53).cls = true ∧ rN (oN 53) = (mY 53).cls ∧ mML 53 = 5 ∧ aC 53 = 0 := by
  have h := f_53
  simp only [Bool.and_eq_true, decide_eq_true_eq] at h
  exact ⟨h.1.1.1, h.1.1.2, h.1.2, h.2⟩
theorem s_53 {d : Nat} {Qp : PQ} {v0 : PV} {v1 : PV} {v2 : PV} {v3 : PV} {h : PMem} (hd : 1 ≤ d) (hN : h.1 ≤ NC) (c0 : pcat v0 = 1 := by rfl) (c1 : pcat v1 = 1 := by rfl) (c2 : pcat v2 = 1 := by rfl) (c3 : pcat v3 = 1 := by rfl) (hw : ∀ l, wp h.1 (fun t => At l d 53 h.1 (Qn h.1 Qp) t) (CallP (d - 1)) (Qn h.1 Qp) k_53_0 [some v0, some v1, some v2, some v3, none] [] h) : CallP d 53 [v0, v1, v2, v3] h Qp := by
  refine call_of g_53.1 (by rw [g_53.2.2.1]; simp only [pcats, c0, c1, c2, c3, pcatL]; decide) (fun l => ?_)
  have e : ent (mML 53) [v0, v1, v2, v3] = [some v0, some v1, some v2, some v3, none] := by rw [g_53.2.2.1]; simp [ent, pcats, c0, c1, c2, c3, pcatL, List.replicate]
  rw [e]
  refine sound g_53.2.1 (by rw [g_53.2.2.2]; exact hN) hd k_53_0 0 k_53_0_ok _ _ _ ?_
  rw [g_53.2.2.2]
  exact hw l
theorem l_53_27 {l : Launch} {d n0 : Nat} {Qp : PQ} {ls : List (Option PV)} {st : List PV} {h : PMem} (hd : 1 ≤ d) (hN : n0 ≤ NC) (hw : wp n0 (fun t => At l d 53 n0 Qp t) (CallP (d - 1)) Qp k_53_27 ls st h) : At l d 53 n0 Qp 27 ls st h := sound g_53.2.1 (by rw [g_53.2.2.2]; exact hN) hd k_53_27 27 k_53_27_ok ls st h (by rw [g_53.2.2.2]; exact hw)
theorem l_53_30 {l : Launch} {d n0 : Nat} {Qp : PQ} {ls : List (Option PV)} {st : List PV} {h : PMem} (hd : 1 ≤ d) (hN : n0 ≤ NC) (hw : wp n0 (fun t => At l d 53 n0 Qp t) (CallP (d - 1)) Qp k_53_30 ls st h) : At l d 53 n0 Qp 30 ls st h := sound g_53.2.1 (by rw [g_53.2.2.2]; exact hN) hd k_53_30 30 k_53_30_ok ls st h (by rw [g_53.2.2.2]; exact hw)
theorem f_54 : (((plainName (mY 54).cls && decide (rN (oN 54) = (mY 54).cls)) && decide (mML 54 = 4)) && decide (aC 54 = 0)) = true := by decide +kernel
theorem g_54 : plainName (mY 54).cls = true ∧ rN (oN 54) = (mY 54).cls ∧ mML 54 = 4 ∧ aC 54 = 0 := by
  have h := f_54
  simp only [Bool.and_eq_true, decide_eq_true_eq] at h
  exact ⟨h.1.1.1, h.1.1.2, h.1.2, h.2⟩
theorem s_54 {d : Nat} {Qp : PQ} {v0 : PV} {v1 : PV} {v2 : PV} {v3 : PV} {h : PMem} (hd : 1 ≤ d) (hN : h.1 ≤ NC) (c0 : pcat v0 = 1 := by rfl) (c1 : pcat v1 = 1 := by rfl) (c2 : pcat v2 = 1 := by rfl) (c3 : pcat v3 = 1 := by rfl) (hw : ∀ l, wp h.1 (fun t => At l d 54 h.1 (Qn h.1 Qp) t) (CallP (d - 1)) (Qn h.1 Qp) k_54_0 [some v0, some v1, some v2, some v3] [] h) : CallP d 54 [v0, v1, v2, v3] h Qp := by
  refine call_of g_54.1 (by rw [g_54.2.2.1]; simp only [pcats, c0, c1, c2, c3, pcatL]; decide) (fun l => ?_)
  have e : ent (mML 54) [v0, v1, v2, v3] = [some v0, some v1, some v2, some v3] := by rw [g_54.2.2.1]; simp [ent, pcats, c0, c1, c2, c3, pcatL, List.replicate]
  rw [e]
  refine sound g_54.2.1 (by rw [g_54.2.2.2]; exact hN) hd k_54_0 0 k_54_0_ok _ _ _ ?_
  rw [g_54.2.2.2]
  exact hw l
theorem l_54_15 {l : Launch} {d n0 : Nat} {Qp : PQ} {ls : List (Option PV)} {st : List PV} {h : PMem} (hd : 1 ≤ d) (hN : n0 ≤ NC) (hw : wp n0 (fun t => At l d 54 n0 Qp t) (CallP (d - 1)) Qp k_54_15 ls st h) : At l d 54 n0 Qp 15 ls st h := sound g_54.2.1 (by rw [g_54.2.2.2]; exact hN) hd k_54_15 15 k_54_15_ok ls st h (by rw [g_54.2.2.2]; exact hw)
theorem f_55 : (((plainName (mY 55).cls && decide (rN (oN 55) = (mY 55).cls)) && decide (mML 55 = 2)) && decide (aC 55 = 0)) = true := by decide +kernel
theorem g_55 : plainName (mY 55).cls = true ∧ rN (oN 55) = (mY 55).cls ∧ mML 55 = 2 ∧ aC 55 = 0 := by
  have h := f_55
  simp only [Bool.and_eq_true, decide_eq_true_eq] at h
  exact ⟨h.1.1.1, h.1.1.2, h.1.2, h.2⟩
theorem s_55 {d : Nat} {Qp : PQ} {v0 : PV} {h : PMem} (hd : 1 ≤ d) (hN : h.1 ≤ NC) (c0 : pcat v0 = 1 := by rfl) (hw : ∀ l, wp h.1 (fun t => At l d 55 h.1 (Qn h.1 Qp) t) (CallP (d - 1)) (Qn h.1 Qp) k_55_0 [some v0, none] [] h) : CallP d 55 [v0] h Qp := by
  refine call_of g_55.1 (by rw [g_55.2.2.1]; simp only [pcats, c0, pcatL]; decide) (fun l => ?_)
  have e : ent (mML 55) [v0] = [some v0, none] := by rw [g_55.2.2.1]; simp [ent, pcats, c0, pcatL, List.replicate]
  rw [e]
  refine sound g_55.2.1 (by rw [g_55.2.2.2]; exact hN) hd k_55_0 0 k_55_0_ok _ _ _ ?_
  rw [g_55.2.2.2]
  exact hw l
theorem f_56 : (((plainName (mY 56).cls && decide (rN (oN 56) = (mY 56).cls)) && decide (mML 56 = 3)) && decide (aC 56 = 0)) = true := by decide +kernel
theorem g_56 : plainName (mY 56).cls = true ∧ rN (oN 56) = (mY 56).cls ∧ mML 56 = 3 ∧ aC 56 = 0 := by
  have h := f_56
  simp only [Bool.and_eq_true, decide_eq_true_eq] at h
  exact ⟨h.1.1.1, h.1.1.2, h.1.2, h.2⟩
theorem s_56 {d : Nat} {Qp : PQ} {v0 : PV} {v1 : PV} {h : PMem} (hd : 1 ≤ d) (hN : h.1 ≤ NC) (c0 : pcat v0 = 1 := by rfl) (c1 : pcat v1 = 1 := by rfl) (hw : ∀ l, wp h.1 (fun t => At l d 56 h.1 (Qn h.1 Qp) t) (CallP (d - 1)) (Qn h.1 Qp) k_56_0 [some v0, some v1, none] [] h) : CallP d 56 [v0, v1] h Qp := by
  refine call_of g_56.1 (by rw [g_56.2.2.1]; simp only [pcats, c0, c1, pcatL]; decide) (fun l => ?_)
  have e : ent (mML 56) [v0, v1] = [some v0, some v1, none] := by rw [g_56.2.2.1]; simp [ent, pcats, c0, c1, pcatL, List.replicate]
  rw [e]
  refine sound g_56.2.1 (by rw [g_56.2.2.2]; exact hN) hd k_56_0 0 k_56_0_ok _ _ _ ?_
  rw [g_56.2.2.2]
  exact hw l
theorem l_56_40 {l : Launch} {d n0 : Nat} {Qp : PQ} {ls : List (Option PV)} {st : List PV} {h : PMem} (hd : 1 ≤ d) (hN : n0 ≤ NC) (hw : wp n0 (fun t => At l d 56 n0 Qp t) (CallP (d - 1)) Qp k_56_40 ls st h) : At l d 56 n0 Qp 40 ls st h := sound g_56.2.1 (by rw [g_56.2.2.2]; exact hN) hd k_56_40 40 k_56_40_ok ls st h (by rw [g_56.2.2.2]; exact hw)
theorem l_56_71 {l : Launch} {d n0 : Nat} {Qp : PQ} {ls : List (Option PV)} {st : List PV} {h : PMem} (hd : 1 ≤ d) (hN : n0 ≤ NC) (hw : wp n0 (fun t => At l d 56 n0 Qp t) (CallP (d - 1)) Qp k_56_71 ls st h) : At l d 56 n0 Qp 71 ls st h := sound g_56.2.1 (by rw [g_56.2.2.2]; exact hN) hd k_56_71 71 k_56_71_ok ls st h (by rw [g_56.2.2.2]; exact hw)
theorem l_56_138 {l : Launch} {d n0 : Nat} {Qp : PQ} {ls : List (Option PV)} {st : List PV} {h : PMem} (hd : 1 ≤ d) (hN : n0 ≤ NC) (hw : wp n0 (fun t => At l d 56 n0 Qp t) (CallP (d - 1)) Qp k_56_138 ls st h) : At l d 56 n0 Qp 138 ls st h := sound g_56.2.1 (by rw [g_56.2.2.2]; exact hN) hd k_56_138 138 k_56_138_ok ls st h (by rw [g_56.2.2.2]; exact hw)
theorem l_56_165 {l : Launch} {d n0 : Nat} {Qp : PQ} {ls : List (Option PV)} {st : List PV} {h : PMem} (hd : 1 ≤ d) (hN : n0 ≤ NC) (hw : wp n0 (fun t => At l d 56 n0 Qp t) (CallP (d - 1)) Qp k_56_165 ls st h) : At l d 56 n0 Qp 165 ls st h := sound g_56.2.1 (by rw [g_56.2.2.2]; exact hN) hd k_56_165 165 k_56_165_ok ls st h (by rw [g_56.2.2.2]; exact hw)
theorem f_57 : (((plainName (mY 57).cls && decide (rN (oN 57) = (mY 57).cls)) && decide (mML 57 = 2)) && decide (aC 57 = 0)) = true := by decide +kernel
theorem g_57 : plainName (mY 57).cls = true ∧ rN (oN 57) = (mY 57).cls ∧ mML 57 = 2 ∧ aC 57 = 0 := by
  have h := f_57
  simp only [Bool.and_eq_true, decide_eq_true_eq] at h
  exact ⟨h.1.1.1, h.1.1.2, h.1.2, h.2⟩
theorem s_57 {d : Nat} {Qp : PQ} {v0 : PV} {v1 : PV} {h : PMem} (hd : 1 ≤ d) (hN : h.1 ≤ NC) (c0 : pcat v0 = 1 := by rfl) (c1 : pcat v1 = 1 := by rfl) (hw : ∀ l, wp h.1 (fun t => At l d 57 h.1 (Qn h.1 Qp) t) (CallP (d - 1)) (Qn h.1 Qp) k_57_0 [some v0, some v1] [] h) : CallP d 57 [v0, v1] h Qp := by
  refine call_of g_57.1 (by rw [g_57.2.2.1]; simp only [pcats, c0, c1, pcatL]; decide) (fun l => ?_)
  have e : ent (mML 57) [v0, v1] = [some v0, some v1] := by rw [g_57.2.2.1]; simp [ent, pcats, c0, c1, pcatL, List.replicate]
  rw [e]
  refine sound g_57.2.1 (by rw [g_57.2.2.2]; exact hN) hd k_57_0 0 k_57_0_ok _ _ _ ?_
  rw [g_57.2.2.2]
  exact hw l
theorem f_58 : (((plainName (mY 58).cls && decide (rN (oN 58) = (mY 58).cls)) && decide (mML 58 = 2)) && decide (aC 58 = 0)) = true := by decide +kernel
theorem g_58 : plainName (mY 58).cls = true ∧ rN (oN 58) = (mY 58).cls ∧ mML 58 = 2 ∧ aC 58 = 0 := by
  have h := f_58
  simp only [Bool.and_eq_true, decide_eq_true_eq] at h
  exact ⟨h.1.1.1, h.1.1.2, h.1.2, h.2⟩
theorem s_58 {d : Nat} {Qp : PQ} {v0 : PV} {v1 : PV} {h : PMem} (hd : 1 ≤ d) (hN : h.1 ≤ NC) (c0 : pcat v0 = 1 := by rfl) (c1 : pcat v1 = 1 := by rfl) (hw : ∀ l, wp h.1 (fun t => At l d 58 h.1 (Qn h.1 Qp) t) (CallP (d - 1)) (Qn h.1 Qp) k_58_0 [some v0, some v1] [] h) : CallP d 58 [v0, v1] h Qp := by
  refine call_of g_58.1 (by rw [g_58.2.2.1]; simp only [pcats, c0, c1, pcatL]; decide) (fun l => ?_)
  have e : ent (mML 58) [v0, v1] = [some v0, some v1] := by rw [g_58.2.2.1]; simp [ent, pcats, c0, c1, pcatL, List.replicate]
  rw [e]
  refine sound g_58.2.1 (by rw [g_58.2.2.2]; exact hN) hd k_58_0 0 k_58_0_ok _ _ _ ?_
  rw [g_58.2.2.2]
  exact hw l
theorem f_59 : (((plainName (mY 59).cls && decide (rN (oN 59) = (mY 59).cls)) && decide (mML 59 = 3)) && decide (aC 59 = 0)) = true := by decide +kernel
theorem g_59 : plainName (mY 59).cls = true ∧ rN (oN 59) = (mY 59).cls ∧ mML 59 = 3 ∧ aC 59 = 0 := by
  have h := f_59
  simp only [Bool.and_eq_true, decide_eq_true_eq] at h
  exact ⟨h.1.1.1, h.1.1.2, h.1.2, h.2⟩
theorem s_59 {d : Nat} {Qp : PQ} {v0 : PV} {v1 : PV} {v2 : PV} {h : PMem} (hd : 1 ≤ d) (hN : h.1 ≤ NC) (c0 : pcat v0 = 1 := by rfl) (c1 : pcat v1 = 1 := by rfl) (c2 : pcat v2 = 1 := by rfl) (hw : ∀ l, wp h.1 (fun t => At l d 59 h.1 (Qn h.1 Qp) t) (CallP (d - 1)) (Qn h.1 Qp) k_59_0 [some v0, some v1, some v2] [] h) : CallP d 59 [v0, v1, v2] h Qp := by
  refine call_of g_59.1 (by rw [g_59.2.2.1]; simp only [pcats, c0, c1, c2, pcatL]; decide) (fun l => ?_)
  have e : ent (mML 59) [v0, v1, v2] = [some v0, some v1, some v2] := by rw [g_59.2.2.1]; simp [ent, pcats, c0, c1, c2, pcatL, List.replicate]
  rw [e]
  refine sound g_59.2.1 (by rw [g_59.2.2.2]; exact hN) hd k_59_0 0 k_59_0_ok _ _ _ ?_
  rw [g_59.2.2.2]
  exact hw l
theorem l_59_25 {l : Launch} {d n0 : Nat} {Qp : PQ} {ls : List (Option PV)} {st : List PV} {h : PMem} (hd : 1 ≤ d) (hN : n0 ≤ NC) (hw : wp n0 (fun t => At l d 59 n0 Qp t) (CallP (d - 1)) Qp k_59_25 ls st h) : At l d 59 n0 Qp 25 ls st h := sound g_59.2.1 (by rw [g_59.2.2.2]; exact hN) hd k_59_25 25 k_59_25_ok ls st h (by rw [g_59.2.2.2]; exact hw)
theorem l_59_26 {l : Launch} {d n0 : Nat} {Qp : PQ} {ls : List (Option PV)} {st : List PV} {h : PMem} (hd : 1 ≤ d) (hN : n0 ≤ NC) (hw : wp n0 (fun t => At l d 59 n0 Qp t) (CallP (d - 1)) Qp k_59_26 ls st h) : At l d 59 n0 Qp 26 ls st h := sound g_59.2.1 (by rw [g_59.2.2.2]; exact hN) hd k_59_26 26 k_59_26_ok ls st h (by rw [g_59.2.2.2]; exact hw)
theorem f_60 : (((plainName (mY 60).cls && decide (rN (oN 60) = (mY 60).cls)) && decide (mML 60 = 4)) && decide (aC 60 = 0)) = true := by decide +kernel
theorem g_60 : plainName (mY 60).cls = true ∧ rN (oN 60) = (mY 60).cls ∧ mML 60 = 4 ∧ aC 60 = 0 := by
  have h := f_60
  simp only [Bool.and_eq_true, decide_eq_true_eq] at h
  exact ⟨h.1.1.1, h.1.1.2, h.1.2, h.2⟩
theorem s_60 {d : Nat} {Qp : PQ} {v0 : PV} {h : PMem} (hd : 1 ≤ d) (hN : h.1 ≤ NC) (c0 : pcat v0 = 1 := by rfl) (hw : ∀ l, wp h.1 (fun t => At l d 60 h.1 (Qn h.1 Qp) t) (CallP (d - 1)) (Qn h.1 Qp) k_60_0 [some v0, none, none, none] [] h) : CallP d 60 [v0] h Qp := by
  refine call_of g_60.1 (by rw [g_60.2.2.1]; simp only [pcats, c0, pcatL]; decide) (fun l => ?_)
  have e : ent (mML 60) [v0] = [some v0, none, none, none] := by rw [g_60.2.2.1]; simp [ent, pcats, c0, pcatL, List.replicate]
  rw [e]
  refine sound g_60.2.1 (by rw [g_60.2.2.2]; exact hN) hd k_60_0 0 k_60_0_ok _ _ _ ?_
  rw [g_60.2.2.2]
  exact hw l
theorem l_60_4 {l : Launch} {d n0 : Nat} {Qp : PQ} {ls : List (Option PV)} {st : List PV} {h : PMem} (hd : 1 ≤ d) (hN : n0 ≤ NC) (hw : wp n0 (fun t => At l d 60 n0 Qp t) (CallP (d - 1)) Qp k_60_4 ls st h) : At l d 60 n0 Qp 4 ls st h := sound g_60.2.1 (by rw [g_60.2.2.2]; exact hN) hd k_60_4 4 k_60_4_ok ls st h (by rw [g_60.2.2.2]; exact hw)
theorem l_60_16 {l : Launch} {d n0 : Nat} {Qp : PQ} {ls : List (Option PV)} {st : List PV} {h : PMem} (hd : 1 ≤ d) (hN : n0 ≤ NC) (hw : wp n0 (fun t => At l d 60 n0 Qp t) (CallP (d - 1)) Qp k_60_16 ls st h) : At l d 60 n0 Qp 16 ls st h := sound g_60.2.1 (by rw [g_60.2.2.2]; exact hN) hd k_60_16 16 k_60_16_ok ls st h (by rw [g_60.2.2.2]; exact hw)
theorem l_60_40 {l : Launch} {d n0 : Nat} {Qp : PQ} {ls : List (Option PV)} {st : List PV} {h : PMem} (hd : 1 ≤ d) (hN : n0 ≤ NC) (hw : wp n0 (fun t => At l d 60 n0 Qp t) (CallP (d - 1)) Qp k_60_40 ls st h) : At l d 60 n0 Qp 40 ls st h := sound g_60.2.1 (by rw [g_60.2.2.2]; exact hN) hd k_60_40 40 k_60_40_ok ls st h (by rw [g_60.2.2.2]; exact hw)
theorem l_60_41 {l : Launch} {d n0 : Nat} {Qp : PQ} {ls : List (Option PV)} {st : List PV} {h : PMem} (hd : 1 ≤ d) (hN : n0 ≤ NC) (hw : wp n0 (fun t => At l d 60 n0 Qp t) (CallP (d - 1)) Qp k_60_41 ls st h) : At l d 60 n0 Qp 41 ls st h := sound g_60.2.1 (by rw [g_60.2.2.2]; exact hN) hd k_60_41 41 k_60_41_ok ls st h (by rw [g_60.2.2.2]; exact hw)
theorem l_60_52 {l : Launch} {d n0 : Nat} {Qp : PQ} {ls : List (Option PV)} {st : List PV} {h : PMem} (hd : 1 ≤ d) (hN : n0 ≤ NC) (hw : wp n0 (fun t => At l d 60 n0 Qp t) (CallP (d - 1)) Qp k_60_52 ls st h) : At l d 60 n0 Qp 52 ls st h := sound g_60.2.1 (by rw [g_60.2.2.2]; exact hN) hd k_60_52 52 k_60_52_ok ls st h (by rw [g_60.2.2.2]; exact hw)
theorem l_60_58 {l : Launch} {d n0 : Nat} {Qp : PQ} {ls : List (Option PV)} {st : List PV} {h : PMem} (hd : 1 ≤ d) (hN : n0 ≤ NC) (hw : wp n0 (fun t => At l d 60 n0 Qp t) (CallP (d - 1)) Qp k_60_58 ls st h) : At l d 60 n0 Qp 58 ls st h := sound g_60.2.1 (by rw [g_60.2.2.2]; exact hN) hd k_60_58 58 k_60_58_ok ls st h (by rw [g_60.2.2.2]; exact hw)
theorem f_61 : (((plainName (mY 61).cls && decide (rN (oN 61) = (mY 61).cls)) && decide (mML 61 = 3)) && decide (aC 61 = 0)) = true := by decide +kernel
theorem g_61 : plainName (mY 61).cls = true ∧ rN (oN 61) = (mY 61).cls ∧ mML 61 = 3 ∧ aC 61 = 0 := by
  have h := f_61
  simp only [Bool.and_eq_true, decide_eq_true_eq] at h
  exact ⟨h.1.1.1, h.1.1.2, h.1.2, h.2⟩
theorem s_61 {d : Nat} {Qp : PQ} {v0 : PV} {h : PMem} (hd : 1 ≤ d) (hN : h.1 ≤ NC) (c0 : pcat v0 = 1 := by rfl) (hw : ∀ l, wp h.1 (fun t => At l d 61 h.1 (Qn h.1 Qp) t) (CallP (d - 1)) (Qn h.1 Qp) k_61_0 [some v0, none, none] [] h) : CallP d 61 [v0] h Qp := by
  refine call_of g_61.1 (by rw [g_61.2.2.1]; simp only [pcats, c0, pcatL]; decide) (fun l => ?_)
  have e : ent (mML 61) [v0] = [some v0, none, none] := by rw [g_61.2.2.1]; simp [ent, pcats, c0, pcatL, List.replicate]
  rw [e]
  refine sound g_61.2.1 (by rw [g_61.2.2.2]; exact hN) hd k_61_0 0 k_61_0_ok _ _ _ ?_
  rw [g_61.2.2.2]
  exact hw l
theorem l_61_2 {l : Launch} {d n0 : Nat} {Qp : PQ} {ls : List (Option PV)} {st : List PV} {h : PMem} (hd : 1 ≤ d) (hN : n0 ≤ NC) (hw : wp n0 (fun t => At l d 61 n0 Qp t) (CallP (d - 1)) Qp k_61_2 ls st h) : At l d 61 n0 Qp 2 ls st h := sound g_61.2.1 (by rw [g_61.2.2.2]; exact hN) hd k_61_2 2 k_61_2_ok ls st h (by rw [g_61.2.2.2]; exact hw)
theorem l_61_21 {l : Launch} {d n0 : Nat} {Qp : PQ} {ls : List (Option PV)} {st : List PV} {h : PMem} (hd : 1 ≤ d) (hN : n0 ≤ NC) (hw : wp n0 (fun t => At l d 61 n0 Qp t) (CallP (d - 1)) Qp k_61_21 ls st h) : At l d 61 n0 Qp 21 ls st h := sound g_61.2.1 (by rw [g_61.2.2.2]; exact hN) hd k_61_21 21 k_61_21_ok ls st h (by rw [g_61.2.2.2]; exact hw)
theorem l_61_22 {l : Launch} {d n0 : Nat} {Qp : PQ} {ls : List (Option PV)} {st : List PV} {h : PMem} (hd : 1 ≤ d) (hN : n0 ≤ NC) (hw : wp n0 (fun t => At l d 61 n0 Qp t) (CallP (d - 1)) Qp k_61_22 ls st h) : At l d 61 n0 Qp 22 ls st h := sound g_61.2.1 (by rw [g_61.2.2.2]; exact hN) hd k_61_22 22 k_61_22_ok ls st h (by rw [g_61.2.2.2]; exact hw)
theorem l_61_29 {l : Launch} {d n0 : Nat} {Qp : PQ} {ls : List (Option PV)} {st : List PV} {h : PMem} (hd : 1 ≤ d) (hN : n0 ≤ NC) (hw : wp n0 (fun t => At l d 61 n0 Qp t) (CallP (d - 1)) Qp k_61_29 ls st h) : At l d 61 n0 Qp 29 ls st h := sound g_61.2.1 (by rw [g_61.2.2.2]; exact hN) hd k_61_29 29 k_61_29_ok ls st h (by rw [g_61.2.2.2]; exact hw)
theorem l_61_31 {l : Launch} {d n0 : Nat} {Qp : PQ} {ls : List (Option PV)} {st : List PV} {h : PMem} (hd : 1 ≤ d) (hN : n0 ≤ NC) (hw : wp n0 (fun t => At l d 61 n0 Qp t) (CallP (d - 1)) Qp k_61_31 ls st h) : At l d 61 n0 Qp 31 ls st h := sound g_61.2.1 (by rw [g_61.2.2.2]; exact hN) hd k_61_31 31 k_61_31_ok ls st h (by rw [g_61.2.2.2]; exact hw)
theorem l_61_41 {l : Launch} {d n0 : Nat} {Qp : PQ} {ls : List (Option PV)} {st : List PV} {h : PMem} (hd : 1 ≤ d) (hN : n0 ≤ NC) (hw : wp n0 (fun t => At l d 61 n0 Qp t) (CallP (d - 1)) Qp k_61_41 ls st h) : At l d 61 n0 Qp 41 ls st h := sound g_61.2.1 (by rw [g_61.2.2.2]; exact hN) hd k_61_41 41 k_61_41_ok ls st h (by rw [g_61.2.2.2]; exact hw)
theorem l_61_60 {l : Launch} {d n0 : Nat} {Qp : PQ} {ls : List (Option PV)} {st : List PV} {h : PMem} (hd : 1 ≤ d) (hN : n0 ≤ NC) (hw : wp n0 (fun t => At l d 61 n0 Qp t) (CallP (d - 1)) Qp k_61_60 ls st h) : At l d 61 n0 Qp 60 ls st h := sound g_61.2.1 (by rw [g_61.2.2.2]; exact hN) hd k_61_60 60 k_61_60_ok ls st h (by rw [g_61.2.2.2]; exact hw)
theorem l_61_66 {l : Launch} {d n0 : Nat} {Qp : PQ} {ls : List (Option PV)} {st : List PV} {h : PMem} (hd : 1 ≤ d) (hN : n0 ≤ NC) (hw : wp n0 (fun t => At l d 61 n0 Qp t) (CallP (d - 1)) Qp k_61_66 ls st h) : At l d 61 n0 Qp 66 ls st h := sound g_61.2.1 (by rw [g_61.2.2.2]; exact hN) hd k_61_66 66 k_61_66_ok ls st h (by rw [g_61.2.2.2]; exact hw)
theorem f_62 : (((plainName (mY 62).cls && decide (rN (oN 62) = (mY 62).cls)) && decide (mML 62 = 4)) && decide (aC 62 = 0)) = true := by decide +kernel
theorem g_62 : plainName (mY 62).cls = true ∧ rN (oN 62) = (mY 62).cls ∧ mML 62 = 4 ∧ aC 62 = 0 := by
  have h := f_62
  simp only [Bool.and_eq_true, decide_eq_true_eq] at h
  exact ⟨h.1.1.1, h.1.1.2, h.1.2, h.2⟩
theorem s_62 {d : Nat} {Qp : PQ} {v0 : PV} {v1 : PV} {h : PMem} (hd : 1 ≤ d) (hN : h.1 ≤ NC) (c0 : pcat v0 = 1 := by rfl) (c1 : pcat v1 = 1 := by rfl) (hw : ∀ l, wp h.1 (fun t => At l d 62 h.1 (Qn h.1 Qp) t) (CallP (d - 1)) (Qn h.1 Qp) k_62_0 [some v0, some v1, none, none] [] h) : CallP d 62 [v0, v1] h Qp := by
  refine call_of g_62.1 (by rw [g_62.2.2.1]; simp only [pcats, c0, c1, pcatL]; decide) (fun l => ?_)
  have e : ent (mML 62) [v0, v1] = [some v0, some v1, none, none] := by rw [g_62.2.2.1]; simp [ent, pcats, c0, c1, pcatL, List.replicate]
  rw [e]
  refine sound g_62.2.1 (by rw [g_62.2.2.2]; exact hN) hd k_62_0 0 k_62_0_ok _ _ _ ?_
  rw [g_62.2.2.2]
  exact hw l
theorem l_62_2 {l : Launch} {d n0 : Nat} {Qp : PQ} {ls : List (Option PV)} {st : List PV} {h : PMem} (hd : 1 ≤ d) (hN : n0 ≤ NC) (hw : wp n0 (fun t => At l d 62 n0 Qp t) (CallP (d - 1)) Qp k_62_2 ls st h) : At l d 62 n0 Qp 2 ls st h := sound g_62.2.1 (by rw [g_62.2.2.2]; exact hN) hd k_62_2 2 k_62_2_ok ls st h (by rw [g_62.2.2.2]; exact hw)
theorem l_62_67 {l : Launch} {d n0 : Nat} {Qp : PQ} {ls : List (Option PV)} {st : List PV} {h : PMem} (hd : 1 ≤ d) (hN : n0 ≤ NC) (hw : wp n0 (fun t => At l d 62 n0 Qp t) (CallP (d - 1)) Qp k_62_67 ls st h) : At l d 62 n0 Qp 67 ls st h := sound g_62.2.1 (by rw [g_62.2.2.2]; exact hN) hd k_62_67 67 k_62_67_ok ls st h (by rw [g_62.2.2.2]; exact hw)
theorem l_62_74 {l : Launch} {d n0 : Nat} {Qp : PQ} {ls : List (Option PV)} {st : List PV} {h : PMem} (hd : 1 ≤ d) (hN : n0 ≤ NC) (hw : wp n0 (fun t => At l d 62 n0 Qp t) (CallP (d - 1)) Qp k_62_74 ls st h) : At l d 62 n0 Qp 74 ls st h := sound g_62.2.1 (by rw [g_62.2.2.2]; exact hN) hd k_62_74 74 k_62_74_ok ls st h (by rw [g_62.2.2.2]; exact hw)
theorem l_62_80 {l : Launch} {d n0 : Nat} {Qp : PQ} {ls : List (Option PV)} {st : List PV} {h : PMem} (hd : 1 ≤ d) (hN : n0 ≤ NC) (hw : wp n0 (fun t => At l d 62 n0 Qp t) (CallP (d - 1)) Qp k_62_80 ls st h) : At l d 62 n0 Qp 80 ls st h := sound g_62.2.1 (by rw [g_62.2.2.2]; exact hN) hd k_62_80 80 k_62_80_ok ls st h (by rw [g_62.2.2.2]; exact hw)
theorem f_63 : (((plainName (mY 63).cls && decide (rN (oN 63) = (mY 63).cls)) && decide (mML 63 = 3)) && decide (aC 63 = 0)) = true := by decide +kernel
theorem g_63 : plainName (mY 63).cls = true ∧ rN (oN 63) = (mY 63).cls ∧ mML 63 = 3 ∧ aC 63 = 0 := by
  have h := f_63
  simp only [Bool.and_eq_true, decide_eq_true_eq] at h
  exact ⟨h.1.1.1, h.1.1.2, h.1.2, h.2⟩
theorem s_63 {d : Nat} {Qp : PQ} {v0 : PV} {v1 : PV} {v2 : PV} {h : PMem} (hd : 1 ≤ d) (hN : h.1 ≤ NC) (c0 : pcat v0 = 1 := by rfl) (c1 : pcat v1 = 1 := by rfl) (c2 : pcat v2 = 1 := by rfl) (hw : ∀ l, wp h.1 (fun t => At l d 63 h.1 (Qn h.1 Qp) t) (CallP (d - 1)) (Qn h.1 Qp) k_63_0 [some v0, some v1, some v2] [] h) : CallP d 63 [v0, v1, v2] h Qp := by
  refine call_of g_63.1 (by rw [g_63.2.2.1]; simp only [pcats, c0, c1, c2, pcatL]; decide) (fun l => ?_)
  have e : ent (mML 63) [v0, v1, v2] = [some v0, some v1, some v2] := by rw [g_63.2.2.1]; simp [ent, pcats, c0, c1, c2, pcatL, List.replicate]
  rw [e]
  refine sound g_63.2.1 (by rw [g_63.2.2.2]; exact hN) hd k_63_0 0 k_63_0_ok _ _ _ ?_
  rw [g_63.2.2.2]
  exact hw l
theorem l_63_31 {l : Launch} {d n0 : Nat} {Qp : PQ} {ls : List (Option PV)} {st : List PV} {h : PMem} (hd : 1 ≤ d) (hN : n0 ≤ NC) (hw : wp n0 (fun t => At l d 63 n0 Qp t) (CallP (d - 1)) Qp k_63_31 ls st h) : At l d 63 n0 Qp 31 ls st h := sound g_63.2.1 (by rw [g_63.2.2.2]; exact hN) hd k_63_31 31 k_63_31_ok ls st h (by rw [g_63.2.2.2]; exact hw)
theorem l_63_32 {l : Launch} {d n0 : Nat} {Qp : PQ} {ls : List (Option PV)} {st : List PV} {h : PMem} (hd : 1 ≤ d) (hN : n0 ≤ NC) (hw : wp n0 (fun t => At l d 63 n0 Qp t) (CallP (d - 1)) Qp k_63_32 ls st h) : At l d 63 n0 Qp 32 ls st h := sound g_63.2.1 (by rw [g_63.2.2.2]; exact hN) hd k_63_32 32 k_63_32_ok ls st h (by rw [g_63.2.2.2]; exact hw)
theorem f_64 : (((plainName (mY 64).cls && decide (rN (oN 64) = (mY 64).cls)) && decide (mML 64 = 4)) && decide (aC 64 = 0)) = true := by decide +kernel
theorem g_64 : plainName (mY 64).cls = true ∧ rN (oN 64) = (mY 64).cls ∧ mML 64 = 4 ∧ aC 64 = 0 := by
  have h := f_64
  simp only [Bool.and_eq_true, decide_eq_true_eq] at h
  exact ⟨h.1.1.1, h.1.1.2, h.1.2, h.2⟩
theorem s_64 {d : Nat} {Qp : PQ} {v0 : PV} {v1 : PV} {h : PMem} (hd : 1 ≤ d) (hN : h.1 ≤ NC) (c0 : pcat v0 = 1 := by rfl) (c1 : pcat v1 = 1 := by rfl) (hw : ∀ l, wp h.1 (fun t => At l d 64 h.1 (Qn h.1 Qp) t) (CallP (d - 1)) (Qn h.1 Qp) k_64_0 [some v0, some v1, none, none] [] h) : CallP d 64 [v0, v1] h Qp := by
  refine call_of g_64.1 (by rw [g_64.2.2.1]; simp only [pcats, c0, c1, pcatL]; decide) (fun l => ?_)
  have e : ent (mML 64) [v0, v1] = [some v0, some v1, none, none] := by rw [g_64.2.2.1]; simp [ent, pcats, c0, c1, pcatL, List.replicate]
  rw [e]
  refine sound g_64.2.1 (by rw [g_64.2.2.2]; exact hN) hd k_64_0 0 k_64_0_ok _ _ _ ?_
  rw [g_64.2.2.2]
  exact hw l
theorem l_64_4 {l : Launch} {d n0 : Nat} {Qp : PQ} {ls : List (Option PV)} {st : List PV} {h : PMem} (hd : 1 ≤ d) (hN : n0 ≤ NC) (hw : wp n0 (fun t => At l d 64 n0 Qp t) (CallP (d - 1)) Qp k_64_4 ls st h) : At l d 64 n0 Qp 4 ls st h := sound g_64.2.1 (by rw [g_64.2.2.2]; exact hN) hd k_64_4 4 k_64_4_ok ls st h (by rw [g_64.2.2.2]; exact hw)
theorem l_64_32 {l : Launch} {d n0 : Nat} {Qp : PQ} {ls : List (Option PV)} {st : List PV} {h : PMem} (hd : 1 ≤ d) (hN : n0 ≤ NC) (hw : wp n0 (fun t => At l d 64 n0 Qp t) (CallP (d - 1)) Qp k_64_32 ls st h) : At l d 64 n0 Qp 32 ls st h := sound g_64.2.1 (by rw [g_64.2.2.2]; exact hN) hd k_64_32 32 k_64_32_ok ls st h (by rw [g_64.2.2.2]; exact hw)
theorem f_65 : (((plainName (mY 65).cls && decide (rN (oN 65) = (mY 65).cls)) && decide (mML 65 = 5)) && decide (aC 65 = 0)) = true := by decide +kernel
theorem g_65 : plainName (mY 65).cls = true ∧ rN (oN 65) = (mY 65).cls ∧ mML 65 = 5 ∧ aC 65 = 0 := by
  have h := f_65
  simp only [Bool.and_eq_true, decide_eq_true_eq] at h
  exact ⟨h.1.1.1, h.1.1.2, h.1.2, h.2⟩
theorem s_65 {d : Nat} {Qp : PQ} {v0 : PV} {v1 : PV} {v2 : PV} {h : PMem} (hd : 1 ≤ d) (hN : h.1 ≤ NC) (c0 : pcat v0 = 1 := by rfl) (c1 : pcat v1 = 1 := by rfl) (c2 : pcat v2 = 1 := by rfl) (hw : ∀ l, wp h.1 (fun t => At l d 65 h.1 (Qn h.1 Qp) t) (CallP (d - 1)) (Qn h.1 Qp) k_65_0 [some v0, some v1, some v2, none, none] [] h) : CallP d 65 [v0, v1, v2] h Qp := by
  refine call_of g_65.1 (by rw [g_65.2.2.1]; simp only [pcats, c0, c1, c2, pcatL]; decide) (fun l => ?_)
  have e : ent (mML 65) [v0, v1, v2] = [some v0, some v1, some v2, none, none] := by rw [g_65.2.2.1]; simp [ent, pcats, c0, c1, c2, pcatL, List.replicate]
  rw [e]
  refine sound g_65.2.1 (by rw [g_65.2.2.2]; exact hN) hd k_65_0 0 k_65_0_ok _ _ _ ?_
  rw [g_65.2.2.2]
  exact hw l
theorem l_65_15 {l : Launch} {d n0 : Nat} {Qp : PQ} {ls : List (Option PV)} {st : List PV} {h : PMem} (hd : 1 ≤ d) (hN : n0 ≤ NC) (hw : wp n0 (fun t => At l d 65 n0 Qp t) (CallP (d - 1)) Qp k_65_15 ls st h) : At l d 65 n0 Qp 15 ls st h := sound g_65.2.1 (by rw [g_65.2.2.2]; exact hN) hd k_65_15 15 k_65_15_ok ls st h (by rw [g_65.2.2.2]; exact hw)
theorem l_65_23 {l : Launch} {d n0 : Nat} {Qp : PQ} {ls : List (Option PV)} {st : List PV} {h : PMem} (hd : 1 ≤ d) (hN : n0 ≤ NC) (hw : wp n0 (fun t => At l d 65 n0 Qp t) (CallP (d - 1)) Qp k_65_23 ls st h) : At l d 65 n0 Qp 23 ls st h := sound g_65.2.1 (by rw [g_65.2.2.2]; exact hN) hd k_65_23 23 k_65_23_ok ls st h (by rw [g_65.2.2.2]; exact hw)
theorem f_66 : (((plainName (mY 66).cls && decide (rN (oN 66) = (mY 66).cls)) && decide (mML 66 = 4)) && decide (aC 66 = 0)) = true := by decide +kernel
theorem g_66 : plainName (mY 66).cls = true ∧ rN (oN 66) = (mY 66).cls ∧ mML 66 = 4 ∧ aC 66 = 0 := by
  have h := f_66
  simp only [Bool.and_eq_true, decide_eq_true_eq] at h
  exact ⟨h.1.1.1, h.1.1.2, h.1.2, h.2⟩
theorem s_66 {d : Nat} {Qp : PQ} {v0 : PV} {v1 : PV} {v2 : PV} {v3 : PV} {h : PMem} (hd : 1 ≤ d) (hN : h.1 ≤ NC) (c0 : pcat v0 = 1 := by rfl) (c1 : pcat v1 = 1 := by rfl) (c2 : pcat v2 = 1 := by rfl) (c3 : pcat v3 = 1 := by rfl) (hw : ∀ l, wp h.1 (fun t => At l d 66 h.1 (Qn h.1 Qp) t) (CallP (d - 1)) (Qn h.1 Qp) k_66_0 [some v0, some v1, some v2, some v3] [] h) : CallP d 66 [v0, v1, v2, v3] h Qp := by
  refine call_of g_66.1 (by rw [g_66.2.2.1]; simp only [pcats, c0, c1, c2, c3, pcatL]; decide) (fun l => ?_)
  have e : ent (mML 66) [v0, v1, v2, v3] = [some v0, some v1, some v2, some v3] := by rw [g_66.2.2.1]; simp [ent, pcats, c0, c1, c2, c3, pcatL, List.replicate]
  rw [e]
  refine sound g_66.2.1 (by rw [g_66.2.2.2]; exact hN) hd k_66_0 0 k_66_0_ok _ _ _ ?_
  rw [g_66.2.2.2]
  exact hw l
theorem f_67 : (((plainName (mY 67).cls && decide (rN (oN 67) = (mY 67).cls)) && decide (mML 67 = 3)) && decide (aC 67 = 0)) = true := by decide +kernel
theorem g_67 : plainName (mY 67).cls = true ∧ rN (oN 67) = (mY 67).cls ∧ mML 67 = 3 ∧ aC 67 = 0 := by
  have h := f_67
  simp only [Bool.and_eq_true, decide_eq_true_eq] at h
  exact ⟨h.1.1.1, h.1.1.2, h.1.2, h.2⟩
theorem s_67 {d : Nat} {Qp : PQ} {v0 : PV} {v1 : PV} {v2 : PV} {h : PMem} (hd : 1 ≤ d) (hN : h.1 ≤ NC) (c0 : pcat v0 = 1 := by rfl) (c1 : pcat v1 = 1 := by rfl) (c2 : pcat v2 = 1 := by rfl) (hw : ∀ l, wp h.1 (fun t => At l d 67 h.1 (Qn h.1 Qp) t) (CallP (d - 1)) (Qn h.1 Qp) k_67_0 [some v0, some v1, some v2] [] h) : CallP d 67 [v0, v1, v2] h Qp := by
  refine call_of g_67.1 (by rw [g_67.2.2.1]; simp only [pcats, c0, c1, c2, pcatL]; decide) (fun l => ?_)
  have e : ent (mML 67) [v0, v1, v2] = [some v0, some v1, some v2] := by rw [g_67.2.2.1]; simp [ent, pcats, c0, c1, c2, pcatL, List.replicate]
  rw [e]
  refine sound g_67.2.1 (by rw [g_67.2.2.2]; exact hN) hd k_67_0 0 k_67_0_ok _ _ _ ?_
  rw [g_67.2.2.2]
  exact hw l
theorem f_68 : (((plainName (mY 68).cls && decide (rN (oN 68) = (mY 68).cls)) && decide (mML 68 = 6)) && decide (aC 68 = 0)) = true := by decide +kernel
theorem g_68 : plainName (mY 68).cls = true ∧ rN (oN 68) = (mY 68).cls ∧ mML 68 = 6 ∧ aC 68 = 0 := by
  have h := f_68
  simp only [Bool.and_eq_true, decide_eq_true_eq] at h
  exact ⟨h.1.1.1, h.1.1.2, h.1.2, h.2⟩
theorem s_68 {d : Nat} {Qp : PQ} {v0 : PV} {v1 : PV} {v2 : PV} {v3 : PV} {h : PMem} (hd : 1 ≤ d) (hN : h.1 ≤ NC) (c0 : pcat v0 = 1 := by rfl) (c1 : pcat v1 = 1 := by rfl) (c2 : pcat v2 = 1 := by rfl) (c3 : pcat v3 = 1 := by rfl) (hw : ∀ l, wp h.1 (fun t => At l d 68 h.1 (Qn h.1 Qp) t) (CallP (d - 1)) (Qn h.1 Qp) k_68_0 [some v0, some v1, some v2, some v3, none, none] [] h) : CallP d 68 [v0, v1, v2, v3] h Qp := by
  refine call_of g_68.1 (by rw [g_68.2.2.1]; simp only [pcats, c0, c1, c2, c3, pcatL]; decide) (fun l => ?_)
  have e : ent (mML 68) [v0, v1, v2, v3] = [some v0, some v1, some v2, some v3, none, none] := by rw [g_68.2.2.1]; simp [ent, pcats, c0, c1, c2, c3, pcatL, List.replicate]
  rw [e]
  refine sound g_68.2.1 (by rw [g_68.2.2.2]; exact hN) hd k_68_0 0 k_68_0_ok _ _ _ ?_
  rw [g_68.2.2.2]
  exact hw l
theorem l_68_6 {l : Launch} {d n0 : Nat} {Qp : PQ} {ls : List (Option PV)} {st : List PV} {h : PMem} (hd : 1 ≤ d) (hN : n0 ≤ NC) (hw : wp n0 (fun t => At l d 68 n0 Qp t) (CallP (d - 1)) Qp k_68_6 ls st h) : At l d 68 n0 Qp 6 ls st h := sound g_68.2.1 (by rw [g_68.2.2.2]; exact hN) hd k_68_6 6 k_68_6_ok ls st h (by rw [g_68.2.2.2]; exact hw)
theorem l_68_37 {l : Launch} {d n0 : Nat} {Qp : PQ} {ls : List (Option PV)} {st : List PV} {h : PMem} (hd : 1 ≤ d) (hN : n0 ≤ NC) (hw : wp n0 (fun t => At l d 68 n0 Qp t) (CallP (d - 1)) Qp k_68_37 ls st h) : At l d 68 n0 Qp 37 ls st h := sound g_68.2.1 (by rw [g_68.2.2.2]; exact hN) hd k_68_37 37 k_68_37_ok ls st h (by rw [g_68.2.2.2]; exact hw)
theorem f_69 : (((plainName (mY 69).cls && decide (rN (oN 69) = (mY 69).cls)) && decide (mML 69 = 3)) && decide (aC 69 = 0)) = true := by decide +kernel
theorem g_69 : plainName (mY 69).cls = true ∧ rN (oN 69) = (mY 69).cls ∧ mML 69 = 3 ∧ aC 69 = 0 := by
  have h := f_69
  simp only [Bool.and_eq_true, decide_eq_true_eq] at h
  exact ⟨h.1.1.1, h.1.1.2, h.1.2, h.2⟩
theorem s_69 {d : Nat} {Qp : PQ} {v0 : PV} {v1 : PV} {v2 : PV} {h : PMem} (hd : 1 ≤ d) (hN : h.1 ≤ NC) (c0 : pcat v0 = 1 := by rfl) (c1 : pcat v1 = 1 := by rfl) (c2 : pcat v2 = 1 := by rfl) (hw : ∀ l, wp h.1 (fun t => At l d 69 h.1 (Qn h.1 Qp) t) (CallP (d - 1)) (Qn h.1 Qp) k_69_0 [some v0, some v1, some v2] [] h) : CallP d 69 [v0, v1, v2] h Qp := by
  refine call_of g_69.1 (by rw [g_69.2.2.1]; simp only [pcats, c0, c1, c2, pcatL]; decide) (fun l => ?_)
  have e : ent (mML 69) [v0, v1, v2] = [some v0, some v1, some v2] := by rw [g_69.2.2.1]; simp [ent, pcats, c0, c1, c2, pcatL, List.replicate]
  rw [e]
  refine sound g_69.2.1 (by rw [g_69.2.2.2]; exact hN) hd k_69_0 0 k_69_0_ok _ _ _ ?_
  rw [g_69.2.2.2]
  exact hw l
theorem f_70 : (((plainName (mY 70).cls && decide (rN (oN 70) = (mY 70).cls)) && decide (mML 70 = 2)) && decide (aC 70 = 0)) = true := by decide +kernel
theorem g_70 : plainName (mY 70).cls = true ∧ rN (oN 70) = (mY 70).cls ∧ mML 70 = 2 ∧ aC 70 = 0 := by
  have h := f_70
  simp only [Bool.and_eq_true, decide_eq_true_eq] at h
  exact ⟨h.1.1.1, h.1.1.2, h.1.2, h.2⟩
theorem s_70 {d : Nat} {Qp : PQ} {v0 : PV} {h : PMem} (hd : 1 ≤ d) (hN : h.1 ≤ NC) (c0 : pcat v0 = 1 := by rfl) (hw : ∀ l, wp h.1 (fun t => At l d 70 h.1 (Qn h.1 Qp) t) (CallP (d - 1)) (Qn h.1 Qp) k_70_0 [some v0, none] [] h) : CallP d 70 [v0] h Qp := by
  refine call_of g_70.1 (by rw [g_70.2.2.1]; simp only [pcats, c0, pcatL]; decide) (fun l => ?_)
  have e : ent (mML 70) [v0] = [some v0, none] := by rw [g_70.2.2.1]; simp [ent, pcats, c0, pcatL, List.replicate]
  rw [e]
  refine sound g_70.2.1 (by rw [g_70.2.2.2]; exact hN) hd k_70_0 0 k_70_0_ok _ _ _ ?_
  rw [g_70.2.2.2]
  exact hw l
theorem l_70_6 {l : Launch} {d n0 : Nat} {Qp : PQ} {ls : List (Option PV)} {st : List PV} {h : PMem} (hd : 1 ≤ d) (hN : n0 ≤ NC) (hw : wp n0 (fun t => At l d 70 n0 Qp t) (CallP (d - 1)) Qp k_70_6 ls st h) : At l d 70 n0 Qp 6 ls st h := sound g_70.2.1 (by rw [g_70.2.2.2]; exact hN) hd k_70_6 6 k_70_6_ok ls st h (by rw [g_70.2.2.2]; exact hw)
theorem l_70_50 {l : Launch} {d n0 : Nat} {Qp : PQ} {ls : List (Option PV)} {st : List PV} {h : PMem} (hd : 1 ≤ d) (hN : n0 ≤ NC) (hw : wp n0 (fun t => At l d 70 n0 Qp t) (CallP (d - 1)) Qp k_70_50 ls st h) : At l d 70 n0 Qp 50 ls st h := sound g_70.2.1 (by rw [g_70.2.2.2]; exact hN) hd k_70_50 50 k_70_50_ok ls st h (by rw [g_70.2.2.2]; exact hw)
theorem l_70_56 {l : Launch} {d n0 : Nat} {Qp : PQ} {ls : List (Option PV)} {st : List PV} {h : PMem} (hd : 1 ≤ d) (hN : n0 ≤ NC) (hw : wp n0 (fun t => At l d 70 n0 Qp t) (CallP (d - 1)) Qp k_70_56 ls st h) : At l d 70 n0 Qp 56 ls st h := sound g_70.2.1 (by rw [g_70.2.2.2]; exact hN) hd k_70_56 56 k_70_56_ok ls st h (by rw [g_70.2.2.2]; exact hw)
theorem l_70_58 {l : Launch} {d n0 : Nat} {Qp : PQ} {ls : List (Option PV)} {st : List PV} {h : PMem} (hd : 1 ≤ d) (hN : n0 ≤ NC) (hw : wp n0 (fun t => At l d 70 n0 Qp t) (CallP (d - 1)) Qp k_70_58 ls st h) : At l d 70 n0 Qp 58 ls st h := sound g_70.2.1 (by rw [g_70.2.2.2]; exact hN) hd k_70_58 58 k_70_58_ok ls st h (by rw [g_70.2.2.2]; exact hw)
theorem l_70_96 {l : Launch} {d n0 : Nat} {Qp : PQ} {ls : List (Option PV)} {st : List PV} {h : PMem} (hd : 1 ≤ d) (hN : n0 ≤ NC) (hw : wp n0 (fun t => At l d 70 n0 Qp t) (CallP (d - 1)) Qp k_70_96 ls st h) : At l d 70 n0 Qp 96 ls st h := sound g_70.2.1 (by rw [g_70.2.2.2]; exact hN) hd k_70_96 96 k_70_96_ok ls st h (by rw [g_70.2.2.2]; exact hw)
theorem f_71 : (((plainName (mY 71).cls && decide (rN (oN 71) = (mY 71).cls)) && decide (mML 71 = 6)) && decide (aC 71 = 0)) = true := by decide +kernel
theorem g_71 : plainName (mY 71).cls = true ∧ rN (oN 71) = (mY 71).cls ∧ mML 71 = 6 ∧ aC 71 = 0 := by
  have h := f_71
  simp only [Bool.and_eq_true, decide_eq_true_eq] at h
  exact ⟨h.1.1.1, h.1.1.2, h.1.2, h.2⟩
theorem s_71 {d : Nat} {Qp : PQ} {v0 : PV} {v1 : PV} {v2 : PV} {v3 : PV} {h : PMem} (hd : 1 ≤ d) (hN : h.1 ≤ NC) (c0 : pcat v0 = 1 := by rfl) (c1 : pcat v1 = 1 := by rfl) (c2 : pcat v2 = 1 := by rfl) (c3 : pcat v3 = 1 := by rfl) (hw : ∀ l, wp h.1 (fun t => At l d 71 h.1 (Qn h.1 Qp) t) (CallP (d - 1)) (Qn h.1 Qp) k_71_0 [some v0, some v1, some v2, some v3, none, none] [] h) : CallP d 71 [v0, v1, v2, v3] h Qp := by
  refine call_of g_71.1 (by rw [g_71.2.2.1]; simp only [pcats, c0, c1, c2, c3, pcatL]; decide) (fun l => ?_)
  have e : ent (mML 71) [v0, v1, v2, v3] = [some v0, some v1, some v2, some v3, none, none] := by rw [g_71.2.2.1]; simp [ent, pcats, c0, c1, c2, c3, pcatL, List.replicate]
  rw [e]
  refine sound g_71.2.1 (by rw [g_71.2.2.2]; exact hN) hd k_71_0 0 k_71_0_ok _ _ _ ?_
  rw [g_71.2.2.2]
  exact hw l
theorem f_72 : (((plainName (mY 72).cls && decide (rN (oN 72) = (mY 72).cls)) && decide (mML 72 = 2)) && decide (aC 72 = 0)) = true := by decide +kernel
theorem g_72 : plainName (mY 72).cls = true ∧ rN (oN 72) = (mY 72).cls ∧ mML 72 = 2 ∧ aC 72 = 0 := by
  have h := f_72
  simp only [Bool.and_eq_true, decide_eq_true_eq] at h
  exact ⟨h.1.1.1, h.1.1.2, h.1.2, h.2⟩
theorem s_72 {d : Nat} {Qp : PQ} {v0 : PV} {h : PMem} (hd : 1 ≤ d) (hN : h.1 ≤ NC) (c0 : pcat v0 = 1 := by rfl) (hw : ∀ l, wp h.1 (fun t => At l d 72 h.1 (Qn h.1 Qp) t) (CallP (d - 1)) (Qn h.1 Qp) k_72_0 [some v0, none] [] h) : CallP d 72 [v0] h Qp := by
  refine call_of g_72.1 (by rw [g_72.2.2.1]; simp only [pcats, c0, pcatL]; decide) (fun l => ?_)
  have e : ent (mML 72) [v0] = [some v0, none] := by rw [g_72.2.2.1]; simp [ent, pcats, c0, pcatL, List.replicate]
  rw [e]
  refine sound g_72.2.1 (by rw [g_72.2.2.2]; exact hN) hd k_72_0 0 k_72_0_ok _ _ _ ?_
  rw [g_72.2.2.2]
  exact hw l
theorem l_72_11 {l : Launch} {d n0 : Nat} {Qp : PQ} {ls : List (Option PV)} {st : List PV} {h : PMem} (hd : 1 ≤ d) (hN : n0 ≤ NC) (hw : wp n0 (fun t => At l d 72 n0 Qp t) (CallP (d - 1)) Qp k_72_11 ls st h) : At l d 72 n0 Qp 11 ls st h := sound g_72.2.1 (by rw [g_72.2.2.2]; exact hN) hd k_72_11 11 k_72_11_ok ls st h (by rw [g_72.2.2.2]; exact hw)
theorem l_72_40 {l : Launch} {d n0 : Nat} {Qp : PQ} {ls : List (Option PV)} {st : List PV} {h : PMem} (hd : 1 ≤ d) (hN : n0 ≤ NC) (hw : wp n0 (fun t => At l d 72 n0 Qp t) (CallP (d - 1)) Qp k_72_40 ls st h) : At l d 72 n0 Qp 40 ls st h := sound g_72.2.1 (by rw [g_72.2.2.2]; exact hN) hd k_72_40 40 k_72_40_ok ls st h (by rw [g_72.2.2.2]; exact hw)
theorem l_72_46 {l : Launch} {d n0 : Nat} {Qp : PQ} {ls : List (Option PV)} {st : List PV} {h : PMem} (hd : 1 ≤ d) (hN : n0 ≤ NC) (hw : wp n0 (fun t => At l d 72 n0 Qp t) (CallP (d - 1)) Qp k_72_46 ls st h) : At l d 72 n0 Qp 46 ls st h := sound g_72.2.1 (by rw [g_72.2.2.2]; exact hN) hd k_72_46 46 k_72_46_ok ls st h (by rw [g_72.2.2.2]; exact hw)
theorem f_73 : (((plainName (mY 73).cls && decide (rN (oN 73) = (mY 73).cls)) && decide (mML 73 = 1)) && decide (aC 73 = 0)) = true := by decide +kernel
theorem g_73 : plainName (mY 73).cls = true ∧ rN (oN 73) = (mY 73).cls ∧ mML 73 = 1 ∧ aC 73 = 0 := by
  have h := f_73
  simp only [Bool.and_eq_true, decide_eq_true_eq] at h
  exact ⟨h.1.1.1, h.1.1.2, h.1.2, h.2⟩
theorem s_73 {d : Nat} {Qp : PQ} {v0 : PV} {h : PMem} (hd : 1 ≤ d) (hN : h.1 ≤ NC) (c0 : pcat v0 = 1 := by rfl) (hw : ∀ l, wp h.1 (fun t => At l d 73 h.1 (Qn h.1 Qp) t) (CallP (d - 1)) (Qn h.1 Qp) k_73_0 [some v0] [] h) : CallP d 73 [v0] h Qp := by
  refine call_of g_73.1 (by rw [g_73.2.2.1]; simp only [pcats, c0, pcatL]; decide) (fun l => ?_)
  have e : ent (mML 73) [v0] = [some v0] := by rw [g_73.2.2.1]; simp [ent, pcats, c0, pcatL, List.replicate]
  rw [e]
  refine sound g_73.2.1 (by rw [g_73.2.2.2]; exact hN) hd k_73_0 0 k_73_0_ok _ _ _ ?_
  rw [g_73.2.2.2]
  exact hw l
theorem l_73_10 {l : Launch} {d n0 : Nat} {Qp : PQ} {ls : List (Option PV)} {st : List PV} {h : PMem} (hd : 1 ≤ d) (hN : n0 ≤ NC) (hw : wp n0 (fun t => At l d 73 n0 Qp t) (CallP (d - 1)) Qp k_73_10 ls st h) : At l d 73 n0 Qp 10 ls st h := sound g_73.2.1 (by rw [g_73.2.2.2]; exact hN) hd k_73_10 10 k_73_10_ok ls st h (by rw [g_73.2.2.2]; exact hw)
theorem f_74 : (((plainName (mY 74).cls && decide (rN (oN 74) = (mY 74).cls)) && decide (mML 74 = 10)) && decide (aC 74 = 0)) = true := by decide +kernel
theorem g_74 : plainName (mY 74).cls = true ∧ rN (oN 74) = (mY 74).cls ∧ mML 74 = 10 ∧ aC 74 = 0 := by
  have h := f_74
  simp only [Bool.and_eq_true, decide_eq_true_eq] at h
  exact ⟨h.1.1.1, h.1.1.2, h.1.2, h.2⟩
theorem s_74 {d : Nat} {Qp : PQ} {v0 : PV} {v1 : PV} {v2 : PV} {h : PMem} (hd : 1 ≤ d) (hN : h.1 ≤ NC) (c0 : pcat v0 = 1 := by rfl) (c1 : pcat v1 = 1 := by rfl) (c2 : pcat v2 = 1 := by rfl) (hw : ∀ l, wp h.1 (fun t => At l d 74 h.1 (Qn h.1 Qp) t) (CallP (d - 1)) (Qn h.1 Qp) k_74_0 [some v0, some v1, some v2, none, none, none, none, none, none, none] [] h) : CallP d 74 [v0, v1, v2] h Qp := by
  refine call_of g_74.1 (by rw [g_74.2.2.1]; simp only [pcats, c0, c1, c2, pcatL]; decide) (fun l => ?_)
  have e : ent (mML 74) [v0, v1, v2] = [some v0, some v1, some v2, none, none, none, none, none, none, none] := by rw [g_74.2.2.1]; simp [ent, pcats, c0, c1, c2, pcatL, List.replicate]
  rw [e]
  refine sound g_74.2.1 (by rw [g_74.2.2.2]; exact hN) hd k_74_0 0 k_74_0_ok _ _ _ ?_
  rw [g_74.2.2.2]
  exact hw l
theorem l_74_12 {l : Launch} {d n0 : Nat} {Qp : PQ} {ls : List (Option PV)} {st : List PV} {h : PMem} (hd : 1 ≤ d) (hN : n0 ≤ NC) (hw : wp n0 (fun t => At l d 74 n0 Qp t) (CallP (d - 1)) Qp k_74_12 ls st h) : At l d 74 n0 Qp 12 ls st h := sound g_74.2.1 (by rw [g_74.2.2.2]; exact hN) hd k_74_12 12 k_74_12_ok ls st h (by rw [g_74.2.2.2]; exact hw)
theorem l_74_21 {l : Launch} {d n0 : Nat} {Qp : PQ} {ls : List (Option PV)} {st : List PV} {h : PMem} (hd : 1 ≤ d) (hN : n0 ≤ NC) (hw : wp n0 (fun t => At l d 74 n0 Qp t) (CallP (d - 1)) Qp k_74_21 ls st h) : At l d 74 n0 Qp 21 ls st h := sound g_74.2.1 (by rw [g_74.2.2.2]; exact hN) hd k_74_21 21 k_74_21_ok ls st h (by rw [g_74.2.2.2]; exact hw)
theorem l_74_64 {l : Launch} {d n0 : Nat} {Qp : PQ} {ls : List (Option PV)} {st : List PV} {h : PMem} (hd : 1 ≤ d) (hN : n0 ≤ NC) (hw : wp n0 (fun t => At l d 74 n0 Qp t) (CallP (d - 1)) Qp k_74_64 ls st h) : At l d 74 n0 Qp 64 ls st h := sound g_74.2.1 (by rw [g_74.2.2.2]; exact hN) hd k_74_64 64 k_74_64_ok ls st h (by rw [g_74.2.2.2]; exact hw)
theorem l_74_71 {l : Launch} {d n0 : Nat} {Qp : PQ} {ls : List (Option PV)} {st : List PV} {h : PMem} (hd : 1 ≤ d) (hN : n0 ≤ NC) (hw : wp n0 (fun t => At l d 74 n0 Qp t) (CallP (d - 1)) Qp k_74_71 ls st h) : At l d 74 n0 Qp 71 ls st h := sound g_74.2.1 (by rw [g_74.2.2.2]; exact hN) hd k_74_71 71 k_74_71_ok ls st h (by rw [g_74.2.2.2]; exact hw)
theorem l_74_98 {l : Launch} {d n0 : Nat} {Qp : PQ} {ls : List (Option PV)} {st : List PV} {h : PMem} (hd : 1 ≤ d) (hN : n0 ≤ NC) (hw : wp n0 (fun t => At l d 74 n0 Qp t) (CallP (d - 1)) Qp k_74_98 ls st h) : At l d 74 n0 Qp 98 ls st h := sound g_74.2.1 (by rw [g_74.2.2.2]; exact hN) hd k_74_98 98 k_74_98_ok ls st h (by rw [g_74.2.2.2]; exact hw)
theorem l_74_104 {l : Launch} {d n0 : Nat} {Qp : PQ} {ls : List (Option PV)} {st : List PV} {h : PMem} (hd : 1 ≤ d) (hN : n0 ≤ NC) (hw : wp n0 (fun t => At l d 74 n0 Qp t) (CallP (d - 1)) Qp k_74_104 ls st h) : At l d 74 n0 Qp 104 ls st h := sound g_74.2.1 (by rw [g_74.2.2.2]; exact hN) hd k_74_104 104 k_74_104_ok ls st h (by rw [g_74.2.2.2]; exact hw)
theorem l_74_120 {l : Launch} {d n0 : Nat} {Qp : PQ} {ls : List (Option PV)} {st : List PV} {h : PMem} (hd : 1 ≤ d) (hN : n0 ≤ NC) (hw : wp n0 (fun t => At l d 74 n0 Qp t) (CallP (d - 1)) Qp k_74_120 ls st h) : At l d 74 n0 Qp 120 ls st h := sound g_74.2.1 (by rw [g_74.2.2.2]; exact hN) hd k_74_120 120 k_74_120_ok ls st h (by rw [g_74.2.2.2]; exact hw)
theorem f_75 : (((plainName (mY 75).cls && decide (rN (oN 75) = (mY 75).cls)) && decide (mML 75 = 7)) && decide (aC 75 = 0)) = true := by decide +kernel
theorem g_75 : plainName (mY 75).cls = true ∧ rN (oN 75) = (mY 75).cls ∧ mML 75 = 7 ∧ aC 75 = 0 := by
  have h := f_75
  simp only [Bool.and_eq_true, decide_eq_true_eq] at h
  exact ⟨h.1.1.1, h.1.1.2, h.1.2, h.2⟩
theorem s_75 {d : Nat} {Qp : PQ} {v0 : PV} {v1 : Int} {h : PMem} (hd : 1 ≤ d) (hN : h.1 ≤ NC) (c0 : pcat v0 = 1 := by rfl) (hw : ∀ l, wp h.1 (fun t => At l d 75 h.1 (Qn h.1 Qp) t) (CallP (d - 1)) (Qn h.1 Qp) k_75_0 [some v0, some (.inr (.inl v1)), none, none, none, none, none] [] h) : CallP d 75 [v0, .inr (.inl v1)] h Qp := by
  refine call_of g_75.1 (by rw [g_75.2.2.1]; simp only [pcats, c0, pcatL]; decide) (fun l => ?_)
  have e : ent (mML 75) [v0, .inr (.inl v1)] = [some v0, some (.inr (.inl v1)), none, none, none, none, none] := by rw [g_75.2.2.1]; simp [ent, pcats, c0, pcatL, List.replicate]
  rw [e]
  refine sound g_75.2.1 (by rw [g_75.2.2.2]; exact hN) hd k_75_0 0 k_75_0_ok _ _ _ ?_
  rw [g_75.2.2.2]
  exact hw l
theorem l_75_5 {l : Launch} {d n0 : Nat} {Qp : PQ} {ls : List (Option PV)} {st : List PV} {h : PMem} (hd : 1 ≤ d) (hN : n0 ≤ NC) (hw : wp n0 (fun t => At l d 75 n0 Qp t) (CallP (d - 1)) Qp k_75_5 ls st h) : At l d 75 n0 Qp 5 ls st h := sound g_75.2.1 (by rw [g_75.2.2.2]; exact hN) hd k_75_5 5 k_75_5_ok ls st h (by rw [g_75.2.2.2]; exact hw)
theorem l_75_68 {l : Launch} {d n0 : Nat} {Qp : PQ} {ls : List (Option PV)} {st : List PV} {h : PMem} (hd : 1 ≤ d) (hN : n0 ≤ NC) (hw : wp n0 (fun t => At l d 75 n0 Qp t) (CallP (d - 1)) Qp k_75_68 ls st h) : At l d 75 n0 Qp 68 ls st h := sound g_75.2.1 (by rw [g_75.2.2.2]; exact hN) hd k_75_68 68 k_75_68_ok ls st h (by rw [g_75.2.2.2]; exact hw)
theorem l_75_71 {l : Launch} {d n0 : Nat} {Qp : PQ} {ls : List (Option PV)} {st : List PV} {h : PMem} (hd : 1 ≤ d) (hN : n0 ≤ NC) (hw : wp n0 (fun t => At l d 75 n0 Qp t) (CallP (d - 1)) Qp k_75_71 ls st h) : At l d 75 n0 Qp 71 ls st h := sound g_75.2.1 (by rw [g_75.2.2.2]; exact hN) hd k_75_71 71 k_75_71_ok ls st h (by rw [g_75.2.2.2]; exact hw)
theorem l_75_86 {l : Launch} {d n0 : Nat} {Qp : PQ} {ls : List (Option PV)} {st : List PV} {h : PMem} (hd : 1 ≤ d) (hN : n0 ≤ NC) (hw : wp n0 (fun t => At l d 75 n0 Qp t) (CallP (d - 1)) Qp k_75_86 ls st h) : At l d 75 n0 Qp 86 ls st h := sound g_75.2.1 (by rw [g_75.2.2.2]; exact hN) hd k_75_86 86 k_75_86_ok ls st h (by rw [g_75.2.2.2]; exact hw)
theorem l_75_119 {l : Launch} {d n0 : Nat} {Qp : PQ} {ls : List (Option PV)} {st : List PV} {h : PMem} (hd : 1 ≤ d) (hN : n0 ≤ NC) (hw : wp n0 (fun t => At l d 75 n0 Qp t) (CallP (d - 1)) Qp k_75_119 ls st h) : At l d 75 n0 Qp 119 ls st h := sound g_75.2.1 (by rw [g_75.2.2.2]; exact hN) hd k_75_119 119 k_75_119_ok ls st h (by rw [g_75.2.2.2]; exact hw)
theorem l_75_125 {l : Launch} {d n0 : Nat} {Qp : PQ} {ls : List (Option PV)} {st : List PV} {h : PMem} (hd : 1 ≤ d) (hN : n0 ≤ NC) (hw : wp n0 (fun t => At l d 75 n0 Qp t) (CallP (d - 1)) Qp k_75_125 ls st h) : At l d 75 n0 Qp 125 ls st h := sound g_75.2.1 (by rw [g_75.2.2.2]; exact hN) hd k_75_125 125 k_75_125_ok ls st h (by rw [g_75.2.2.2]; exact hw)
theorem l_75_128 {l : Launch} {d n0 : Nat} {Qp : PQ} {ls : List (Option PV)} {st : List PV} {h : PMem} (hd : 1 ≤ d) (hN : n0 ≤ NC) (hw : wp n0 (fun t => At l d 75 n0 Qp t) (CallP (d - 1)) Qp k_75_128 ls st h) : At l d 75 n0 Qp 128 ls st h := sound g_75.2.1 (by rw [g_75.2.2.2]; exact hN) hd k_75_128 128 k_75_128_ok ls st h (by rw [g_75.2.2.2]; exact hw)
theorem l_75_227 {l : Launch} {d n0 : Nat} {Qp : PQ} {ls : List (Option PV)} {st : List PV} {h : PMem} (hd : 1 ≤ d) (hN : n0 ≤ NC) (hw : wp n0 (fun t => At l d 75 n0 Qp t) (CallP (d - 1)) Qp k_75_227 ls st h) : At l d 75 n0 Qp 227 ls st h := sound g_75.2.1 (by rw [g_75.2.2.2]; exact hN) hd k_75_227 227 k_75_227_ok ls st h (by rw [g_75.2.2.2]; exact hw)
theorem l_75_230 {l : Launch} {d n0 : Nat} {Qp : PQ} {ls : List (Option PV)} {st : List PV} {h : PMem} (hd : 1 ≤ d) (hN : n0 ≤ NC) (hw : wp n0 (fun t => At l d 75 n0 Qp t) (CallP (d - 1)) Qp k_75_230 ls st h) : At l d 75 n0 Qp 230 ls st h := sound g_75.2.1 (by rw [g_75.2.2.2]; exact hN) hd k_75_230 230 k_75_230_ok ls st h (by rw [g_75.2.2.2]; exact hw)
theorem l_75_305 {l : Launch} {d n0 : Nat} {Qp : PQ} {ls : List (Option PV)} {st : List PV} {h : PMem} (hd : 1 ≤ d) (hN : n0 ≤ NC) (hw : wp n0 (fun t => At l d 75 n0 Qp t) (CallP (d - 1)) Qp k_75_305 ls st h) : At l d 75 n0 Qp 305 ls st h := sound g_75.2.1 (by rw [g_75.2.2.2]; exact hN) hd k_75_305 305 k_75_305_ok ls st h (by rw [g_75.2.2.2]; exact hw)
theorem f_76 : (((plainName (mY 76).cls && decide (rN (oN 76) = (mY 76).cls)) && decide (mML 76 = 2)) && decide (aC 76 = 0)) = true := by decide +kernel
theorem g_76 : plainName (mY 76).cls = true ∧ rN (oN 76) = (mY 76).cls ∧ mML 76 = 2 ∧ aC 76 = 0 := by
  have h := f_76
  simp only [Bool.and_eq_true, decide_eq_true_eq] at h
  exact ⟨h.1.1.1, h.1.1.2, h.1.2, h.2⟩
theorem s_76 {d : Nat} {Qp : PQ} {v0 : PV} {v1 : PV} {h : PMem} (hd : 1 ≤ d) (hN : h.1 ≤ NC) (c0 : pcat v0 = 1 := by rfl) (c1 : pcat v1 = 1 := by rfl) (hw : ∀ l, wp h.1 (fun t => At l d 76 h.1 (Qn h.1 Qp) t) (CallP (d - 1)) (Qn h.1 Qp) k_76_0 [some v0, some v1] [] h) : CallP d 76 [v0, v1] h Qp := by
  refine call_of g_76.1 (by rw [g_76.2.2.1]; simp only [pcats, c0, c1, pcatL]; decide) (fun l => ?_)
  have e : ent (mML 76) [v0, v1] = [some v0, some v1] := by rw [g_76.2.2.1]; simp [ent, pcats, c0, c1, pcatL, List.replicate]
  rw [e]
  refine sound g_76.2.1 (by rw [g_76.2.2.2]; exact hN) hd k_76_0 0 k_76_0_ok _ _ _ ?_
  rw [g_76.2.2.2]
  exact hw l
theorem f_77 : (((plainName (mY 77).cls && decide (rN (oN 77) = (mY 77).cls)) && decide (mML 77 = 3)) && decide (aC 77 = 0)) = true := by decide +kernel
theorem g_77 : plainName (mY 77).cls = true ∧ rN (oN 77) = (mY 77).cls ∧ mML 77 = 3 ∧ aC 77 = 0 := by
  have h := f_77
  simp only [Bool.and_eq_true, decide_eq_true_eq] at h
  exact ⟨h.1.1.1, h.1.1.2, h.1.2, h.2⟩
theorem s_77 {d : Nat} {Qp : PQ} {v0 : PV} {v1 : PV} {v2 : PV} {h : PMem} (hd : 1 ≤ d) (hN : h.1 ≤ NC) (c0 : pcat v0 = 1 := by rfl) (c1 : pcat v1 = 1 := by rfl) (c2 : pcat v2 = 1 := by rfl) (hw : ∀ l, wp h.1 (fun t => At l d 77 h.1 (Qn h.1 Qp) t) (CallP (d - 1)) (Qn h.1 Qp) k_77_0 [some v0, some v1, some v2] [] h) : CallP d 77 [v0, v1, v2] h Qp := by
  refine call_of g_77.1 (by rw [g_77.2.2.1]; simp only [pcats, c0, c1, c2, pcatL]; decide) (fun l => ?_)
  have e : ent (mML 77) [v0, v1, v2] = [some v0, some v1, some v2] := by rw [g_77.2.2.1]; simp [ent, pcats, c0, c1, c2, pcatL, List.replicate]
  rw [e]
  refine sound g_77.2.1 (by rw [g_77.2.2.2]; exact hN) hd k_77_0 0 k_77_0_ok _ _ _ ?_
  rw [g_77.2.2.2]
  exact hw l
theorem f_78 : (((plainName (mY 78).cls && decide (rN (oN 78) = (mY 78).cls)) && decide (mML 78 = 4)) && decide (aC 78 = 0)) = true := by decide +kernel
theorem g_78 : plainName (mY 78).cls = true ∧ rN (oN 78) = (mY 78).cls ∧ mML 78 = 4 ∧ aC 78 = 0 := by
  have h := f_78
  simp only [Bool.and_eq_true, decide_eq_true_eq] at h
  exact ⟨h.1.1.1, h.1.1.2, h.1.2, h.2⟩
theorem s_78 {d : Nat} {Qp : PQ} {v0 : PV} {v1 : PV} {v2 : PV} {v3 : PV} {h : PMem} (hd : 1 ≤ d) (hN : h.1 ≤ NC) (c0 : pcat v0 = 1 := by rfl) (c1 : pcat v1 = 1 := by rfl) (c2 : pcat v2 = 1 := by rfl) (c3 : pcat v3 = 1 := by rfl) (hw : ∀ l, wp h.1 (fun t => At l d 78 h.1 (Qn h.1 Qp) t) (CallP (d - 1)) (Qn h.1 Qp) k_78_0 [some v0, some v1, some v2, some v3] [] h) : CallP d 78 [v0, v1, v2, v3] h Qp := by
  refine call_of g_78.1 (by rw [g_78.2.2.1]; simp only [pcats, c0, c1, c2, c3, pcatL]; decide) (fun l => ?_)
  have e : ent (mML 78) [v0, v1, v2, v3] = [some v0, some v1, some v2, some v3] := by rw [g_78.2.2.1]; simp [ent, pcats, c0, c1, c2, c3, pcatL, List.replicate]
  rw [e]
  refine sound g_78.2.1 (by rw [g_78.2.2.2]; exact hN) hd k_78_0 0 k_78_0_ok _ _ _ ?_
  rw [g_78.2.2.2]
  exact hw l
theorem f_79 : (((plainName (mY 79).cls && decide (rN (oN 79) = (mY 79).cls)) && decide (mML 79 = 4)) && decide (aC 79 = 0)) = true := by decide +kernel
theorem g_79 : plainName (mY 79).cls = true ∧ rN (oN 79) = (mY 79).cls ∧ mML 79 = 4 ∧ aC 79 = 0 := by
  have h := f_79
  simp only [Bool.and_eq_true, decide_eq_true_eq] at h
  exact ⟨h.1.1.1, h.1.1.2, h.1.2, h.2⟩
theorem s_79 {d : Nat} {Qp : PQ} {v0 : PV} {v1 : PV} {v2 : PV} {v3 : PV} {h : PMem} (hd : 1 ≤ d) (hN : h.1 ≤ NC) (c0 : pcat v0 = 1 := by rfl) (c1 : pcat v1 = 1 := by rfl) (c2 : pcat v2 = 1 := by rfl) (c3 : pcat v3 = 1 := by rfl) (hw : ∀ l, wp h.1 (fun t => At l d 79 h.1 (Qn h.1 Qp) t) (CallP (d - 1)) (Qn h.1 Qp) k_79_0 [some v0, some v1, some v2, some v3] [] h) : CallP d 79 [v0, v1, v2, v3] h Qp := by
  refine call_of g_79.1 (by rw [g_79.2.2.1]; simp only [pcats, c0, c1, c2, c3, pcatL]; decide) (fun l => ?_)
  have e : ent (mML 79) [v0, v1, v2, v3] = [some v0, some v1, some v2, some v3] := by rw [g_79.2.2.1]; simp [ent, pcats, c0, c1, c2, c3, pcatL, List.replicate]
  rw [e]
  refine sound g_79.2.1 (by rw [g_79.2.2.2]; exact hN) hd k_79_0 0 k_79_0_ok _ _ _ ?_
  rw [g_79.2.2.2]
  exact hw l
theorem f_80 : (((plainName (mY 80).cls && decide (rN (oN 80) = (mY 80).cls)) && decide (mML 80 = 4)) && decide (aC 80 = 0)) = true := by decide +kernel
theorem g_80 : plainName (mY 80).cls = true ∧ rN (oN 80) = (mY 80).cls ∧ mML 80 = 4 ∧ aC 80 = 0 := by
  have h := f_80
  simp only [Bool.and_eq_true, decide_eq_true_eq] at h
  exact ⟨h.1.1.1, h.1.1.2, h.1.2, h.2⟩
theorem s_80 {d : Nat} {Qp : PQ} {v0 : PV} {v1 : PV} {v2 : PV} {v3 : PV} {h : PMem} (hd : 1 ≤ d) (hN : h.1 ≤ NC) (c0 : pcat v0 = 1 := by rfl) (c1 : pcat v1 = 1 := by rfl) (c2 : pcat v2 = 1 := by rfl) (c3 : pcat v3 = 1 := by rfl) (hw : ∀ l, wp h.1 (fun t => At l d 80 h.1 (Qn h.1 Qp) t) (CallP (d - 1)) (Qn h.1 Qp) k_80_0 [some v0, some v1, some v2, some v3] [] h) : CallP d 80 [v0, v1, v2, v3] h Qp := by
  refine call_of g_80.1 (by rw [g_80.2.2.1]; simp only [pcats, c0, c1, c2, c3, pcatL]; decide) (fun l => ?_)
  have e : ent (mML 80) [v0, v1, v2, v3] = [some v0, some v1, some v2, some v3] := by rw [g_80.2.2.1]; simp [ent, pcats, c0, c1, c2, c3, pcatL, List.replicate]
  rw [e]
  refine sound g_80.2.1 (by rw [g_80.2.2.2]; exact hN) hd k_80_0 0 k_80_0_ok _ _ _ ?_
  rw [g_80.2.2.2]
  exact hw l
theorem f_81 : (((plainName (mY 81).cls && decide (rN (oN 81) = (mY 81).cls)) && decide (mML 81 = 2)) && decide (aC 81 = 0)) = true := by decide +kernel
theorem g_81 : plainName (mY 81).cls = true ∧ rN (oN 81) = (mY 81).cls ∧ mML 81 = 2 ∧ aC 81 = 0 := by
  have h := f_81
  simp only [Bool.and_eq_true, decide_eq_true_eq] at h
  exact ⟨h.1.1.1, h.1.1.2, h.1.2, h.2⟩
theorem s_81 {d : Nat} {Qp : PQ} {v0 : PV} {v1 : PV} {h : PMem} (hd : 1 ≤ d) (hN : h.1 ≤ NC) (c0 : pcat v0 = 1 := by rfl) (c1 : pcat v1 = 1 := by rfl) (hw : ∀ l, wp h.1 (fun t => At l d 81 h.1 (Qn h.1 Qp) t) (CallP (d - 1)) (Qn h.1 Qp) k_81_0 [some v0, some v1] [] h) : CallP d 81 [v0, v1] h Qp := by
  refine call_of g_81.1 (by rw [g_81.2.2.1]; simp only [pcats, c0, c1, pcatL]; decide) (fun l => ?_)
  have e : ent (mML 81) [v0, v1] = [some v0, some v1] := by rw [g_81.2.2.1]; simp [ent, pcats, c0, c1, pcatL, List.replicate]
  rw [e]
  refine sound g_81.2.1 (by rw [g_81.2.2.2]; exact hN) hd k_81_0 0 k_81_0_ok _ _ _ ?_
  rw [g_81.2.2.2]
  exact hw l
theorem f_82 : (((plainName (mY 82).cls && decide (rN (oN 82) = (mY 82).cls)) && decide (mML 82 = 1)) && decide (aC 82 = 0)) = true := by decide +kernel
theorem g_82 : plainName (mY 82).cls = true ∧ rN (oN 82) = (mY 82).cls ∧ mML 82 = 1 ∧ aC 82 = 0 := by
  have h := f_82
  simp only [Bool.and_eq_true, decide_eq_true_eq] at h
  exact ⟨h.1.1.1, h.1.1.2, h.1.2, h.2⟩
theorem s_82 {d : Nat} {Qp : PQ} {v0 : PV} {h : PMem} (hd : 1 ≤ d) (hN : h.1 ≤ NC) (c0 : pcat v0 = 1 := by rfl) (hw : ∀ l, wp h.1 (fun t => At l d 82 h.1 (Qn h.1 Qp) t) (CallP (d - 1)) (Qn h.1 Qp) k_82_0 [some v0] [] h) : CallP d 82 [v0] h Qp := by
  refine call_of g_82.1 (by rw [g_82.2.2.1]; simp only [pcats, c0, pcatL]; decide) (fun l => ?_)
  have e : ent (mML 82) [v0] = [some v0] := by rw [g_82.2.2.1]; simp [ent, pcats, c0, pcatL, List.replicate]
  rw [e]
  refine sound g_82.2.1 (by rw [g_82.2.2.2]; exact hN) hd k_82_0 0 k_82_0_ok _ _ _ ?_
  rw [g_82.2.2.2]
  exact hw l
theorem f_83 : (((plainName (mY 83).cls && decide (rN (oN 83) = (mY 83).cls)) && decide (mML 83 = 2)) && decide (aC 83 = 0)) = true := by decide +kernel
theorem g_83 : plainName (mY 83).cls = true ∧ rN (oN 83) = (mY 83).cls ∧ mML 83 = 2 ∧ aC 83 = 0 := by
  have h := f_83
  simp only [Bool.and_eq_true, decide_eq_true_eq] at h
  exact ⟨h.1.1.1, h.1.1.2, h.1.2, h.2⟩
theorem s_83 {d : Nat} {Qp : PQ} {v0 : PV} {h : PMem} (hd : 1 ≤ d) (hN : h.1 ≤ NC) (c0 : pcat v0 = 1 := by rfl) (hw : ∀ l, wp h.1 (fun t => At l d 83 h.1 (Qn h.1 Qp) t) (CallP (d - 1)) (Qn h.1 Qp) k_83_0 [some v0, none] [] h) : CallP d 83 [v0] h Qp := by
  refine call_of g_83.1 (by rw [g_83.2.2.1]; simp only [pcats, c0, pcatL]; decide) (fun l => ?_)
  have e : ent (mML 83) [v0] = [some v0, none] := by rw [g_83.2.2.1]; simp [ent, pcats, c0, pcatL, List.replicate]
  rw [e]
  refine sound g_83.2.1 (by rw [g_83.2.2.2]; exact hN) hd k_83_0 0 k_83_0_ok _ _ _ ?_
  rw [g_83.2.2.2]
  exact hw l
theorem l_83_27 {l : Launch} {d n0 : Nat} {Qp : PQ} {ls : List (Option PV)} {st : List PV} {h : PMem} (hd : 1 ≤ d) (hN : n0 ≤ NC) (hw : wp n0 (fun t => At l d 83 n0 Qp t) (CallP (d - 1)) Qp k_83_27 ls st h) : At l d 83 n0 Qp 27 ls st h := sound g_83.2.1 (by rw [g_83.2.2.2]; exact hN) hd k_83_27 27 k_83_27_ok ls st h (by rw [g_83.2.2.2]; exact hw)
theorem f_84 : (((plainName (mY 84).cls && decide (rN (oN 84) = (mY 84).cls)) && decide (mML 84 = 6)) && decide (aC 84 = 0)) = true := by decide +kernel
theorem g_84 : plainName (mY 84).cls = true ∧ rN (oN 84) = (mY 84).cls ∧ mML 84 = 6 ∧ aC 84 = 0 := by
  have h := f_84
  simp only [Bool.and_eq_true, decide_eq_true_eq] at h
  exact ⟨h.1.1.1, h.1.1.2, h.1.2, h.2⟩
theorem s_84 {d : Nat} {Qp : PQ} {v0 : PV} {v1 : PV} {v2 : PV} {v3 : PV} {v4 : PV} {h : PMem} (hd : 1 ≤ d) (hN : h.1 ≤ NC) (c0 : pcat v0 = 1 := by rfl) (c1 : pcat v1 = 1 := by rfl) (c2 : pcat v2 = 1 := by rfl) (c3 : pcat v3 = 1 := by rfl) (c4 : pcat v4 = 1 := by rfl) (hw : ∀ l, wp h.1 (fun t => At l d 84 h.1 (Qn h.1 Qp) t) (CallP (d - 1)) (Qn h.1 Qp) k_84_0 [some v0, some v1, some v2, some v3, some v4, none] [] h) : CallP d 84 [v0, v1, v2, v3, v4] h Qp := by
  refine call_of g_84.1 (by rw [g_84.2.2.1]; simp only [pcats, c0, c1, c2, c3, c4, pcatL]; decide) (fun l => ?_)
  have e : ent (mML 84) [v0, v1, v2, v3, v4] = [some v0, some v1, some v2, some v3, some v4, none] := by rw [g_84.2.2.1]; simp [ent, pcats, c0, c1, c2, c3, c4, pcatL, List.replicate]
  rw [e]
  refine sound g_84.2.1 (by rw [g_84.2.2.2]; exact hN) hd k_84_0 0 k_84_0_ok _ _ _ ?_
  rw [g_84.2.2.2]
  exact hw l
theorem l_84_30 {l : Launch} {d n0 : Nat} {Qp : PQ} {ls : List (Option PV)} {st : List PV} {h : PMem} (hd : 1 ≤ d) (hN : n0 ≤ NC) (hw : wp n0 (fun t => At l d 84 n0 Qp t) (CallP (d - 1)) Qp k_84_30 ls st h) : At l d 84 n0 Qp 30 ls st h := sound g_84.2.1 (by rw [g_84.2.2.2]; exact hN) hd k_84_30 30 k_84_30_ok ls st h (by rw [g_84.2.2.2]; exact hw)
theorem f_85 : (((plainName (mY 85).cls && decide (rN (oN 85) = (mY 85).cls)) && decide (mML 85 = 1)) && decide (aC 85 = 0)) = true := by decide +kernel
theorem g_85 : plainName (mY 85).cls = true ∧ rN (oN 85) = (mY 85).cls ∧ mML 85 = 1 ∧ aC 85 = 0 := by
  have h := f_85
  simp only [Bool.and_eq_true, decide_eq_true_eq] at h
  exact ⟨h.1.1.1, h.1.1.2, h.1.2, h.2⟩
theorem s_85 {d : Nat} {Qp : PQ} {v0 : PV} {h : PMem} (hd : 1 ≤ d) (hN : h.1 ≤ NC) (c0 : pcat v0 = 1 := by rfl) (hw : ∀ l, wp h.1 (fun t => At l d 85 h.1 (Qn h.1 Qp) t) (CallP (d - 1)) (Qn h.1 Qp) k_85_0 [some v0] [] h) : CallP d 85 [v0] h Qp := by
  refine call_of g_85.1 (by rw [g_85.2.2.1]; simp only [pcats, c0, pcatL]; decide) (fun l => ?_)
  have e : ent (mML 85) [v0] = [some v0] := by rw [g_85.2.2.1]; simp [ent, pcats, c0, pcatL, List.replicate]
  rw [e]
  refine sound g_85.2.1 (by rw [g_85.2.2.2]; exact hN) hd k_85_0 0 k_85_0_ok _ _ _ ?_
  rw [g_85.2.2.2]
  exact hw l
theorem l_85_23 {l : Launch} {d n0 : Nat} {Qp : PQ} {ls : List (Option PV)} {st : List PV} {h : PMem} (hd : 1 ≤ d) (hN : n0 ≤ NC) (hw : wp n0 (fun t => At l d 85 n0 Qp t) (CallP (d - 1)) Qp k_85_23 ls st h) : At l d 85 n0 Qp 23 ls st h := sound g_85.2.1 (by rw [g_85.2.2.2]; exact hN) hd k_85_23 23 k_85_23_ok ls st h (by rw [g_85.2.2.2]; exact hw)
theorem f_86 : (((plainName (mY 86).cls && decide (rN (oN 86) = (mY 86).cls)) && decide (mML 86 = 1)) && decide (aC 86 = 0)) = true := by decide +kernel
theorem g_86 : plainName (mY 86).cls = true ∧ rN (oN 86) = (mY 86).cls ∧ mML 86 = 1 ∧ aC 86 = 0 := by
  have h := f_86
  simp only [Bool.and_eq_true, decide_eq_true_eq] at h
  exact ⟨h.1.1.1, h.1.1.2, h.1.2, h.2⟩
theorem s_86 {d : Nat} {Qp : PQ} {v0 : PV} {h : PMem} (hd : 1 ≤ d) (hN : h.1 ≤ NC) (c0 : pcat v0 = 1 := by rfl) (hw : ∀ l, wp h.1 (fun t => At l d 86 h.1 (Qn h.1 Qp) t) (CallP (d - 1)) (Qn h.1 Qp) k_86_0 [some v0] [] h) : CallP d 86 [v0] h Qp := by
  refine call_of g_86.1 (by rw [g_86.2.2.1]; simp only [pcats, c0, pcatL]; decide) (fun l => ?_)
  have e : ent (mML 86) [v0] = [some v0] := by rw [g_86.2.2.1]; simp [ent, pcats, c0, pcatL, List.replicate]
  rw [e]
  refine sound g_86.2.1 (by rw [g_86.2.2.2]; exact hN) hd k_86_0 0 k_86_0_ok _ _ _ ?_
  rw [g_86.2.2.2]
  exact hw l
theorem f_87 : (((plainName (mY 87).cls && decide (rN (oN 87) = (mY 87).cls)) && decide (mML 87 = 3)) && decide (aC 87 = 0)) = true := by decide +kernel
theorem g_87 : plainName (mY 87).cls = true ∧ rN (oN 87) = (mY 87).cls ∧ mML 87 = 3 ∧ aC 87 = 0 := by
  have h := f_87
  simp only [Bool.and_eq_true, decide_eq_true_eq] at h
  exact ⟨h.1.1.1, h.1.1.2, h.1.2, h.2⟩
theorem s_87 {d : Nat} {Qp : PQ} {v0 : PV} {v1 : PV} {v2 : PV} {h : PMem} (hd : 1 ≤ d) (hN : h.1 ≤ NC) (c0 : pcat v0 = 1 := by rfl) (c1 : pcat v1 = 1 := by rfl) (c2 : pcat v2 = 1 := by rfl) (hw : ∀ l, wp h.1 (fun t => At l d 87 h.1 (Qn h.1 Qp) t) (CallP (d - 1)) (Qn h.1 Qp) k_87_0 [some v0, some v1, some v2] [] h) : CallP d 87 [v0, v1, v2] h Qp := by
  refine call_of g_87.1 (by rw [g_87.2.2.1]; simp only [pcats, c0, c1, c2, pcatL]; decide) (fun l => ?_)
  have e : ent (mML 87) [v0, v1, v2] = [some v0, some v1, some v2] := by rw [g_87.2.2.1]; simp [ent, pcats, c0, c1, c2, pcatL, List.replicate]
  rw [e]
  refine sound g_87.2.1 (by rw [g_87.2.2.2]; exact hN) hd k_87_0 0 k_87_0_ok _ _ _ ?_
  rw [g_87.2.2.2]
  exact hw l
theorem l_87_18 {l : Launch} {d n0 : Nat} {Qp : PQ} {ls : List (Option PV)} {st : List PV} {h : PMem} (hd : 1 ≤ d) (hN : n0 ≤ NC) (hw : wp n0 (fun t => At l d 87 n0 Qp t) (CallP (d - 1)) Qp k_87_18 ls st h) : At l d 87 n0 Qp 18 ls st h := sound g_87.2.1 (by rw [g_87.2.2.2]; exact hN) hd k_87_18 18 k_87_18_ok ls st h (by rw [g_87.2.2.2]; exact hw)
theorem l_87_52 {l : Launch} {d n0 : Nat} {Qp : PQ} {ls : List (Option PV)} {st : List PV} {h : PMem} (hd : 1 ≤ d) (hN : n0 ≤ NC) (hw : wp n0 (fun t => At l d 87 n0 Qp t) (CallP (d - 1)) Qp k_87_52 ls st h) : At l d 87 n0 Qp 52 ls st h := sound g_87.2.1 (by rw [g_87.2.2.2]; exact hN) hd k_87_52 52 k_87_52_ok ls st h (by rw [g_87.2.2.2]; exact hw)
theorem l_87_65 {l : Launch} {d n0 : Nat} {Qp : PQ} {ls : List (Option PV)} {st : List PV} {h : PMem} (hd : 1 ≤ d) (hN : n0 ≤ NC) (hw : wp n0 (fun t => At l d 87 n0 Qp t) (CallP (d - 1)) Qp k_87_65 ls st h) : At l d 87 n0 Qp 65 ls st h := sound g_87.2.1 (by rw [g_87.2.2.2]; exact hN) hd k_87_65 65 k_87_65_ok ls st h (by rw [g_87.2.2.2]; exact hw)
theorem l_87_75 {l : Launch} {d n0 : Nat} {Qp : PQ} {ls : List (Option PV)} {st : List PV} {h : PMem} (hd : 1 ≤ d) (hN : n0 ≤ NC) (hw : wp n0 (fun t => At l d 87 n0 Qp t) (CallP (d - 1)) Qp k_87_75 ls st h) : At l d 87 n0 Qp 75 ls st h := sound g_87.2.1 (by rw [g_87.2.2.2]; exact hN) hd k_87_75 75 k_87_75_ok ls st h (by rw [g_87.2.2.2]; exact hw)
theorem l_87_85 {l : Launch} {d n0 : Nat} {Qp : PQ} {ls : List (Option PV)} {st : List PV} {h : PMem} (hd : 1 ≤ d) (hN : n0 ≤ NC) (hw : wp n0 (fun t => At l d 87 n0 Qp t) (CallP (d - 1)) Qp k_87_85 ls st h) : At l d 87 n0 Qp 85 ls st h := sound g_87.2.1 (by rw [g_87.2.2.2]; exact hN) hd k_87_85 85 k_87_85_ok ls st h (by rw [g_87.2.2.2]; exact hw)
theorem l_87_101 {l : Launch} {d n0 : Nat} {Qp : PQ} {ls : List (Option PV)} {st : List PV} {h : PMem} (hd : 1 ≤ d) (hN : n0 ≤ NC) (hw : wp n0 (fun t => At l d 87 n0 Qp t) (CallP (d - 1)) Qp k_87_101 ls st h) : At l d 87 n0 Qp 101 ls st h := sound g_87.2.1 (by rw [g_87.2.2.2]; exact hN) hd k_87_101 101 k_87_101_ok ls st h (by rw [g_87.2.2.2]; exact hw)
theorem l_87_111 {l : Launch} {d n0 : Nat} {Qp : PQ} {ls : List (Option PV)} {st : List PV} {h : PMem} (hd : 1 ≤ d) (hN : n0 ≤ NC) (hw : wp n0 (fun t => At l d 87 n0 Qp t) (CallP (d - 1)) Qp k_87_111 ls st h) : At l d 87 n0 Qp 111 ls st h := sound g_87.2.1 (by rw [g_87.2.2.2]; exact hN) hd k_87_111 111 k_87_111_ok ls st h (by rw [g_87.2.2.2]; exact hw)
theorem f_88 : (((plainName (mY 88).cls && decide (rN (oN 88) = (mY 88).cls)) && decide (mML 88 = 3)) && decide (aC 88 = 0)) = true := by decide +kernel
theorem g_88 : plainName (mY 88).cls = true ∧ rN (oN 88) = (mY 88).cls ∧ mML 88 = 3 ∧ aC 88 = 0 := by
  have h := f_88
  simp only [Bool.and_eq_true, decide_eq_true_eq] at h
  exact ⟨h.1.1.1, h.1.1.2, h.1.2, h.2⟩
theorem s_88 {d : Nat} {Qp : PQ} {v0 : PV} {v1 : PV} {v2 : PV} {h : PMem} (hd : 1 ≤ d) (hN : h.1 ≤ NC) (c0 : pcat v0 = 1 := by rfl) (c1 : pcat v1 = 1 := by rfl) (c2 : pcat v2 = 1 := by rfl) (hw : ∀ l, wp h.1 (fun t => At l d 88 h.1 (Qn h.1 Qp) t) (CallP (d - 1)) (Qn h.1 Qp) k_88_0 [some v0, some v1, some v2] [] h) : CallP d 88 [v0, v1, v2] h Qp := by
  refine call_of g_88.1 (by rw [g_88.2.2.1]; simp only [pcats, c0, c1, c2, pcatL]; decide) (fun l => ?_)
  have e : ent (mML 88) [v0, v1, v2] = [some v0, some v1, some v2] := by rw [g_88.2.2.1]; simp [ent, pcats, c0, c1, c2, pcatL, List.replicate]
  rw [e]
  refine sound g_88.2.1 (by rw [g_88.2.2.2]; exact hN) hd k_88_0 0 k_88_0_ok _ _ _ ?_
  rw [g_88.2.2.2]
  exact hw l
theorem l_88_14 {l : Launch} {d n0 : Nat} {Qp : PQ} {ls : List (Option PV)} {st : List PV} {h : PMem} (hd : 1 ≤ d) (hN : n0 ≤ NC) (hw : wp n0 (fun t => At l d 88 n0 Qp t) (CallP (d - 1)) Qp k_88_14 ls st h) : At l d 88 n0 Qp 14 ls st h := sound g_88.2.1 (by rw [g_88.2.2.2]; exact hN) hd k_88_14 14 k_88_14_ok ls st h (by rw [g_88.2.2.2]; exact hw)
theorem l_88_44 {l : Launch} {d n0 : Nat} {Qp : PQ} {ls : List (Option PV)} {st : List PV} {h : PMem} (hd : 1 ≤ d) (hN : n0 ≤ NC) (hw : wp n0 (fun t => At l d 88 n0 Qp t) (CallP (d - 1)) Qp k_88_44 ls st h) : At l d 88 n0 Qp 44 ls st h := sound g_88.2.1 (by rw [g_88.2.2.2]; exact hN) hd k_88_44 44 k_88_44_ok ls st h (by rw [g_88.2.2.2]; exact hw)
theorem l_88_54 {l : Launch} {d n0 : Nat} {Qp : PQ} {ls : List (Option PV)} {st : List PV} {h : PMem} (hd : 1 ≤ d) (hN : n0 ≤ NC) (hw : wp n0 (fun t => At l d 88 n0 Qp t) (CallP (d - 1)) Qp k_88_54 ls st h) : At l d 88 n0 Qp 54 ls st h := sound g_88.2.1 (by rw [g_88.2.2.2]; exact hN) hd k_88_54 54 k_88_54_ok ls st h (by rw [g_88.2.2.2]; exact hw)
theorem l_88_64 {l : Launch} {d n0 : Nat} {Qp : PQ} {ls : List (Option PV)} {st : List PV} {h : PMem} (hd : 1 ≤ d) (hN : n0 ≤ NC) (hw : wp n0 (fun t => At l d 88 n0 Qp t) (CallP (d - 1)) Qp k_88_64 ls st h) : At l d 88 n0 Qp 64 ls st h := sound g_88.2.1 (by rw [g_88.2.2.2]; exact hN) hd k_88_64 64 k_88_64_ok ls st h (by rw [g_88.2.2.2]; exact hw)
theorem l_88_73 {l : Launch} {d n0 : Nat} {Qp : PQ} {ls : List (Option PV)} {st : List PV} {h : PMem} (hd : 1 ≤ d) (hN : n0 ≤ NC) (hw : wp n0 (fun t => At l d 88 n0 Qp t) (CallP (d - 1)) Qp k_88_73 ls st h) : At l d 88 n0 Qp 73 ls st h := sound g_88.2.1 (by rw [g_88.2.2.2]; exact hN) hd k_88_73 73 k_88_73_ok ls st h (by rw [g_88.2.2.2]; exact hw)
theorem l_88_86 {l : Launch} {d n0 : Nat} {Qp : PQ} {ls : List (Option PV)} {st : List PV} {h : PMem} (hd : 1 ≤ d) (hN : n0 ≤ NC) (hw : wp n0 (fun t => At l d 88 n0 Qp t) (CallP (d - 1)) Qp k_88_86 ls st h) : At l d 88 n0 Qp 86 ls st h := sound g_88.2.1 (by rw [g_88.2.2.2]; exact hN) hd k_88_86 86 k_88_86_ok ls st h (by rw [g_88.2.2.2]; exact hw)
theorem f_89 : (((plainName (mY 89).cls && decide (rN (oN 89) = (mY 89).cls)) && decide (mML 89 = 3)) && decide (aC 89 = 0)) = true := by decide +kernel
theorem g_89 : plainName (mY 89).cls = true ∧ rN (oN 89) = (mY 89).cls ∧ mML 89 = 3 ∧ aC 89 = 0 := by
  have h := f_89
  simp only [Bool.and_eq_true, decide_eq_true_eq] at h
  exact ⟨h.1.1.1, h.1.1.2, h.1.2, h.2⟩
theorem s_89 {d : Nat} {Qp : PQ} {v0 : PV} {v1 : PV} {v2 : PV} {h : PMem} (hd : 1 ≤ d) (hN : h.1 ≤ NC) (c0 : pcat v0 = 1 := by rfl) (c1 : pcat v1 = 1 := by rfl) (c2 : pcat v2 = 1 := by rfl) (hw : ∀ l, wp h.1 (fun t => At l d 89 h.1 (Qn h.1 Qp) t) (CallP (d - 1)) (Qn h.1 Qp) k_89_0 [some v0, some v1, some v2] [] h) : CallP d 89 [v0, v1, v2] h Qp := by
  refine call_of g_89.1 (by rw [g_89.2.2.1]; simp only [pcats, c0, c1, c2, pcatL]; decide) (fun l => ?_)
  have e : ent (mML 89) [v0, v1, v2] = [some v0, some v1, some v2] := by rw [g_89.2.2.1]; simp [ent, pcats, c0, c1, c2, pcatL, List.replicate]
  rw [e]
  refine sound g_89.2.1 (by rw [g_89.2.2.2]; exact hN) hd k_89_0 0 k_89_0_ok _ _ _ ?_
  rw [g_89.2.2.2]
  exact hw l
theorem l_89_19 {l : Launch} {d n0 : Nat} {Qp : PQ} {ls : List (Option PV)} {st : List PV} {h : PMem} (hd : 1 ≤ d) (hN : n0 ≤ NC) (hw : wp n0 (fun t => At l d 89 n0 Qp t) (CallP (d - 1)) Qp k_89_19 ls st h) : At l d 89 n0 Qp 19 ls st h := sound g_89.2.1 (by rw [g_89.2.2.2]; exact hN) hd k_89_19 19 k_89_19_ok ls st h (by rw [g_89.2.2.2]; exact hw)
theorem f_90 : (((plainName (mY 90).cls && decide (rN (oN 90) = (mY 90).cls)) && decide (mML 90 = 5)) && decide (aC 90 = 0)) = true := by decide +kernel
theorem g_90 : plainName (mY 90).cls = true ∧ rN (oN 90) = (mY 90).cls ∧ mML 90 = 5 ∧ aC 90 = 0 := by
  have h := f_90
  simp only [Bool.and_eq_true, decide_eq_true_eq] at h
  exact ⟨h.1.1.1, h.1.1.2, h.1.2, h.2⟩
theorem s_90 {d : Nat} {Qp : PQ} {v0 : PV} {v1 : PV} {v2 : PV} {v3 : PV} {v4 : PV} {h : PMem} (hd : 1 ≤ d) (hN : h.1 ≤ NC) (c0 : pcat v0 = 1 := by rfl) (c1 : pcat v1 = 1 := by rfl) (c2 : pcat v2 = 1 := by rfl) (c3 : pcat v3 = 1 := by rfl) (c4 : pcat v4 = 1 := by rfl) (hw : ∀ l, wp h.1 (fun t => At l d 90 h.1 (Qn h.1 Qp) t) (CallP (d - 1)) (Qn h.1 Qp) k_90_0 [some v0, some v1, some v2, some v3, some v4] [] h) : CallP d 90 [v0, v1, v2, v3, v4] h Qp := by
  refine call_of g_90.1 (by rw [g_90.2.2.1]; simp only [pcats, c0, c1, c2, c3, c4, pcatL]; decide) (fun l => ?_)
  have e : ent (mML 90) [v0, v1, v2, v3, v4] = [some v0, some v1, some v2, some v3, some v4] := by rw [g_90.2.2.1]; simp [ent, pcats, c0, c1, c2, c3, c4, pcatL, List.replicate]
  rw [e]
  refine sound g_90.2.1 (by rw [g_90.2.2.2]; exact hN) hd k_90_0 0 k_90_0_ok _ _ _ ?_
  rw [g_90.2.2.2]
  exact hw l
theorem l_90_37 {l : Launch} {d n0 : Nat} {Qp : PQ} {ls : List (Option PV)} {st : List PV} {h : PMem} (hd : 1 ≤ d) (hN : n0 ≤ NC) (hw : wp n0 (fun t => At l d 90 n0 Qp t) (CallP (d - 1)) Qp k_90_37 ls st h) : At l d 90 n0 Qp 37 ls st h := sound g_90.2.1 (by rw [g_90.2.2.2]; exact hN) hd k_90_37 37 k_90_37_ok ls st h (by rw [g_90.2.2.2]; exact hw)
theorem l_90_44 {l : Launch} {d n0 : Nat} {Qp : PQ} {ls : List (Option PV)} {st : List PV} {h : PMem} (hd : 1 ≤ d) (hN : n0 ≤ NC) (hw : wp n0 (fun t => At l d 90 n0 Qp t) (CallP (d - 1)) Qp k_90_44 ls st h) : At l d 90 n0 Qp 44 ls st h := sound g_90.2.1 (by rw [g_90.2.2.2]; exact hN) hd k_90_44 44 k_90_44_ok ls st h (by rw [g_90.2.2.2]; exact hw)
theorem l_90_63 {l : Launch} {d n0 : Nat} {Qp : PQ} {ls : List (Option PV)} {st : List PV} {h : PMem} (hd : 1 ≤ d) (hN : n0 ≤ NC) (hw : wp n0 (fun t => At l d 90 n0 Qp t) (CallP (d - 1)) Qp k_90_63 ls st h) : At l d 90 n0 Qp 63 ls st h := sound g_90.2.1 (by rw [g_90.2.2.2]; exact hN) hd k_90_63 63 k_90_63_ok ls st h (by rw [g_90.2.2.2]; exact hw)
theorem l_90_81 {l : Launch} {d n0 : Nat} {Qp : PQ} {ls : List (Option PV)} {st : List PV} {h : PMem} (hd : 1 ≤ d) (hN : n0 ≤ NC) (hw : wp n0 (fun t => At l d 90 n0 Qp t) (CallP (d - 1)) Qp k_90_81 ls st h) : At l d 90 n0 Qp 81 ls st h := sound g_90.2.1 (by rw [g_90.2.2.2]; exact hN) hd k_90_81 81 k_90_81_ok ls st h (by rw [g_90.2.2.2]; exact hw)
theorem l_90_85 {l : Launch} {d n0 : Nat} {Qp : PQ} {ls : List (Option PV)} {st : List PV} {h : PMem} (hd : 1 ≤ d) (hN : n0 ≤ NC) (hw : wp n0 (fun t => At l d 90 n0 Qp t) (CallP (d - 1)) Qp k_90_85 ls st h) : At l d 90 n0 Qp 85 ls st h := sound g_90.2.1 (by rw [g_90.2.2.2]; exact hN) hd k_90_85 85 k_90_85_ok ls st h (by rw [g_90.2.2.2]; exact hw)
theorem f_91 : (((plainName (mY 91).cls && decide (rN (oN 91) = (mY 91).cls)) && decide (mML 91 = 3)) && decide (aC 91 = 0)) = true := by decide +kernel
theorem g_91 : plainName (mY 91).cls = true ∧ rN (oN 91) = (mY 91).cls ∧ mML 91 = 3 ∧ aC 91 = 0 := by
  have h := f_91
  simp only [Bool.and_eq_true, decide_eq_true_eq] at h
  exact ⟨h.1.1.1, h.1.1.2, h.1.2, h.2⟩
theorem s_91 {d : Nat} {Qp : PQ} {v0 : PV} {v1 : PV} {v2 : PV} {h : PMem} (hd : 1 ≤ d) (hN : h.1 ≤ NC) (c0 : pcat v0 = 1 := by rfl) (c1 : pcat v1 = 1 := by rfl) (c2 : pcat v2 = 1 := by rfl) (hw : ∀ l, wp h.1 (fun t => At l d 91 h.1 (Qn h.1 Qp) t) (CallP (d - 1)) (Qn h.1 Qp) k_91_0 [some v0, some v1, some v2] [] h) : CallP d 91 [v0, v1, v2] h Qp := by
  refine call_of g_91.1 (by rw [g_91.2.2.1]; simp only [pcats, c0, c1, c2, pcatL]; decide) (fun l => ?_)
  have e : ent (mML 91) [v0, v1, v2] = [some v0, some v1, some v2] := by rw [g_91.2.2.1]; simp [ent, pcats, c0, c1, c2, pcatL, List.replicate]
  rw [e]
  refine sound g_91.2.1 (by rw [g_91.2.2.2]; exact hN) hd k_91_0 0 k_91_0_ok _ _ _ ?_
  rw [g_91.2.2.2]
  exact hw l
theorem l_91_21 {l : Launch} {d n0 : Nat} {Qp : PQ} {ls : List (Option PV)} {st : List PV} {h : PMem} (hd : 1 ≤ d) (hN : n0 ≤ NC) (hw : wp n0 (fun t => At l d 91 n0 Qp t) (CallP (d - 1)) Qp k_91_21 ls st h) : At l d 91 n0 Qp 21 ls st h := sound g_91.2.1 (by rw [g_91.2.2.2]; exact hN) hd k_91_21 21 k_91_21_ok ls st h (by rw [g_91.2.2.2]; exact hw)
theorem l_91_28 {l : Launch} {d n0 : Nat} {Qp : PQ} {ls : List (Option PV)} {st : List PV} {h : PMem} (hd : 1 ≤ d) (hN : n0 ≤ NC) (hw : wp n0 (fun t => At l d 91 n0 Qp t) (CallP (d - 1)) Qp k_91_28 ls st h) : At l d 91 n0 Qp 28 ls st h := sound g_91.2.1 (by rw [g_91.2.2.2]; exact hN) hd k_91_28 28 k_91_28_ok ls st h (by rw [g_91.2.2.2]; exact hw)
theorem f_92 : (((plainName (mY 92).cls && decide (rN (oN 92) = (mY 92).cls)) && decide (mML 92 = 3)) && decide (aC 92 = 0)) = true := by decide +kernel
theorem g_92 : plainName (mY 92).cls = true ∧ rN (oN 92) = (mY 92).cls ∧ mML 92 = 3 ∧ aC 92 = 0 := by
  have h := f_92
  simp only [Bool.and_eq_true, decide_eq_true_eq] at h
  exact ⟨h.1.1.1, h.1.1.2, h.1.2, h.2⟩
theorem s_92 {d : Nat} {Qp : PQ} {v0 : PV} {v1 : PV} {v2 : PV} {h : PMem} (hd : 1 ≤ d) (hN : h.1 ≤ NC) (c0 : pcat v0 = 1 := by rfl) (c1 : pcat v1 = 1 := by rfl) (c2 : pcat v2 = 1 := by rfl) (hw : ∀ l, wp h.1 (fun t => At l d 92 h.1 (Qn h.1 Qp) t) (CallP (d - 1)) (Qn h.1 Qp) k_92_0 [some v0, some v1, some v2] [] h) : CallP d 92 [v0, v1, v2] h Qp := by
  refine call_of g_92.1 (by rw [g_92.2.2.1]; simp only [pcats, c0, c1, c2, pcatL]; decide) (fun l => ?_)
  have e : ent (mML 92) [v0, v1, v2] = [some v0, some v1, some v2] := by rw [g_92.2.2.1]; simp [ent, pcats, c0, c1, c2, pcatL, List.replicate]
  rw [e]
  refine sound g_92.2.1 (by rw [g_92.2.2.2]; exact hN) hd k_92_0 0 k_92_0_ok _ _ _ ?_
  rw [g_92.2.2.2]
  exact hw l
theorem l_92_18 {l : Launch} {d n0 : Nat} {Qp : PQ} {ls : List (Option PV)} {st : List PV} {h : PMem} (hd : 1 ≤ d) (hN : n0 ≤ NC) (hw : wp n0 (fun t => At l d 92 n0 Qp t) (CallP (d - 1)) Qp k_92_18 ls st h) : At l d 92 n0 Qp 18 ls st h := sound g_92.2.1 (by rw [g_92.2.2.2]; exact hN) hd k_92_18 18 k_92_18_ok ls st h (by rw [g_92.2.2.2]; exact hw)
theorem l_92_27 {l : Launch} {d n0 : Nat} {Qp : PQ} {ls : List (Option PV)} {st : List PV} {h : PMem} (hd : 1 ≤ d) (hN : n0 ≤ NC) (hw : wp n0 (fun t => At l d 92 n0 Qp t) (CallP (d - 1)) Qp k_92_27 ls st h) : At l d 92 n0 Qp 27 ls st h := sound g_92.2.1 (by rw [g_92.2.2.2]; exact hN) hd k_92_27 27 k_92_27_ok ls st h (by rw [g_92.2.2.2]; exact hw)
theorem l_92_48 {l : Launch} {d n0 : Nat} {Qp : PQ} {ls : List (Option PV)} {st : List PV} {h : PMem} (hd : 1 ≤ d) (hN : n0 ≤ NC) (hw : wp n0 (fun t => At l d 92 n0 Qp t) (CallP (d - 1)) Qp k_92_48 ls st h) : At l d 92 n0 Qp 48 ls st h := sound g_92.2.1 (by rw [g_92.2.2.2]; exact hN) hd k_92_48 48 k_92_48_ok ls st h (by rw [g_92.2.2.2]; exact hw)
theorem f_93 : (((plainName (mY 93).cls && decide (rN (oN 93) = (mY 93).cls)) && decide (mML 93 = 4)) && decide (aC 93 = 0)) = true := by decide +kernel
theorem g_93 : plainName (mY 93).cls = true ∧ rN (oN 93) = (mY 93).cls ∧ mML 93 = 4 ∧ aC 93 = 0 := by
  have h := f_93
  simp only [Bool.and_eq_true, decide_eq_true_eq] at h
  exact ⟨h.1.1.1, h.1.1.2, h.1.2, h.2⟩
theorem s_93 {d : Nat} {Qp : PQ} {v0 : PV} {v1 : PV} {v2 : PV} {h : PMem} (hd : 1 ≤ d) (hN : h.1 ≤ NC) (c0 : pcat v0 = 1 := by rfl) (c1 : pcat v1 = 1 := by rfl) (c2 : pcat v2 = 1 := by rfl) (hw : ∀ l, wp h.1 (fun t => At l d 93 h.1 (Qn h.1 Qp) t) (CallP (d - 1)) (Qn h.1 Qp) k_93_0 [some v0, some v1, some v2, none] [] h) : CallP d 93 [v0, v1, v2] h Qp := by
  refine call_of g_93.1 (by rw [g_93.2.2.1]; simp only [pcats, c0, c1, c2, pcatL]; decide) (fun l => ?_)
  have e : ent (mML 93) [v0, v1, v2] = [some v0, some v1, some v2, none] := by rw [g_93.2.2.1]; simp [ent, pcats, c0, c1, c2, pcatL, List.replicate]
  rw [e]
  refine sound g_93.2.1 (by rw [g_93.2.2.2]; exact hN) hd k_93_0 0 k_93_0_ok _ _ _ ?_
  rw [g_93.2.2.2]
  exact hw l
theorem l_93_20 {l : Launch} {d n0 : Nat} {Qp : PQ} {ls : List (Option PV)} {st : List PV} {h : PMem} (hd : 1 ≤ d) (hN : n0 ≤ NC) (hw : wp n0 (fun t => At l d 93 n0 Qp t) (CallP (d - 1)) Qp k_93_20 ls st h) : At l d 93 n0 Qp 20 ls st h := sound g_93.2.1 (by rw [g_93.2.2.2]; exact hN) hd k_93_20 20 k_93_20_ok ls st h (by rw [g_93.2.2.2]; exact hw)
theorem l_93_27 {l : Launch} {d n0 : Nat} {Qp : PQ} {ls : List (Option PV)} {st : List PV} {h : PMem} (hd : 1 ≤ d) (hN : n0 ≤ NC) (hw : wp n0 (fun t => At l d 93 n0 Qp t) (CallP (d - 1)) Qp k_93_27 ls st h) : At l d 93 n0 Qp 27 ls st h := sound g_93.2.1 (by rw [g_93.2.2.2]; exact hN) hd k_93_27 27 k_93_27_ok ls st h (by rw [g_93.2.2.2]; exact hw)
theorem l_93_48 {l : Launch} {d n0 : Nat} {Qp : PQ} {ls : List (Option PV)} {st : List PV} {h : PMem} (hd : 1 ≤ d) (hN : n0 ≤ NC) (hw : wp n0 (fun t => At l d 93 n0 Qp t) (CallP (d - 1)) Qp k_93_48 ls st h) : At l d 93 n0 Qp 48 ls st h := sound g_93.2.1 (by rw [g_93.2.2.2]; exact hN) hd k_93_48 48 k_93_48_ok ls st h (by rw [g_93.2.2.2]; exact hw)
theorem l_93_56 {l : Launch} {d n0 : Nat} {Qp : PQ} {ls : List (Option PV)} {st : List PV} {h : PMem} (hd : 1 ≤ d) (hN : n0 ≤ NC) (hw : wp n0 (fun t => At l d 93 n0 Qp t) (CallP (d - 1)) Qp k_93_56 ls st h) : At l d 93 n0 Qp 56 ls st h := sound g_93.2.1 (by rw [g_93.2.2.2]; exact hN) hd k_93_56 56 k_93_56_ok ls st h (by rw [g_93.2.2.2]; exact hw)
theorem f_94 : (((plainName (mY 94).cls && decide (rN (oN 94) = (mY 94).cls)) && decide (mML 94 = 2)) && decide (aC 94 = 0)) = true := by decide +kernel
theorem g_94 : plainName (mY 94).cls = true ∧ rN (oN 94) = (mY 94).cls ∧ mML 94 = 2 ∧ aC 94 = 0 := by
  have h := f_94
  simp only [Bool.and_eq_true, decide_eq_true_eq] at h
  exact ⟨h.1.1.1, h.1.1.2, h.1.2, h.2⟩
theorem s_94 {d : Nat} {Qp : PQ} {v0 : PV} {v1 : PV} {h : PMem} (hd : 1 ≤ d) (hN : h.1 ≤ NC) (c0 : pcat v0 = 1 := by rfl) (c1 : pcat v1 = 1 := by rfl) (hw : ∀ l, wp h.1 (fun t => At l d 94 h.1 (Qn h.1 Qp) t) (CallP (d - 1)) (Qn h.1 Qp) k_94_0 [some v0, some v1] [] h) : CallP d 94 [v0, v1] h Qp := by
  refine call_of g_94.1 (by rw [g_94.2.2.1]; simp only [pcats, c0, c1, pcatL]; decide) (fun l => ?_)
  have e : ent (mML 94) [v0, v1] = [some v0, some v1] := by rw [g_94.2.2.1]; simp [ent, pcats, c0, c1, pcatL, List.replicate]
  rw [e]
  refine sound g_94.2.1 (by rw [g_94.2.2.2]; exact hN) hd k_94_0 0 k_94_0_ok _ _ _ ?_
  rw [g_94.2.2.2]
  exact hw l
theorem l_94_18 {l : Launch} {d n0 : Nat} {Qp : PQ} {ls : List (Option PV)} {st : List PV} {h : PMem} (hd : 1 ≤ d) (hN : n0 ≤ NC) (hw : wp n0 (fun t => At l d 94 n0 Qp t) (CallP (d - 1)) Qp k_94_18 ls st h) : At l d 94 n0 Qp 18 ls st h := sound g_94.2.1 (by rw [g_94.2.2.2]; exact hN) hd k_94_18 18 k_94_18_ok ls st h (by rw [g_94.2.2.2]; exact hw)
theorem f_95 : (((plainName (mY 95).cls && decide (rN (oN 95) = (mY 95).cls)) && decide (mML 95 = 4)) && decide (aC 95 = 0)) = true := by decide +kernel
theorem g_95 : plainName (mY 95).cls = true ∧ rN (oN 95) = (mY 95).cls ∧ mML 95 = 4 ∧ aC 95 = 0 := by
  have h := f_95
  simp only [Bool.and_eq_true, decide_eq_true_eq] at h
  exact ⟨h.1.1.1, h.1.1.2, h.1.2, h.2⟩
theorem s_95 {d : Nat} {Qp : PQ} {v0 : PV} {v1 : PV} {v2 : PV} {v3 : PV} {h : PMem} (hd : 1 ≤ d) (hN : h.1 ≤ NC) (c0 : pcat v0 = 1 := by rfl) (c1 : pcat v1 = 1 := by rfl) (c2 : pcat v2 = 1 := by rfl) (c3 : pcat v3 = 1 := by rfl) (hw : ∀ l, wp h.1 (fun t => At l d 95 h.1 (Qn h.1 Qp) t) (CallP (d - 1)) (Qn h.1 Qp) k_95_0 [some v0, some v1, some v2, some v3] [] h) : CallP d 95 [v0, v1, v2, v3] h Qp := by
  refine call_of g_95.1 (by rw [g_95.2.2.1]; simp only [pcats, c0, c1, c2, c3, pcatL]; decide) (fun l => ?_)
  have e : ent (mML 95) [v0, v1, v2, v3] = [some v0, some v1, some v2, some v3] := by rw [g_95.2.2.1]; simp [ent, pcats, c0, c1, c2, c3, pcatL, List.replicate]
  rw [e]
  refine sound g_95.2.1 (by rw [g_95.2.2.2]; exact hN) hd k_95_0 0 k_95_0_ok _ _ _ ?_
  rw [g_95.2.2.2]
  exact hw l
theorem l_95_25 {l : Launch} {d n0 : Nat} {Qp : PQ} {ls : List (Option PV)} {st : List PV} {h : PMem} (hd : 1 ≤ d) (hN : n0 ≤ NC) (hw : wp n0 (fun t => At l d 95 n0 Qp t) (CallP (d - 1)) Qp k_95_25 ls st h) : At l d 95 n0 Qp 25 ls st h := sound g_95.2.1 (by rw [g_95.2.2.2]; exact hN) hd k_95_25 25 k_95_25_ok ls st h (by rw [g_95.2.2.2]; exact hw)
theorem l_95_34 {l : Launch} {d n0 : Nat} {Qp : PQ} {ls : List (Option PV)} {st : List PV} {h : PMem} (hd : 1 ≤ d) (hN : n0 ≤ NC) (hw : wp n0 (fun t => At l d 95 n0 Qp t) (CallP (d - 1)) Qp k_95_34 ls st h) : At l d 95 n0 Qp 34 ls st h := sound g_95.2.1 (by rw [g_95.2.2.2]; exact hN) hd k_95_34 34 k_95_34_ok ls st h (by rw [g_95.2.2.2]; exact hw)
theorem l_95_42 {l : Launch} {d n0 : Nat} {Qp : PQ} {ls : List (Option PV)} {st : List PV} {h : PMem} (hd : 1 ≤ d) (hN : n0 ≤ NC) (hw : wp n0 (fun t => At l d 95 n0 Qp t) (CallP (d - 1)) Qp k_95_42 ls st h) : At l d 95 n0 Qp 42 ls st h := sound g_95.2.1 (by rw [g_95.2.2.2]; exact hN) hd k_95_42 42 k_95_42_ok ls st h (by rw [g_95.2.2.2]; exact hw)
theorem l_95_70 {l : Launch} {d n0 : Nat} {Qp : PQ} {ls : List (Option PV)} {st : List PV} {h : PMem} (hd : 1 ≤ d) (hN : n0 ≤ NC) (hw : wp n0 (fun t => At l d 95 n0 Qp t) (CallP (d - 1)) Qp k_95_70 ls st h) : At l d 95 n0 Qp 70 ls st h := sound g_95.2.1 (by rw [g_95.2.2.2]; exact hN) hd k_95_70 70 k_95_70_ok ls st h (by rw [g_95.2.2.2]; exact hw)
theorem l_95_79 {l : Launch} {d n0 : Nat} {Qp : PQ} {ls : List (Option PV)} {st : List PV} {h : PMem} (hd : 1 ≤ d) (hN : n0 ≤ NC) (hw : wp n0 (fun t => At l d 95 n0 Qp t) (CallP (d - 1)) Qp k_95_79 ls st h) : At l d 95 n0 Qp 79 ls st h := sound g_95.2.1 (by rw [g_95.2.2.2]; exact hN) hd k_95_79 79 k_95_79_ok ls st h (by rw [g_95.2.2.2]; exact hw)
theorem f_96 : (((plainName (mY 96).cls && decide (rN (oN 96) = (mY 96).cls)) && decide (mML 96 = 4)) && decide (aC 96 = 0)) = true := by decide +kernel
theorem g_96 : plainName (mY 96).cls = true ∧ rN (oN 96) = (mY 96).cls ∧ mML 96 = 4 ∧ aC 96 = 0 := by
  have h := f_96
  simp only [Bool.and_eq_true, decide_eq_true_eq] at h
  exact ⟨h.1.1.1, h.1.1.2, h.1.2, h.2⟩
theorem s_96 {d : Nat} {Qp : PQ} {v0 : PV} {v1 : PV} {v2 : PV} {h : PMem} (hd : 1 ≤ d) (hN : h.1 ≤ NC) (c0 : pcat v0 = 1 := by rfl) (c1 : pcat v1 = 1 := by rfl) (c2 : pcat v2 = 1 := by rfl) (hw : ∀ l, wp h.1 (fun t => At l d 96 h.1 (Qn h.1 Qp) t) (CallP (d - 1)) (Qn h.1 Qp) k_96_0 [some v0, some v1, some v2, none] [] h) : CallP d 96 [v0, v1, v2] h Qp := by
  refine call_of g_96.1 (by rw [g_96.2.2.1]; simp only [pcats, c0, c1, c2, pcatL]; decide) (fun l => ?_)
  have e : ent (mML 96) [v0, v1, v2] = [some v0, some v1, some v2, none] := by rw [g_96.2.2.1]; simp [ent, pcats, c0, c1, c2, pcatL, List.replicate]
  rw [e]
  refine sound g_96.2.1 (by rw [g_96.2.2.2]; exact hN) hd k_96_0 0 k_96_0_ok _ _ _ ?_
  rw [g_96.2.2.2]
  exact hw l
theorem l_96_14 {l : Launch} {d n0 : Nat} {Qp : PQ} {ls : List (Option PV)} {st : List PV} {h : PMem} (hd : 1 ≤ d) (hN : n0 ≤ NC) (hw : wp n0 (fun t => At l d 96 n0 Qp t) (CallP (d - 1)) Qp k_96_14 ls st h) : At l d 96 n0 Qp 14 ls st h := sound g_96.2.1 (by rw [g_96.2.2.2]; exact hN) hd k_96_14 14 k_96_14_ok ls st h (by rw [g_96.2.2.2]; exact hw)
theorem l_96_21 {l : Launch} {d n0 : Nat} {Qp : PQ} {ls : List (Option PV)} {st : List PV} {h : PMem} (hd : 1 ≤ d) (hN : n0 ≤ NC) (hw : wp n0 (fun t => At l d 96 n0 Qp t) (CallP (d - 1)) Qp k_96_21 ls st h) : At l d 96 n0 Qp 21 ls st h := sound g_96.2.1 (by rw [g_96.2.2.2]; exact hN) hd k_96_21 21 k_96_21_ok ls st h (by rw [g_96.2.2.2]; exact hw)
theorem l_96_23 {l : Launch} {d n0 : Nat} {Qp : PQ} {ls : List (Option PV)} {st : List PV} {h : PMem} (hd : 1 ≤ d) (hN : n0 ≤ NC) (hw : wp n0 (fun t => At l d 96 n0 Qp t) (CallP (d - 1)) Qp k_96_23 ls st h) : At l d 96 n0 Qp 23 ls st h := sound g_96.2.1 (by rw [g_96.2.2.2]; exact hN) hd k_96_23 23 k_96_23_ok ls st h (by rw [g_96.2.2.2]; exact hw)
theorem l_96_44 {l : Launch} {d n0 : Nat} {Qp : PQ} {ls : List (Option PV)} {st : List PV} {h : PMem} (hd : 1 ≤ d) (hN : n0 ≤ NC) (hw : wp n0 (fun t => At l d 96 n0 Qp t) (CallP (d - 1)) Qp k_96_44 ls st h) : At l d 96 n0 Qp 44 ls st h := sound g_96.2.1 (by rw [g_96.2.2.2]; exact hN) hd k_96_44 44 k_96_44_ok ls st h (by rw [g_96.2.2.2]; exact hw)
theorem f_97 : (((plainName (mY 97).cls && decide (rN (oN 97) = (mY 97).cls)) && decide (mML 97 = 6)) && decide (aC 97 = 0)) = true := by decide +kernel
theorem g_97 : plainName (mY 97).cls = true ∧ rN (oN 97) = (mY 97).cls ∧ mML 97 = 6 ∧ aC 97 = 0 := by
  have h := f_97
  simp only [Bool.and_eq_true, decide_eq_true_eq] at h
  exact ⟨h.1.1.1, h.1.1.2, h.1.2, h.2⟩
theorem s_97 {d : Nat} {Qp : PQ} {v0 : PV} {v1 : PV} {v2 : PV} {v3 : PV} {v4 : PV} {h : PMem} (hd : 1 ≤ d) (hN : h.1 ≤ NC) (c0 : pcat v0 = 1 := by rfl) (c1 : pcat v1 = 1 := by rfl) (c2 : pcat v2 = 1 := by rfl) (c3 : pcat v3 = 1 := by rfl) (c4 : pcat v4 = 1 := by rfl) (hw : ∀ l, wp h.1 (fun t => At l d 97 h.1 (Qn h.1 Qp) t) (CallP (d - 1)) (Qn h.1 Qp) k_97_0 [some v0, some v1, some v2, some v3, some v4, none] [] h) : CallP d 97 [v0, v1, v2, v3, v4] h Qp := by
  refine call_of g_97.1 (by rw [g_97.2.2.1]; simp only [pcats, c0, c1, c2, c3, c4, pcatL]; decide) (fun l => ?_)
  have e : ent (mML 97) [v0, v1, v2, v3, v4] = [some v0, some v1, some v2, some v3, some v4, none] := by rw [g_97.2.2.1]; simp [ent, pcats, c0, c1, c2, c3, c4, pcatL, List.replicate]
  rw [e]
  refine sound g_97.2.1 (by rw [g_97.2.2.2]; exact hN) hd k_97_0 0 k_97_0_ok _ _ _ ?_
  rw [g_97.2.2.2]
  exact hw l
theorem l_97_29 {l : Launch} {d n0 : Nat} {Qp : PQ} {ls : List (Option PV)} {st : List PV} {h : PMem} (hd : 1 ≤ d) (hN : n0 ≤ NC) (hw : wp n0 (fun t => At l d 97 n0 Qp t) (CallP (d - 1)) Qp k_97_29 ls st h) : At l d 97 n0 Qp 29 ls st h := sound g_97.2.1 (by rw [g_97.2.2.2]; exact hN) hd k_97_29 29 k_97_29_ok ls st h (by rw [g_97.2.2.2]; exact hw)
theorem l_97_38 {l : Launch} {d n0 : Nat} {Qp : PQ} {ls : List (Option PV)} {st : List PV} {h : PMem} (hd : 1 ≤ d) (hN : n0 ≤ NC) (hw : wp n0 (fun t => At l d 97 n0 Qp t) (CallP (d - 1)) Qp k_97_38 ls st h) : At l d 97 n0 Qp 38 ls st h := sound g_97.2.1 (by rw [g_97.2.2.2]; exact hN) hd k_97_38 38 k_97_38_ok ls st h (by rw [g_97.2.2.2]; exact hw)
theorem l_97_41 {l : Launch} {d n0 : Nat} {Qp : PQ} {ls : List (Option PV)} {st : List PV} {h : PMem} (hd : 1 ≤ d) (hN : n0 ≤ NC) (hw : wp n0 (fun t => At l d 97 n0 Qp t) (CallP (d - 1)) Qp k_97_41 ls st h) : At l d 97 n0 Qp 41 ls st h := sound g_97.2.1 (by rw [g_97.2.2.2]; exact hN) hd k_97_41 41 k_97_41_ok ls st h (by rw [g_97.2.2.2]; exact hw)
theorem l_97_75 {l : Launch} {d n0 : Nat} {Qp : PQ} {ls : List (Option PV)} {st : List PV} {h : PMem} (hd : 1 ≤ d) (hN : n0 ≤ NC) (hw : wp n0 (fun t => At l d 97 n0 Qp t) (CallP (d - 1)) Qp k_97_75 ls st h) : At l d 97 n0 Qp 75 ls st h := sound g_97.2.1 (by rw [g_97.2.2.2]; exact hN) hd k_97_75 75 k_97_75_ok ls st h (by rw [g_97.2.2.2]; exact hw)
theorem l_97_81 {l : Launch} {d n0 : Nat} {Qp : PQ} {ls : List (Option PV)} {st : List PV} {h : PMem} (hd : 1 ≤ d) (hN : n0 ≤ NC) (hw : wp n0 (fun t => At l d 97 n0 Qp t) (CallP (d - 1)) Qp k_97_81 ls st h) : At l d 97 n0 Qp 81 ls st h := sound g_97.2.1 (by rw [g_97.2.2.2]; exact hN) hd k_97_81 81 k_97_81_ok ls st h (by rw [g_97.2.2.2]; exact hw)
theorem f_98 : (((plainName (mY 98).cls && decide (rN (oN 98) = (mY 98).cls)) && decide (mML 98 = 5)) && decide (aC 98 = 0)) = true := by decide +kernel
theorem g_98 : plainName (mY 98).cls = true ∧ rN (oN 98) = (mY 98).cls ∧ mML 98 = 5 ∧ aC 98 = 0 := by
  have h := f_98
  simp only [Bool.and_eq_true, decide_eq_true_eq] at h
  exact ⟨h.1.1.1, h.1.1.2, h.1.2, h.2⟩
theorem s_98 {d : Nat} {Qp : PQ} {v0 : PV} {v1 : PV} {v2 : PV} {v3 : PV} {v4 : PV} {h : PMem} (hd : 1 ≤ d) (hN : h.1 ≤ NC) (c0 : pcat v0 = 1 := by rfl) (c1 : pcat v1 = 1 := by rfl) (c2 : pcat v2 = 1 := by rfl) (c3 : pcat v3 = 1 := by rfl) (c4 : pcat v4 = 1 := by rfl) (hw : ∀ l, wp h.1 (fun t => At l d 98 h.1 (Qn h.1 Qp) t) (CallP (d - 1)) (Qn h.1 Qp) k_98_0 [some v0, some v1, some v2, some v3, some v4] [] h) : CallP d 98 [v0, v1, v2, v3, v4] h Qp := by
  refine call_of g_98.1 (by rw [g_98.2.2.1]; simp only [pcats, c0, c1, c2, c3, c4, pcatL]; decide) (fun l => ?_)
  have e : ent (mML 98) [v0, v1, v2, v3, v4] = [some v0, some v1, some v2, some v3, some v4] := by rw [g_98.2.2.1]; simp [ent, pcats, c0, c1, c2, c3, c4, pcatL, List.replicate]
  rw [e]
  refine sound g_98.2.1 (by rw [g_98.2.2.2]; exact hN) hd k_98_0 0 k_98_0_ok _ _ _ ?_
  rw [g_98.2.2.2]
  exact hw l
theorem l_98_35 {l : Launch} {d n0 : Nat} {Qp : PQ} {ls : List (Option PV)} {st : List PV} {h : PMem} (hd : 1 ≤ d) (hN : n0 ≤ NC) (hw : wp n0 (fun t => At l d 98 n0 Qp t) (CallP (d - 1)) Qp k_98_35 ls st h) : At l d 98 n0 Qp 35 ls st h := sound g_98.2.1 (by rw [g_98.2.2.2]; exact hN) hd k_98_35 35 k_98_35_ok ls st h (by rw [g_98.2.2.2]; exact hw)
theorem l_98_44 {l : Launch} {d n0 : Nat} {Qp : PQ} {ls : List (Option PV)} {st : List PV} {h : PMem} (hd : 1 ≤ d) (hN : n0 ≤ NC) (hw : wp n0 (fun t => At l d 98 n0 Qp t) (CallP (d - 1)) Qp k_98_44 ls st h) : At l d 98 n0 Qp 44 ls st h := sound g_98.2.1 (by rw [g_98.2.2.2]; exact hN) hd k_98_44 44 k_98_44_ok ls st h (by rw [g_98.2.2.2]; exact hw)
theorem l_98_63 {l : Launch} {d n0 : Nat} {Qp : PQ} {ls : List (Option PV)} {st : List PV} {h : PMem} (hd : 1 ≤ d) (hN : n0 ≤ NC) (hw : wp n0 (fun t => At l d 98 n0 Qp t) (CallP (d - 1)) Qp k_98_63 ls st h) : At l d 98 n0 Qp 63 ls st h := sound g_98.2.1 (by rw [g_98.2.2.2]; exact hN) hd k_98_63 63 k_98_63_ok ls st h (by rw [g_98.2.2.2]; exact hw)
theorem l_98_82 {l : Launch} {d n0 : Nat} {Qp : PQ} {ls : List (Option PV)} {st : List PV} {h : PMem} (hd : 1 ≤ d) (hN : n0 ≤ NC) (hw : wp n0 (fun t => At l d 98 n0 Qp t) (CallP (d - 1)) Qp k_98_82 ls st h) : At l d 98 n0 Qp 82 ls st h := sound g_98.2.1 (by rw [g_98.2.2.2]; exact hN) hd k_98_82 82 k_98_82_ok ls st h (by rw [g_98.2.2.2]; exact hw)
theorem l_98_84 {l : Launch} {d n0 : Nat} {Qp : PQ} {ls : List (Option PV)} {st : List PV} {h : PMem} (hd : 1 ≤ d) (hN : n0 ≤ NC) (hw : wp n0 (fun t => At l d 98 n0 Qp t) (CallP (d - 1)) Qp k_98_84 ls st h) : At l d 98 n0 Qp 84 ls st h := sound g_98.2.1 (by rw [g_98.2.2.2]; exact hN) hd k_98_84 84 k_98_84_ok ls st h (by rw [g_98.2.2.2]; exact hw)
theorem f_99 : (((plainName (mY 99).cls && decide (rN (oN 99) = (mY 99).cls)) && decide (mML 99 = 4)) && decide (aC 99 = 0)) = true := by decide +kernel
theorem g_99 : plainName (mY 99).cls = true ∧ rN (oN 99) = (mY 99).cls ∧ mML 99 = 4 ∧ aC 99 = 0 := by
  have h := f_99
  simp only [Bool.and_eq_true, decide_eq_true_eq] at h
  exact ⟨h.1.1.1, h.1.1.2, h.1.2, h.2⟩
theorem s_99 {d : Nat} {Qp : PQ} {v0 : PV} {v1 : PV} {v2 : PV} {v3 : PV} {h : PMem} (hd : 1 ≤ d) (hN : h.1 ≤ NC) (c0 : pcat v0 = 1 := by rfl) (c1 : pcat v1 = 1 := by rfl) (c2 : pcat v2 = 1 := by rfl) (c3 : pcat v3 = 1 := by rfl) (hw : ∀ l, wp h.1 (fun t => At l d 99 h.1 (Qn h.1 Qp) t) (CallP (d - 1)) (Qn h.1 Qp) k_99_0 [some v0, some v1, some v2, some v3] [] h) : CallP d 99 [v0, v1, v2, v3] h Qp := by
  refine call_of g_99.1 (by rw [g_99.2.2.1]; simp only [pcats, c0, c1, c2, c3, pcatL]; decide) (fun l => ?_)
  have e : ent (mML 99) [v0, v1, v2, v3] = [some v0, some v1, some v2, some v3] := by rw [g_99.2.2.1]; simp [ent, pcats, c0, c1, c2, c3, pcatL, List.replicate]
  rw [e]
  refine sound g_99.2.1 (by rw [g_99.2.2.2]; exact hN) hd k_99_0 0 k_99_0_ok _ _ _ ?_
  rw [g_99.2.2.2]
  exact hw l
theorem l_99_20 {l : Launch} {d n0 : Nat} {Qp : PQ} {ls : List (Option PV)} {st : List PV} {h : PMem} (hd : 1 ≤ d) (hN : n0 ≤ NC) (hw : wp n0 (fun t => At l d 99 n0 Qp t) (CallP (d - 1)) Qp k_99_20 ls st h) : At l d 99 n0 Qp 20 ls st h := sound g_99.2.1 (by rw [g_99.2.2.2]; exact hN) hd k_99_20 20 k_99_20_ok ls st h (by rw [g_99.2.2.2]; exact hw)
theorem l_99_27 {l : Launch} {d n0 : Nat} {Qp : PQ} {ls : List (Option PV)} {st : List PV} {h : PMem} (hd : 1 ≤ d) (hN : n0 ≤ NC) (hw : wp n0 (fun t => At l d 99 n0 Qp t) (CallP (d - 1)) Qp k_99_27 ls st h) : At l d 99 n0 Qp 27 ls st h := sound g_99.2.1 (by rw [g_99.2.2.2]; exact hN) hd k_99_27 27 k_99_27_ok ls st h (by rw [g_99.2.2.2]; exact hw)
theorem f_100 : (((plainName (mY 100).cls && decide (rN (oN 100) = (mY 100).cls)) && decide (mML 100 = 1)) && decide (aC 100 = 3)) = true := by decide +kernel
theorem g_100 : plainName (mY 100).cls = true ∧ rN (oN 100) = (mY 100).cls ∧ mML 100 = 1 ∧ aC 100 = 3 := by
  have h := f_100
  simp only [Bool.and_eq_true, decide_eq_true_eq] at h
  exact ⟨h.1.1.1, h.1.1.2, h.1.2, h.2⟩
theorem s_100 {d : Nat} {Qp : PQ} {v0 : PV} {h : PMem} (hd : 1 ≤ d) (hN : (h.1 + 3) ≤ NC) (c0 : pcat v0 = 1 := by rfl) (hw : ∀ l, wp (h.1 + 3) (fun t => At l d 100 h.1 (Qn (h.1 + 3) Qp) t) (CallP (d - 1)) (Qn (h.1 + 3) Qp) k_100_0 [some v0] [] h) : CallP d 100 [v0] h Qp := by
  refine call_of g_100.1 (by rw [g_100.2.2.1]; simp only [pcats, c0, pcatL]; decide) (fun l => ?_)
  have e : ent (mML 100) [v0] = [some v0] := by rw [g_100.2.2.1]; simp [ent, pcats, c0, pcatL, List.replicate]
  rw [e]
  refine sound g_100.2.1 (by rw [g_100.2.2.2]; exact hN) hd k_100_0 0 k_100_0_ok _ _ _ ?_
  rw [g_100.2.2.2]
  exact hw l
theorem f_101 : (((plainName (mY 101).cls && decide (rN (oN 101) = (mY 101).cls)) && decide (mML 101 = 1)) && decide (aC 101 = 4)) = true := by decide +kernel
theorem g_101 : plainName (mY 101).cls = true ∧ rN (oN 101) = (mY 101).cls ∧ mML 101 = 1 ∧ aC 101 = 4 := by
  have h := f_101
  simp only [Bool.and_eq_true, decide_eq_true_eq] at h
  exact ⟨h.1.1.1, h.1.1.2, h.1.2, h.2⟩
theorem s_101 {d : Nat} {Qp : PQ} {v0 : PV} {h : PMem} (hd : 1 ≤ d) (hN : (h.1 + 4) ≤ NC) (c0 : pcat v0 = 1 := by rfl) (hw : ∀ l, wp (h.1 + 4) (fun t => At l d 101 h.1 (Qn (h.1 + 4) Qp) t) (CallP (d - 1)) (Qn (h.1 + 4) Qp) k_101_0 [some v0] [] h) : CallP d 101 [v0] h Qp := by
  refine call_of g_101.1 (by rw [g_101.2.2.1]; simp only [pcats, c0, pcatL]; decide) (fun l => ?_)
  have e : ent (mML 101) [v0] = [some v0] := by rw [g_101.2.2.1]; simp [ent, pcats, c0, pcatL, List.replicate]
  rw [e]
  refine sound g_101.2.1 (by rw [g_101.2.2.2]; exact hN) hd k_101_0 0 k_101_0_ok _ _ _ ?_
  rw [g_101.2.2.2]
  exact hw l
theorem f_102 : (((plainName (mY 102).cls && decide (rN (oN 102) = (mY 102).cls)) && decide (mML 102 = 1)) && decide (aC 102 = 6)) = true := by decide +kernel
theorem g_102 : plainName (mY 102).cls = true ∧ rN (oN 102) = (mY 102).cls ∧ mML 102 = 1 ∧ aC 102 = 6 := by
  have h := f_102
  simp only [Bool.and_eq_true, decide_eq_true_eq] at h
  exact ⟨h.1.1.1, h.1.1.2, h.1.2, h.2⟩
theorem s_102 {d : Nat} {Qp : PQ} {v0 : PV} {h : PMem} (hd : 1 ≤ d) (hN : (h.1 + 6) ≤ NC) (c0 : pcat v0 = 1 := by rfl) (hw : ∀ l, wp (h.1 + 6) (fun t => At l d 102 h.1 (Qn (h.1 + 6) Qp) t) (CallP (d - 1)) (Qn (h.1 + 6) Qp) k_102_0 [some v0] [] h) : CallP d 102 [v0] h Qp := by
  refine call_of g_102.1 (by rw [g_102.2.2.1]; simp only [pcats, c0, pcatL]; decide) (fun l => ?_)
  have e : ent (mML 102) [v0] = [some v0] := by rw [g_102.2.2.1]; simp [ent, pcats, c0, pcatL, List.replicate]
  rw [e]
  refine sound g_102.2.1 (by rw [g_102.2.2.2]; exact hN) hd k_102_0 0 k_102_0_ok _ _ _ ?_
  rw [g_102.2.2.2]
  exact hw l
theorem f_103 : (((plainName (mY 103).cls && decide (rN (oN 103) = (mY 103).cls)) && decide (mML 103 = 1)) && decide (aC 103 = 1)) = true := by decide +kernel
theorem g_103 : plainName (mY 103).cls = true ∧ rN (oN 103) = (mY 103).cls ∧ mML 103 = 1 ∧ aC 103 = 1 := by
  have h := f_103
  simp only [Bool.and_eq_true, decide_eq_true_eq] at h
  exact ⟨h.1.1.1, h.1.1.2, h.1.2, h.2⟩
theorem s_103 {d : Nat} {Qp : PQ} {v0 : PV} {h : PMem} (hd : 1 ≤ d) (hN : (h.1 + 1) ≤ NC) (c0 : pcat v0 = 1 := by rfl) (hw : ∀ l, wp (h.1 + 1) (fun t => At l d 103 h.1 (Qn (h.1 + 1) Qp) t) (CallP (d - 1)) (Qn (h.1 + 1) Qp) k_103_0 [some v0] [] h) : CallP d 103 [v0] h Qp := by
  refine call_of g_103.1 (by rw [g_103.2.2.1]; simp only [pcats, c0, pcatL]; decide) (fun l => ?_)
  have e : ent (mML 103) [v0] = [some v0] := by rw [g_103.2.2.1]; simp [ent, pcats, c0, pcatL, List.replicate]
  rw [e]
  refine sound g_103.2.1 (by rw [g_103.2.2.2]; exact hN) hd k_103_0 0 k_103_0_ok _ _ _ ?_
  rw [g_103.2.2.2]
  exact hw l
theorem f_104 : (((plainName (mY 104).cls && decide (rN (oN 104) = (mY 104).cls)) && decide (mML 104 = 1)) && decide (aC 104 = 2)) = true := by decide +kernel
theorem g_104 : plainName (mY 104).cls = true ∧ rN (oN 104) = (mY 104).cls ∧ mML 104 = 1 ∧ aC 104 = 2 := by
  have h := f_104
  simp only [Bool.and_eq_true, decide_eq_true_eq] at h
  exact ⟨h.1.1.1, h.1.1.2, h.1.2, h.2⟩
theorem s_104 {d : Nat} {Qp : PQ} {v0 : PV} {h : PMem} (hd : 1 ≤ d) (hN : (h.1 + 2) ≤ NC) (c0 : pcat v0 = 1 := by rfl) (hw : ∀ l, wp (h.1 + 2) (fun t => At l d 104 h.1 (Qn (h.1 + 2) Qp) t) (CallP (d - 1)) (Qn (h.1 + 2) Qp) k_104_0 [some v0] [] h) : CallP d 104 [v0] h Qp := by
  refine call_of g_104.1 (by rw [g_104.2.2.1]; simp only [pcats, c0, pcatL]; decide) (fun l => ?_)
  have e : ent (mML 104) [v0] = [some v0] := by rw [g_104.2.2.1]; simp [ent, pcats, c0, pcatL, List.replicate]
  rw [e]
  refine sound g_104.2.1 (by rw [g_104.2.2.2]; exact hN) hd k_104_0 0 k_104_0_ok _ _ _ ?_
  rw [g_104.2.2.2]
  exact hw l
theorem f_105 : (((plainName (mY 105).cls && decide (rN (oN 105) = (mY 105).cls)) && decide (mML 105 = 2)) && decide (aC 105 = 62)) = true := by decide +kernel
theorem g_105 : plainName (mY 105).cls = true ∧ rN (oN 105) = (mY 105).cls ∧ mML 105 = 2 ∧ aC 105 = 62 := by
  have h := f_105
  simp only [Bool.and_eq_true, decide_eq_true_eq] at h
  exact ⟨h.1.1.1, h.1.1.2, h.1.2, h.2⟩
theorem s_105 {d : Nat} {Qp : PQ} {v0 : PV} {h : PMem} (hd : 1 ≤ d) (hN : (h.1 + 62) ≤ NC) (c0 : pcat v0 = 1 := by rfl) (hw : ∀ l, wp (h.1 + 62) (fun t => At l d 105 h.1 (Qn (h.1 + 62) Qp) t) (CallP (d - 1)) (Qn (h.1 + 62) Qp) k_105_0 [some v0, none] [] h) : CallP d 105 [v0] h Qp := by
  refine call_of g_105.1 (by rw [g_105.2.2.1]; simp only [pcats, c0, pcatL]; decide) (fun l => ?_)
  have e : ent (mML 105) [v0] = [some v0, none] := by rw [g_105.2.2.1]; simp [ent, pcats, c0, pcatL, List.replicate]
  rw [e]
  refine sound g_105.2.1 (by rw [g_105.2.2.2]; exact hN) hd k_105_0 0 k_105_0_ok _ _ _ ?_
  rw [g_105.2.2.2]
  exact hw l
theorem l_105_87 {l : Launch} {d n0 : Nat} {Qp : PQ} {ls : List (Option PV)} {st : List PV} {h : PMem} (hd : 1 ≤ d) (hN : (n0 + 62) ≤ NC) (hw : wp (n0 + 62) (fun t => At l d 105 n0 Qp t) (CallP (d - 1)) Qp k_105_87 ls st h) : At l d 105 n0 Qp 87 ls st h := sound g_105.2.1 (by rw [g_105.2.2.2]; exact hN) hd k_105_87 87 k_105_87_ok ls st h (by rw [g_105.2.2.2]; exact hw)
theorem l_105_112 {l : Launch} {d n0 : Nat} {Qp : PQ} {ls : List (Option PV)} {st : List PV} {h : PMem} (hd : 1 ≤ d) (hN : (n0 + 62) ≤ NC) (hw : wp (n0 + 62) (fun t => At l d 105 n0 Qp t) (CallP (d - 1)) Qp k_105_112 ls st h) : At l d 105 n0 Qp 112 ls st h := sound g_105.2.1 (by rw [g_105.2.2.2]; exact hN) hd k_105_112 112 k_105_112_ok ls st h (by rw [g_105.2.2.2]; exact hw)
theorem f_106 : (((plainName (mY 106).cls && decide (rN (oN 106) = (mY 106).cls)) && decide (mML 106 = 1)) && decide (aC 106 = 267)) = true := by decide +kernel
theorem g_106 : plainName (mY 106).cls = true ∧ rN (oN 106) = (mY 106).cls ∧ mML 106 = 1 ∧ aC 106 = 267 := by
  have h := f_106
  simp only [Bool.and_eq_true, decide_eq_true_eq] at h
  exact ⟨h.1.1.1, h.1.1.2, h.1.2, h.2⟩
theorem s_106 {d : Nat} {Qp : PQ} {v0 : PV} {h : PMem} (hd : 1 ≤ d) (hN : (h.1 + 267) ≤ NC) (c0 : pcat v0 = 1 := by rfl) (hw : ∀ l, wp (h.1 + 267) (fun t => At l d 106 h.1 (Qn (h.1 + 267) Qp) t) (CallP (d - 1)) (Qn (h.1 + 267) Qp) k_106_0 [some v0] [] h) : CallP d 106 [v0] h Qp := by
  refine call_of g_106.1 (by rw [g_106.2.2.1]; simp only [pcats, c0, pcatL]; decide) (fun l => ?_)
  have e : ent (mML 106) [v0] = [some v0] := by rw [g_106.2.2.1]; simp [ent, pcats, c0, pcatL, List.replicate]
  rw [e]
  refine sound g_106.2.1 (by rw [g_106.2.2.2]; exact hN) hd k_106_0 0 k_106_0_ok _ _ _ ?_
  rw [g_106.2.2.2]
  exact hw l
theorem f_107 : (((plainName (mY 107).cls && decide (rN (oN 107) = (mY 107).cls)) && decide (mML 107 = 1)) && decide (aC 107 = 9)) = true := by decide +kernel
theorem g_107 : plainName (mY 107).cls = true ∧ rN (oN 107) = (mY 107).cls ∧ mML 107 = 1 ∧ aC 107 = 9 := by
  have h := f_107
  simp only [Bool.and_eq_true, decide_eq_true_eq] at h
  exact ⟨h.1.1.1, h.1.1.2, h.1.2, h.2⟩
theorem s_107 {d : Nat} {Qp : PQ} {v0 : PV} {h : PMem} (hd : 1 ≤ d) (hN : (h.1 + 9) ≤ NC) (c0 : pcat v0 = 1 := by rfl) (hw : ∀ l, wp (h.1 + 9) (fun t => At l d 107 h.1 (Qn (h.1 + 9) Qp) t) (CallP (d - 1)) (Qn (h.1 + 9) Qp) k_107_0 [some v0] [] h) : CallP d 107 [v0] h Qp := by
  refine call_of g_107.1 (by rw [g_107.2.2.1]; simp only [pcats, c0, pcatL]; decide) (fun l => ?_)
  have e : ent (mML 107) [v0] = [some v0] := by rw [g_107.2.2.1]; simp [ent, pcats, c0, pcatL, List.replicate]
  rw [e]
  refine sound g_107.2.1 (by rw [g_107.2.2.2]; exact hN) hd k_107_0 0 k_107_0_ok _ _ _ ?_
  rw [g_107.2.2.2]
  exact hw l
theorem f_108 : (((plainName (mY 108).cls && decide (rN (oN 108) = (mY 108).cls)) && decide (mML 108 = 4)) && decide (aC 108 = 278)) = true := by decide +kernel
theorem g_108 : plainName (mY 108).cls = true ∧ rN (oN 108) = (mY 108).cls ∧ mML 108 = 4 ∧ aC 108 = 278 := by
  have h := f_108
  simp only [Bool.and_eq_true, decide_eq_true_eq] at h
  exact ⟨h.1.1.1, h.1.1.2, h.1.2, h.2⟩
theorem s_108 {d : Nat} {Qp : PQ} {v0 : PV} {h : PMem} (hd : 1 ≤ d) (hN : (h.1 + 278) ≤ NC) (c0 : pcat v0 = 1 := by rfl) (hw : ∀ l, wp (h.1 + 278) (fun t => At l d 108 h.1 (Qn (h.1 + 278) Qp) t) (CallP (d - 1)) (Qn (h.1 + 278) Qp) k_108_0 [some v0, none, none, none] [] h) : CallP d 108 [v0] h Qp := by
  refine call_of g_108.1 (by rw [g_108.2.2.1]; simp only [pcats, c0, pcatL]; decide) (fun l => ?_)
  have e : ent (mML 108) [v0] = [some v0, none, none, none] := by rw [g_108.2.2.1]; simp [ent, pcats, c0, pcatL, List.replicate]
  rw [e]
  refine sound g_108.2.1 (by rw [g_108.2.2.2]; exact hN) hd k_108_0 0 k_108_0_ok _ _ _ ?_
  rw [g_108.2.2.2]
  exact hw l
theorem l_108_18 {l : Launch} {d n0 : Nat} {Qp : PQ} {ls : List (Option PV)} {st : List PV} {h : PMem} (hd : 1 ≤ d) (hN : (n0 + 278) ≤ NC) (hw : wp (n0 + 278) (fun t => At l d 108 n0 Qp t) (CallP (d - 1)) Qp k_108_18 ls st h) : At l d 108 n0 Qp 18 ls st h := sound g_108.2.1 (by rw [g_108.2.2.2]; exact hN) hd k_108_18 18 k_108_18_ok ls st h (by rw [g_108.2.2.2]; exact hw)
theorem l_108_180 {l : Launch} {d n0 : Nat} {Qp : PQ} {ls : List (Option PV)} {st : List PV} {h : PMem} (hd : 1 ≤ d) (hN : (n0 + 278) ≤ NC) (hw : wp (n0 + 278) (fun t => At l d 108 n0 Qp t) (CallP (d - 1)) Qp k_108_180 ls st h) : At l d 108 n0 Qp 180 ls st h := sound g_108.2.1 (by rw [g_108.2.2.2]; exact hN) hd k_108_180 180 k_108_180_ok ls st h (by rw [g_108.2.2.2]; exact hw)
theorem l_108_203 {l : Launch} {d n0 : Nat} {Qp : PQ} {ls : List (Option PV)} {st : List PV} {h : PMem} (hd : 1 ≤ d) (hN : (n0 + 278) ≤ NC) (hw : wp (n0 + 278) (fun t => At l d 108 n0 Qp t) (CallP (d - 1)) Qp k_108_203 ls st h) : At l d 108 n0 Qp 203 ls st h := sound g_108.2.1 (by rw [g_108.2.2.2]; exact hN) hd k_108_203 203 k_108_203_ok ls st h (by rw [g_108.2.2.2]; exact hw)
theorem l_108_236 {l : Launch} {d n0 : Nat} {Qp : PQ} {ls : List (Option PV)} {st : List PV} {h : PMem} (hd : 1 ≤ d) (hN : (n0 + 278) ≤ NC) (hw : wp (n0 + 278) (fun t => At l d 108 n0 Qp t) (CallP (d - 1)) Qp k_108_236 ls st h) : At l d 108 n0 Qp 236 ls st h := sound g_108.2.1 (by rw [g_108.2.2.2]; exact hN) hd k_108_236 236 k_108_236_ok ls st h (by rw [g_108.2.2.2]; exact hw)
theorem l_108_279 {l : Launch} {d n0 : Nat} {Qp : PQ} {ls : List (Option PV)} {st : List PV} {h : PMem} (hd : 1 ≤ d) (hN : (n0 + 278) ≤ NC) (hw : wp (n0 + 278) (fun t => At l d 108 n0 Qp t) (CallP (d - 1)) Qp k_108_279 ls st h) : At l d 108 n0 Qp 279 ls st h := sound g_108.2.1 (by rw [g_108.2.2.2]; exact hN) hd k_108_279 279 k_108_279_ok ls st h (by rw [g_108.2.2.2]; exact hw)
theorem l_108_322 {l : Launch} {d n0 : Nat} {Qp : PQ} {ls : List (Option PV)} {st : List PV} {h : PMem} (hd : 1 ≤ d) (hN : (n0 + 278) ≤ NC) (hw : wp (n0 + 278) (fun t => At l d 108 n0 Qp t) (CallP (d - 1)) Qp k_108_322 ls st h) : At l d 108 n0 Qp 322 ls st h := sound g_108.2.1 (by rw [g_108.2.2.2]; exact hN) hd k_108_322 322 k_108_322_ok ls st h (by rw [g_108.2.2.2]; exact hw)
theorem l_108_365 {l : Launch} {d n0 : Nat} {Qp : PQ} {ls : List (Option PV)} {st : List PV} {h : PMem} (hd : 1 ≤ d) (hN : (n0 + 278) ≤ NC) (hw : wp (n0 + 278) (fun t => At l d 108 n0 Qp t) (CallP (d - 1)) Qp k_108_365 ls st h) : At l d 108 n0 Qp 365 ls st h := sound g_108.2.1 (by rw [g_108.2.2.2]; exact hN) hd k_108_365 365 k_108_365_ok ls st h (by rw [g_108.2.2.2]; exact hw)
theorem l_108_388 {l : Launch} {d n0 : Nat} {Qp : PQ} {ls : List (Option PV)} {st : List PV} {h : PMem} (hd : 1 ≤ d) (hN : (n0 + 278) ≤ NC) (hw : wp (n0 + 278) (fun t => At l d 108 n0 Qp t) (CallP (d - 1)) Qp k_108_388 ls st h) : At l d 108 n0 Qp 388 ls st h := sound g_108.2.1 (by rw [g_108.2.2.2]; exact hN) hd k_108_388 388 k_108_388_ok ls st h (by rw [g_108.2.2.2]; exact hw)
theorem l_108_401 {l : Launch} {d n0 : Nat} {Qp : PQ} {ls : List (Option PV)} {st : List PV} {h : PMem} (hd : 1 ≤ d) (hN : (n0 + 278) ≤ NC) (hw : wp (n0 + 278) (fun t => At l d 108 n0 Qp t) (CallP (d - 1)) Qp k_108_401 ls st h) : At l d 108 n0 Qp 401 ls st h := sound g_108.2.1 (by rw [g_108.2.2.2]; exact hN) hd k_108_401 401 k_108_401_ok ls st h (by rw [g_108.2.2.2]; exact hw)
theorem l_108_414 {l : Launch} {d n0 : Nat} {Qp : PQ} {ls : List (Option PV)} {st : List PV} {h : PMem} (hd : 1 ≤ d) (hN : (n0 + 278) ≤ NC) (hw : wp (n0 + 278) (fun t => At l d 108 n0 Qp t) (CallP (d - 1)) Qp k_108_414 ls st h) : At l d 108 n0 Qp 414 ls st h := sound g_108.2.1 (by rw [g_108.2.2.2]; exact hN) hd k_108_414 414 k_108_414_ok ls st h (by rw [g_108.2.2.2]; exact hw)
theorem l_108_442 {l : Launch} {d n0 : Nat} {Qp : PQ} {ls : List (Option PV)} {st : List PV} {h : PMem} (hd : 1 ≤ d) (hN : (n0 + 278) ≤ NC) (hw : wp (n0 + 278) (fun t => At l d 108 n0 Qp t) (CallP (d - 1)) Qp k_108_442 ls st h) : At l d 108 n0 Qp 442 ls st h := sound g_108.2.1 (by rw [g_108.2.2.2]; exact hN) hd k_108_442 442 k_108_442_ok ls st h (by rw [g_108.2.2.2]; exact hw)
theorem l_108_443 {l : Launch} {d n0 : Nat} {Qp : PQ} {ls : List (Option PV)} {st : List PV} {h : PMem} (hd : 1 ≤ d) (hN : (n0 + 278) ≤ NC) (hw : wp (n0 + 278) (fun t => At l d 108 n0 Qp t) (CallP (d - 1)) Qp k_108_443 ls st h) : At l d 108 n0 Qp 443 ls st h := sound g_108.2.1 (by rw [g_108.2.2.2]; exact hN) hd k_108_443 443 k_108_443_ok ls st h (by rw [g_108.2.2.2]; exact hw)
theorem l_108_474 {l : Launch} {d n0 : Nat} {Qp : PQ} {ls : List (Option PV)} {st : List PV} {h : PMem} (hd : 1 ≤ d) (hN : (n0 + 278) ≤ NC) (hw : wp (n0 + 278) (fun t => At l d 108 n0 Qp t) (CallP (d - 1)) Qp k_108_474 ls st h) : At l d 108 n0 Qp 474 ls st h := sound g_108.2.1 (by rw [g_108.2.2.2]; exact hN) hd k_108_474 474 k_108_474_ok ls st h (by rw [g_108.2.2.2]; exact hw)
theorem l_108_475 {l : Launch} {d n0 : Nat} {Qp : PQ} {ls : List (Option PV)} {st : List PV} {h : PMem} (hd : 1 ≤ d) (hN : (n0 + 278) ≤ NC) (hw : wp (n0 + 278) (fun t => At l d 108 n0 Qp t) (CallP (d - 1)) Qp k_108_475 ls st h) : At l d 108 n0 Qp 475 ls st h := sound g_108.2.1 (by rw [g_108.2.2.2]; exact hN) hd k_108_475 475 k_108_475_ok ls st h (by rw [g_108.2.2.2]; exact hw)
theorem l_108_483 {l : Launch} {d n0 : Nat} {Qp : PQ} {ls : List (Option PV)} {st : List PV} {h : PMem} (hd : 1 ≤ d) (hN : (n0 + 278) ≤ NC) (hw : wp (n0 + 278) (fun t => At l d 108 n0 Qp t) (CallP (d - 1)) Qp k_108_483 ls st h) : At l d 108 n0 Qp 483 ls st h := sound g_108.2.1 (by rw [g_108.2.2.2]; exact hN) hd k_108_483 483 k_108_483_ok ls st h (by rw [g_108.2.2.2]; exact hw)
theorem l_108_496 {l : Launch} {d n0 : Nat} {Qp : PQ} {ls : List (Option PV)} {st : List PV} {h : PMem} (hd : 1 ≤ d) (hN : (n0 + 278) ≤ NC) (hw : wp (n0 + 278) (fun t => At l d 108 n0 Qp t) (CallP (d - 1)) Qp k_108_496 ls st h) : At l d 108 n0 Qp 496 ls st h := sound g_108.2.1 (by rw [g_108.2.2.2]; exact hN) hd k_108_496 496 k_108_496_ok ls st h (by rw [g_108.2.2.2]; exact hw)
theorem l_108_509 {l : Launch} {d n0 : Nat} {Qp : PQ} {ls : List (Option PV)} {st : List PV} {h : PMem} (hd : 1 ≤ d) (hN : (n0 + 278) ≤ NC) (hw : wp (n0 + 278) (fun t => At l d 108 n0 Qp t) (CallP (d - 1)) Qp k_108_509 ls st h) : At l d 108 n0 Qp 509 ls st h := sound g_108.2.1 (by rw [g_108.2.2.2]; exact hN) hd k_108_509 509 k_108_509_ok ls st h (by rw [g_108.2.2.2]; exact hw)
theorem l_108_542 {l : Launch} {d n0 : Nat} {Qp : PQ} {ls : List (Option PV)} {st : List PV} {h : PMem} (hd : 1 ≤ d) (hN : (n0 + 278) ≤ NC) (hw : wp (n0 + 278) (fun t => At l d 108 n0 Qp t) (CallP (d - 1)) Qp k_108_542 ls st h) : At l d 108 n0 Qp 542 ls st h := sound g_108.2.1 (by rw [g_108.2.2.2]; exact hN) hd k_108_542 542 k_108_542_ok ls st h (by rw [g_108.2.2.2]; exact hw)
theorem l_108_575 {l : Launch} {d n0 : Nat} {Qp : PQ} {ls : List (Option PV)} {st : List PV} {h : PMem} (hd : 1 ≤ d) (hN : (n0 + 278) ≤ NC) (hw : wp (n0 + 278) (fun t => At l d 108 n0 Qp t) (CallP (d - 1)) Qp k_108_575 ls st h) : At l d 108 n0 Qp 575 ls st h := sound g_108.2.1 (by rw [g_108.2.2.2]; exact hN) hd k_108_575 575 k_108_575_ok ls st h (by rw [g_108.2.2.2]; exact hw)
theorem l_108_608 {l : Launch} {d n0 : Nat} {Qp : PQ} {ls : List (Option PV)} {st : List PV} {h : PMem} (hd : 1 ≤ d) (hN : (n0 + 278) ≤ NC) (hw : wp (n0 + 278) (fun t => At l d 108 n0 Qp t) (CallP (d - 1)) Qp k_108_608 ls st h) : At l d 108 n0 Qp 608 ls st h := sound g_108.2.1 (by rw [g_108.2.2.2]; exact hN) hd k_108_608 608 k_108_608_ok ls st h (by rw [g_108.2.2.2]; exact hw)
theorem l_108_661 {l : Launch} {d n0 : Nat} {Qp : PQ} {ls : List (Option PV)} {st : List PV} {h : PMem} (hd : 1 ≤ d) (hN : (n0 + 278) ≤ NC) (hw : wp (n0 + 278) (fun t => At l d 108 n0 Qp t) (CallP (d - 1)) Qp k_108_661 ls st h) : At l d 108 n0 Qp 661 ls st h := sound g_108.2.1 (by rw [g_108.2.2.2]; exact hN) hd k_108_661 661 k_108_661_ok ls st h (by rw [g_108.2.2.2]; exact hw)
theorem l_108_694 {l : Launch} {d n0 : Nat} {Qp : PQ} {ls : List (Option PV)} {st : List PV} {h : PMem} (hd : 1 ≤ d) (hN : (n0 + 278) ≤ NC) (hw : wp (n0 + 278) (fun t => At l d 108 n0 Qp t) (CallP (d - 1)) Qp k_108_694 ls st h) : At l d 108 n0 Qp 694 ls st h := sound g_108.2.1 (by rw [g_108.2.2.2]; exact hN) hd k_108_694 694 k_108_694_ok ls st h (by rw [g_108.2.2.2]; exact hw)
theorem l_108_727 {l : Launch} {d n0 : Nat} {Qp : PQ} {ls : List (Option PV)} {st : List PV} {h : PMem} (hd : 1 ≤ d) (hN : (n0 + 278) ≤ NC) (hw : wp (n0 + 278) (fun t => At l d 108 n0 Qp t) (CallP (d - 1)) Qp k_108_727 ls st h) : At l d 108 n0 Qp 727 ls st h := sound g_108.2.1 (by rw [g_108.2.2.2]; exact hN) hd k_108_727 727 k_108_727_ok ls st h (by rw [g_108.2.2.2]; exact hw)
theorem l_108_760 {l : Launch} {d n0 : Nat} {Qp : PQ} {ls : List (Option PV)} {st : List PV} {h : PMem} (hd : 1 ≤ d) (hN : (n0 + 278) ≤ NC) (hw : wp (n0 + 278) (fun t => At l d 108 n0 Qp t) (CallP (d - 1)) Qp k_108_760 ls st h) : At l d 108 n0 Qp 760 ls st h := sound g_108.2.1 (by rw [g_108.2.2.2]; exact hN) hd k_108_760 760 k_108_760_ok ls st h (by rw [g_108.2.2.2]; exact hw)
theorem l_108_783 {l : Launch} {d n0 : Nat} {Qp : PQ} {ls : List (Option PV)} {st : List PV} {h : PMem} (hd : 1 ≤ d) (hN : (n0 + 278) ≤ NC) (hw : wp (n0 + 278) (fun t => At l d 108 n0 Qp t) (CallP (d - 1)) Qp k_108_783 ls st h) : At l d 108 n0 Qp 783 ls st h := sound g_108.2.1 (by rw [g_108.2.2.2]; exact hN) hd k_108_783 783 k_108_783_ok ls st h (by rw [g_108.2.2.2]; exact hw)
theorem l_108_826 {l : Launch} {d n0 : Nat} {Qp : PQ} {ls : List (Option PV)} {st : List PV} {h : PMem} (hd : 1 ≤ d) (hN : (n0 + 278) ≤ NC) (hw : wp (n0 + 278) (fun t => At l d 108 n0 Qp t) (CallP (d - 1)) Qp k_108_826 ls st h) : At l d 108 n0 Qp 826 ls st h := sound g_108.2.1 (by rw [g_108.2.2.2]; exact hN) hd k_108_826 826 k_108_826_ok ls st h (by rw [g_108.2.2.2]; exact hw)
theorem l_108_859 {l : Launch} {d n0 : Nat} {Qp : PQ} {ls : List (Option PV)} {st : List PV} {h : PMem} (hd : 1 ≤ d) (hN : (n0 + 278) ≤ NC) (hw : wp (n0 + 278) (fun t => At l d 108 n0 Qp t) (CallP (d - 1)) Qp k_108_859 ls st h) : At l d 108 n0 Qp 859 ls st h := sound g_108.2.1 (by rw [g_108.2.2.2]; exact hN) hd k_108_859 859 k_108_859_ok ls st h (by rw [g_108.2.2.2]; exact hw)
theorem l_108_912 {l : Launch} {d n0 : Nat} {Qp : PQ} {ls : List (Option PV)} {st : List PV} {h : PMem} (hd : 1 ≤ d) (hN : (n0 + 278) ≤ NC) (hw : wp (n0 + 278) (fun t => At l d 108 n0 Qp t) (CallP (d - 1)) Qp k_108_912 ls st h) : At l d 108 n0 Qp 912 ls st h := sound g_108.2.1 (by rw [g_108.2.2.2]; exact hN) hd k_108_912 912 k_108_912_ok ls st h (by rw [g_108.2.2.2]; exact hw)
theorem l_108_965 {l : Launch} {d n0 : Nat} {Qp : PQ} {ls : List (Option PV)} {st : List PV} {h : PMem} (hd : 1 ≤ d) (hN : (n0 + 278) ≤ NC) (hw : wp (n0 + 278) (fun t => At l d 108 n0 Qp t) (CallP (d - 1)) Qp k_108_965 ls st h) : At l d 108 n0 Qp 965 ls st h := sound g_108.2.1 (by rw [g_108.2.2.2]; exact hN) hd k_108_965 965 k_108_965_ok ls st h (by rw [g_108.2.2.2]; exact hw)
theorem l_108_988 {l : Launch} {d n0 : Nat} {Qp : PQ} {ls : List (Option PV)} {st : List PV} {h : PMem} (hd : 1 ≤ d) (hN : (n0 + 278) ≤ NC) (hw : wp (n0 + 278) (fun t => At l d 108 n0 Qp t) (CallP (d - 1)) Qp k_108_988 ls st h) : At l d 108 n0 Qp 988 ls st h := sound g_108.2.1 (by rw [g_108.2.2.2]; exact hN) hd k_108_988 988 k_108_988_ok ls st h (by rw [g_108.2.2.2]; exact hw)
theorem l_108_989 {l : Launch} {d n0 : Nat} {Qp : PQ} {ls : List (Option PV)} {st : List PV} {h : PMem} (hd : 1 ≤ d) (hN : (n0 + 278) ≤ NC) (hw : wp (n0 + 278) (fun t => At l d 108 n0 Qp t) (CallP (d - 1)) Qp k_108_989 ls st h) : At l d 108 n0 Qp 989 ls st h := sound g_108.2.1 (by rw [g_108.2.2.2]; exact hN) hd k_108_989 989 k_108_989_ok ls st h (by rw [g_108.2.2.2]; exact hw)
theorem l_108_1015 {l : Launch} {d n0 : Nat} {Qp : PQ} {ls : List (Option PV)} {st : List PV} {h : PMem} (hd : 1 ≤ d) (hN : (n0 + 278) ≤ NC) (hw : wp (n0 + 278) (fun t => At l d 108 n0 Qp t) (CallP (d - 1)) Qp k_108_1015 ls st h) : At l d 108 n0 Qp 1015 ls st h := sound g_108.2.1 (by rw [g_108.2.2.2]; exact hN) hd k_108_1015 1015 k_108_1015_ok ls st h (by rw [g_108.2.2.2]; exact hw)
theorem l_108_1016 {l : Launch} {d n0 : Nat} {Qp : PQ} {ls : List (Option PV)} {st : List PV} {h : PMem} (hd : 1 ≤ d) (hN : (n0 + 278) ≤ NC) (hw : wp (n0 + 278) (fun t => At l d 108 n0 Qp t) (CallP (d - 1)) Qp k_108_1016 ls st h) : At l d 108 n0 Qp 1016 ls st h := sound g_108.2.1 (by rw [g_108.2.2.2]; exact hN) hd k_108_1016 1016 k_108_1016_ok ls st h (by rw [g_108.2.2.2]; exact hw)
theorem l_108_1024 {l : Launch} {d n0 : Nat} {Qp : PQ} {ls : List (Option PV)} {st : List PV} {h : PMem} (hd : 1 ≤ d) (hN : (n0 + 278) ≤ NC) (hw : wp (n0 + 278) (fun t => At l d 108 n0 Qp t) (CallP (d - 1)) Qp k_108_1024 ls st h) : At l d 108 n0 Qp 1024 ls st h := sound g_108.2.1 (by rw [g_108.2.2.2]; exact hN) hd k_108_1024 1024 k_108_1024_ok ls st h (by rw [g_108.2.2.2]; exact hw)
theorem l_108_1037 {l : Launch} {d n0 : Nat} {Qp : PQ} {ls : List (Option PV)} {st : List PV} {h : PMem} (hd : 1 ≤ d) (hN : (n0 + 278) ≤ NC) (hw : wp (n0 + 278) (fun t => At l d 108 n0 Qp t) (CallP (d - 1)) Qp k_108_1037 ls st h) : At l d 108 n0 Qp 1037 ls st h := sound g_108.2.1 (by rw [g_108.2.2.2]; exact hN) hd k_108_1037 1037 k_108_1037_ok ls st h (by rw [g_108.2.2.2]; exact hw)
theorem l_108_1060 {l : Launch} {d n0 : Nat} {Qp : PQ} {ls : List (Option PV)} {st : List PV} {h : PMem} (hd : 1 ≤ d) (hN : (n0 + 278) ≤ NC) (hw : wp (n0 + 278) (fun t => At l d 108 n0 Qp t) (CallP (d - 1)) Qp k_108_1060 ls st h) : At l d 108 n0 Qp 1060 ls st h := sound g_108.2.1 (by rw [g_108.2.2.2]; exact hN) hd k_108_1060 1060 k_108_1060_ok ls st h (by rw [g_108.2.2.2]; exact hw)
theorem l_108_1113 {l : Launch} {d n0 : Nat} {Qp : PQ} {ls : List (Option PV)} {st : List PV} {h : PMem} (hd : 1 ≤ d) (hN : (n0 + 278) ≤ NC) (hw : wp (n0 + 278) (fun t => At l d 108 n0 Qp t) (CallP (d - 1)) Qp k_108_1113 ls st h) : At l d 108 n0 Qp 1113 ls st h := sound g_108.2.1 (by rw [g_108.2.2.2]; exact hN) hd k_108_1113 1113 k_108_1113_ok ls st h (by rw [g_108.2.2.2]; exact hw)
theorem l_108_1146 {l : Launch} {d n0 : Nat} {Qp : PQ} {ls : List (Option PV)} {st : List PV} {h : PMem} (hd : 1 ≤ d) (hN : (n0 + 278) ≤ NC) (hw : wp (n0 + 278) (fun t => At l d 108 n0 Qp t) (CallP (d - 1)) Qp k_108_1146 ls st h) : At l d 108 n0 Qp 1146 ls st h := sound g_108.2.1 (by rw [g_108.2.2.2]; exact hN) hd k_108_1146 1146 k_108_1146_ok ls st h (by rw [g_108.2.2.2]; exact hw)
theorem l_108_1169 {l : Launch} {d n0 : Nat} {Qp : PQ} {ls : List (Option PV)} {st : List PV} {h : PMem} (hd : 1 ≤ d) (hN : (n0 + 278) ≤ NC) (hw : wp (n0 + 278) (fun t => At l d 108 n0 Qp t) (CallP (d - 1)) Qp k_108_1169 ls st h) : At l d 108 n0 Qp 1169 ls st h := sound g_108.2.1 (by rw [g_108.2.2.2]; exact hN) hd k_108_1169 1169 k_108_1169_ok ls st h (by rw [g_108.2.2.2]; exact hw)
theorem l_108_1192 {l : Launch} {d n0 : Nat} {Qp : PQ} {ls : List (Option PV)} {st : List PV} {h : PMem} (hd : 1 ≤ d) (hN : (n0 + 278) ≤ NC) (hw : wp (n0 + 278) (fun t => At l d 108 n0 Qp t) (CallP (d - 1)) Qp k_108_1192 ls st h) : At l d 108 n0 Qp 1192 ls st h := sound g_108.2.1 (by rw [g_108.2.2.2]; exact hN) hd k_108_1192 1192 k_108_1192_ok ls st h (by rw [g_108.2.2.2]; exact hw)
theorem l_108_1215 {l : Launch} {d n0 : Nat} {Qp : PQ} {ls : List (Option PV)} {st : List PV} {h : PMem} (hd : 1 ≤ d) (hN : (n0 + 278) ≤ NC) (hw : wp (n0 + 278) (fun t => At l d 108 n0 Qp t) (CallP (d - 1)) Qp k_108_1215 ls st h) : At l d 108 n0 Qp 1215 ls st h := sound g_108.2.1 (by rw [g_108.2.2.2]; exact hN) hd k_108_1215 1215 k_108_1215_ok ls st h (by rw [g_108.2.2.2]; exact hw)
theorem l_108_1238 {l : Launch} {d n0 : Nat} {Qp : PQ} {ls : List (Option PV)} {st : List PV} {h : PMem} (hd : 1 ≤ d) (hN : (n0 + 278) ≤ NC) (hw : wp (n0 + 278) (fun t => At l d 108 n0 Qp t) (CallP (d - 1)) Qp k_108_1238 ls st h) : At l d 108 n0 Qp 1238 ls st h := sound g_108.2.1 (by rw [g_108.2.2.2]; exact hN) hd k_108_1238 1238 k_108_1238_ok ls st h (by rw [g_108.2.2.2]; exact hw)
theorem l_108_1252 {l : Launch} {d n0 : Nat} {Qp : PQ} {ls : List (Option PV)} {st : List PV} {h : PMem} (hd : 1 ≤ d) (hN : (n0 + 278) ≤ NC) (hw : wp (n0 + 278) (fun t => At l d 108 n0 Qp t) (CallP (d - 1)) Qp k_108_1252 ls st h) : At l d 108 n0 Qp 1252 ls st h := sound g_108.2.1 (by rw [g_108.2.2.2]; exact hN) hd k_108_1252 1252 k_108_1252_ok ls st h (by rw [g_108.2.2.2]; exact hw)
theorem l_108_1258 {l : Launch} {d n0 : Nat} {Qp : PQ} {ls : List (Option PV)} {st : List PV} {h : PMem} (hd : 1 ≤ d) (hN : (n0 + 278) ≤ NC) (hw : wp (n0 + 278) (fun t => At l d 108 n0 Qp t) (CallP (d - 1)) Qp k_108_1258 ls st h) : At l d 108 n0 Qp 1258 ls st h := sound g_108.2.1 (by rw [g_108.2.2.2]; exact hN) hd k_108_1258 1258 k_108_1258_ok ls st h (by rw [g_108.2.2.2]; exact hw)
theorem f_109 : (((plainName (mY 109).cls && decide (rN (oN 109) = (mY 109).cls)) && decide (mML 109 = 1)) && decide (aC 109 = 0)) = true := by decide +kernel
theorem g_109 : plainName (mY 109).cls = true ∧ rN (oN 109) = (mY 109).cls ∧ mML 109 = 1 ∧ aC 109 = 0 := by
  have h := f_109
  simp only [Bool.and_eq_true, decide_eq_true_eq] at h
  exact ⟨h.1.1.1, h.1.1.2, h.1.2, h.2⟩
theorem s_109 {d : Nat} {Qp : PQ} {v0 : PV} {h : PMem} (hd : 1 ≤ d) (hN : h.1 ≤ NC) (c0 : pcat v0 = 1 := by rfl) (hw : ∀ l, wp h.1 (fun t => At l d 109 h.1 (Qn h.1 Qp) t) (CallP (d - 1)) (Qn h.1 Qp) k_109_0 [some v0] [] h) : CallP d 109 [v0] h Qp := by
  refine call_of g_109.1 (by rw [g_109.2.2.1]; simp only [pcats, c0, pcatL]; decide) (fun l => ?_)
  have e : ent (mML 109) [v0] = [some v0] := by rw [g_109.2.2.1]; simp [ent, pcats, c0, pcatL, List.replicate]
  rw [e]
  refine sound g_109.2.1 (by rw [g_109.2.2.2]; exact hN) hd k_109_0 0 k_109_0_ok _ _ _ ?_
  rw [g_109.2.2.2]
  exact hw l
theorem f_110 : (((plainName (mY 110).cls && decide (rN (oN 110) = (mY 110).cls)) && decide (mML 110 = 2)) && decide (aC 110 = 0)) = true := by decide +kernel
theorem g_110 : plainName (mY 110).cls = true ∧ rN (oN 110) = (mY 110).cls ∧ mML 110 = 2 ∧ aC 110 = 0 := by
  have h := f_110
  simp only [Bool.and_eq_true, decide_eq_true_eq] at h
  exact ⟨h.1.1.1, h.1.1.2, h.1.2, h.2⟩
theorem s_110 {d : Nat} {Qp : PQ} {v0 : PV} {v1 : PV} {h : PMem} (hd : 1 ≤ d) (hN : h.1 ≤ NC) (c0 : pcat v0 = 1 := by rfl) (c1 : pcat v1 = 1 := by rfl) (hw : ∀ l, wp h.1 (fun t => At l d 110 h.1 (Qn h.1 Qp) t) (CallP (d - 1)) (Qn h.1 Qp) k_110_0 [some v0, some v1] [] h) : CallP d 110 [v0, v1] h Qp := by
  refine call_of g_110.1 (by rw [g_110.2.2.1]; simp only [pcats, c0, c1, pcatL]; decide) (fun l => ?_)
  have e : ent (mML 110) [v0, v1] = [some v0, some v1] := by rw [g_110.2.2.1]; simp [ent, pcats, c0, c1, pcatL, List.replicate]
  rw [e]
  refine sound g_110.2.1 (by rw [g_110.2.2.2]; exact hN) hd k_110_0 0 k_110_0_ok _ _ _ ?_
  rw [g_110.2.2.2]
  exact hw l
theorem l_110_18 {l : Launch} {d n0 : Nat} {Qp : PQ} {ls : List (Option PV)} {st : List PV} {h : PMem} (hd : 1 ≤ d) (hN : n0 ≤ NC) (hw : wp n0 (fun t => At l d 110 n0 Qp t) (CallP (d - 1)) Qp k_110_18 ls st h) : At l d 110 n0 Qp 18 ls st h := sound g_110.2.1 (by rw [g_110.2.2.2]; exact hN) hd k_110_18 18 k_110_18_ok ls st h (by rw [g_110.2.2.2]; exact hw)
theorem l_110_35 {l : Launch} {d n0 : Nat} {Qp : PQ} {ls : List (Option PV)} {st : List PV} {h : PMem} (hd : 1 ≤ d) (hN : n0 ≤ NC) (hw : wp n0 (fun t => At l d 110 n0 Qp t) (CallP (d - 1)) Qp k_110_35 ls st h) : At l d 110 n0 Qp 35 ls st h := sound g_110.2.1 (by rw [g_110.2.2.2]; exact hN) hd k_110_35 35 k_110_35_ok ls st h (by rw [g_110.2.2.2]; exact hw)
theorem l_110_45 {l : Launch} {d n0 : Nat} {Qp : PQ} {ls : List (Option PV)} {st : List PV} {h : PMem} (hd : 1 ≤ d) (hN : n0 ≤ NC) (hw : wp n0 (fun t => At l d 110 n0 Qp t) (CallP (d - 1)) Qp k_110_45 ls st h) : At l d 110 n0 Qp 45 ls st h := sound g_110.2.1 (by rw [g_110.2.2.2]; exact hN) hd k_110_45 45 k_110_45_ok ls st h (by rw [g_110.2.2.2]; exact hw)
theorem f_111 : (((plainName (mY 111).cls && decide (rN (oN 111) = (mY 111).cls)) && decide (mML 111 = 9)) && decide (aC 111 = 0)) = true := by decide +kernel
theorem g_111 : plainName (mY 111).cls = true ∧ rN (oN 111) = (mY 111).cls ∧ mML 111 = 9 ∧ aC 111 = 0 := by
  have h := f_111
  simp only [Bool.and_eq_true, decide_eq_true_eq] at h
  exact ⟨h.1.1.1, h.1.1.2, h.1.2, h.2⟩
theorem s_111 {d : Nat} {Qp : PQ} {v0 : PV} {v1 : PV} {v2 : PV} {v3 : PV} {v4 : PV} {h : PMem} (hd : 1 ≤ d) (hN : h.1 ≤ NC) (c0 : pcat v0 = 1 := by rfl) (c1 : pcat v1 = 1 := by rfl) (c2 : pcat v2 = 1 := by rfl) (c3 : pcat v3 = 1 := by rfl) (c4 : pcat v4 = 1 := by rfl) (hw : ∀ l, wp h.1 (fun t => At l d 111 h.1 (Qn h.1 Qp) t) (CallP (d - 1)) (Qn h.1 Qp) k_111_0 [some v0, some v1, some v2, some v3, some v4, none, none, none, none] [] h) : CallP d 111 [v0, v1, v2, v3, v4] h Qp := by
  refine call_of g_111.1 (by rw [g_111.2.2.1]; simp only [pcats, c0, c1, c2, c3, c4, pcatL]; decide) (fun l => ?_)
  have e : ent (mML 111) [v0, v1, v2, v3, v4] = [some v0, some v1, some v2, some v3, some v4, none, none, none, none] := by rw [g_111.2.2.1]; simp [ent, pcats, c0, c1, c2, c3, c4, pcatL, List.replicate]
  rw [e]
  refine sound g_111.2.1 (by rw [g_111.2.2.2]; exact hN) hd k_111_0 0 k_111_0_ok _ _ _ ?_
  rw [g_111.2.2.2]
  exact hw l
theorem l_111_10 {l : Launch} {d n0 : Nat} {Qp : PQ} {ls : List (Option PV)} {st : List PV} {h : PMem} (hd : 1 ≤ d) (hN : n0 ≤ NC) (hw : wp n0 (fun t => At l d 111 n0 Qp t) (CallP (d - 1)) Qp k_111_10 ls st h) : At l d 111 n0 Qp 10 ls st h := sound g_111.2.1 (by rw [g_111.2.2.2]; exact hN) hd k_111_10 10 k_111_10_ok ls st h (by rw [g_111.2.2.2]; exact hw)
theorem l_111_11 {l : Launch} {d n0 : Nat} {Qp : PQ} {ls : List (Option PV)} {st : List PV} {h : PMem} (hd : 1 ≤ d) (hN : n0 ≤ NC) (hw : wp n0 (fun t => At l d 111 n0 Qp t) (CallP (d - 1)) Qp k_111_11 ls st h) : At l d 111 n0 Qp 11 ls st h := sound g_111.2.1 (by rw [g_111.2.2.2]; exact hN) hd k_111_11 11 k_111_11_ok ls st h (by rw [g_111.2.2.2]; exact hw)
theorem l_111_62 {l : Launch} {d n0 : Nat} {Qp : PQ} {ls : List (Option PV)} {st : List PV} {h : PMem} (hd : 1 ≤ d) (hN : n0 ≤ NC) (hw : wp n0 (fun t => At l d 111 n0 Qp t) (CallP (d - 1)) Qp k_111_62 ls st h) : At l d 111 n0 Qp 62 ls st h := sound g_111.2.1 (by rw [g_111.2.2.2]; exact hN) hd k_111_62 62 k_111_62_ok ls st h (by rw [g_111.2.2.2]; exact hw)
theorem l_111_69 {l : Launch} {d n0 : Nat} {Qp : PQ} {ls : List (Option PV)} {st : List PV} {h : PMem} (hd : 1 ≤ d) (hN : n0 ≤ NC) (hw : wp n0 (fun t => At l d 111 n0 Qp t) (CallP (d - 1)) Qp k_111_69 ls st h) : At l d 111 n0 Qp 69 ls st h := sound g_111.2.1 (by rw [g_111.2.2.2]; exact hN) hd k_111_69 69 k_111_69_ok ls st h (by rw [g_111.2.2.2]; exact hw)
theorem l_111_85 {l : Launch} {d n0 : Nat} {Qp : PQ} {ls : List (Option PV)} {st : List PV} {h : PMem} (hd : 1 ≤ d) (hN : n0 ≤ NC) (hw : wp n0 (fun t => At l d 111 n0 Qp t) (CallP (d - 1)) Qp k_111_85 ls st h) : At l d 111 n0 Qp 85 ls st h := sound g_111.2.1 (by rw [g_111.2.2.2]; exact hN) hd k_111_85 85 k_111_85_ok ls st h (by rw [g_111.2.2.2]; exact hw)
theorem l_111_89 {l : Launch} {d n0 : Nat} {Qp : PQ} {ls : List (Option PV)} {st : List PV} {h : PMem} (hd : 1 ≤ d) (hN : n0 ≤ NC) (hw : wp n0 (fun t => At l d 111 n0 Qp t) (CallP (d - 1)) Qp k_111_89 ls st h) : At l d 111 n0 Qp 89 ls st h := sound g_111.2.1 (by rw [g_111.2.2.2]; exact hN) hd k_111_89 89 k_111_89_ok ls st h (by rw [g_111.2.2.2]; exact hw)
theorem l_111_98 {l : Launch} {d n0 : Nat} {Qp : PQ} {ls : List (Option PV)} {st : List PV} {h : PMem} (hd : 1 ≤ d) (hN : n0 ≤ NC) (hw : wp n0 (fun t => At l d 111 n0 Qp t) (CallP (d - 1)) Qp k_111_98 ls st h) : At l d 111 n0 Qp 98 ls st h := sound g_111.2.1 (by rw [g_111.2.2.2]; exact hN) hd k_111_98 98 k_111_98_ok ls st h (by rw [g_111.2.2.2]; exact hw)
theorem l_111_134 {l : Launch} {d n0 : Nat} {Qp : PQ} {ls : List (Option PV)} {st : List PV} {h : PMem} (hd : 1 ≤ d) (hN : n0 ≤ NC) (hw : wp n0 (fun t => At l d 111 n0 Qp t) (CallP (d - 1)) Qp k_111_134 ls st h) : At l d 111 n0 Qp 134 ls st h := sound g_111.2.1 (by rw [g_111.2.2.2]; exact hN) hd k_111_134 134 k_111_134_ok ls st h (by rw [g_111.2.2.2]; exact hw)
theorem l_111_140 {l : Launch} {d n0 : Nat} {Qp : PQ} {ls : List (Option PV)} {st : List PV} {h : PMem} (hd : 1 ≤ d) (hN : n0 ≤ NC) (hw : wp n0 (fun t => At l d 111 n0 Qp t) (CallP (d - 1)) Qp k_111_140 ls st h) : At l d 111 n0 Qp 140 ls st h := sound g_111.2.1 (by rw [g_111.2.2.2]; exact hN) hd k_111_140 140 k_111_140_ok ls st h (by rw [g_111.2.2.2]; exact hw)
theorem f_112 : (((plainName (mY 112).cls && decide (rN (oN 112) = (mY 112).cls)) && decide (mML 112 = 3)) && decide (aC 112 = 0)) = true := by decide +kernel
theorem g_112 : plainName (mY 112).cls = true ∧ rN (oN 112) = (mY 112).cls ∧ mML 112 = 3 ∧ aC 112 = 0 := by
  have h := f_112
  simp only [Bool.and_eq_true, decide_eq_true_eq] at h
  exact ⟨h.1.1.1, h.1.1.2, h.1.2, h.2⟩
theorem s_112 {d : Nat} {Qp : PQ} {v0 : PV} {v1 : PV} {v2 : PV} {h : PMem} (hd : 1 ≤ d) (hN : h.1 ≤ NC) (c0 : pcat v0 = 1 := by rfl) (c1 : pcat v1 = 1 := by rfl) (c2 : pcat v2 = 1 := by rfl) (hw : ∀ l, wp h.1 (fun t => At l d 112 h.1 (Qn h.1 Qp) t) (CallP (d - 1)) (Qn h.1 Qp) k_112_0 [some v0, some v1, some v2] [] h) : CallP d 112 [v0, v1, v2] h Qp := by
  refine call_of g_112.1 (by rw [g_112.2.2.1]; simp only [pcats, c0, c1, c2, pcatL]; decide) (fun l => ?_)
  have e : ent (mML 112) [v0, v1, v2] = [some v0, some v1, some v2] := by rw [g_112.2.2.1]; simp [ent, pcats, c0, c1, c2, pcatL, List.replicate]
  rw [e]
  refine sound g_112.2.1 (by rw [g_112.2.2.2]; exact hN) hd k_112_0 0 k_112_0_ok _ _ _ ?_
  rw [g_112.2.2.2]
  exact hw l
theorem l_112_20 {l : Launch} {d n0 : Nat} {Qp : PQ} {ls : List (Option PV)} {st : List PV} {h : PMem} (hd : 1 ≤ d) (hN : n0 ≤ NC) (hw : wp n0 (fun t => At l d 112 n0 Qp t) (CallP (d - 1)) Qp k_112_20 ls st h) : At l d 112 n0 Qp 20 ls st h := sound g_112.2.1 (by rw [g_112.2.2.2]; exact hN) hd k_112_20 20 k_112_20_ok ls st h (by rw [g_112.2.2.2]; exact hw)
theorem l_112_27 {l : Launch} {d n0 : Nat} {Qp : PQ} {ls : List (Option PV)} {st : List PV} {h : PMem} (hd : 1 ≤ d) (hN : n0 ≤ NC) (hw : wp n0 (fun t => At l d 112 n0 Qp t) (CallP (d - 1)) Qp k_112_27 ls st h) : At l d 112 n0 Qp 27 ls st h := sound g_112.2.1 (by rw [g_112.2.2.2]; exact hN) hd k_112_27 27 k_112_27_ok ls st h (by rw [g_112.2.2.2]; exact hw)
theorem f_113 : (((plainName (mY 113).cls && decide (rN (oN 113) = (mY 113).cls)) && decide (mML 113 = 2)) && decide (aC 113 = 0)) = true := by decide +kernel
theorem g_113 : plainName (mY 113).cls = true ∧ rN (oN 113) = (mY 113).cls ∧ mML 113 = 2 ∧ aC 113 = 0 := by
  have h := f_113
  simp only [Bool.and_eq_true, decide_eq_true_eq] at h
  exact ⟨h.1.1.1, h.1.1.2, h.1.2, h.2⟩
theorem s_113 {d : Nat} {Qp : PQ} {v0 : PV} {v1 : PV} {h : PMem} (hd : 1 ≤ d) (hN : h.1 ≤ NC) (c0 : pcat v0 = 1 := by rfl) (c1 : pcat v1 = 1 := by rfl) (hw : ∀ l, wp h.1 (fun t => At l d 113 h.1 (Qn h.1 Qp) t) (CallP (d - 1)) (Qn h.1 Qp) k_113_0 [some v0, some v1] [] h) : CallP d 113 [v0, v1] h Qp := by
  refine call_of g_113.1 (by rw [g_113.2.2.1]; simp only [pcats, c0, c1, pcatL]; decide) (fun l => ?_)
  have e : ent (mML 113) [v0, v1] = [some v0, some v1] := by rw [g_113.2.2.1]; simp [ent, pcats, c0, c1, pcatL, List.replicate]
  rw [e]
  refine sound g_113.2.1 (by rw [g_113.2.2.2]; exact hN) hd k_113_0 0 k_113_0_ok _ _ _ ?_
  rw [g_113.2.2.2]
  exact hw l
theorem l_113_16 {l : Launch} {d n0 : Nat} {Qp : PQ} {ls : List (Option PV)} {st : List PV} {h : PMem} (hd : 1 ≤ d) (hN : n0 ≤ NC) (hw : wp n0 (fun t => At l d 113 n0 Qp t) (CallP (d - 1)) Qp k_113_16 ls st h) : At l d 113 n0 Qp 16 ls st h := sound g_113.2.1 (by rw [g_113.2.2.2]; exact hN) hd k_113_16 16 k_113_16_ok ls st h (by rw [g_113.2.2.2]; exact hw)
theorem f_114 : (((plainName (mY 114).cls && decide (rN (oN 114) = (mY 114).cls)) && decide (mML 114 = 2)) && decide (aC 114 = 0)) = true := by decide +kernel
theorem g_114 : plainName (mY 114).cls = true ∧ rN (oN 114) = (mY 114).cls ∧ mML 114 = 2 ∧ aC 114 = 0 := by
  have h := f_114
  simp only [Bool.and_eq_true, decide_eq_true_eq] at h
  exact ⟨h.1.1.1, h.1.1.2, h.1.2, h.2⟩
theorem s_114 {d : Nat} {Qp : PQ} {v0 : PV} {v1 : PV} {h : PMem} (hd : 1 ≤ d) (hN : h.1 ≤ NC) (c0 : pcat v0 = 1 := by rfl) (c1 : pcat v1 = 1 := by rfl) (hw : ∀ l, wp h.1 (fun t => At l d 114 h.1 (Qn h.1 Qp) t) (CallP (d - 1)) (Qn h.1 Qp) k_114_0 [some v0, some v1] [] h) : CallP d 114 [v0, v1] h Qp := by
  refine call_of g_114.1 (by rw [g_114.2.2.1]; simp only [pcats, c0, c1, pcatL]; decide) (fun l => ?_)
  have e : ent (mML 114) [v0, v1] = [some v0, some v1] := by rw [g_114.2.2.1]; simp [ent, pcats, c0, c1, pcatL, List.replicate]
  rw [e]
  refine sound g_114.2.1 (by rw [g_114.2.2.2]; exact hN) hd k_114_0 0 k_114_0_ok _ _ _ ?_
  rw [g_114.2.2.2]
  exact hw l
theorem l_114_16 {l : Launch} {d n0 : Nat} {Qp : PQ} {ls : List (Option PV)} {st : List PV} {h : PMem} (hd : 1 ≤ d) (hN : n0 ≤ NC) (hw : wp n0 (fun t => At l d 114 n0 Qp t) (CallP (d - 1)) Qp k_114_16 ls st h) : At l d 114 n0 Qp 16 ls st h := sound g_114.2.1 (by rw [g_114.2.2.2]; exact hN) hd k_114_16 16 k_114_16_ok ls st h (by rw [g_114.2.2.2]; exact hw)
theorem l_114_32 {l : Launch} {d n0 : Nat} {Qp : PQ} {ls : List (Option PV)} {st : List PV} {h : PMem} (hd : 1 ≤ d) (hN : n0 ≤ NC) (hw : wp n0 (fun t => At l d 114 n0 Qp t) (CallP (d - 1)) Qp k_114_32 ls st h) : At l d 114 n0 Qp 32 ls st h := sound g_114.2.1 (by rw [g_114.2.2.2]; exact hN) hd k_114_32 32 k_114_32_ok ls st h (by rw [g_114.2.2.2]; exact hw)
theorem f_115 : (((plainName (mY 115).cls && decide (rN (oN 115) = (mY 115).cls)) && decide (mML 115 = 2)) && decide (aC 115 = 0)) = true := by decide +kernel
theorem g_115 : plainName (mY 115).cls = true ∧ rN (oN 115) = (mY 115).cls ∧ mML 115 = 2 ∧ aC 115 = 0 := by
  have h := f_115
  simp only [Bool.and_eq_true, decide_eq_true_eq] at h
  exact ⟨h.1.1.1, h.1.1.2, h.1.2, h.2⟩
theorem s_115 {d : Nat} {Qp : PQ} {v0 : PV} {v1 : PV} {h : PMem} (hd : 1 ≤ d) (hN : h.1 ≤ NC) (c0 : pcat v0 = 1 := by rfl) (c1 : pcat v1 = 1 := by rfl) (hw : ∀ l, wp h.1 (fun t => At l d 115 h.1 (Qn h.1 Qp) t) (CallP (d - 1)) (Qn h.1 Qp) k_115_0 [some v0, some v1] [] h) : CallP d 115 [v0, v1] h Qp := by
  refine call_of g_115.1 (by rw [g_115.2.2.1]; simp only [pcats, c0, c1, pcatL]; decide) (fun l => ?_)
  have e : ent (mML 115) [v0, v1] = [some v0, some v1] := by rw [g_115.2.2.1]; simp [ent, pcats, c0, c1, pcatL, List.replicate]
  rw [e]
  refine sound g_115.2.1 (by rw [g_115.2.2.2]; exact hN) hd k_115_0 0 k_115_0_ok _ _ _ ?_
  rw [g_115.2.2.2]
  exact hw l
theorem l_115_17 {l : Launch} {d n0 : Nat} {Qp : PQ} {ls : List (Option PV)} {st : List PV} {h : PMem} (hd : 1 ≤ d) (hN : n0 ≤ NC) (hw : wp n0 (fun t => At l d 115 n0 Qp t) (CallP (d - 1)) Qp k_115_17 ls st h) : At l d 115 n0 Qp 17 ls st h := sound g_115.2.1 (by rw [g_115.2.2.2]; exact hN) hd k_115_17 17 k_115_17_ok ls st h (by rw [g_115.2.2.2]; exact hw)
theorem f_116 : (((plainName (mY 116).cls && decide (rN (oN 116) = (mY 116).cls)) && decide (mML 116 = 2)) && decide (aC 116 = 0)) = true := by decide +kernel
theorem g_116 : plainName (mY 116).cls = true ∧ rN (oN 116) = (mY 116).cls ∧ mML 116 = 2 ∧ aC 116 = 0 := by
  have h := f_116
  simp only [Bool.and_eq_true, decide_eq_true_eq] at h
  exact ⟨h.1.1.1, h.1.1.2, h.1.2, h.2⟩
theorem s_116 {d : Nat} {Qp : PQ} {v0 : PV} {v1 : PV} {h : PMem} (hd : 1 ≤ d) (hN : h.1 ≤ NC) (c0 : pcat v0 = 1 := by rfl) (c1 : pcat v1 = 1 := by rfl) (hw : ∀ l, wp h.1 (fun t => At l d 116 h.1 (Qn h.1 Qp) t) (CallP (d - 1)) (Qn h.1 Qp) k_116_0 [some v0, some v1] [] h) : CallP d 116 [v0, v1] h Qp := by
  refine call_of g_116.1 (by rw [g_116.2.2.1]; simp only [pcats, c0, c1, pcatL]; decide) (fun l => ?_)
  have e : ent (mML 116) [v0, v1] = [some v0, some v1] := by rw [g_116.2.2.1]; simp [ent, pcats, c0, c1, pcatL, List.replicate]
  rw [e]
  refine sound g_116.2.1 (by rw [g_116.2.2.2]; exact hN) hd k_116_0 0 k_116_0_ok _ _ _ ?_
  rw [g_116.2.2.2]
  exact hw l
theorem l_116_40 {l : Launch} {d n0 : Nat} {Qp : PQ} {ls : List (Option PV)} {st : List PV} {h : PMem} (hd : 1 ≤ d) (hN : n0 ≤ NC) (hw : wp n0 (fun t => At l d 116 n0 Qp t) (CallP (d - 1)) Qp k_116_40 ls st h) : At l d 116 n0 Qp 40 ls st h := sound g_116.2.1 (by rw [g_116.2.2.2]; exact hN) hd k_116_40 40 k_116_40_ok ls st h (by rw [g_116.2.2.2]; exact hw)
theorem l_116_48 {l : Launch} {d n0 : Nat} {Qp : PQ} {ls : List (Option PV)} {st : List PV} {h : PMem} (hd : 1 ≤ d) (hN : n0 ≤ NC) (hw : wp n0 (fun t => At l d 116 n0 Qp t) (CallP (d - 1)) Qp k_116_48 ls st h) : At l d 116 n0 Qp 48 ls st h := sound g_116.2.1 (by rw [g_116.2.2.2]; exact hN) hd k_116_48 48 k_116_48_ok ls st h (by rw [g_116.2.2.2]; exact hw)
theorem l_116_59 {l : Launch} {d n0 : Nat} {Qp : PQ} {ls : List (Option PV)} {st : List PV} {h : PMem} (hd : 1 ≤ d) (hN : n0 ≤ NC) (hw : wp n0 (fun t => At l d 116 n0 Qp t) (CallP (d - 1)) Qp k_116_59 ls st h) : At l d 116 n0 Qp 59 ls st h := sound g_116.2.1 (by rw [g_116.2.2.2]; exact hN) hd k_116_59 59 k_116_59_ok ls st h (by rw [g_116.2.2.2]; exact hw)
theorem l_116_67 {l : Launch} {d n0 : Nat} {Qp : PQ} {ls : List (Option PV)} {st : List PV} {h : PMem} (hd : 1 ≤ d) (hN : n0 ≤ NC) (hw : wp n0 (fun t => At l d 116 n0 Qp t) (CallP (d - 1)) Qp k_116_67 ls st h) : At l d 116 n0 Qp 67 ls st h := sound g_116.2.1 (by rw [g_116.2.2.2]; exact hN) hd k_116_67 67 k_116_67_ok ls st h (by rw [g_116.2.2.2]; exact hw)
theorem l_116_78 {l : Launch} {d n0 : Nat} {Qp : PQ} {ls : List (Option PV)} {st : List PV} {h : PMem} (hd : 1 ≤ d) (hN : n0 ≤ NC) (hw : wp n0 (fun t => At l d 116 n0 Qp t) (CallP (d - 1)) Qp k_116_78 ls st h) : At l d 116 n0 Qp 78 ls st h := sound g_116.2.1 (by rw [g_116.2.2.2]; exact hN) hd k_116_78 78 k_116_78_ok ls st h (by rw [g_116.2.2.2]; exact hw)
theorem l_116_86 {l : Launch} {d n0 : Nat} {Qp : PQ} {ls : List (Option PV)} {st : List PV} {h : PMem} (hd : 1 ≤ d) (hN : n0 ≤ NC) (hw : wp n0 (fun t => At l d 116 n0 Qp t) (CallP (d - 1)) Qp k_116_86 ls st h) : At l d 116 n0 Qp 86 ls st h := sound g_116.2.1 (by rw [g_116.2.2.2]; exact hN) hd k_116_86 86 k_116_86_ok ls st h (by rw [g_116.2.2.2]; exact hw)
theorem l_116_94 {l : Launch} {d n0 : Nat} {Qp : PQ} {ls : List (Option PV)} {st : List PV} {h : PMem} (hd : 1 ≤ d) (hN : n0 ≤ NC) (hw : wp n0 (fun t => At l d 116 n0 Qp t) (CallP (d - 1)) Qp k_116_94 ls st h) : At l d 116 n0 Qp 94 ls st h := sound g_116.2.1 (by rw [g_116.2.2.2]; exact hN) hd k_116_94 94 k_116_94_ok ls st h (by rw [g_116.2.2.2]; exact hw)
theorem f_117 : (((plainName (mY 117).cls && decide (rN (oN 117) = (mY 117).cls)) && decide (mML 117 = 4)) && decide (aC 117 = 0)) = true := by decide +kernel
theorem g_117 : plainName (mY 117).cls = true ∧ rN (oN 117) = (mY 117).cls ∧ mML 117 = 4 ∧ aC 117 = 0 := by
  have h := f_117
  simp only [Bool.and_eq_true, decide_eq_true_eq] at h
  exact ⟨h.1.1.1, h.1.1.2, h.1.2, h.2⟩
theorem s_117 {d : Nat} {Qp : PQ} {v0 : PV} {h : PMem} (hd : 1 ≤ d) (hN : h.1 ≤ NC) (c0 : pcat v0 = 1 := by rfl) (hw : ∀ l, wp h.1 (fun t => At l d 117 h.1 (Qn h.1 Qp) t) (CallP (d - 1)) (Qn h.1 Qp) k_117_0 [some v0, none, none, none] [] h) : CallP d 117 [v0] h Qp := by
  refine call_of g_117.1 (by rw [g_117.2.2.1]; simp only [pcats, c0, pcatL]; decide) (fun l => ?_)
  have e : ent (mML 117) [v0] = [some v0, none, none, none] := by rw [g_117.2.2.1]; simp [ent, pcats, c0, pcatL, List.replicate]
  rw [e]
  refine sound g_117.2.1 (by rw [g_117.2.2.2]; exact hN) hd k_117_0 0 k_117_0_ok _ _ _ ?_
  rw [g_117.2.2.2]
  exact hw l
theorem l_117_6 {l : Launch} {d n0 : Nat} {Qp : PQ} {ls : List (Option PV)} {st : List PV} {h : PMem} (hd : 1 ≤ d) (hN : n0 ≤ NC) (hw : wp n0 (fun t => At l d 117 n0 Qp t) (CallP (d - 1)) Qp k_117_6 ls st h) : At l d 117 n0 Qp 6 ls st h := sound g_117.2.1 (by rw [g_117.2.2.2]; exact hN) hd k_117_6 6 k_117_6_ok ls st h (by rw [g_117.2.2.2]; exact hw)
theorem l_117_30 {l : Launch} {d n0 : Nat} {Qp : PQ} {ls : List (Option PV)} {st : List PV} {h : PMem} (hd : 1 ≤ d) (hN : n0 ≤ NC) (hw : wp n0 (fun t => At l d 117 n0 Qp t) (CallP (d - 1)) Qp k_117_30 ls st h) : At l d 117 n0 Qp 30 ls st h := sound g_117.2.1 (by rw [g_117.2.2.2]; exact hN) hd k_117_30 30 k_117_30_ok ls st h (by rw [g_117.2.2.2]; exact hw)
theorem f_118 : (((plainName (mY 118).cls && decide (rN (oN 118) = (mY 118).cls)) && decide (mML 118 = 2)) && decide (aC 118 = 0)) = true := by decide +kernel
theorem g_118 : plainName (mY 118).cls = true ∧ rN (oN 118) = (mY 118).cls ∧ mML 118 = 2 ∧ aC 118 = 0 := by
  have h := f_118
  simp only [Bool.and_eq_true, decide_eq_true_eq] at h
  exact ⟨h.1.1.1, h.1.1.2, h.1.2, h.2⟩
theorem s_118 {d : Nat} {Qp : PQ} {v0 : PV} {v1 : PV} {h : PMem} (hd : 1 ≤ d) (hN : h.1 ≤ NC) (c0 : pcat v0 = 1 := by rfl) (c1 : pcat v1 = 1 := by rfl) (hw : ∀ l, wp h.1 (fun t => At l d 118 h.1 (Qn h.1 Qp) t) (CallP (d - 1)) (Qn h.1 Qp) k_118_0 [some v0, some v1] [] h) : CallP d 118 [v0, v1] h Qp := by
  refine call_of g_118.1 (by rw [g_118.2.2.1]; simp only [pcats, c0, c1, pcatL]; decide) (fun l => ?_)
  have e : ent (mML 118) [v0, v1] = [some v0, some v1] := by rw [g_118.2.2.1]; simp [ent, pcats, c0, c1, pcatL, List.replicate]
  rw [e]
  refine sound g_118.2.1 (by rw [g_118.2.2.2]; exact hN) hd k_118_0 0 k_118_0_ok _ _ _ ?_
  rw [g_118.2.2.2]
  exact hw l
theorem l_118_18 {l : Launch} {d n0 : Nat} {Qp : PQ} {ls : List (Option PV)} {st : List PV} {h : PMem} (hd : 1 ≤ d) (hN : n0 ≤ NC) (hw : wp n0 (fun t => At l d 118 n0 Qp t) (CallP (d - 1)) Qp k_118_18 ls st h) : At l d 118 n0 Qp 18 ls st h := sound g_118.2.1 (by rw [g_118.2.2.2]; exact hN) hd k_118_18 18 k_118_18_ok ls st h (by rw [g_118.2.2.2]; exact hw)
theorem l_118_31 {l : Launch} {d n0 : Nat} {Qp : PQ} {ls : List (Option PV)} {st : List PV} {h : PMem} (hd : 1 ≤ d) (hN : n0 ≤ NC) (hw : wp n0 (fun t => At l d 118 n0 Qp t) (CallP (d - 1)) Qp k_118_31 ls st h) : At l d 118 n0 Qp 31 ls st h := sound g_118.2.1 (by rw [g_118.2.2.2]; exact hN) hd k_118_31 31 k_118_31_ok ls st h (by rw [g_118.2.2.2]; exact hw)
theorem f_119 : (((plainName (mY 119).cls && decide (rN (oN 119) = (mY 119).cls)) && decide (mML 119 = 3)) && decide (aC 119 = 0)) = true := by decide +kernel
theorem g_119 : plainName (mY 119).cls = true ∧ rN (oN 119) = (mY 119).cls ∧ mML 119 = 3 ∧ aC 119 = 0 := by
  have h := f_119
  simp only [Bool.and_eq_true, decide_eq_true_eq] at h
  exact ⟨h.1.1.1, h.1.1.2, h.1.2, h.2⟩
theorem s_119 {d : Nat} {Qp : PQ} {v0 : PV} {v1 : PV} {v2 : PV} {h : PMem} (hd : 1 ≤ d) (hN : h.1 ≤ NC) (c0 : pcat v0 = 1 := by rfl) (c1 : pcat v1 = 1 := by rfl) (c2 : pcat v2 = 1 := by rfl) (hw : ∀ l, wp h.1 (fun t => At l d 119 h.1 (Qn h.1 Qp) t) (CallP (d - 1)) (Qn h.1 Qp) k_119_0 [some v0, some v1, some v2] [] h) : CallP d 119 [v0, v1, v2] h Qp := by
  refine call_of g_119.1 (by rw [g_119.2.2.1]; simp only [pcats, c0, c1, c2, pcatL]; decide) (fun l => ?_)
  have e : ent (mML 119) [v0, v1, v2] = [some v0, some v1, some v2] := by rw [g_119.2.2.1]; simp [ent, pcats, c0, c1, c2, pcatL, List.replicate]
  rw [e]
  refine sound g_119.2.1 (by rw [g_119.2.2.2]; exact hN) hd k_119_0 0 k_119_0_ok _ _ _ ?_
  rw [g_119.2.2.2]
  exact hw l
theorem f_120 : (((plainName (mY 120).cls && decide (rN (oN 120) = (mY 120).cls)) && decide (mML 120 = 3)) && decide (aC 120 = 0)) = true := by decide +kernel
theorem g_120 : plainName (mY 120).cls = true ∧ rN (oN 120) = (mY 120).cls ∧ mML 120 = 3 ∧ aC 120 = 0 := by
  have h := f_120
  simp only [Bool.and_eq_true, decide_eq_true_eq] at h
  exact ⟨h.1.1.1, h.1.1.2, h.1.2, h.2⟩
theorem s_120 {d : Nat} {Qp : PQ} {v0 : PV} {v1 : PV} {v2 : PV} {h : PMem} (hd : 1 ≤ d) (hN : h.1 ≤ NC) (c0 : pcat v0 = 1 := by rfl) (c1 : pcat v1 = 1 := by rfl) (c2 : pcat v2 = 1 := by rfl) (hw : ∀ l, wp h.1 (fun t => At l d 120 h.1 (Qn h.1 Qp) t) (CallP (d - 1)) (Qn h.1 Qp) k_120_0 [some v0, some v1, some v2] [] h) : CallP d 120 [v0, v1, v2] h Qp := by
  refine call_of g_120.1 (by rw [g_120.2.2.1]; simp only [pcats, c0, c1, c2, pcatL]; decide) (fun l => ?_)
  have e : ent (mML 120) [v0, v1, v2] = [some v0, some v1, some v2] := by rw [g_120.2.2.1]; simp [ent, pcats, c0, c1, c2, pcatL, List.replicate]
  rw [e]
  refine sound g_120.2.1 (by rw [g_120.2.2.2]; exact hN) hd k_120_0 0 k_120_0_ok _ _ _ ?_
  rw [g_120.2.2.2]
  exact hw l
theorem l_120_14 {l : Launch} {d n0 : Nat} {Qp : PQ} {ls : List (Option PV)} {st : List PV} {h : PMem} (hd : 1 ≤ d) (hN : n0 ≤ NC) (hw : wp n0 (fun t => At l d 120 n0 Qp t) (CallP (d - 1)) Qp k_120_14 ls st h) : At l d 120 n0 Qp 14 ls st h := sound g_120.2.1 (by rw [g_120.2.2.2]; exact hN) hd k_120_14 14 k_120_14_ok ls st h (by rw [g_120.2.2.2]; exact hw)
theorem l_120_15 {l : Launch} {d n0 : Nat} {Qp : PQ} {ls : List (Option PV)} {st : List PV} {h : PMem} (hd : 1 ≤ d) (hN : n0 ≤ NC) (hw : wp n0 (fun t => At l d 120 n0 Qp t) (CallP (d - 1)) Qp k_120_15 ls st h) : At l d 120 n0 Qp 15 ls st h := sound g_120.2.1 (by rw [g_120.2.2.2]; exact hN) hd k_120_15 15 k_120_15_ok ls st h (by rw [g_120.2.2.2]; exact hw)
theorem f_121 : (((plainName (mY 121).cls && decide (rN (oN 121) = (mY 121).cls)) && decide (mML 121 = 1)) && decide (aC 121 = 0)) = true := by decide +kernel
theorem g_121 : plainName (mY 121).cls = true ∧ rN (oN 121) = (mY 121).cls ∧ mML 121 = 1 ∧ aC 121 = 0 := by
  have h := f_121
  simp only [Bool.and_eq_true, decide_eq_true_eq] at h
  exact ⟨h.1.1.1, h.1.1.2, h.1.2, h.2⟩
theorem s_121 {d : Nat} {Qp : PQ} {v0 : PV} {h : PMem} (hd : 1 ≤ d) (hN : h.1 ≤ NC) (c0 : pcat v0 = 1 := by rfl) (hw : ∀ l, wp h.1 (fun t => At l d 121 h.1 (Qn h.1 Qp) t) (CallP (d - 1)) (Qn h.1 Qp) k_121_0 [some v0] [] h) : CallP d 121 [v0] h Qp := by
  refine call_of g_121.1 (by rw [g_121.2.2.1]; simp only [pcats, c0, pcatL]; decide) (fun l => ?_)
  have e : ent (mML 121) [v0] = [some v0] := by rw [g_121.2.2.1]; simp [ent, pcats, c0, pcatL, List.replicate]
  rw [e]
  refine sound g_121.2.1 (by rw [g_121.2.2.2]; exact hN) hd k_121_0 0 k_121_0_ok _ _ _ ?_
  rw [g_121.2.2.2]
  exact hw l
theorem f_122 : (((plainName (mY 122).cls && decide (rN (oN 122) = (mY 122).cls)) && decide (mML 122 = 1)) && decide (aC 122 = 0)) = true := by decide +kernel
theorem g_122 : plainName (mY 122).cls = true ∧ rN (oN 122) = (mY 122).cls ∧ mML 122 = 1 ∧ aC 122 = 0 := by
  have h := f_122
  simp only [Bool.and_eq_true, decide_eq_true_eq] at h
  exact ⟨h.1.1.1, h.1.1.2, h.1.2, h.2⟩
theorem s_122 {d : Nat} {Qp : PQ} {v0 : PV} {h : PMem} (hd : 1 ≤ d) (hN : h.1 ≤ NC) (c0 : pcat v0 = 1 := by rfl) (hw : ∀ l, wp h.1 (fun t => At l d 122 h.1 (Qn h.1 Qp) t) (CallP (d - 1)) (Qn h.1 Qp) k_122_0 [some v0] [] h) : CallP d 122 [v0] h Qp := by
  refine call_of g_122.1 (by rw [g_122.2.2.1]; simp only [pcats, c0, pcatL]; decide) (fun l => ?_)
  have e : ent (mML 122) [v0] = [some v0] := by rw [g_122.2.2.1]; simp [ent, pcats, c0, pcatL, List.replicate]
  rw [e]
  refine sound g_122.2.1 (by rw [g_122.2.2.2]; exact hN) hd k_122_0 0 k_122_0_ok _ _ _ ?_
  rw [g_122.2.2.2]
  exact hw l
theorem f_123 : (((plainName (mY 123).cls && decide (rN (oN 123) = (mY 123).cls)) && decide (mML 123 = 2)) && decide (aC 123 = 0)) = true := by decide +kernel
theorem g_123 : plainName (mY 123).cls = true ∧ rN (oN 123) = (mY 123).cls ∧ mML 123 = 2 ∧ aC 123 = 0 := by
  have h := f_123
  simp only [Bool.and_eq_true, decide_eq_true_eq] at h
  exact ⟨h.1.1.1, h.1.1.2, h.1.2, h.2⟩
theorem s_123 {d : Nat} {Qp : PQ} {v0 : PV} {v1 : PV} {h : PMem} (hd : 1 ≤ d) (hN : h.1 ≤ NC) (c0 : pcat v0 = 1 := by rfl) (c1 : pcat v1 = 1 := by rfl) (hw : ∀ l, wp h.1 (fun t => At l d 123 h.1 (Qn h.1 Qp) t) (CallP (d - 1)) (Qn h.1 Qp) k_123_0 [some v0, some v1] [] h) : CallP d 123 [v0, v1] h Qp := by
  refine call_of g_123.1 (by rw [g_123.2.2.1]; simp only [pcats, c0, c1, pcatL]; decide) (fun l => ?_)
  have e : ent (mML 123) [v0, v1] = [some v0, some v1] := by rw [g_123.2.2.1]; simp [ent, pcats, c0, c1, pcatL, List.replicate]
  rw [e]
  refine sound g_123.2.1 (by rw [g_123.2.2.2]; exact hN) hd k_123_0 0 k_123_0_ok _ _ _ ?_
  rw [g_123.2.2.2]
  exact hw l
theorem l_123_13 {l : Launch} {d n0 : Nat} {Qp : PQ} {ls : List (Option PV)} {st : List PV} {h : PMem} (hd : 1 ≤ d) (hN : n0 ≤ NC) (hw : wp n0 (fun t => At l d 123 n0 Qp t) (CallP (d - 1)) Qp k_123_13 ls st h) : At l d 123 n0 Qp 13 ls st h := sound g_123.2.1 (by rw [g_123.2.2.2]; exact hN) hd k_123_13 13 k_123_13_ok ls st h (by rw [g_123.2.2.2]; exact hw)
theorem l_123_14 {l : Launch} {d n0 : Nat} {Qp : PQ} {ls : List (Option PV)} {st : List PV} {h : PMem} (hd : 1 ≤ d) (hN : n0 ≤ NC) (hw : wp n0 (fun t => At l d 123 n0 Qp t) (CallP (d - 1)) Qp k_123_14 ls st h) : At l d 123 n0 Qp 14 ls st h := sound g_123.2.1 (by rw [g_123.2.2.2]; exact hN) hd k_123_14 14 k_123_14_ok ls st h (by rw [g_123.2.2.2]; exact hw)
theorem f_124 : (((plainName (mY 124).cls && decide (rN (oN 124) = (mY 124).cls)) && decide (mML 124 = 1)) && decide (aC 124 = 0)) = true := by decide +kernel
theorem g_124 : plainName (mY 124).cls = true ∧ rN (oN 124) = (mY 124).cls ∧ mML 124 = 1 ∧ aC 124 = 0 := by
  have h := f_124
  simp only [Bool.and_eq_true, decide_eq_true_eq] at h
  exact ⟨h.1.1.1, h.1.1.2, h.1.2, h.2⟩
theorem s_124 {d : Nat} {Qp : PQ} {v0 : PV} {h : PMem} (hd : 1 ≤ d) (hN : h.1 ≤ NC) (c0 : pcat v0 = 1 := by rfl) (hw : ∀ l, wp h.1 (fun t => At l d 124 h.1 (Qn h.1 Qp) t) (CallP (d - 1)) (Qn h.1 Qp) k_124_0 [some v0] [] h) : CallP d 124 [v0] h Qp := by
  refine call_of g_124.1 (by rw [g_124.2.2.1]; simp only [pcats, c0, pcatL]; decide) (fun l => ?_)
  have e : ent (mML 124) [v0] = [some v0] := by rw [g_124.2.2.1]; simp [ent, pcats, c0, pcatL, List.replicate]
  rw [e]
  refine sound g_124.2.1 (by rw [g_124.2.2.2]; exact hN) hd k_124_0 0 k_124_0_ok _ _ _ ?_
  rw [g_124.2.2.2]
  exact hw l
theorem l_124_8 {l : Launch} {d n0 : Nat} {Qp : PQ} {ls : List (Option PV)} {st : List PV} {h : PMem} (hd : 1 ≤ d) (hN : n0 ≤ NC) (hw : wp n0 (fun t => At l d 124 n0 Qp t) (CallP (d - 1)) Qp k_124_8 ls st h) : At l d 124 n0 Qp 8 ls st h := sound g_124.2.1 (by rw [g_124.2.2.2]; exact hN) hd k_124_8 8 k_124_8_ok ls st h (by rw [g_124.2.2.2]; exact hw)
theorem l_124_9 {l : Launch} {d n0 : Nat} {Qp : PQ} {ls : List (Option PV)} {st : List PV} {h : PMem} (hd : 1 ≤ d) (hN : n0 ≤ NC) (hw : wp n0 (fun t => At l d 124 n0 Qp t) (CallP (d - 1)) Qp k_124_9 ls st h) : At l d 124 n0 Qp 9 ls st h := sound g_124.2.1 (by rw [g_124.2.2.2]; exact hN) hd k_124_9 9 k_124_9_ok ls st h (by rw [g_124.2.2.2]; exact hw)
theorem f_125 : (((plainName (mY 125).cls && decide (rN (oN 125) = (mY 125).cls)) && decide (mML 125 = 3)) && decide (aC 125 = 0)) = true := by decide +kernel
theorem g_125 : plainName (mY 125).cls = true ∧ rN (oN 125) = (mY 125).cls ∧ mML 125 = 3 ∧ aC 125 = 0 := by
  have h := f_125
  simp only [Bool.and_eq_true, decide_eq_true_eq] at h
  exact ⟨h.1.1.1, h.1.1.2, h.1.2, h.2⟩
theorem s_125 {d : Nat} {Qp : PQ} {v0 : PV} {v1 : PV} {v2 : PV} {h : PMem} (hd : 1 ≤ d) (hN : h.1 ≤ NC) (c0 : pcat v0 = 1 := by rfl) (c1 : pcat v1 = 1 := by rfl) (c2 : pcat v2 = 1 := by rfl) (hw : ∀ l, wp h.1 (fun t => At l d 125 h.1 (Qn h.1 Qp) t) (CallP (d - 1)) (Qn h.1 Qp) k_125_0 [some v0, some v1, some v2] [] h) : CallP d 125 [v0, v1, v2] h Qp := by
  refine call_of g_125.1 (by rw [g_125.2.2.1]; simp only [pcats, c0, c1, c2, pcatL]; decide) (fun l => ?_)
  have e : ent (mML 125) [v0, v1, v2] = [some v0, some v1, some v2] := by rw [g_125.2.2.1]; simp [ent, pcats, c0, c1, c2, pcatL, List.replicate]
  rw [e]
  refine sound g_125.2.1 (by rw [g_125.2.2.2]; exact hN) hd k_125_0 0 k_125_0_ok _ _ _ ?_
  rw [g_125.2.2.2]
  exact hw l
theorem l_125_14 {l : Launch} {d n0 : Nat} {Qp : PQ} {ls : List (Option PV)} {st : List PV} {h : PMem} (hd : 1 ≤ d) (hN : n0 ≤ NC) (hw : wp n0 (fun t => At l d 125 n0 Qp t) (CallP (d - 1)) Qp k_125_14 ls st h) : At l d 125 n0 Qp 14 ls st h := sound g_125.2.1 (by rw [g_125.2.2.2]; exact hN) hd k_125_14 14 k_125_14_ok ls st h (by rw [g_125.2.2.2]; exact hw)
theorem l_125_15 {l : Launch} {d n0 : Nat} {Qp : PQ} {ls : List (Option PV)} {st : List PV} {h : PMem} (hd : 1 ≤ d) (hN : n0 ≤ NC) (hw : wp n0 (fun t => At l d 125 n0 Qp t) (CallP (d - 1)) Qp k_125_15 ls st h) : At l d 125 n0 Qp 15 ls st h := sound g_125.2.1 (by rw [g_125.2.2.2]; exact hN) hd k_125_15 15 k_125_15_ok ls st h (by rw [g_125.2.2.2]; exact hw)
theorem f_126 : (((plainName (mY 126).cls && decide (rN (oN 126) = (mY 126).cls)) && decide (mML 126 = 2)) && decide (aC 126 = 0)) = true := by decide +kernel
theorem g_126 : plainName (mY 126).cls = true ∧ rN (oN 126) = (mY 126).cls ∧ mML 126 = 2 ∧ aC 126 = 0 := by
  have h := f_126
  simp only [Bool.and_eq_true, decide_eq_true_eq] at h
  exact ⟨h.1.1.1, h.1.1.2, h.1.2, h.2⟩
theorem s_126 {d : Nat} {Qp : PQ} {v0 : PV} {v1 : PV} {h : PMem} (hd : 1 ≤ d) (hN : h.1 ≤ NC) (c0 : pcat v0 = 1 := by rfl) (c1 : pcat v1 = 1 := by rfl) (hw : ∀ l, wp h.1 (fun t => At l d 126 h.1 (Qn h.1 Qp) t) (CallP (d - 1)) (Qn h.1 Qp) k_126_0 [some v0, some v1] [] h) : CallP d 126 [v0, v1] h Qp := by
  refine call_of g_126.1 (by rw [g_126.2.2.1]; simp only [pcats, c0, c1, pcatL]; decide) (fun l => ?_)
  have e : ent (mML 126) [v0, v1] = [some v0, some v1] := by rw [g_126.2.2.1]; simp [ent, pcats, c0, c1, pcatL, List.replicate]
  rw [e]
  refine sound g_126.2.1 (by rw [g_126.2.2.2]; exact hN) hd k_126_0 0 k_126_0_ok _ _ _ ?_
  rw [g_126.2.2.2]
  exact hw l
theorem l_126_13 {l : Launch} {d n0 : Nat} {Qp : PQ} {ls : List (Option PV)} {st : List PV} {h : PMem} (hd : 1 ≤ d) (hN : n0 ≤ NC) (hw : wp n0 (fun t => At l d 126 n0 Qp t) (CallP (d - 1)) Qp k_126_13 ls st h) : At l d 126 n0 Qp 13 ls st h := sound g_126.2.1 (by rw [g_126.2.2.2]; exact hN) hd k_126_13 13 k_126_13_ok ls st h (by rw [g_126.2.2.2]; exact hw)
theorem l_126_14 {l : Launch} {d n0 : Nat} {Qp : PQ} {ls : List (Option PV)} {st : List PV} {h : PMem} (hd : 1 ≤ d) (hN : n0 ≤ NC) (hw : wp n0 (fun t => At l d 126 n0 Qp t) (CallP (d - 1)) Qp k_126_14 ls st h) : At l d 126 n0 Qp 14 ls st h := sound g_126.2.1 (by rw [g_126.2.2.2]; exact hN) hd k_126_14 14 k_126_14_ok ls st h (by rw [g_126.2.2.2]; exact hw)
theorem f_127 : (((plainName (mY 127).cls && decide (rN (oN 127) = (mY 127).cls)) && decide (mML 127 = 2)) && decide (aC 127 = 0)) = true := by decide +kernel
theorem g_127 : plainName (mY 127).cls = true ∧ rN (oN 127) = (mY 127).cls ∧ mML 127 = 2 ∧ aC 127 = 0 := by
  have h := f_127
  simp only [Bool.and_eq_true, decide_eq_true_eq] at h
  exact ⟨h.1.1.1, h.1.1.2, h.1.2, h.2⟩
theorem s_127 {d : Nat} {Qp : PQ} {v0 : PV} {v1 : PV} {h : PMem} (hd : 1 ≤ d) (hN : h.1 ≤ NC) (c0 : pcat v0 = 1 := by rfl) (c1 : pcat v1 = 1 := by rfl) (hw : ∀ l, wp h.1 (fun t => At l d 127 h.1 (Qn h.1 Qp) t) (CallP (d - 1)) (Qn h.1 Qp) k_127_0 [some v0, some v1] [] h) : CallP d 127 [v0, v1] h Qp := by
  refine call_of g_127.1 (by rw [g_127.2.2.1]; simp only [pcats, c0, c1, pcatL]; decide) (fun l => ?_)
  have e : ent (mML 127) [v0, v1] = [some v0, some v1] := by rw [g_127.2.2.1]; simp [ent, pcats, c0, c1, pcatL, List.replicate]
  rw [e]
  refine sound g_127.2.1 (by rw [g_127.2.2.2]; exact hN) hd k_127_0 0 k_127_0_ok _ _ _ ?_
  rw [g_127.2.2.2]
  exact hw l
theorem l_127_9 {l : Launch} {d n0 : Nat} {Qp : PQ} {ls : List (Option PV)} {st : List PV} {h : PMem} (hd : 1 ≤ d) (hN : n0 ≤ NC) (hw : wp n0 (fun t => At l d 127 n0 Qp t) (CallP (d - 1)) Qp k_127_9 ls st h) : At l d 127 n0 Qp 9 ls st h := sound g_127.2.1 (by rw [g_127.2.2.2]; exact hN) hd k_127_9 9 k_127_9_ok ls st h (by rw [g_127.2.2.2]; exact hw)
theorem l_127_10 {l : Launch} {d n0 : Nat} {Qp : PQ} {ls : List (Option PV)} {st : List PV} {h : PMem} (hd : 1 ≤ d) (hN : n0 ≤ NC) (hw : wp n0 (fun t => At l d 127 n0 Qp t) (CallP (d - 1)) Qp k_127_10 ls st h) : At l d 127 n0 Qp 10 ls st h := sound g_127.2.1 (by rw [g_127.2.2.2]; exact hN) hd k_127_10 10 k_127_10_ok ls st h (by rw [g_127.2.2.2]; exact hw)
theorem f_128 : (((plainName (mY 128).cls && decide (rN (oN 128) = (mY 128).cls)) && decide (mML 128 = 1)) && decide (aC 128 = 0)) = true := by decide +kernel
theorem g_128 : plainName (mY 128).cls = true ∧ rN (oN 128) = (mY 128).cls ∧ mML 128 = 1 ∧ aC 128 = 0 := by
  have h := f_128
  simp only [Bool.and_eq_true, decide_eq_true_eq] at h
  exact ⟨h.1.1.1, h.1.1.2, h.1.2, h.2⟩
theorem s_128 {d : Nat} {Qp : PQ} {v0 : PV} {h : PMem} (hd : 1 ≤ d) (hN : h.1 ≤ NC) (c0 : pcat v0 = 1 := by rfl) (hw : ∀ l, wp h.1 (fun t => At l d 128 h.1 (Qn h.1 Qp) t) (CallP (d - 1)) (Qn h.1 Qp) k_128_0 [some v0] [] h) : CallP d 128 [v0] h Qp := by
  refine call_of g_128.1 (by rw [g_128.2.2.1]; simp only [pcats, c0, pcatL]; decide) (fun l => ?_)
  have e : ent (mML 128) [v0] = [some v0] := by rw [g_128.2.2.1]; simp [ent, pcats, c0, pcatL, List.replicate]
  rw [e]
  refine sound g_128.2.1 (by rw [g_128.2.2.2]; exact hN) hd k_128_0 0 k_128_0_ok _ _ _ ?_
  rw [g_128.2.2.2]
  exact hw l
theorem f_129 : (((plainName (mY 129).cls && decide (rN (oN 129) = (mY 129).cls)) && decide (mML 129 = 2)) && decide (aC 129 = 0)) = true := by decide +kernel
theorem g_129 : plainName (mY 129).cls = true ∧ rN (oN 129) = (mY 129).cls ∧ mML 129 = 2 ∧ aC 129 = 0 := by
  have h := f_129
  simp only [Bool.and_eq_true, decide_eq_true_eq] at h
  exact ⟨h.1.1.1, h.1.1.2, h.1.2, h.2⟩
theorem s_129 {d : Nat} {Qp : PQ} {v0 : PV} {v1 : PV} {h : PMem} (hd : 1 ≤ d) (hN : h.1 ≤ NC) (c0 : pcat v0 = 1 := by rfl) (c1 : pcat v1 = 1 := by rfl) (hw : ∀ l, wp h.1 (fun t => At l d 129 h.1 (Qn h.1 Qp) t) (CallP (d - 1)) (Qn h.1 Qp) k_129_0 [some v0, some v1] [] h) : CallP d 129 [v0, v1] h Qp := by
  refine call_of g_129.1 (by rw [g_129.2.2.1]; simp only [pcats, c0, c1, pcatL]; decide) (fun l => ?_)
  have e : ent (mML 129) [v0, v1] = [some v0, some v1] := by rw [g_129.2.2.1]; simp [ent, pcats, c0, c1, pcatL, List.replicate]
  rw [e]
  refine sound g_129.2.1 (by rw [g_129.2.2.2]; exact hN) hd k_129_0 0 k_129_0_ok _ _ _ ?_
  rw [g_129.2.2.2]
  exact hw l
theorem f_130 : (((plainName (mY 130).cls && decide (rN (oN 130) = (mY 130).cls)) && decide (mML 130 = 1)) && decide (aC 130 = 0)) = true := by decide +kernel
theorem g_130 : plainName (mY 130).cls = true ∧ rN (oN 130) = (mY 130).cls ∧ mML 130 = 1 ∧ aC 130 = 0 := by
  have h := f_130
  simp only [Bool.and_eq_true, decide_eq_true_eq] at h
  exact ⟨h.1.1.1, h.1.1.2, h.1.2, h.2⟩
theorem s_130 {d : Nat} {Qp : PQ} {v0 : PV} {h : PMem} (hd : 1 ≤ d) (hN : h.1 ≤ NC) (c0 : pcat v0 = 1 := by rfl) (hw : ∀ l, wp h.1 (fun t => At l d 130 h.1 (Qn h.1 Qp) t) (CallP (d - 1)) (Qn h.1 Qp) k_130_0 [some v0] [] h) : CallP d 130 [v0] h Qp := by
  refine call_of g_130.1 (by rw [g_130.2.2.1]; simp only [pcats, c0, pcatL]; decide) (fun l => ?_)
  have e : ent (mML 130) [v0] = [some v0] := by rw [g_130.2.2.1]; simp [ent, pcats, c0, pcatL, List.replicate]
  rw [e]
  refine sound g_130.2.1 (by rw [g_130.2.2.2]; exact hN) hd k_130_0 0 k_130_0_ok _ _ _ ?_
  rw [g_130.2.2.2]
  exact hw l
theorem f_131 : (((plainName (mY 131).cls && decide (rN (oN 131) = (mY 131).cls)) && decide (mML 131 = 1)) && decide (aC 131 = 0)) = true := by decide +kernel
theorem g_131 : plainName (mY 131).cls = true ∧ rN (oN 131) = (mY 131).cls ∧ mML 131 = 1 ∧ aC 131 = 0 := by
  have h := f_131
  simp only [Bool.and_eq_true, decide_eq_true_eq] at h
  exact ⟨h.1.1.1, h.1.1.2, h.1.2, h.2⟩
theorem s_131 {d : Nat} {Qp : PQ} {v0 : PV} {h : PMem} (hd : 1 ≤ d) (hN : h.1 ≤ NC) (c0 : pcat v0 = 1 := by rfl) (hw : ∀ l, wp h.1 (fun t => At l d 131 h.1 (Qn h.1 Qp) t) (CallP (d - 1)) (Qn h.1 Qp) k_131_0 [some v0] [] h) : CallP d 131 [v0] h Qp := by
  refine call_of g_131.1 (by rw [g_131.2.2.1]; simp only [pcats, c0, pcatL]; decide) (fun l => ?_)
  have e : ent (mML 131) [v0] = [some v0] := by rw [g_131.2.2.1]; simp [ent, pcats, c0, pcatL, List.replicate]
  rw [e]
  refine sound g_131.2.1 (by rw [g_131.2.2.2]; exact hN) hd k_131_0 0 k_131_0_ok _ _ _ ?_
  rw [g_131.2.2.2]
  exact hw l
theorem f_132 : (((plainName (mY 132).cls && decide (rN (oN 132) = (mY 132).cls)) && decide (mML 132 = 5)) && decide (aC 132 = 0)) = true := by decide +kernel
theorem g_132 : plainName (mY 132).cls = true ∧ rN (oN 132) = (mY 132).cls ∧ mML 132 = 5 ∧ aC 132 = 0 := by
  have h := f_132
  simp only [Bool.and_eq_true, decide_eq_true_eq] at h
  exact ⟨h.1.1.1, h.1.1.2, h.1.2, h.2⟩
theorem s_132 {d : Nat} {Qp : PQ} {v0 : PV} {v1 : PV} {v2 : PV} {v3 : PV} {h : PMem} (hd : 1 ≤ d) (hN : h.1 ≤ NC) (c0 : pcat v0 = 1 := by rfl) (c1 : pcat v1 = 1 := by rfl) (c2 : pcat v2 = 1 := by rfl) (c3 : pcat v3 = 1 := by rfl) (hw : ∀ l, wp h.1 (fun t => At l d 132 h.1 (Qn h.1 Qp) t) (CallP (d - 1)) (Qn h.1 Qp) k_132_0 [some v0, some v1, some v2, some v3, none] [] h) : CallP d 132 [v0, v1, v2, v3] h Qp := by
  refine call_of g_132.1 (by rw [g_132.2.2.1]; simp only [pcats, c0, c1, c2, c3, pcatL]; decide) (fun l => ?_)
  have e : ent (mML 132) [v0, v1, v2, v3] = [some v0, some v1, some v2, some v3, none] := by rw [g_132.2.2.1]; simp [ent, pcats, c0, c1, c2, c3, pcatL, List.replicate]
  rw [e]
  refine sound g_132.2.1 (by rw [g_132.2.2.2]; exact hN) hd k_132_0 0 k_132_0_ok _ _ _ ?_
  rw [g_132.2.2.2]
  exact hw l
theorem l_132_3 {l : Launch} {d n0 : Nat} {Qp : PQ} {ls : List (Option PV)} {st : List PV} {h : PMem} (hd : 1 ≤ d) (hN : n0 ≤ NC) (hw : wp n0 (fun t => At l d 132 n0 Qp t) (CallP (d - 1)) Qp k_132_3 ls st h) : At l d 132 n0 Qp 3 ls st h := sound g_132.2.1 (by rw [g_132.2.2.2]; exact hN) hd k_132_3 3 k_132_3_ok ls st h (by rw [g_132.2.2.2]; exact hw)
theorem l_132_29 {l : Launch} {d n0 : Nat} {Qp : PQ} {ls : List (Option PV)} {st : List PV} {h : PMem} (hd : 1 ≤ d) (hN : n0 ≤ NC) (hw : wp n0 (fun t => At l d 132 n0 Qp t) (CallP (d - 1)) Qp k_132_29 ls st h) : At l d 132 n0 Qp 29 ls st h := sound g_132.2.1 (by rw [g_132.2.2.2]; exact hN) hd k_132_29 29 k_132_29_ok ls st h (by rw [g_132.2.2.2]; exact hw)
theorem f_133 : (((plainName (mY 133).cls && decide (rN (oN 133) = (mY 133).cls)) && decide (mML 133 = 3)) && decide (aC 133 = 0)) = true := by decide +kernel
theorem g_133 : plainName (mY 133).cls = true ∧ rN (oN 133) = (mY 133).cls ∧ mML 133 = 3 ∧ aC 133 = 0 := by
  have h := f_133
  simp only [Bool.and_eq_true, decide_eq_true_eq] at h
  exact ⟨h.1.1.1, h.1.1.2, h.1.2, h.2⟩
theorem s_133 {d : Nat} {Qp : PQ} {v0 : PV} {v1 : PV} {h : PMem} (hd : 1 ≤ d) (hN : h.1 ≤ NC) (c0 : pcat v0 = 1 := by rfl) (c1 : pcat v1 = 1 := by rfl) (hw : ∀ l, wp h.1 (fun t => At l d 133 h.1 (Qn h.1 Qp) t) (CallP (d - 1)) (Qn h.1 Qp) k_133_0 [some v0, some v1, none] [] h) : CallP d 133 [v0, v1] h Qp := by
  refine call_of g_133.1 (by rw [g_133.2.2.1]; simp only [pcats, c0, c1, pcatL]; decide) (fun l => ?_)
  have e : ent (mML 133) [v0, v1] = [some v0, some v1, none] := by rw [g_133.2.2.1]; simp [ent, pcats, c0, c1, pcatL, List.replicate]
  rw [e]
  refine sound g_133.2.1 (by rw [g_133.2.2.2]; exact hN) hd k_133_0 0 k_133_0_ok _ _ _ ?_
  rw [g_133.2.2.2]
  exact hw l
theorem l_133_2 {l : Launch} {d n0 : Nat} {Qp : PQ} {ls : List (Option PV)} {st : List PV} {h : PMem} (hd : 1 ≤ d) (hN : n0 ≤ NC) (hw : wp n0 (fun t => At l d 133 n0 Qp t) (CallP (d - 1)) Qp k_133_2 ls st h) : At l d 133 n0 Qp 2 ls st h := sound g_133.2.1 (by rw [g_133.2.2.2]; exact hN) hd k_133_2 2 k_133_2_ok ls st h (by rw [g_133.2.2.2]; exact hw)
theorem l_133_19 {l : Launch} {d n0 : Nat} {Qp : PQ} {ls : List (Option PV)} {st : List PV} {h : PMem} (hd : 1 ≤ d) (hN : n0 ≤ NC) (hw : wp n0 (fun t => At l d 133 n0 Qp t) (CallP (d - 1)) Qp k_133_19 ls st h) : At l d 133 n0 Qp 19 ls st h := sound g_133.2.1 (by rw [g_133.2.2.2]; exact hN) hd k_133_19 19 k_133_19_ok ls st h (by rw [g_133.2.2.2]; exact hw)
theorem l_133_25 {l : Launch} {d n0 : Nat} {Qp : PQ} {ls : List (Option PV)} {st : List PV} {h : PMem} (hd : 1 ≤ d) (hN : n0 ≤ NC) (hw : wp n0 (fun t => At l d 133 n0 Qp t) (CallP (d - 1)) Qp k_133_25 ls st h) : At l d 133 n0 Qp 25 ls st h := sound g_133.2.1 (by rw [g_133.2.2.2]; exact hN) hd k_133_25 25 k_133_25_ok ls st h (by rw [g_133.2.2.2]; exact hw)
theorem l_133_68 {l : Launch} {d n0 : Nat} {Qp : PQ} {ls : List (Option PV)} {st : List PV} {h : PMem} (hd : 1 ≤ d) (hN : n0 ≤ NC) (hw : wp n0 (fun t => At l d 133 n0 Qp t) (CallP (d - 1)) Qp k_133_68 ls st h) : At l d 133 n0 Qp 68 ls st h := sound g_133.2.1 (by rw [g_133.2.2.2]; exact hN) hd k_133_68 68 k_133_68_ok ls st h (by rw [g_133.2.2.2]; exact hw)
theorem l_133_70 {l : Launch} {d n0 : Nat} {Qp : PQ} {ls : List (Option PV)} {st : List PV} {h : PMem} (hd : 1 ≤ d) (hN : n0 ≤ NC) (hw : wp n0 (fun t => At l d 133 n0 Qp t) (CallP (d - 1)) Qp k_133_70 ls st h) : At l d 133 n0 Qp 70 ls st h := sound g_133.2.1 (by rw [g_133.2.2.2]; exact hN) hd k_133_70 70 k_133_70_ok ls st h (by rw [g_133.2.2.2]; exact hw)
theorem l_133_115 {l : Launch} {d n0 : Nat} {Qp : PQ} {ls : List (Option PV)} {st : List PV} {h : PMem} (hd : 1 ≤ d) (hN : n0 ≤ NC) (hw : wp n0 (fun t => At l d 133 n0 Qp t) (CallP (d - 1)) Qp k_133_115 ls st h) : At l d 133 n0 Qp 115 ls st h := sound g_133.2.1 (by rw [g_133.2.2.2]; exact hN) hd k_133_115 115 k_133_115_ok ls st h (by rw [g_133.2.2.2]; exact hw)
theorem f_134 : (((plainName (mY 134).cls && decide (rN (oN 134) = (mY 134).cls)) && decide (mML 134 = 2)) && decide (aC 134 = 0)) = true := by decide +kernel
theorem g_134 : plainName (mY 134).cls = true ∧ rN (oN 134) = (mY 134).cls ∧ mML 134 = 2 ∧ aC 134 = 0 := by
  have h := f_134
  simp only [Bool.and_eq_true, decide_eq_true_eq] at h
  exact ⟨h.1.1.1, h.1.1.2, h.1.2, h.2⟩
theorem s_134 {d : Nat} {Qp : PQ} {v0 : PV} {v1 : PV} {h : PMem} (hd : 1 ≤ d) (hN : h.1 ≤ NC) (c0 : pcat v0 = 1 := by rfl) (c1 : pcat v1 = 1 := by rfl) (hw : ∀ l, wp h.1 (fun t => At l d 134 h.1 (Qn h.1 Qp) t) (CallP (d - 1)) (Qn h.1 Qp) k_134_0 [some v0, some v1] [] h) : CallP d 134 [v0, v1] h Qp := by
  refine call_of g_134.1 (by rw [g_134.2.2.1]; simp only [pcats, c0, c1, pcatL]; decide) (fun l => ?_)
  have e : ent (mML 134) [v0, v1] = [some v0, some v1] := by rw [g_134.2.2.1]; simp [ent, pcats, c0, c1, pcatL, List.replicate]
  rw [e]
  refine sound g_134.2.1 (by rw [g_134.2.2.2]; exact hN) hd k_134_0 0 k_134_0_ok _ _ _ ?_
  rw [g_134.2.2.2]
  exact hw l
theorem f_135 : (((plainName (mY 135).cls && decide (rN (oN 135) = (mY 135).cls)) && decide (mML 135 = 1)) && decide (aC 135 = 0)) = true := by decide +kernel
theorem g_135 : plainName (mY 135).cls = true ∧ rN (oN 135) = (mY 135).cls ∧ mML 135 = 1 ∧ aC 135 = 0 := by
  have h := f_135
  simp only [Bool.and_eq_true, decide_eq_true_eq] at h
  exact ⟨h.1.1.1, h.1.1.2, h.1.2, h.2⟩
theorem s_135 {d : Nat} {Qp : PQ} {v0 : PV} {h : PMem} (hd : 1 ≤ d) (hN : h.1 ≤ NC) (c0 : pcat v0 = 1 := by rfl) (hw : ∀ l, wp h.1 (fun t => At l d 135 h.1 (Qn h.1 Qp) t) (CallP (d - 1)) (Qn h.1 Qp) k_135_0 [some v0] [] h) : CallP d 135 [v0] h Qp := by
  refine call_of g_135.1 (by rw [g_135.2.2.1]; simp only [pcats, c0, pcatL]; decide) (fun l => ?_)
  have e : ent (mML 135) [v0] = [some v0] := by rw [g_135.2.2.1]; simp [ent, pcats, c0, pcatL, List.replicate]
  rw [e]
  refine sound g_135.2.1 (by rw [g_135.2.2.2]; exact hN) hd k_135_0 0 k_135_0_ok _ _ _ ?_
  rw [g_135.2.2.2]
  exact hw l
theorem f_136 : (((plainName (mY 136).cls && decide (rN (oN 136) = (mY 136).cls)) && decide (mML 136 = 1)) && decide (aC 136 = 0)) = true := by decide +kernel
theorem g_136 : plainName (mY 136).cls = true ∧ rN (oN 136) = (mY 136).cls ∧ mML 136 = 1 ∧ aC 136 = 0 := by
  have h := f_136
  simp only [Bool.and_eq_true, decide_eq_true_eq] at h
  exact ⟨h.1.1.1, h.1.1.2, h.1.2, h.2⟩
theorem s_136 {d : Nat} {Qp : PQ} {v0 : PV} {h : PMem} (hd : 1 ≤ d) (hN : h.1 ≤ NC) (c0 : pcat v0 = 1 := by rfl) (hw : ∀ l, wp h.1 (fun t => At l d 136 h.1 (Qn h.1 Qp) t) (CallP (d - 1)) (Qn h.1 Qp) k_136_0 [some v0] [] h) : CallP d 136 [v0] h Qp := by
  refine call_of g_136.1 (by rw [g_136.2.2.1]; simp only [pcats, c0, pcatL]; decide) (fun l => ?_)
  have e : ent (mML 136) [v0] = [some v0] := by rw [g_136.2.2.1]; simp [ent, pcats, c0, pcatL, List.replicate]
  rw [e]
  refine sound g_136.2.1 (by rw [g_136.2.2.2]; exact hN) hd k_136_0 0 k_136_0_ok _ _ _ ?_
  rw [g_136.2.2.2]
  exact hw l
theorem f_137 : (((plainName (mY 137).cls && decide (rN (oN 137) = (mY 137).cls)) && decide (mML 137 = 3)) && decide (aC 137 = 0)) = true := by decide +kernel
theorem g_137 : plainName (mY 137).cls = true ∧ rN (oN 137) = (mY 137).cls ∧ mML 137 = 3 ∧ aC 137 = 0 := by
  have h := f_137
  simp only [Bool.and_eq_true, decide_eq_true_eq] at h
  exact ⟨h.1.1.1, h.1.1.2, h.1.2, h.2⟩
theorem s_137 {d : Nat} {Qp : PQ} {v0 : PV} {v1 : PV} {v2 : PV} {h : PMem} (hd : 1 ≤ d) (hN : h.1 ≤ NC) (c0 : pcat v0 = 1 := by rfl) (c1 : pcat v1 = 1 := by rfl) (c2 : pcat v2 = 1 := by rfl) (hw : ∀ l, wp h.1 (fun t => At l d 137 h.1 (Qn h.1 Qp) t) (CallP (d - 1)) (Qn h.1 Qp) k_137_0 [some v0, some v1, some v2] [] h) : CallP d 137 [v0, v1, v2] h Qp := by
  refine call_of g_137.1 (by rw [g_137.2.2.1]; simp only [pcats, c0, c1, c2, pcatL]; decide) (fun l => ?_)
  have e : ent (mML 137) [v0, v1, v2] = [some v0, some v1, some v2] := by rw [g_137.2.2.1]; simp [ent, pcats, c0, c1, c2, pcatL, List.replicate]
  rw [e]
  refine sound g_137.2.1 (by rw [g_137.2.2.2]; exact hN) hd k_137_0 0 k_137_0_ok _ _ _ ?_
  rw [g_137.2.2.2]
  exact hw l
theorem l_137_25 {l : Launch} {d n0 : Nat} {Qp : PQ} {ls : List (Option PV)} {st : List PV} {h : PMem} (hd : 1 ≤ d) (hN : n0 ≤ NC) (hw : wp n0 (fun t => At l d 137 n0 Qp t) (CallP (d - 1)) Qp k_137_25 ls st h) : At l d 137 n0 Qp 25 ls st h := sound g_137.2.1 (by rw [g_137.2.2.2]; exact hN) hd k_137_25 25 k_137_25_ok ls st h (by rw [g_137.2.2.2]; exact hw)
theorem l_137_26 {l : Launch} {d n0 : Nat} {Qp : PQ} {ls : List (Option PV)} {st : List PV} {h : PMem} (hd : 1 ≤ d) (hN : n0 ≤ NC) (hw : wp n0 (fun t => At l d 137 n0 Qp t) (CallP (d - 1)) Qp k_137_26 ls st h) : At l d 137 n0 Qp 26 ls st h := sound g_137.2.1 (by rw [g_137.2.2.2]; exact hN) hd k_137_26 26 k_137_26_ok ls st h (by rw [g_137.2.2.2]; exact hw)
theorem f_138 : (((plainName (mY 138).cls && decide (rN (oN 138) = (mY 138).cls)) && decide (mML 138 = 3)) && decide (aC 138 = 0)) = true := by decide +kernel
theorem g_138 : plainName (mY 138).cls = true ∧ rN (oN 138) = (mY 138).cls ∧ mML 138 = 3 ∧ aC 138 = 0 := by
  have h := f_138
  simp only [Bool.and_eq_true, decide_eq_true_eq] at h
  exact ⟨h.1.1.1, h.1.1.2, h.1.2, h.2⟩
theorem s_138 {d : Nat} {Qp : PQ} {v0 : PV} {v1 : PV} {v2 : PV} {h : PMem} (hd : 1 ≤ d) (hN : h.1 ≤ NC) (c0 : pcat v0 = 1 := by rfl) (c1 : pcat v1 = 1 := by rfl) (c2 : pcat v2 = 1 := by rfl) (hw : ∀ l, wp h.1 (fun t => At l d 138 h.1 (Qn h.1 Qp) t) (CallP (d - 1)) (Qn h.1 Qp) k_138_0 [some v0, some v1, some v2] [] h) : CallP d 138 [v0, v1, v2] h Qp := by
  refine call_of g_138.1 (by rw [g_138.2.2.1]; simp only [pcats, c0, c1, c2, pcatL]; decide) (fun l => ?_)
  have e : ent (mML 138) [v0, v1, v2] = [some v0, some v1, some v2] := by rw [g_138.2.2.1]; simp [ent, pcats, c0, c1, c2, pcatL, List.replicate]
  rw [e]
  refine sound g_138.2.1 (by rw [g_138.2.2.2]; exact hN) hd k_138_0 0 k_138_0_ok _ _ _ ?_
  rw [g_138.2.2.2]
  exact hw l
theorem l_138_31 {l : Launch} {d n0 : Nat} {Qp : PQ} {ls : List (Option PV)} {st : List PV} {h : PMem} (hd : 1 ≤ d) (hN : n0 ≤ NC) (hw : wp n0 (fun t => At l d 138 n0 Qp t) (CallP (d - 1)) Qp k_138_31 ls st h) : At l d 138 n0 Qp 31 ls st h := sound g_138.2.1 (by rw [g_138.2.2.2]; exact hN) hd k_138_31 31 k_138_31_ok ls st h (by rw [g_138.2.2.2]; exact hw)
theorem l_138_32 {l : Launch} {d n0 : Nat} {Qp : PQ} {ls : List (Option PV)} {st : List PV} {h : PMem} (hd : 1 ≤ d) (hN : n0 ≤ NC) (hw : wp n0 (fun t => At l d 138 n0 Qp t) (CallP (d - 1)) Qp k_138_32 ls st h) : At l d 138 n0 Qp 32 ls st h := sound g_138.2.1 (by rw [g_138.2.2.2]; exact hN) hd k_138_32 32 k_138_32_ok ls st h (by rw [g_138.2.2.2]; exact hw)
theorem f_139 : (((plainName (mY 139).cls && decide (rN (oN 139) = (mY 139).cls)) && decide (mML 139 = 3)) && decide (aC 139 = 0)) = true := by decide +kernel
theorem g_139 : plainName (mY 139).cls = true ∧ rN (oN 139) = (mY 139).cls ∧ mML 139 = 3 ∧ aC 139 = 0 := by
  have h := f_139
  simp only [Bool.and_eq_true, decide_eq_true_eq] at h
  exact ⟨h.1.1.1, h.1.1.2, h.1.2, h.2⟩
theorem s_139 {d : Nat} {Qp : PQ} {v0 : PV} {v1 : PV} {v2 : PV} {h : PMem} (hd : 1 ≤ d) (hN : h.1 ≤ NC) (c0 : pcat v0 = 1 := by rfl) (c1 : pcat v1 = 1 := by rfl) (c2 : pcat v2 = 1 := by rfl) (hw : ∀ l, wp h.1 (fun t => At l d 139 h.1 (Qn h.1 Qp) t) (CallP (d - 1)) (Qn h.1 Qp) k_139_0 [some v0, some v1, some v2] [] h) : CallP d 139 [v0, v1, v2] h Qp := by
  refine call_of g_139.1 (by rw [g_139.2.2.1]; simp only [pcats, c0, c1, c2, pcatL]; decide) (fun l => ?_)
  have e : ent (mML 139) [v0, v1, v2] = [some v0, some v1, some v2] := by rw [g_139.2.2.1]; simp [ent, pcats, c0, c1, c2, pcatL, List.replicate]
  rw [e]
  refine sound g_139.2.1 (by rw [g_139.2.2.2]; exact hN) hd k_139_0 0 k_139_0_ok _ _ _ ?_
  rw [g_139.2.2.2]
  exact hw l
theorem f_140 : (((plainName (mY 140).cls && decide (rN (oN 140) = (mY 140).cls)) && decide (mML 140 = 4)) && decide (aC 140 = 0)) = true := by decide +kernel
theorem g_140 : plainName (mY 140).cls = true ∧ rN (oN 140) = (mY 140).cls ∧ mML 140 = 4 ∧ aC 140 = 0 := by
  have h := f_140
  simp only [Bool.and_eq_true, decide_eq_true_eq] at h
  exact ⟨h.1.1.1, h.1.1.2, h.1.2, h.2⟩
theorem s_140 {d : Nat} {Qp : PQ} {v0 : PV} {v1 : PV} {v2 : PV} {v3 : PV} {h : PMem} (hd : 1 ≤ d) (hN : h.1 ≤ NC) (c0 : pcat v0 = 1 := by rfl) (c1 : pcat v1 = 1 := by rfl) (c2 : pcat v2 = 1 := by rfl) (c3 : pcat v3 = 1 := by rfl) (hw : ∀ l, wp h.1 (fun t => At l d 140 h.1 (Qn h.1 Qp) t) (CallP (d - 1)) (Qn h.1 Qp) k_140_0 [some v0, some v1, some v2, some v3] [] h) : CallP d 140 [v0, v1, v2, v3] h Qp := by
  refine call_of g_140.1 (by rw [g_140.2.2.1]; simp only [pcats, c0, c1, c2, c3, pcatL]; decide) (fun l => ?_)
  have e : ent (mML 140) [v0, v1, v2, v3] = [some v0, some v1, some v2, some v3] := by rw [g_140.2.2.1]; simp [ent, pcats, c0, c1, c2, c3, pcatL, List.replicate]
  rw [e]
  refine sound g_140.2.1 (by rw [g_140.2.2.2]; exact hN) hd k_140_0 0 k_140_0_ok _ _ _ ?_
  rw [g_140.2.2.2]
  exact hw l
theorem f_141 : (((plainName (mY 141).cls && decide (rN (oN 141) = (mY 141).cls)) && decide (mML 141 = 2)) && decide (aC 141 = 0)) = true := by decide +kernel
theorem g_141 : plainName (mY 141).cls = true ∧ rN (oN 141) = (mY 141).cls ∧ mML 141 = 2 ∧ aC 141 = 0 := by
  have h := f_141
  simp only [Bool.and_eq_true, decide_eq_true_eq] at h
  exact ⟨h.1.1.1, h.1.1.2, h.1.2, h.2⟩
theorem s_141 {d : Nat} {Qp : PQ} {v0 : PV} {h : PMem} (hd : 1 ≤ d) (hN : h.1 ≤ NC) (c0 : pcat v0 = 1 := by rfl) (hw : ∀ l, wp h.1 (fun t => At l d 141 h.1 (Qn h.1 Qp) t) (CallP (d - 1)) (Qn h.1 Qp) k_141_0 [some v0, none] [] h) : CallP d 141 [v0] h Qp := by
  refine call_of g_141.1 (by rw [g_141.2.2.1]; simp only [pcats, c0, pcatL]; decide) (fun l => ?_)
  have e : ent (mML 141) [v0] = [some v0, none] := by rw [g_141.2.2.1]; simp [ent, pcats, c0, pcatL, List.replicate]
  rw [e]
  refine sound g_141.2.1 (by rw [g_141.2.2.2]; exact hN) hd k_141_0 0 k_141_0_ok _ _ _ ?_
  rw [g_141.2.2.2]
  exact hw l
theorem l_141_2 {l : Launch} {d n0 : Nat} {Qp : PQ} {ls : List (Option PV)} {st : List PV} {h : PMem} (hd : 1 ≤ d) (hN : n0 ≤ NC) (hw : wp n0 (fun t => At l d 141 n0 Qp t) (CallP (d - 1)) Qp k_141_2 ls st h) : At l d 141 n0 Qp 2 ls st h := sound g_141.2.1 (by rw [g_141.2.2.2]; exact hN) hd k_141_2 2 k_141_2_ok ls st h (by rw [g_141.2.2.2]; exact hw)
theorem l_141_46 {l : Launch} {d n0 : Nat} {Qp : PQ} {ls : List (Option PV)} {st : List PV} {h : PMem} (hd : 1 ≤ d) (hN : n0 ≤ NC) (hw : wp n0 (fun t => At l d 141 n0 Qp t) (CallP (d - 1)) Qp k_141_46 ls st h) : At l d 141 n0 Qp 46 ls st h := sound g_141.2.1 (by rw [g_141.2.2.2]; exact hN) hd k_141_46 46 k_141_46_ok ls st h (by rw [g_141.2.2.2]; exact hw)
theorem f_142 : (((plainName (mY 142).cls && decide (rN (oN 142) = (mY 142).cls)) && decide (mML 142 = 4)) && decide (aC 142 = 0)) = true := by decide +kernel
theorem g_142 : plainName (mY 142).cls = true ∧ rN (oN 142) = (mY 142).cls ∧ mML 142 = 4 ∧ aC 142 = 0 := by
  have h := f_142
  simp only [Bool.and_eq_true, decide_eq_true_eq] at h
  exact ⟨h.1.1.1, h.1.1.2, h.1.2, h.2⟩
theorem s_142 {d : Nat} {Qp : PQ} {v0 : PV} {v1 : PV} {v2 : PV} {v3 : PV} {h : PMem} (hd : 1 ≤ d) (hN : h.1 ≤ NC) (c0 : pcat v0 = 1 := by rfl) (c1 : pcat v1 = 1 := by rfl) (c2 : pcat v2 = 1 := by rfl) (c3 : pcat v3 = 1 := by rfl) (hw : ∀ l, wp h.1 (fun t => At l d 142 h.1 (Qn h.1 Qp) t) (CallP (d - 1)) (Qn h.1 Qp) k_142_0 [some v0, some v1, some v2, some v3] [] h) : CallP d 142 [v0, v1, v2, v3] h Qp := by
  refine call_of g_142.1 (by rw [g_142.2.2.1]; simp only [pcats, c0, c1, c2, c3, pcatL]; decide) (fun l => ?_)
  have e : ent (mML 142) [v0, v1, v2, v3] = [some v0, some v1, some v2, some v3] := by rw [g_142.2.2.1]; simp [ent, pcats, c0, c1, c2, c3, pcatL, List.replicate]
  rw [e]
  refine sound g_142.2.1 (by rw [g_142.2.2.2]; exact hN) hd k_142_0 0 k_142_0_ok _ _ _ ?_
  rw [g_142.2.2.2]
  exact hw l
theorem f_143 : (((plainName (mY 143).cls && decide (rN (oN 143) = (mY 143).cls)) && decide (mML 143 = 4)) && decide (aC 143 = 0)) = true := by decide +kernel
theorem g_143 : plainName (mY 143).cls = true ∧ rN (oN 143) = (mY 143).cls ∧ mML 143 = 4 ∧ aC 143 = 0 := by
  have h := f_143
  simp only [Bool.and_eq_true, decide_eq_true_eq] at h
  exact ⟨h.1.1.1, h.1.1.2, h.1.2, h.2⟩
theorem s_143 {d : Nat} {Qp : PQ} {v0 : PV} {v1 : PV} {v2 : PV} {v3 : PV} {h : PMem} (hd : 1 ≤ d) (hN : h.1 ≤ NC) (c0 : pcat v0 = 1 := by rfl) (c1 : pcat v1 = 1 := by rfl) (c2 : pcat v2 = 1 := by rfl) (c3 : pcat v3 = 1 := by rfl) (hw : ∀ l, wp h.1 (fun t => At l d 143 h.1 (Qn h.1 Qp) t) (CallP (d - 1)) (Qn h.1 Qp) k_143_0 [some v0, some v1, some v2, some v3] [] h) : CallP d 143 [v0, v1, v2, v3] h Qp := by
  refine call_of g_143.1 (by rw [g_143.2.2.1]; simp only [pcats, c0, c1, c2, c3, pcatL]; decide) (fun l => ?_)
  have e : ent (mML 143) [v0, v1, v2, v3] = [some v0, some v1, some v2, some v3] := by rw [g_143.2.2.1]; simp [ent, pcats, c0, c1, c2, c3, pcatL, List.replicate]
  rw [e]
  refine sound g_143.2.1 (by rw [g_143.2.2.2]; exact hN) hd k_143_0 0 k_143_0_ok _ _ _ ?_
  rw [g_143.2.2.2]
  exact hw l
theorem f_144 : (((plainName (mY 144).cls && decide (rN (oN 144) = (mY 144).cls)) && decide (mML 144 = 3)) && decide (aC 144 = 0)) = true := by decide +kernel
theorem g_144 : plainName (mY 144).cls = true ∧ rN (oN 144) = (mY 144).cls ∧ mML 144 = 3 ∧ aC 144 = 0 := by
  have h := f_144
  simp only [Bool.and_eq_true, decide_eq_true_eq] at h
  exact ⟨h.1.1.1, h.1.1.2, h.1.2, h.2⟩
theorem s_144 {d : Nat} {Qp : PQ} {v0 : PV} {v1 : PV} {h : PMem} (hd : 1 ≤ d) (hN : h.1 ≤ NC) (c0 : pcat v0 = 1 := by rfl) (c1 : pcat v1 = 1 := by rfl) (hw : ∀ l, wp h.1 (fun t => At l d 144 h.1 (Qn h.1 Qp) t) (CallP (d - 1)) (Qn h.1 Qp) k_144_0 [some v0, some v1, none] [] h) : CallP d 144 [v0, v1] h Qp := by
  refine call_of g_144.1 (by rw [g_144.2.2.1]; simp only [pcats, c0, c1, pcatL]; decide) (fun l => ?_)
  have e : ent (mML 144) [v0, v1] = [some v0, some v1, none] := by rw [g_144.2.2.1]; simp [ent, pcats, c0, c1, pcatL, List.replicate]
  rw [e]
  refine sound g_144.2.1 (by rw [g_144.2.2.2]; exact hN) hd k_144_0 0 k_144_0_ok _ _ _ ?_
  rw [g_144.2.2.2]
  exact hw l
theorem l_144_15 {l : Launch} {d n0 : Nat} {Qp : PQ} {ls : List (Option PV)} {st : List PV} {h : PMem} (hd : 1 ≤ d) (hN : n0 ≤ NC) (hw : wp n0 (fun t => At l d 144 n0 Qp t) (CallP (d - 1)) Qp k_144_15 ls st h) : At l d 144 n0 Qp 15 ls st h := sound g_144.2.1 (by rw [g_144.2.2.2]; exact hN) hd k_144_15 15 k_144_15_ok ls st h (by rw [g_144.2.2.2]; exact hw)
theorem f_145 : (((plainName (mY 145).cls && decide (rN (oN 145) = (mY 145).cls)) && decide (mML 145 = 4)) && decide (aC 145 = 0)) = true := by decide +kernel
theorem g_145 : plainName (mY 145).cls = true ∧ rN (oN 145) = (mY 145).cls ∧ mML 145 = 4 ∧ aC 145 = 0 := by
  have h := f_145
  simp only [Bool.and_eq_true, decide_eq_true_eq] at h
  exact ⟨h.1.1.1, h.1.1.2, h.1.2, h.2⟩
theorem s_145 {d : Nat} {Qp : PQ} {v0 : PV} {v1 : PV} {v2 : PV} {h : PMem} (hd : 1 ≤ d) (hN : h.1 ≤ NC) (c0 : pcat v0 = 1 := by rfl) (c1 : pcat v1 = 1 := by rfl) (c2 : pcat v2 = 1 := by rfl) (hw : ∀ l, wp h.1 (fun t => At l d 145 h.1 (Qn h.1 Qp) t) (CallP (d - 1)) (Qn h.1 Qp) k_145_0 [some v0, some v1, some v2, none] [] h) : CallP d 145 [v0, v1, v2] h Qp := by
  refine call_of g_145.1 (by rw [g_145.2.2.1]; simp only [pcats, c0, c1, c2, pcatL]; decide) (fun l => ?_)
  have e : ent (mML 145) [v0, v1, v2] = [some v0, some v1, some v2, none] := by rw [g_145.2.2.1]; simp [ent, pcats, c0, c1, c2, pcatL, List.replicate]
  rw [e]
  refine sound g_145.2.1 (by rw [g_145.2.2.2]; exact hN) hd k_145_0 0 k_145_0_ok _ _ _ ?_
  rw [g_145.2.2.2]
  exact hw l
theorem l_145_18 {l : Launch} {d n0 : Nat} {Qp : PQ} {ls : List (Option PV)} {st : List PV} {h : PMem} (hd : 1 ≤ d) (hN : n0 ≤ NC) (hw : wp n0 (fun t => At l d 145 n0 Qp t) (CallP (d - 1)) Qp k_145_18 ls st h) : At l d 145 n0 Qp 18 ls st h := sound g_145.2.1 (by rw [g_145.2.2.2]; exact hN) hd k_145_18 18 k_145_18_ok ls st h (by rw [g_145.2.2.2]; exact hw)
theorem l_145_23 {l : Launch} {d n0 : Nat} {Qp : PQ} {ls : List (Option PV)} {st : List PV} {h : PMem} (hd : 1 ≤ d) (hN : n0 ≤ NC) (hw : wp n0 (fun t => At l d 145 n0 Qp t) (CallP (d - 1)) Qp k_145_23 ls st h) : At l d 145 n0 Qp 23 ls st h := sound g_145.2.1 (by rw [g_145.2.2.2]; exact hN) hd k_145_23 23 k_145_23_ok ls st h (by rw [g_145.2.2.2]; exact hw)
theorem f_146 : (((plainName (mY 146).cls && decide (rN (oN 146) = (mY 146).cls)) && decide (mML 146 = 5)) && decide (aC 146 = 0)) = true := by decide +kernel
theorem g_146 : plainName (mY 146).cls = true ∧ rN (oN 146) = (mY 146).cls ∧ mML 146 = 5 ∧ aC 146 = 0 := by
  have h := f_146
  simp only [Bool.and_eq_true, decide_eq_true_eq] at h
  exact ⟨h.1.1.1, h.1.1.2, h.1.2, h.2⟩
theorem s_146 {d : Nat} {Qp : PQ} {v0 : PV} {v1 : PV} {v2 : PV} {v3 : PV} {h : PMem} (hd : 1 ≤ d) (hN : h.1 ≤ NC) (c0 : pcat v0 = 1 := by rfl) (c1 : pcat v1 = 1 := by rfl) (c2 : pcat v2 = 1 := by rfl) (c3 : pcat v3 = 1 := by rfl) (hw : ∀ l, wp h.1 (fun t => At l d 146 h.1 (Qn h.1 Qp) t) (CallP (d - 1)) (Qn h.1 Qp) k_146_0 [some v0, some v1, some v2, some v3, none] [] h) : CallP d 146 [v0, v1, v2, v3] h Qp := by
  refine call_of g_146.1 (by rw [g_146.2.2.1]; simp only [pcats, c0, c1, c2, c3, pcatL]; decide) (fun l => ?_)
  have e : ent (mML 146) [v0, v1, v2, v3] = [some v0, some v1, some v2, some v3, none] := by rw [g_146.2.2.1]; simp [ent, pcats, c0, c1, c2, c3, pcatL, List.replicate]
  rw [e]
  refine sound g_146.2.1 (by rw [g_146.2.2.2]; exact hN) hd k_146_0 0 k_146_0_ok _ _ _ ?_
  rw [g_146.2.2.2]
  exact hw l
theorem l_146_25 {l : Launch} {d n0 : Nat} {Qp : PQ} {ls : List (Option PV)} {st : List PV} {h : PMem} (hd : 1 ≤ d) (hN : n0 ≤ NC) (hw : wp n0 (fun t => At l d 146 n0 Qp t) (CallP (d - 1)) Qp k_146_25 ls st h) : At l d 146 n0 Qp 25 ls st h := sound g_146.2.1 (by rw [g_146.2.2.2]; exact hN) hd k_146_25 25 k_146_25_ok ls st h (by rw [g_146.2.2.2]; exact hw)
theorem l_146_30 {l : Launch} {d n0 : Nat} {Qp : PQ} {ls : List (Option PV)} {st : List PV} {h : PMem} (hd : 1 ≤ d) (hN : n0 ≤ NC) (hw : wp n0 (fun t => At l d 146 n0 Qp t) (CallP (d - 1)) Qp k_146_30 ls st h) : At l d 146 n0 Qp 30 ls st h := sound g_146.2.1 (by rw [g_146.2.2.2]; exact hN) hd k_146_30 30 k_146_30_ok ls st h (by rw [g_146.2.2.2]; exact hw)
theorem f_147 : (((plainName (mY 147).cls && decide (rN (oN 147) = (mY 147).cls)) && decide (mML 147 = 5)) && decide (aC 147 = 0)) = true := by decide +kernel
theorem g_147 : plainName (mY 147).cls = true ∧ rN (oN 147) = (mY 147).cls ∧ mML 147 = 5 ∧ aC 147 = 0 := by
  have h := f_147
  simp only [Bool.and_eq_true, decide_eq_true_eq] at h
  exact ⟨h.1.1.1, h.1.1.2, h.1.2, h.2⟩
theorem s_147 {d : Nat} {Qp : PQ} {v0 : PV} {v1 : PV} {v2 : PV} {v3 : PV} {h : PMem} (hd : 1 ≤ d) (hN : h.1 ≤ NC) (c0 : pcat v0 = 1 := by rfl) (c1 : pcat v1 = 1 := by rfl) (c2 : pcat v2 = 1 := by rfl) (c3 : pcat v3 = 1 := by rfl) (hw : ∀ l, wp h.1 (fun t => At l d 147 h.1 (Qn h.1 Qp) t) (CallP (d - 1)) (Qn h.1 Qp) k_147_0 [some v0, some v1, some v2, some v3, none] [] h) : CallP d 147 [v0, v1, v2, v3] h Qp := by
  refine call_of g_147.1 (by rw [g_147.2.2.1]; simp only [pcats, c0, c1, c2, c3, pcatL]; decide) (fun l => ?_)
  have e : ent (mML 147) [v0, v1, v2, v3] = [some v0, some v1, some v2, some v3, none] := by rw [g_147.2.2.1]; simp [ent, pcats, c0, c1, c2, c3, pcatL, List.replicate]
  rw [e]
  refine sound g_147.2.1 (by rw [g_147.2.2.2]; exact hN) hd k_147_0 0 k_147_0_ok _ _ _ ?_
  rw [g_147.2.2.2]
  exact hw l
theorem l_147_22 {l : Launch} {d n0 : Nat} {Qp : PQ} {ls : List (Option PV)} {st : List PV} {h : PMem} (hd : 1 ≤ d) (hN : n0 ≤ NC) (hw : wp n0 (fun t => At l d 147 n0 Qp t) (CallP (d - 1)) Qp k_147_22 ls st h) : At l d 147 n0 Qp 22 ls st h := sound g_147.2.1 (by rw [g_147.2.2.2]; exact hN) hd k_147_22 22 k_147_22_ok ls st h (by rw [g_147.2.2.2]; exact hw)
theorem l_147_27 {l : Launch} {d n0 : Nat} {Qp : PQ} {ls : List (Option PV)} {st : List PV} {h : PMem} (hd : 1 ≤ d) (hN : n0 ≤ NC) (hw : wp n0 (fun t => At l d 147 n0 Qp t) (CallP (d - 1)) Qp k_147_27 ls st h) : At l d 147 n0 Qp 27 ls st h := sound g_147.2.1 (by rw [g_147.2.2.2]; exact hN) hd k_147_27 27 k_147_27_ok ls st h (by rw [g_147.2.2.2]; exact hw)
theorem f_148 : (((plainName (mY 148).cls && decide (rN (oN 148) = (mY 148).cls)) && decide (mML 148 = 5)) && decide (aC 148 = 0)) = true := by decide +kernel
theorem g_148 : plainName (mY 148).cls = true ∧ rN (oN 148) = (mY 148).cls ∧ mML 148 = 5 ∧ aC 148 = 0 := by
  have h := f_148
  simp only [Bool.and_eq_true, decide_eq_true_eq] at h
  exact ⟨h.1.1.1, h.1.1.2, h.1.2, h.2⟩
theorem s_148 {d : Nat} {Qp : PQ} {v0 : PV} {v1 : PV} {v2 : PV} {v3 : PV} {h : PMem} (hd : 1 ≤ d) (hN : h.1 ≤ NC) (c0 : pcat v0 = 1 := by rfl) (c1 : pcat v1 = 1 := by rfl) (c2 : pcat v2 = 1 := by rfl) (c3 : pcat v3 = 1 := by rfl) (hw : ∀ l, wp h.1 (fun t => At l d 148 h.1 (Qn h.1 Qp) t) (CallP (d - 1)) (Qn h.1 Qp) k_148_0 [some v0, some v1, some v2, some v3, none] [] h) : CallP d 148 [v0, v1, v2, v3] h Qp := by
  refine call_of g_148.1 (by rw [g_148.2.2.1]; simp only [pcats, c0, c1, c2, c3, pcatL]; decide) (fun l => ?_)
  have e : ent (mML 148) [v0, v1, v2, v3] = [some v0, some v1, some v2, some v3, none] := by rw [g_148.2.2.1]; simp [ent, pcats, c0, c1, c2, c3, pcatL, List.replicate]
  rw [e]
  refine sound g_148.2.1 (by rw [g_148.2.2.2]; exact hN) hd k_148_0 0 k_148_0_ok _ _ _ ?_
  rw [g_148.2.2.2]
  exact hw l
theorem l_148_14 {l : Launch} {d n0 : Nat} {Qp : PQ} {ls : List (Option PV)} {st : List PV} {h : PMem} (hd : 1 ≤ d) (hN : n0 ≤ NC) (hw : wp n0 (fun t => At l d 148 n0 Qp t) (CallP (d - 1)) Qp k_148_14 ls st h) : At l d 148 n0 Qp 14 ls st h := sound g_148.2.1 (by rw [g_148.2.2.2]; exact hN) hd k_148_14 14 k_148_14_ok ls st h (by rw [g_148.2.2.2]; exact hw)
theorem f_149 : (((plainName (mY 149).cls && decide (rN (oN 149) = (mY 149).cls)) && decide (mML 149 = 2)) && decide (aC 149 = 0)) = true := by decide +kernel
theorem g_149 : plainName (mY 149).cls = true ∧ rN (oN 149) = (mY 149).cls ∧ mML 149 = 2 ∧ aC 149 = 0 := by
  have h := f_149
  simp only [Bool.and_eq_true, decide_eq_true_eq] at h
  exact ⟨h.1.1.1, h.1.1.2, h.1.2, h.2⟩
theorem s_149 {d : Nat} {Qp : PQ} {v0 : PV} {v1 : PV} {h : PMem} (hd : 1 ≤ d) (hN : h.1 ≤ NC) (c0 : pcat v0 = 1 := by rfl) (c1 : pcat v1 = 1 := by rfl) (hw : ∀ l, wp h.1 (fun t => At l d 149 h.1 (Qn h.1 Qp) t) (CallP (d - 1)) (Qn h.1 Qp) k_149_0 [some v0, some v1] [] h) : CallP d 149 [v0, v1] h Qp := by
  refine call_of g_149.1 (by rw [g_149.2.2.1]; simp only [pcats, c0, c1, pcatL]; decide) (fun l => ?_)
  have e : ent (mML 149) [v0, v1] = [some v0, some v1] := by rw [g_149.2.2.1]; simp [ent, pcats, c0, c1, pcatL, List.replicate]
  rw [e]
  refine sound g_149.2.1 (by rw [g_149.2.2.2]; exact hN) hd k_149_0 0 k_149_0_ok _ _ _ ?_
  rw [g_149.2.2.2]
  exact hw l
theorem l_149_15 {l : Launch} {d n0 : Nat} {Qp : PQ} {ls : List (Option PV)} {st : List PV} {h : PMem} (hd : 1 ≤ d) (hN : n0 ≤ NC) (hw : wp n0 (fun t => At l d 149 n0 Qp t) (CallP (d - 1)) Qp k_149_15 ls st h) : At l d 149 n0 Qp 15 ls st h := sound g_149.2.1 (by rw [g_149.2.2.2]; exact hN) hd k_149_15 15 k_149_15_ok ls st h (by rw [g_149.2.2.2]; exact hw)
theorem l_149_30 {l : Launch} {d n0 : Nat} {Qp : PQ} {ls : List (Option PV)} {st : List PV} {h : PMem} (hd : 1 ≤ d) (hN : n0 ≤ NC) (hw : wp n0 (fun t => At l d 149 n0 Qp t) (CallP (d - 1)) Qp k_149_30 ls st h) : At l d 149 n0 Qp 30 ls st h := sound g_149.2.1 (by rw [g_149.2.2.2]; exact hN) hd k_149_30 30 k_149_30_ok ls st h (by rw [g_149.2.2.2]; exact hw)
theorem f_150 : (((plainName (mY 150).cls && decide (rN (oN 150) = (mY 150).cls)) && decide (mML 150 = 2)) && decide (aC 150 = 0)) = true := by decide +kernel
theorem g_150 : plainName (mY 150).cls = true ∧ rN (oN 150) = (mY 150).cls ∧ mML 150 = 2 ∧ aC 150 = 0 := by
  have h := f_150
  simp only [Bool.and_eq_true, decide_eq_true_eq] at h
  exact ⟨h.1.1.1, h.1.1.2, h.1.2, h.2⟩
theorem s_150 {d : Nat} {Qp : PQ} {v0 : PV} {h : PMem} (hd : 1 ≤ d) (hN : h.1 ≤ NC) (c0 : pcat v0 = 1 := by rfl) (hw : ∀ l, wp h.1 (fun t => At l d 150 h.1 (Qn h.1 Qp) t) (CallP (d - 1)) (Qn h.1 Qp) k_150_0 [some v0, none] [] h) : CallP d 150 [v0] h Qp := by
  refine call_of g_150.1 (by rw [g_150.2.2.1]; simp only [pcats, c0, pcatL]; decide) (fun l => ?_)
  have e : ent (mML 150) [v0] = [some v0, none] := by rw [g_150.2.2.1]; simp [ent, pcats, c0, pcatL, List.replicate]
  rw [e]
  refine sound g_150.2.1 (by rw [g_150.2.2.2]; exact hN) hd k_150_0 0 k_150_0_ok _ _ _ ?_
  rw [g_150.2.2.2]
  exact hw l
theorem f_151 : (((plainName (mY 151).cls && decide (rN (oN 151) = (mY 151).cls)) && decide (mML 151 = 2)) && decide (aC 151 = 0)) = true := by decide +kernel
theorem g_151 : plainName (mY 151).cls = true ∧ rN (oN 151) = (mY 151).cls ∧ mML 151 = 2 ∧ aC 151 = 0 := by
  have h := f_151
  simp only [Bool.and_eq_true, decide_eq_true_eq] at h
  exact ⟨h.1.1.1, h.1.1.2, h.1.2, h.2⟩
theorem s_151 {d : Nat} {Qp : PQ} {v0 : PV} {v1 : PV} {h : PMem} (hd : 1 ≤ d) (hN : h.1 ≤ NC) (c0 : pcat v0 = 1 := by rfl) (c1 : pcat v1 = 1 := by rfl) (hw : ∀ l, wp h.1 (fun t => At l d 151 h.1 (Qn h.1 Qp) t) (CallP (d - 1)) (Qn h.1 Qp) k_151_0 [some v0, some v1] [] h) : CallP d 151 [v0, v1] h Qp := by
  refine call_of g_151.1 (by rw [g_151.2.2.1]; simp only [pcats, c0, c1, pcatL]; decide) (fun l => ?_)
  have e : ent (mML 151) [v0, v1] = [some v0, some v1] := by rw [g_151.2.2.1]; simp [ent, pcats, c0, c1, pcatL, List.replicate]
  rw [e]
  refine sound g_151.2.1 (by rw [g_151.2.2.2]; exact hN) hd k_151_0 0 k_151_0_ok _ _ _ ?_
  rw [g_151.2.2.2]
  exact hw l
theorem l_151_17 {l : Launch} {d n0 : Nat} {Qp : PQ} {ls : List (Option PV)} {st : List PV} {h : PMem} (hd : 1 ≤ d) (hN : n0 ≤ NC) (hw : wp n0 (fun t => At l d 151 n0 Qp t) (CallP (d - 1)) Qp k_151_17 ls st h) : At l d 151 n0 Qp 17 ls st h := sound g_151.2.1 (by rw [g_151.2.2.2]; exact hN) hd k_151_17 17 k_151_17_ok ls st h (by rw [g_151.2.2.2]; exact hw)
theorem l_151_18 {l : Launch} {d n0 : Nat} {Qp : PQ} {ls : List (Option PV)} {st : List PV} {h : PMem} (hd : 1 ≤ d) (hN : n0 ≤ NC) (hw : wp n0 (fun t => At l d 151 n0 Qp t) (CallP (d - 1)) Qp k_151_18 ls st h) : At l d 151 n0 Qp 18 ls st h := sound g_151.2.1 (by rw [g_151.2.2.2]; exact hN) hd k_151_18 18 k_151_18_ok ls st h (by rw [g_151.2.2.2]; exact hw)
theorem f_152 : (((plainName (mY 152).cls && decide (rN (oN 152) = (mY 152).cls)) && decide (mML 152 = 1)) && decide (aC 152 = 0)) = true := by decide +kernel
theorem g_152 : plainName (mY 152).cls = true ∧ rN (oN 152) = (mY 152).cls ∧ mML 152 = 1 ∧ aC 152 = 0 := by
  have h := f_152
  simp only [Bool.and_eq_true, decide_eq_true_eq] at h
  exact ⟨h.1.1.1, h.1.1.2, h.1.2, h.2⟩
theorem s_152 {d : Nat} {Qp : PQ} {v0 : PV} {h : PMem} (hd : 1 ≤ d) (hN : h.1 ≤ NC) (c0 : pcat v0 = 1 := by rfl) (hw : ∀ l, wp h.1 (fun t => At l d 152 h.1 (Qn h.1 Qp) t) (CallP (d - 1)) (Qn h.1 Qp) k_152_0 [some v0] [] h) : CallP d 152 [v0] h Qp := by
  refine call_of g_152.1 (by rw [g_152.2.2.1]; simp only [pcats, c0, pcatL]; decide) (fun l => ?_)
  have e : ent (mML 152) [v0] = [some v0] := by rw [g_152.2.2.1]; simp [ent, pcats, c0, pcatL, List.replicate]
  rw [e]
  refine sound g_152.2.1 (by rw [g_152.2.2.2]; exact hN) hd k_152_0 0 k_152_0_ok _ _ _ ?_
  rw [g_152.2.2.2]
  exact hw l
theorem l_152_8 {l : Launch} {d n0 : Nat} {Qp : PQ} {ls : List (Option PV)} {st : List PV} {h : PMem} (hd : 1 ≤ d) (hN : n0 ≤ NC) (hw : wp n0 (fun t => At l d 152 n0 Qp t) (CallP (d - 1)) Qp k_152_8 ls st h) : At l d 152 n0 Qp 8 ls st h := sound g_152.2.1 (by rw [g_152.2.2.2]; exact hN) hd k_152_8 8 k_152_8_ok ls st h (by rw [g_152.2.2.2]; exact hw)
theorem l_152_23 {l : Launch} {d n0 : Nat} {Qp : PQ} {ls : List (Option PV)} {st : List PV} {h : PMem} (hd : 1 ≤ d) (hN : n0 ≤ NC) (hw : wp n0 (fun t => At l d 152 n0 Qp t) (CallP (d - 1)) Qp k_152_23 ls st h) : At l d 152 n0 Qp 23 ls st h := sound g_152.2.1 (by rw [g_152.2.2.2]; exact hN) hd k_152_23 23 k_152_23_ok ls st h (by rw [g_152.2.2.2]; exact hw)
theorem l_152_38 {l : Launch} {d n0 : Nat} {Qp : PQ} {ls : List (Option PV)} {st : List PV} {h : PMem} (hd : 1 ≤ d) (hN : n0 ≤ NC) (hw : wp n0 (fun t => At l d 152 n0 Qp t) (CallP (d - 1)) Qp k_152_38 ls st h) : At l d 152 n0 Qp 38 ls st h := sound g_152.2.1 (by rw [g_152.2.2.2]; exact hN) hd k_152_38 38 k_152_38_ok ls st h (by rw [g_152.2.2.2]; exact hw)
theorem l_152_48 {l : Launch} {d n0 : Nat} {Qp : PQ} {ls : List (Option PV)} {st : List PV} {h : PMem} (hd : 1 ≤ d) (hN : n0 ≤ NC) (hw : wp n0 (fun t => At l d 152 n0 Qp t) (CallP (d - 1)) Qp k_152_48 ls st h) : At l d 152 n0 Qp 48 ls st h := sound g_152.2.1 (by rw [g_152.2.2.2]; exact hN) hd k_152_48 48 k_152_48_ok ls st h (by rw [g_152.2.2.2]; exact hw)
theorem l_152_49 {l : Launch} {d n0 : Nat} {Qp : PQ} {ls : List (Option PV)} {st : List PV} {h : PMem} (hd : 1 ≤ d) (hN : n0 ≤ NC) (hw : wp n0 (fun t => At l d 152 n0 Qp t) (CallP (d - 1)) Qp k_152_49 ls st h) : At l d 152 n0 Qp 49 ls st h := sound g_152.2.1 (by rw [g_152.2.2.2]; exact hN) hd k_152_49 49 k_152_49_ok ls st h (by rw [g_152.2.2.2]; exact hw)
theorem f_153 : (((plainName (mY 153).cls && decide (rN (oN 153) = (mY 153).cls)) && decide (mML 153 = 1)) && decide (aC 153 = 0)) = true := by decide +kernel
theorem g_153 : plainName (mY 153).cls = true ∧ rN (oN 153) = (mY 153).cls ∧ mML 153 = 1 ∧ aC 153 = 0 := by
  have h := f_153
  simp only [Bool.and_eq_true, decide_eq_true_eq] at h
  exact ⟨h.1.1.1, h.1.1.2, h.1.2, h.2⟩
theorem s_153 {d : Nat} {Qp : PQ} {v0 : PV} {h : PMem} (hd : 1 ≤ d) (hN : h.1 ≤ NC) (c0 : pcat v0 = 1 := by rfl) (hw : ∀ l, wp h.1 (fun t => At l d 153 h.1 (Qn h.1 Qp) t) (CallP (d - 1)) (Qn h.1 Qp) k_153_0 [some v0] [] h) : CallP d 153 [v0] h Qp := by
  refine call_of g_153.1 (by rw [g_153.2.2.1]; simp only [pcats, c0, pcatL]; decide) (fun l => ?_)
  have e : ent (mML 153) [v0] = [some v0] := by rw [g_153.2.2.1]; simp [ent, pcats, c0, pcatL, List.replicate]
  rw [e]
  refine sound g_153.2.1 (by rw [g_153.2.2.2]; exact hN) hd k_153_0 0 k_153_0_ok _ _ _ ?_
  rw [g_153.2.2.2]
  exact hw l
theorem l_153_26 {l : Launch} {d n0 : Nat} {Qp : PQ} {ls : List (Option PV)} {st : List PV} {h : PMem} (hd : 1 ≤ d) (hN : n0 ≤ NC) (hw : wp n0 (fun t => At l d 153 n0 Qp t) (CallP (d - 1)) Qp k_153_26 ls st h) : At l d 153 n0 Qp 26 ls st h := sound g_153.2.1 (by rw [g_153.2.2.2]; exact hN) hd k_153_26 26 k_153_26_ok ls st h (by rw [g_153.2.2.2]; exact hw)
theorem l_153_54 {l : Launch} {d n0 : Nat} {Qp : PQ} {ls : List (Option PV)} {st : List PV} {h : PMem} (hd : 1 ≤ d) (hN : n0 ≤ NC) (hw : wp n0 (fun t => At l d 153 n0 Qp t) (CallP (d - 1)) Qp k_153_54 ls st h) : At l d 153 n0 Qp 54 ls st h := sound g_153.2.1 (by rw [g_153.2.2.2]; exact hN) hd k_153_54 54 k_153_54_ok ls st h (by rw [g_153.2.2.2]; exact hw)
theorem l_153_84 {l : Launch} {d n0 : Nat} {Qp : PQ} {ls : List (Option PV)} {st : List PV} {h : PMem} (hd : 1 ≤ d) (hN : n0 ≤ NC) (hw : wp n0 (fun t => At l d 153 n0 Qp t) (CallP (d - 1)) Qp k_153_84 ls st h) : At l d 153 n0 Qp 84 ls st h := sound g_153.2.1 (by rw [g_153.2.2.2]; exact hN) hd k_153_84 84 k_153_84_ok ls st h (by rw [g_153.2.2.2]; exact hw)
theorem l_153_102 {l : Launch} {d n0 : Nat} {Qp : PQ} {ls : List (Option PV)} {st : List PV} {h : PMem} (hd : 1 ≤ d) (hN : n0 ≤ NC) (hw : wp n0 (fun t => At l d 153 n0 Qp t) (CallP (d - 1)) Qp k_153_102 ls st h) : At l d 153 n0 Qp 102 ls st h := sound g_153.2.1 (by rw [g_153.2.2.2]; exact hN) hd k_153_102 102 k_153_102_ok ls st h (by rw [g_153.2.2.2]; exact hw)
theorem l_153_125 {l : Launch} {d n0 : Nat} {Qp : PQ} {ls : List (Option PV)} {st : List PV} {h : PMem} (hd : 1 ≤ d) (hN : n0 ≤ NC) (hw : wp n0 (fun t => At l d 153 n0 Qp t) (CallP (d - 1)) Qp k_153_125 ls st h) : At l d 153 n0 Qp 125 ls st h := sound g_153.2.1 (by rw [g_153.2.2.2]; exact hN) hd k_153_125 125 k_153_125_ok ls st h (by rw [g_153.2.2.2]; exact hw)
theorem f_154 : (((plainName (mY 154).cls && decide (rN (oN 154) = (mY 154).cls)) && decide (mML 154 = 8)) && decide (aC 154 = 0)) = true := by decide +kernel
theorem g_154 : plainName (mY 154).cls = true ∧ rN (oN 154) = (mY 154).cls ∧ mML 154 = 8 ∧ aC 154 = 0 := by
  have h := f_154
  simp only [Bool.and_eq_true, decide_eq_true_eq] at h
  exact ⟨h.1.1.1, h.1.1.2, h.1.2, h.2⟩
theorem s_154 {d : Nat} {Qp : PQ} {v0 : PV} {v1 : PV} {v2 : PV} {v3 : PV} {v4 : PV} {v5 : PV} {h : PMem} (hd : 1 ≤ d) (hN : h.1 ≤ NC) (c0 : pcat v0 = 1 := by rfl) (c1 : pcat v1 = 1 := by rfl) (c2 : pcat v2 = 1 := by rfl) (c3 : pcat v3 = 1 := by rfl) (c4 : pcat v4 = 1 := by rfl) (c5 : pcat v5 = 1 := by rfl) (hw : ∀ l, wp h.1 (fun t => At l d 154 h.1 (Qn h.1 Qp) t) (CallP (d - 1)) (Qn h.1 Qp) k_154_0 [some v0, some v1, some v2, some v3, some v4, some v5, none, none] [] h) : CallP d 154 [v0, v1, v2, v3, v4, v5] h Qp := by
  refine call_of g_154.1 (by rw [g_154.2.2.1]; simp only [pcats, c0, c1, c2, c3, c4, c5, pcatL]; decide) (fun l => ?_)
  have e : ent (mML 154) [v0, v1, v2, v3, v4, v5] = [some v0, some v1, some v2, some v3, some v4, some v5, none, none] := by rw [g_154.2.2.1]; simp [ent, pcats, c0, c1, c2, c3, c4, c5, pcatL, List.replicate]
  rw [e]
  refine sound g_154.2.1 (by rw [g_154.2.2.2]; exact hN) hd k_154_0 0 k_154_0_ok _ _ _ ?_
  rw [g_154.2.2.2]
  exact hw l
theorem l_154_27 {l : Launch} {d n0 : Nat} {Qp : PQ} {ls : List (Option PV)} {st : List PV} {h : PMem} (hd : 1 ≤ d) (hN : n0 ≤ NC) (hw : wp n0 (fun t => At l d 154 n0 Qp t) (CallP (d - 1)) Qp k_154_27 ls st h) : At l d 154 n0 Qp 27 ls st h := sound g_154.2.1 (by rw [g_154.2.2.2]; exact hN) hd k_154_27 27 k_154_27_ok ls st h (by rw [g_154.2.2.2]; exact hw)
theorem l_154_36 {l : Launch} {d n0 : Nat} {Qp : PQ} {ls : List (Option PV)} {st : List PV} {h : PMem} (hd : 1 ≤ d) (hN : n0 ≤ NC) (hw : wp n0 (fun t => At l d 154 n0 Qp t) (CallP (d - 1)) Qp k_154_36 ls st h) : At l d 154 n0 Qp 36 ls st h := sound g_154.2.1 (by rw [g_154.2.2.2]; exact hN) hd k_154_36 36 k_154_36_ok ls st h (by rw [g_154.2.2.2]; exact hw)
theorem l_154_48 {l : Launch} {d n0 : Nat} {Qp : PQ} {ls : List (Option PV)} {st : List PV} {h : PMem} (hd : 1 ≤ d) (hN : n0 ≤ NC) (hw : wp n0 (fun t => At l d 154 n0 Qp t) (CallP (d - 1)) Qp k_154_48 ls st h) : At l d 154 n0 Qp 48 ls st h := sound g_154.2.1 (by rw [g_154.2.2.2]; exact hN) hd k_154_48 48 k_154_48_ok ls st h (by rw [g_154.2.2.2]; exact hw)
theorem l_154_58 {l : Launch} {d n0 : Nat} {Qp : PQ} {ls : List (Option PV)} {st : List PV} {h : PMem} (hd : 1 ≤ d) (hN : n0 ≤ NC) (hw : wp n0 (fun t => At l d 154 n0 Qp t) (CallP (d - 1)) Qp k_154_58 ls st h) : At l d 154 n0 Qp 58 ls st h := sound g_154.2.1 (by rw [g_154.2.2.2]; exact hN) hd k_154_58 58 k_154_58_ok ls st h (by rw [g_154.2.2.2]; exact hw)
theorem l_154_70 {l : Launch} {d n0 : Nat} {Qp : PQ} {ls : List (Option PV)} {st : List PV} {h : PMem} (hd : 1 ≤ d) (hN : n0 ≤ NC) (hw : wp n0 (fun t => At l d 154 n0 Qp t) (CallP (d - 1)) Qp k_154_70 ls st h) : At l d 154 n0 Qp 70 ls st h := sound g_154.2.1 (by rw [g_154.2.2.2]; exact hN) hd k_154_70 70 k_154_70_ok ls st h (by rw [g_154.2.2.2]; exact hw)
theorem l_154_80 {l : Launch} {d n0 : Nat} {Qp : PQ} {ls : List (Option PV)} {st : List PV} {h : PMem} (hd : 1 ≤ d) (hN : n0 ≤ NC) (hw : wp n0 (fun t => At l d 154 n0 Qp t) (CallP (d - 1)) Qp k_154_80 ls st h) : At l d 154 n0 Qp 80 ls st h := sound g_154.2.1 (by rw [g_154.2.2.2]; exact hN) hd k_154_80 80 k_154_80_ok ls st h (by rw [g_154.2.2.2]; exact hw)
theorem f_155 : (((plainName (mY 155).cls && decide (rN (oN 155) = (mY 155).cls)) && decide (mML 155 = 4)) && decide (aC 155 = 0)) = true := by decide +kernel
theorem g_155 : plainName (mY 155).cls = true ∧ rN (oN 155) = (mY 155).cls ∧ mML 155 = 4 ∧ aC 155 = 0 := by
  have h := f_155
  simp only [Bool.and_eq_true, decide_eq_true_eq] at h
  exact ⟨h.1.1.1, h.1.1.2, h.1.2, h.2⟩
theorem s_155 {d : Nat} {Qp : PQ} {v0 : PV} {h : PMem} (hd : 1 ≤ d) (hN : h.1 ≤ NC) (c0 : pcat v0 = 1 := by rfl) (hw : ∀ l, wp h.1 (fun t => At l d 155 h.1 (Qn h.1 Qp) t) (CallP (d - 1)) (Qn h.1 Qp) k_155_0 [some v0, none, none, none] [] h) : CallP d 155 [v0] h Qp := by
  refine call_of g_155.1 (by rw [g_155.2.2.1]; simp only [pcats, c0, pcatL]; decide) (fun l => ?_)
  have e : ent (mML 155) [v0] = [some v0, none, none, none] := by rw [g_155.2.2.1]; simp [ent, pcats, c0, pcatL, List.replicate]
  rw [e]
  refine sound g_155.2.1 (by rw [g_155.2.2.2]; exact hN) hd k_155_0 0 k_155_0_ok _ _ _ ?_
  rw [g_155.2.2.2]
  exact hw l
theorem l_155_4 {l : Launch} {d n0 : Nat} {Qp : PQ} {ls : List (Option PV)} {st : List PV} {h : PMem} (hd : 1 ≤ d) (hN : n0 ≤ NC) (hw : wp n0 (fun t => At l d 155 n0 Qp t) (CallP (d - 1)) Qp k_155_4 ls st h) : At l d 155 n0 Qp 4 ls st h := sound g_155.2.1 (by rw [g_155.2.2.2]; exact hN) hd k_155_4 4 k_155_4_ok ls st h (by rw [g_155.2.2.2]; exact hw)
theorem l_155_57 {l : Launch} {d n0 : Nat} {Qp : PQ} {ls : List (Option PV)} {st : List PV} {h : PMem} (hd : 1 ≤ d) (hN : n0 ≤ NC) (hw : wp n0 (fun t => At l d 155 n0 Qp t) (CallP (d - 1)) Qp k_155_57 ls st h) : At l d 155 n0 Qp 57 ls st h := sound g_155.2.1 (by rw [g_155.2.2.2]; exact hN) hd k_155_57 57 k_155_57_ok ls st h (by rw [g_155.2.2.2]; exact hw)
theorem l_155_79 {l : Launch} {d n0 : Nat} {Qp : PQ} {ls : List (Option PV)} {st : List PV} {h : PMem} (hd : 1 ≤ d) (hN : n0 ≤ NC) (hw : wp n0 (fun t => At l d 155 n0 Qp t) (CallP (d - 1)) Qp k_155_79 ls st h) : At l d 155 n0 Qp 79 ls st h := sound g_155.2.1 (by rw [g_155.2.2.2]; exact hN) hd k_155_79 79 k_155_79_ok ls st h (by rw [g_155.2.2.2]; exact hw)
theorem l_155_100 {l : Launch} {d n0 : Nat} {Qp : PQ} {ls : List (Option PV)} {st : List PV} {h : PMem} (hd : 1 ≤ d) (hN : n0 ≤ NC) (hw : wp n0 (fun t => At l d 155 n0 Qp t) (CallP (d - 1)) Qp k_155_100 ls st h) : At l d 155 n0 Qp 100 ls st h := sound g_155.2.1 (by rw [g_155.2.2.2]; exact hN) hd k_155_100 100 k_155_100_ok ls st h (by rw [g_155.2.2.2]; exact hw)
theorem l_155_121 {l : Launch} {d n0 : Nat} {Qp : PQ} {ls : List (Option PV)} {st : List PV} {h : PMem} (hd : 1 ≤ d) (hN : n0 ≤ NC) (hw : wp n0 (fun t => At l d 155 n0 Qp t) (CallP (d - 1)) Qp k_155_121 ls st h) : At l d 155 n0 Qp 121 ls st h := sound g_155.2.1 (by rw [g_155.2.2.2]; exact hN) hd k_155_121 121 k_155_121_ok ls st h (by rw [g_155.2.2.2]; exact hw)
theorem l_155_122 {l : Launch} {d n0 : Nat} {Qp : PQ} {ls : List (Option PV)} {st : List PV} {h : PMem} (hd : 1 ≤ d) (hN : n0 ≤ NC) (hw : wp n0 (fun t => At l d 155 n0 Qp t) (CallP (d - 1)) Qp k_155_122 ls st h) : At l d 155 n0 Qp 122 ls st h := sound g_155.2.1 (by rw [g_155.2.2.2]; exact hN) hd k_155_122 122 k_155_122_ok ls st h (by rw [g_155.2.2.2]; exact hw)
theorem l_155_143 {l : Launch} {d n0 : Nat} {Qp : PQ} {ls : List (Option PV)} {st : List PV} {h : PMem} (hd : 1 ≤ d) (hN : n0 ≤ NC) (hw : wp n0 (fun t => At l d 155 n0 Qp t) (CallP (d - 1)) Qp k_155_143 ls st h) : At l d 155 n0 Qp 143 ls st h := sound g_155.2.1 (by rw [g_155.2.2.2]; exact hN) hd k_155_143 143 k_155_143_ok ls st h (by rw [g_155.2.2.2]; exact hw)
theorem l_155_163 {l : Launch} {d n0 : Nat} {Qp : PQ} {ls : List (Option PV)} {st : List PV} {h : PMem} (hd : 1 ≤ d) (hN : n0 ≤ NC) (hw : wp n0 (fun t => At l d 155 n0 Qp t) (CallP (d - 1)) Qp k_155_163 ls st h) : At l d 155 n0 Qp 163 ls st h := sound g_155.2.1 (by rw [g_155.2.2.2]; exact hN) hd k_155_163 163 k_155_163_ok ls st h (by rw [g_155.2.2.2]; exact hw)
theorem l_155_164 {l : Launch} {d n0 : Nat} {Qp : PQ} {ls : List (Option PV)} {st : List PV} {h : PMem} (hd : 1 ≤ d) (hN : n0 ≤ NC) (hw : wp n0 (fun t => At l d 155 n0 Qp t) (CallP (d - 1)) Qp k_155_164 ls st h) : At l d 155 n0 Qp 164 ls st h := sound g_155.2.1 (by rw [g_155.2.2.2]; exact hN) hd k_155_164 164 k_155_164_ok ls st h (by rw [g_155.2.2.2]; exact hw)
theorem f_156 : (((plainName (mY 156).cls && decide (rN (oN 156) = (mY 156).cls)) && decide (mML 156 = 1)) && decide (aC 156 = 0)) = true := by decide +kernel
theorem g_156 : plainName (mY 156).cls = true ∧ rN (oN 156) = (mY 156).cls ∧ mML 156 = 1 ∧ aC 156 = 0 := by
  have h := f_156
  simp only [Bool.and_eq_true, decide_eq_true_eq] at h
  exact ⟨h.1.1.1, h.1.1.2, h.1.2, h.2⟩
theorem s_156 {d : Nat} {Qp : PQ} {v0 : PV} {h : PMem} (hd : 1 ≤ d) (hN : h.1 ≤ NC) (c0 : pcat v0 = 1 := by rfl) (hw : ∀ l, wp h.1 (fun t => At l d 156 h.1 (Qn h.1 Qp) t) (CallP (d - 1)) (Qn h.1 Qp) k_156_0 [some v0] [] h) : CallP d 156 [v0] h Qp := by
  refine call_of g_156.1 (by rw [g_156.2.2.1]; simp only [pcats, c0, pcatL]; decide) (fun l => ?_)
  have e : ent (mML 156) [v0] = [some v0] := by rw [g_156.2.2.1]; simp [ent, pcats, c0, pcatL, List.replicate]
  rw [e]
  refine sound g_156.2.1 (by rw [g_156.2.2.2]; exact hN) hd k_156_0 0 k_156_0_ok _ _ _ ?_
  rw [g_156.2.2.2]
  exact hw l
theorem l_156_8 {l : Launch} {d n0 : Nat} {Qp : PQ} {ls : List (Option PV)} {st : List PV} {h : PMem} (hd : 1 ≤ d) (hN : n0 ≤ NC) (hw : wp n0 (fun t => At l d 156 n0 Qp t) (CallP (d - 1)) Qp k_156_8 ls st h) : At l d 156 n0 Qp 8 ls st h := sound g_156.2.1 (by rw [g_156.2.2.2]; exact hN) hd k_156_8 8 k_156_8_ok ls st h (by rw [g_156.2.2.2]; exact hw)
theorem l_156_17 {l : Launch} {d n0 : Nat} {Qp : PQ} {ls : List (Option PV)} {st : List PV} {h : PMem} (hd : 1 ≤ d) (hN : n0 ≤ NC) (hw : wp n0 (fun t => At l d 156 n0 Qp t) (CallP (d - 1)) Qp k_156_17 ls st h) : At l d 156 n0 Qp 17 ls st h := sound g_156.2.1 (by rw [g_156.2.2.2]; exact hN) hd k_156_17 17 k_156_17_ok ls st h (by rw [g_156.2.2.2]; exact hw)
theorem l_156_18 {l : Launch} {d n0 : Nat} {Qp : PQ} {ls : List (Option PV)} {st : List PV} {h : PMem} (hd : 1 ≤ d) (hN : n0 ≤ NC) (hw : wp n0 (fun t => At l d 156 n0 Qp t) (CallP (d - 1)) Qp k_156_18 ls st h) : At l d 156 n0 Qp 18 ls st h := sound g_156.2.1 (by rw [g_156.2.2.2]; exact hN) hd k_156_18 18 k_156_18_ok ls st h (by rw [g_156.2.2.2]; exact hw)
theorem f_157 : (((plainName (mY 157).cls && decide (rN (oN 157) = (mY 157).cls)) && decide (mML 157 = 4)) && decide (aC 157 = 0)) = true := by decide +kernel
theorem g_157 : plainName (mY 157).cls = true ∧ rN (oN 157) = (mY 157).cls ∧ mML 157 = 4 ∧ aC 157 = 0 := by
  have h := f_157
  simp only [Bool.and_eq_true, decide_eq_true_eq] at h
  exact ⟨h.1.1.1, h.1.1.2, h.1.2, h.2⟩
theorem s_157 {d : Nat} {Qp : PQ} {v0 : PV} {v1 : PV} {h : PMem} (hd : 1 ≤ d) (hN : h.1 ≤ NC) (c0 : pcat v0 = 1 := by rfl) (c1 : pcat v1 = 1 := by rfl) (hw : ∀ l, wp h.1 (fun t => At l d 157 h.1 (Qn h.1 Qp) t) (CallP (d - 1)) (Qn h.1 Qp) k_157_0 [some v0, some v1, none, none] [] h) : CallP d 157 [v0, v1] h Qp := by
  refine call_of g_157.1 (by rw [g_157.2.2.1]; simp only [pcats, c0, c1, pcatL]; decide) (fun l => ?_)
  have e : ent (mML 157) [v0, v1] = [some v0, some v1, none, none] := by rw [g_157.2.2.1]; simp [ent, pcats, c0, c1, pcatL, List.replicate]
  rw [e]
  refine sound g_157.2.1 (by rw [g_157.2.2.2]; exact hN) hd k_157_0 0 k_157_0_ok _ _ _ ?_
  rw [g_157.2.2.2]
  exact hw l
theorem l_157_2 {l : Launch} {d n0 : Nat} {Qp : PQ} {ls : List (Option PV)} {st : List PV} {h : PMem} (hd : 1 ≤ d) (hN : n0 ≤ NC) (hw : wp n0 (fun t => At l d 157 n0 Qp t) (CallP (d - 1)) Qp k_157_2 ls st h) : At l d 157 n0 Qp 2 ls st h := sound g_157.2.1 (by rw [g_157.2.2.2]; exact hN) hd k_157_2 2 k_157_2_ok ls st h (by rw [g_157.2.2.2]; exact hw)
theorem l_157_27 {l : Launch} {d n0 : Nat} {Qp : PQ} {ls : List (Option PV)} {st : List PV} {h : PMem} (hd : 1 ≤ d) (hN : n0 ≤ NC) (hw : wp n0 (fun t => At l d 157 n0 Qp t) (CallP (d - 1)) Qp k_157_27 ls st h) : At l d 157 n0 Qp 27 ls st h := sound g_157.2.1 (by rw [g_157.2.2.2]; exact hN) hd k_157_27 27 k_157_27_ok ls st h (by rw [g_157.2.2.2]; exact hw)
theorem l_157_29 {l : Launch} {d n0 : Nat} {Qp : PQ} {ls : List (Option PV)} {st : List PV} {h : PMem} (hd : 1 ≤ d) (hN : n0 ≤ NC) (hw : wp n0 (fun t => At l d 157 n0 Qp t) (CallP (d - 1)) Qp k_157_29 ls st h) : At l d 157 n0 Qp 29 ls st h := sound g_157.2.1 (by rw [g_157.2.2.2]; exact hN) hd k_157_29 29 k_157_29_ok ls st h (by rw [g_157.2.2.2]; exact hw)
theorem l_157_58 {l : Launch} {d n0 : Nat} {Qp : PQ} {ls : List (Option PV)} {st : List PV} {h : PMem} (hd : 1 ≤ d) (hN : n0 ≤ NC) (hw : wp n0 (fun t => At l d 157 n0 Qp t) (CallP (d - 1)) Qp k_157_58 ls st h) : At l d 157 n0 Qp 58 ls st h := sound g_157.2.1 (by rw [g_157.2.2.2]; exact hN) hd k_157_58 58 k_157_58_ok ls st h (by rw [g_157.2.2.2]; exact hw)
theorem l_157_76 {l : Launch} {d n0 : Nat} {Qp : PQ} {ls : List (Option PV)} {st : List PV} {h : PMem} (hd : 1 ≤ d) (hN : n0 ≤ NC) (hw : wp n0 (fun t => At l d 157 n0 Qp t) (CallP (d - 1)) Qp k_157_76 ls st h) : At l d 157 n0 Qp 76 ls st h := sound g_157.2.1 (by rw [g_157.2.2.2]; exact hN) hd k_157_76 76 k_157_76_ok ls st h (by rw [g_157.2.2.2]; exact hw)
theorem l_157_83 {l : Launch} {d n0 : Nat} {Qp : PQ} {ls : List (Option PV)} {st : List PV} {h : PMem} (hd : 1 ≤ d) (hN : n0 ≤ NC) (hw : wp n0 (fun t => At l d 157 n0 Qp t) (CallP (d - 1)) Qp k_157_83 ls st h) : At l d 157 n0 Qp 83 ls st h := sound g_157.2.1 (by rw [g_157.2.2.2]; exact hN) hd k_157_83 83 k_157_83_ok ls st h (by rw [g_157.2.2.2]; exact hw)
theorem l_157_99 {l : Launch} {d n0 : Nat} {Qp : PQ} {ls : List (Option PV)} {st : List PV} {h : PMem} (hd : 1 ≤ d) (hN : n0 ≤ NC) (hw : wp n0 (fun t => At l d 157 n0 Qp t) (CallP (d - 1)) Qp k_157_99 ls st h) : At l d 157 n0 Qp 99 ls st h := sound g_157.2.1 (by rw [g_157.2.2.2]; exact hN) hd k_157_99 99 k_157_99_ok ls st h (by rw [g_157.2.2.2]; exact hw)
theorem l_157_100 {l : Launch} {d n0 : Nat} {Qp : PQ} {ls : List (Option PV)} {st : List PV} {h : PMem} (hd : 1 ≤ d) (hN : n0 ≤ NC) (hw : wp n0 (fun t => At l d 157 n0 Qp t) (CallP (d - 1)) Qp k_157_100 ls st h) : At l d 157 n0 Qp 100 ls st h := sound g_157.2.1 (by rw [g_157.2.2.2]; exact hN) hd k_157_100 100 k_157_100_ok ls st h (by rw [g_157.2.2.2]; exact hw)
theorem f_158 : (((plainName (mY 158).cls && decide (rN (oN 158) = (mY 158).cls)) && decide (mML 158 = 6)) && decide (aC 158 = 0)) = true := by decide +kernel
theorem g_158 : plainName (mY 158).cls = true ∧ rN (oN 158) = (mY 158).cls ∧ mML 158 = 6 ∧ aC 158 = 0 := by
  have h := f_158
  simp only [Bool.and_eq_true, decide_eq_true_eq] at h
  exact ⟨h.1.1.1, h.1.1.2, h.1.2, h.2⟩
theorem s_158 {d : Nat} {Qp : PQ} {v0 : PV} {v1 : PV} {h : PMem} (hd : 1 ≤ d) (hN : h.1 ≤ NC) (c0 : pcat v0 = 1 := by rfl) (c1 : pcat v1 = 1 := by rfl) (hw : ∀ l, wp h.1 (fun t => At l d 158 h.1 (Qn h.1 Qp) t) (CallP (d - 1)) (Qn h.1 Qp) k_158_0 [some v0, some v1, none, none, none, none] [] h) : CallP d 158 [v0, v1] h Qp := by
  refine call_of g_158.1 (by rw [g_158.2.2.1]; simp only [pcats, c0, c1, pcatL]; decide) (fun l => ?_)
  have e : ent (mML 158) [v0, v1] = [some v0, some v1, none, none, none, none] := by rw [g_158.2.2.1]; simp [ent, pcats, c0, c1, pcatL, List.replicate]
  rw [e]
  refine sound g_158.2.1 (by rw [g_158.2.2.2]; exact hN) hd k_158_0 0 k_158_0_ok _ _ _ ?_
  rw [g_158.2.2.2]
  exact hw l
theorem l_158_52 {l : Launch} {d n0 : Nat} {Qp : PQ} {ls : List (Option PV)} {st : List PV} {h : PMem} (hd : 1 ≤ d) (hN : n0 ≤ NC) (hw : wp n0 (fun t => At l d 158 n0 Qp t) (CallP (d - 1)) Qp k_158_52 ls st h) : At l d 158 n0 Qp 52 ls st h := sound g_158.2.1 (by rw [g_158.2.2.2]; exact hN) hd k_158_52 52 k_158_52_ok ls st h (by rw [g_158.2.2.2]; exact hw)
theorem l_158_64 {l : Launch} {d n0 : Nat} {Qp : PQ} {ls : List (Option PV)} {st : List PV} {h : PMem} (hd : 1 ≤ d) (hN : n0 ≤ NC) (hw : wp n0 (fun t => At l d 158 n0 Qp t) (CallP (d - 1)) Qp k_158_64 ls st h) : At l d 158 n0 Qp 64 ls st h := sound g_158.2.1 (by rw [g_158.2.2.2]; exact hN) hd k_158_64 64 k_158_64_ok ls st h (by rw [g_158.2.2.2]; exact hw)
theorem l_158_86 {l : Launch} {d n0 : Nat} {Qp : PQ} {ls : List (Option PV)} {st : List PV} {h : PMem} (hd : 1 ≤ d) (hN : n0 ≤ NC) (hw : wp n0 (fun t => At l d 158 n0 Qp t) (CallP (d - 1)) Qp k_158_86 ls st h) : At l d 158 n0 Qp 86 ls st h := sound g_158.2.1 (by rw [g_158.2.2.2]; exact hN) hd k_158_86 86 k_158_86_ok ls st h (by rw [g_158.2.2.2]; exact hw)
theorem l_158_87 {l : Launch} {d n0 : Nat} {Qp : PQ} {ls : List (Option PV)} {st : List PV} {h : PMem} (hd : 1 ≤ d) (hN : n0 ≤ NC) (hw : wp n0 (fun t => At l d 158 n0 Qp t) (CallP (d - 1)) Qp k_158_87 ls st h) : At l d 158 n0 Qp 87 ls st h := sound g_158.2.1 (by rw [g_158.2.2.2]; exact hN) hd k_158_87 87 k_158_87_ok ls st h (by rw [g_158.2.2.2]; exact hw)
theorem l_158_92 {l : Launch} {d n0 : Nat} {Qp : PQ} {ls : List (Option PV)} {st : List PV} {h : PMem} (hd : 1 ≤ d) (hN : n0 ≤ NC) (hw : wp n0 (fun t => At l d 158 n0 Qp t) (CallP (d - 1)) Qp k_158_92 ls st h) : At l d 158 n0 Qp 92 ls st h := sound g_158.2.1 (by rw [g_158.2.2.2]; exact hN) hd k_158_92 92 k_158_92_ok ls st h (by rw [g_158.2.2.2]; exact hw)
theorem l_158_122 {l : Launch} {d n0 : Nat} {Qp : PQ} {ls : List (Option PV)} {st : List PV} {h : PMem} (hd : 1 ≤ d) (hN : n0 ≤ NC) (hw : wp n0 (fun t => At l d 158 n0 Qp t) (CallP (d - 1)) Qp k_158_122 ls st h) : At l d 158 n0 Qp 122 ls st h := sound g_158.2.1 (by rw [g_158.2.2.2]; exact hN) hd k_158_122 122 k_158_122_ok ls st h (by rw [g_158.2.2.2]; exact hw)
theorem l_158_123 {l : Launch} {d n0 : Nat} {Qp : PQ} {ls : List (Option PV)} {st : List PV} {h : PMem} (hd : 1 ≤ d) (hN : n0 ≤ NC) (hw : wp n0 (fun t => At l d 158 n0 Qp t) (CallP (d - 1)) Qp k_158_123 ls st h) : At l d 158 n0 Qp 123 ls st h := sound g_158.2.1 (by rw [g_158.2.2.2]; exact hN) hd k_158_123 123 k_158_123_ok ls st h (by rw [g_158.2.2.2]; exact hw)
theorem l_158_128 {l : Launch} {d n0 : Nat} {Qp : PQ} {ls : List (Option PV)} {st : List PV} {h : PMem} (hd : 1 ≤ d) (hN : n0 ≤ NC) (hw : wp n0 (fun t => At l d 158 n0 Qp t) (CallP (d - 1)) Qp k_158_128 ls st h) : At l d 158 n0 Qp 128 ls st h := sound g_158.2.1 (by rw [g_158.2.2.2]; exact hN) hd k_158_128 128 k_158_128_ok ls st h (by rw [g_158.2.2.2]; exact hw)
theorem l_158_155 {l : Launch} {d n0 : Nat} {Qp : PQ} {ls : List (Option PV)} {st : List PV} {h : PMem} (hd : 1 ≤ d) (hN : n0 ≤ NC) (hw : wp n0 (fun t => At l d 158 n0 Qp t) (CallP (d - 1)) Qp k_158_155 ls st h) : At l d 158 n0 Qp 155 ls st h := sound g_158.2.1 (by rw [g_158.2.2.2]; exact hN) hd k_158_155 155 k_158_155_ok ls st h (by rw [g_158.2.2.2]; exact hw)
theorem l_158_156 {l : Launch} {d n0 : Nat} {Qp : PQ} {ls : List (Option PV)} {st : List PV} {h : PMem} (hd : 1 ≤ d) (hN : n0 ≤ NC) (hw : wp n0 (fun t => At l d 158 n0 Qp t) (CallP (d - 1)) Qp k_158_156 ls st h) : At l d 158 n0 Qp 156 ls st h := sound g_158.2.1 (by rw [g_158.2.2.2]; exact hN) hd k_158_156 156 k_158_156_ok ls st h (by rw [g_158.2.2.2]; exact hw)
theorem l_158_161 {l : Launch} {d n0 : Nat} {Qp : PQ} {ls : List (Option PV)} {st : List PV} {h : PMem} (hd : 1 ≤ d) (hN : n0 ≤ NC) (hw : wp n0 (fun t => At l d 158 n0 Qp t) (CallP (d - 1)) Qp k_158_161 ls st h) : At l d 158 n0 Qp 161 ls st h := sound g_158.2.1 (by rw [g_158.2.2.2]; exact hN) hd k_158_161 161 k_158_161_ok ls st h (by rw [g_158.2.2.2]; exact hw)
theorem l_158_170 {l : Launch} {d n0 : Nat} {Qp : PQ} {ls : List (Option PV)} {st : List PV} {h : PMem} (hd : 1 ≤ d) (hN : n0 ≤ NC) (hw : wp n0 (fun t => At l d 158 n0 Qp t) (CallP (d - 1)) Qp k_158_170 ls st h) : At l d 158 n0 Qp 170 ls st h := sound g_158.2.1 (by rw [g_158.2.2.2]; exact hN) hd k_158_170 170 k_158_170_ok ls st h (by rw [g_158.2.2.2]; exact hw)
theorem l_158_177 {l : Launch} {d n0 : Nat} {Qp : PQ} {ls : List (Option PV)} {st : List PV} {h : PMem} (hd : 1 ≤ d) (hN : n0 ≤ NC) (hw : wp n0 (fun t => At l d 158 n0 Qp t) (CallP (d - 1)) Qp k_158_177 ls st h) : At l d 158 n0 Qp 177 ls st h := sound g_158.2.1 (by rw [g_158.2.2.2]; exact hN) hd k_158_177 177 k_158_177_ok ls st h (by rw [g_158.2.2.2]; exact hw)
theorem l_158_192 {l : Launch} {d n0 : Nat} {Qp : PQ} {ls : List (Option PV)} {st : List PV} {h : PMem} (hd : 1 ≤ d) (hN : n0 ≤ NC) (hw : wp n0 (fun t => At l d 158 n0 Qp t) (CallP (d - 1)) Qp k_158_192 ls st h) : At l d 158 n0 Qp 192 ls st h := sound g_158.2.1 (by rw [g_158.2.2.2]; exact hN) hd k_158_192 192 k_158_192_ok ls st h (by rw [g_158.2.2.2]; exact hw)
theorem l_158_209 {l : Launch} {d n0 : Nat} {Qp : PQ} {ls : List (Option PV)} {st : List PV} {h : PMem} (hd : 1 ≤ d) (hN : n0 ≤ NC) (hw : wp n0 (fun t => At l d 158 n0 Qp t) (CallP (d - 1)) Qp k_158_209 ls st h) : At l d 158 n0 Qp 209 ls st h := sound g_158.2.1 (by rw [g_158.2.2.2]; exact hN) hd k_158_209 209 k_158_209_ok ls st h (by rw [g_158.2.2.2]; exact hw)
theorem l_158_228 {l : Launch} {d n0 : Nat} {Qp : PQ} {ls : List (Option PV)} {st : List PV} {h : PMem} (hd : 1 ≤ d) (hN : n0 ≤ NC) (hw : wp n0 (fun t => At l d 158 n0 Qp t) (CallP (d - 1)) Qp k_158_228 ls st h) : At l d 158 n0 Qp 228 ls st h := sound g_158.2.1 (by rw [g_158.2.2.2]; exact hN) hd k_158_228 228 k_158_228_ok ls st h (by rw [g_158.2.2.2]; exact hw)
theorem l_158_247 {l : Launch} {d n0 : Nat} {Qp : PQ} {ls : List (Option PV)} {st : List PV} {h : PMem} (hd : 1 ≤ d) (hN : n0 ≤ NC) (hw : wp n0 (fun t => At l d 158 n0 Qp t) (CallP (d - 1)) Qp k_158_247 ls st h) : At l d 158 n0 Qp 247 ls st h := sound g_158.2.1 (by rw [g_158.2.2.2]; exact hN) hd k_158_247 247 k_158_247_ok ls st h (by rw [g_158.2.2.2]; exact hw)
theorem l_158_258 {l : Launch} {d n0 : Nat} {Qp : PQ} {ls : List (Option PV)} {st : List PV} {h : PMem} (hd : 1 ≤ d) (hN : n0 ≤ NC) (hw : wp n0 (fun t => At l d 158 n0 Qp t) (CallP (d - 1)) Qp k_158_258 ls st h) : At l d 158 n0 Qp 258 ls st h := sound g_158.2.1 (by rw [g_158.2.2.2]; exact hN) hd k_158_258 258 k_158_258_ok ls st h (by rw [g_158.2.2.2]; exact hw)
theorem f_159 : (((plainName (mY 159).cls && decide (rN (oN 159) = (mY 159).cls)) && decide (mML 159 = 3)) && decide (aC 159 = 0)) = true := by decide +kernel
theorem g_159 : plainName (mY 159).cls = true ∧ rN (oN 159) = (mY 159).cls ∧ mML 159 = 3 ∧ aC 159 = 0 := by
  have h := f_159
  simp only [Bool.and_eq_true, decide_eq_true_eq] at h
  exact ⟨h.1.1.1, h.1.1.2, h.1.2, h.2⟩
theorem s_159 {d : Nat} {Qp : PQ} {v0 : PV} {h : PMem} (hd : 1 ≤ d) (hN : h.1 ≤ NC) (c0 : pcat v0 = 1 := by rfl) (hw : ∀ l, wp h.1 (fun t => At l d 159 h.1 (Qn h.1 Qp) t) (CallP (d - 1)) (Qn h.1 Qp) k_159_0 [some v0, none, none] [] h) : CallP d 159 [v0] h Qp := by
  refine call_of g_159.1 (by rw [g_159.2.2.1]; simp only [pcats, c0, pcatL]; decide) (fun l => ?_)
  have e : ent (mML 159) [v0] = [some v0, none, none] := by rw [g_159.2.2.1]; simp [ent, pcats, c0, pcatL, List.replicate]
  rw [e]
  refine sound g_159.2.1 (by rw [g_159.2.2.2]; exact hN) hd k_159_0 0 k_159_0_ok _ _ _ ?_
  rw [g_159.2.2.2]
  exact hw l
theorem l_159_24 {l : Launch} {d n0 : Nat} {Qp : PQ} {ls : List (Option PV)} {st : List PV} {h : PMem} (hd : 1 ≤ d) (hN : n0 ≤ NC) (hw : wp n0 (fun t => At l d 159 n0 Qp t) (CallP (d - 1)) Qp k_159_24 ls st h) : At l d 159 n0 Qp 24 ls st h := sound g_159.2.1 (by rw [g_159.2.2.2]; exact hN) hd k_159_24 24 k_159_24_ok ls st h (by rw [g_159.2.2.2]; exact hw)
theorem l_159_35 {l : Launch} {d n0 : Nat} {Qp : PQ} {ls : List (Option PV)} {st : List PV} {h : PMem} (hd : 1 ≤ d) (hN : n0 ≤ NC) (hw : wp n0 (fun t => At l d 159 n0 Qp t) (CallP (d - 1)) Qp k_159_35 ls st h) : At l d 159 n0 Qp 35 ls st h := sound g_159.2.1 (by rw [g_159.2.2.2]; exact hN) hd k_159_35 35 k_159_35_ok ls st h (by rw [g_159.2.2.2]; exact hw)
theorem l_159_53 {l : Launch} {d n0 : Nat} {Qp : PQ} {ls : List (Option PV)} {st : List PV} {h : PMem} (hd : 1 ≤ d) (hN : n0 ≤ NC) (hw : wp n0 (fun t => At l d 159 n0 Qp t) (CallP (d - 1)) Qp k_159_53 ls st h) : At l d 159 n0 Qp 53 ls st h := sound g_159.2.1 (by rw [g_159.2.2.2]; exact hN) hd k_159_53 53 k_159_53_ok ls st h (by rw [g_159.2.2.2]; exact hw)
theorem l_159_54 {l : Launch} {d n0 : Nat} {Qp : PQ} {ls : List (Option PV)} {st : List PV} {h : PMem} (hd : 1 ≤ d) (hN : n0 ≤ NC) (hw : wp n0 (fun t => At l d 159 n0 Qp t) (CallP (d - 1)) Qp k_159_54 ls st h) : At l d 159 n0 Qp 54 ls st h := sound g_159.2.1 (by rw [g_159.2.2.2]; exact hN) hd k_159_54 54 k_159_54_ok ls st h (by rw [g_159.2.2.2]; exact hw)
theorem l_159_62 {l : Launch} {d n0 : Nat} {Qp : PQ} {ls : List (Option PV)} {st : List PV} {h : PMem} (hd : 1 ≤ d) (hN : n0 ≤ NC) (hw : wp n0 (fun t => At l d 159 n0 Qp t) (CallP (d - 1)) Qp k_159_62 ls st h) : At l d 159 n0 Qp 62 ls st h := sound g_159.2.1 (by rw [g_159.2.2.2]; exact hN) hd k_159_62 62 k_159_62_ok ls st h (by rw [g_159.2.2.2]; exact hw)
theorem l_159_63 {l : Launch} {d n0 : Nat} {Qp : PQ} {ls : List (Option PV)} {st : List PV} {h : PMem} (hd : 1 ≤ d) (hN : n0 ≤ NC) (hw : wp n0 (fun t => At l d 159 n0 Qp t) (CallP (d - 1)) Qp k_159_63 ls st h) : At l d 159 n0 Qp 63 ls st h := sound g_159.2.1 (by rw [g_159.2.2.2]; exact hN) hd k_159_63 63 k_159_63_ok ls st h (by rw [g_159.2.2.2]; exact hw)
theorem l_159_77 {l : Launch} {d n0 : Nat} {Qp : PQ} {ls : List (Option PV)} {st : List PV} {h : PMem} (hd : 1 ≤ d) (hN : n0 ≤ NC) (hw : wp n0 (fun t => At l d 159 n0 Qp t) (CallP (d - 1)) Qp k_159_77 ls st h) : At l d 159 n0 Qp 77 ls st h := sound g_159.2.1 (by rw [g_159.2.2.2]; exact hN) hd k_159_77 77 k_159_77_ok ls st h (by rw [g_159.2.2.2]; exact hw)
theorem l_159_79 {l : Launch} {d n0 : Nat} {Qp : PQ} {ls : List (Option PV)} {st : List PV} {h : PMem} (hd : 1 ≤ d) (hN : n0 ≤ NC) (hw : wp n0 (fun t => At l d 159 n0 Qp t) (CallP (d - 1)) Qp k_159_79 ls st h) : At l d 159 n0 Qp 79 ls st h := sound g_159.2.1 (by rw [g_159.2.2.2]; exact hN) hd k_159_79 79 k_159_79_ok ls st h (by rw [g_159.2.2.2]; exact hw)
theorem l_159_100 {l : Launch} {d n0 : Nat} {Qp : PQ} {ls : List (Option PV)} {st : List PV} {h : PMem} (hd : 1 ≤ d) (hN : n0 ≤ NC) (hw : wp n0 (fun t => At l d 159 n0 Qp t) (CallP (d - 1)) Qp k_159_100 ls st h) : At l d 159 n0 Qp 100 ls st h := sound g_159.2.1 (by rw [g_159.2.2.2]; exact hN) hd k_159_100 100 k_159_100_ok ls st h (by rw [g_159.2.2.2]; exact hw)
theorem l_159_110 {l : Launch} {d n0 : Nat} {Qp : PQ} {ls : List (Option PV)} {st : List PV} {h : PMem} (hd : 1 ≤ d) (hN : n0 ≤ NC) (hw : wp n0 (fun t => At l d 159 n0 Qp t) (CallP (d - 1)) Qp k_159_110 ls st h) : At l d 159 n0 Qp 110 ls st h := sound g_159.2.1 (by rw [g_159.2.2.2]; exact hN) hd k_159_110 110 k_159_110_ok ls st h (by rw [g_159.2.2.2]; exact hw)
theorem f_160 : (((plainName (mY 160).cls && decide (rN (oN 160) = (mY 160).cls)) && decide (mML 160 = 2)) && decide (aC 160 = 0)) = true := by decide +kernel
theorem g_160 : plainName (mY 160).cls = true ∧ rN (oN 160) = (mY 160).cls ∧ mML 160 = 2 ∧ aC 160 = 0 := by
  have h := f_160
  simp only [Bool.and_eq_true, decide_eq_true_eq] at h
  exact ⟨h.1.1.1, h.1.1.2, h.1.2, h.2⟩
theorem s_160 {d : Nat} {Qp : PQ} {v0 : PV} {h : PMem} (hd : 1 ≤ d) (hN : h.1 ≤ NC) (c0 : pcat v0 = 1 := by rfl) (hw : ∀ l, wp h.1 (fun t => At l d 160 h.1 (Qn h.1 Qp) t) (CallP (d - 1)) (Qn h.1 Qp) k_160_0 [some v0, none] [] h) : CallP d 160 [v0] h Qp := by
  refine call_of g_160.1 (by rw [g_160.2.2.1]; simp only [pcats, c0, pcatL]; decide) (fun l => ?_)
  have e : ent (mML 160) [v0] = [some v0, none] := by rw [g_160.2.2.1]; simp [ent, pcats, c0, pcatL, List.replicate]
  rw [e]
  refine sound g_160.2.1 (by rw [g_160.2.2.2]; exact hN) hd k_160_0 0 k_160_0_ok _ _ _ ?_
  rw [g_160.2.2.2]
  exact hw l
theorem l_160_18 {l : Launch} {d n0 : Nat} {Qp : PQ} {ls : List (Option PV)} {st : List PV} {h : PMem} (hd : 1 ≤ d) (hN : n0 ≤ NC) (hw : wp n0 (fun t => At l d 160 n0 Qp t) (CallP (d - 1)) Qp k_160_18 ls st h) : At l d 160 n0 Qp 18 ls st h := sound g_160.2.1 (by rw [g_160.2.2.2]; exact hN) hd k_160_18 18 k_160_18_ok ls st h (by rw [g_160.2.2.2]; exact hw)
theorem l_160_35 {l : Launch} {d n0 : Nat} {Qp : PQ} {ls : List (Option PV)} {st : List PV} {h : PMem} (hd : 1 ≤ d) (hN : n0 ≤ NC) (hw : wp n0 (fun t => At l d 160 n0 Qp t) (CallP (d - 1)) Qp k_160_35 ls st h) : At l d 160 n0 Qp 35 ls st h := sound g_160.2.1 (by rw [g_160.2.2.2]; exact hN) hd k_160_35 35 k_160_35_ok ls st h (by rw [g_160.2.2.2]; exact hw)
theorem f_161 : (((plainName (mY 161).cls && decide (rN (oN 161) = (mY 161).cls)) && decide (mML 161 = 6)) && decide (aC 161 = 0)) = true := by decide +kernel
theorem g_161 : plainName (mY 161).cls = true ∧ rN (oN 161) = (mY 161).cls ∧ mML 161 = 6 ∧ aC 161 = 0 := by
  have h := f_161
  simp only [Bool.and_eq_true, decide_eq_true_eq] at h
  exact ⟨h.1.1.1, h.1.1.2, h.1.2, h.2⟩
theorem s_161 {d : Nat} {Qp : PQ} {v0 : PV} {h : PMem} (hd : 1 ≤ d) (hN : h.1 ≤ NC) (c0 : pcat v0 = 1 := by rfl) (hw : ∀ l, wp h.1 (fun t => At l d 161 h.1 (Qn h.1 Qp) t) (CallP (d - 1)) (Qn h.1 Qp) k_161_0 [some v0, none, none, none, none, none] [] h) : CallP d 161 [v0] h Qp := by
  refine call_of g_161.1 (by rw [g_161.2.2.1]; simp only [pcats, c0, pcatL]; decide) (fun l => ?_)
  have e : ent (mML 161) [v0] = [some v0, none, none, none, none, none] := by rw [g_161.2.2.1]; simp [ent, pcats, c0, pcatL, List.replicate]
  rw [e]
  refine sound g_161.2.1 (by rw [g_161.2.2.2]; exact hN) hd k_161_0 0 k_161_0_ok _ _ _ ?_
  rw [g_161.2.2.2]
  exact hw l
theorem l_161_2 {l : Launch} {d n0 : Nat} {Qp : PQ} {ls : List (Option PV)} {st : List PV} {h : PMem} (hd : 1 ≤ d) (hN : n0 ≤ NC) (hw : wp n0 (fun t => At l d 161 n0 Qp t) (CallP (d - 1)) Qp k_161_2 ls st h) : At l d 161 n0 Qp 2 ls st h := sound g_161.2.1 (by rw [g_161.2.2.2]; exact hN) hd k_161_2 2 k_161_2_ok ls st h (by rw [g_161.2.2.2]; exact hw)
theorem l_161_21 {l : Launch} {d n0 : Nat} {Qp : PQ} {ls : List (Option PV)} {st : List PV} {h : PMem} (hd : 1 ≤ d) (hN : n0 ≤ NC) (hw : wp n0 (fun t => At l d 161 n0 Qp t) (CallP (d - 1)) Qp k_161_21 ls st h) : At l d 161 n0 Qp 21 ls st h := sound g_161.2.1 (by rw [g_161.2.2.2]; exact hN) hd k_161_21 21 k_161_21_ok ls st h (by rw [g_161.2.2.2]; exact hw)
theorem l_161_22 {l : Launch} {d n0 : Nat} {Qp : PQ} {ls : List (Option PV)} {st : List PV} {h : PMem} (hd : 1 ≤ d) (hN : n0 ≤ NC) (hw : wp n0 (fun t => At l d 161 n0 Qp t) (CallP (d - 1)) Qp k_161_22 ls st h) : At l d 161 n0 Qp 22 ls st h := sound g_161.2.1 (by rw [g_161.2.2.2]; exact hN) hd k_161_22 22 k_161_22_ok ls st h (by rw [g_161.2.2.2]; exact hw)
theorem l_161_29 {l : Launch} {d n0 : Nat} {Qp : PQ} {ls : List (Option PV)} {st : List PV} {h : PMem} (hd : 1 ≤ d) (hN : n0 ≤ NC) (hw : wp n0 (fun t => At l d 161 n0 Qp t) (CallP (d - 1)) Qp k_161_29 ls st h) : At l d 161 n0 Qp 29 ls st h := sound g_161.2.1 (by rw [g_161.2.2.2]; exact hN) hd k_161_29 29 k_161_29_ok ls st h (by rw [g_161.2.2.2]; exact hw)
theorem l_161_31 {l : Launch} {d n0 : Nat} {Qp : PQ} {ls : List (Option PV)} {st : List PV} {h : PMem} (hd : 1 ≤ d) (hN : n0 ≤ NC) (hw : wp n0 (fun t => At l d 161 n0 Qp t) (CallP (d - 1)) Qp k_161_31 ls st h) : At l d 161 n0 Qp 31 ls st h := sound g_161.2.1 (by rw [g_161.2.2.2]; exact hN) hd k_161_31 31 k_161_31_ok ls st h (by rw [g_161.2.2.2]; exact hw)
theorem l_161_39 {l : Launch} {d n0 : Nat} {Qp : PQ} {ls : List (Option PV)} {st : List PV} {h : PMem} (hd : 1 ≤ d) (hN : n0 ≤ NC) (hw : wp n0 (fun t => At l d 161 n0 Qp t) (CallP (d - 1)) Qp k_161_39 ls st h) : At l d 161 n0 Qp 39 ls st h := sound g_161.2.1 (by rw [g_161.2.2.2]; exact hN) hd k_161_39 39 k_161_39_ok ls st h (by rw [g_161.2.2.2]; exact hw)
theorem l_161_51 {l : Launch} {d n0 : Nat} {Qp : PQ} {ls : List (Option PV)} {st : List PV} {h : PMem} (hd : 1 ≤ d) (hN : n0 ≤ NC) (hw : wp n0 (fun t => At l d 161 n0 Qp t) (CallP (d - 1)) Qp k_161_51 ls st h) : At l d 161 n0 Qp 51 ls st h := sound g_161.2.1 (by rw [g_161.2.2.2]; exact hN) hd k_161_51 51 k_161_51_ok ls st h (by rw [g_161.2.2.2]; exact hw)
theorem l_161_120 {l : Launch} {d n0 : Nat} {Qp : PQ} {ls : List (Option PV)} {st : List PV} {h : PMem} (hd : 1 ≤ d) (hN : n0 ≤ NC) (hw : wp n0 (fun t => At l d 161 n0 Qp t) (CallP (d - 1)) Qp k_161_120 ls st h) : At l d 161 n0 Qp 120 ls st h := sound g_161.2.1 (by rw [g_161.2.2.2]; exact hN) hd k_161_120 120 k_161_120_ok ls st h (by rw [g_161.2.2.2]; exact hw)
theorem l_161_124 {l : Launch} {d n0 : Nat} {Qp : PQ} {ls : List (Option PV)} {st : List PV} {h : PMem} (hd : 1 ≤ d) (hN : n0 ≤ NC) (hw : wp n0 (fun t => At l d 161 n0 Qp t) (CallP (d - 1)) Qp k_161_124 ls st h) : At l d 161 n0 Qp 124 ls st h := sound g_161.2.1 (by rw [g_161.2.2.2]; exact hN) hd k_161_124 124 k_161_124_ok ls st h (by rw [g_161.2.2.2]; exact hw)
theorem l_161_125 {l : Launch} {d n0 : Nat} {Qp : PQ} {ls : List (Option PV)} {st : List PV} {h : PMem} (hd : 1 ≤ d) (hN : n0 ≤ NC) (hw : wp n0 (fun t => At l d 161 n0 Qp t) (CallP (d - 1)) Qp k_161_125 ls st h) : At l d 161 n0 Qp 125 ls st h := sound g_161.2.1 (by rw [g_161.2.2.2]; exact hN) hd k_161_125 125 k_161_125_ok ls st h (by rw [g_161.2.2.2]; exact hw)
theorem l_161_149 {l : Launch} {d n0 : Nat} {Qp : PQ} {ls : List (Option PV)} {st : List PV} {h : PMem} (hd : 1 ≤ d) (hN : n0 ≤ NC) (hw : wp n0 (fun t => At l d 161 n0 Qp t) (CallP (d - 1)) Qp k_161_149 ls st h) : At l d 161 n0 Qp 149 ls st h := sound g_161.2.1 (by rw [g_161.2.2.2]; exact hN) hd k_161_149 149 k_161_149_ok ls st h (by rw [g_161.2.2.2]; exact hw)
theorem l_161_155 {l : Launch} {d n0 : Nat} {Qp : PQ} {ls : List (Option PV)} {st : List PV} {h : PMem} (hd : 1 ≤ d) (hN : n0 ≤ NC) (hw : wp n0 (fun t => At l d 161 n0 Qp t) (CallP (d - 1)) Qp k_161_155 ls st h) : At l d 161 n0 Qp 155 ls st h := sound g_161.2.1 (by rw [g_161.2.2.2]; exact hN) hd k_161_155 155 k_161_155_ok ls st h (by rw [g_161.2.2.2]; exact hw)
theorem l_161_162 {l : Launch} {d n0 : Nat} {Qp : PQ} {ls : List (Option PV)} {st : List PV} {h : PMem} (hd : 1 ≤ d) (hN : n0 ≤ NC) (hw : wp n0 (fun t => At l d 161 n0 Qp t) (CallP (d - 1)) Qp k_161_162 ls st h) : At l d 161 n0 Qp 162 ls st h := sound g_161.2.1 (by rw [g_161.2.2.2]; exact hN) hd k_161_162 162 k_161_162_ok ls st h (by rw [g_161.2.2.2]; exact hw)
theorem l_161_168 {l : Launch} {d n0 : Nat} {Qp : PQ} {ls : List (Option PV)} {st : List PV} {h : PMem} (hd : 1 ≤ d) (hN : n0 ≤ NC) (hw : wp n0 (fun t => At l d 161 n0 Qp t) (CallP (d - 1)) Qp k_161_168 ls st h) : At l d 161 n0 Qp 168 ls st h := sound g_161.2.1 (by rw [g_161.2.2.2]; exact hN) hd k_161_168 168 k_161_168_ok ls st h (by rw [g_161.2.2.2]; exact hw)
theorem l_161_174 {l : Launch} {d n0 : Nat} {Qp : PQ} {ls : List (Option PV)} {st : List PV} {h : PMem} (hd : 1 ≤ d) (hN : n0 ≤ NC) (hw : wp n0 (fun t => At l d 161 n0 Qp t) (CallP (d - 1)) Qp k_161_174 ls st h) : At l d 161 n0 Qp 174 ls st h := sound g_161.2.1 (by rw [g_161.2.2.2]; exact hN) hd k_161_174 174 k_161_174_ok ls st h (by rw [g_161.2.2.2]; exact hw)
theorem f_162 : (((plainName (mY 162).cls && decide (rN (oN 162) = (mY 162).cls)) && decide (mML 162 = 3)) && decide (aC 162 = 0)) = true := by decide +kernel
theorem g_162 : plainName (mY 162).cls = true ∧ rN (oN 162) = (mY 162).cls ∧ mML 162 = 3 ∧ aC 162 = 0 := by
  have h := f_162
  simp only [Bool.and_eq_true, decide_eq_true_eq] at h
  exact ⟨h.1.1.1, h.1.1.2, h.1.2, h.2⟩
theorem s_162 {d : Nat} {Qp : PQ} {v0 : PV} {v1 : PV} {v2 : PV} {h : PMem} (hd : 1 ≤ d) (hN : h.1 ≤ NC) (c0 : pcat v0 = 1 := by rfl) (c1 : pcat v1 = 1 := by rfl) (c2 : pcat v2 = 1 := by rfl) (hw : ∀ l, wp h.1 (fun t => At l d 162 h.1 (Qn h.1 Qp) t) (CallP (d - 1)) (Qn h.1 Qp) k_162_0 [some v0, some v1, some v2] [] h) : CallP d 162 [v0, v1, v2] h Qp := by
  refine call_of g_162.1 (by rw [g_162.2.2.1]; simp only [pcats, c0, c1, c2, pcatL]; decide) (fun l => ?_)
  have e : ent (mML 162) [v0, v1, v2] = [some v0, some v1, some v2] := by rw [g_162.2.2.1]; simp [ent, pcats, c0, c1, c2, pcatL, List.replicate]
  rw [e]
  refine sound g_162.2.1 (by rw [g_162.2.2.2]; exact hN) hd k_162_0 0 k_162_0_ok _ _ _ ?_
  rw [g_162.2.2.2]
  exact hw l
theorem l_162_38 {l : Launch} {d n0 : Nat} {Qp : PQ} {ls : List (Option PV)} {st : List PV} {h : PMem} (hd : 1 ≤ d) (hN : n0 ≤ NC) (hw : wp n0 (fun t => At l d 162 n0 Qp t) (CallP (d - 1)) Qp k_162_38 ls st h) : At l d 162 n0 Qp 38 ls st h := sound g_162.2.1 (by rw [g_162.2.2.2]; exact hN) hd k_162_38 38 k_162_38_ok ls st h (by rw [g_162.2.2.2]; exact hw)
theorem l_162_39 {l : Launch} {d n0 : Nat} {Qp : PQ} {ls : List (Option PV)} {st : List PV} {h : PMem} (hd : 1 ≤ d) (hN : n0 ≤ NC) (hw : wp n0 (fun t => At l d 162 n0 Qp t) (CallP (d - 1)) Qp k_162_39 ls st h) : At l d 162 n0 Qp 39 ls st h := sound g_162.2.1 (by rw [g_162.2.2.2]; exact hN) hd k_162_39 39 k_162_39_ok ls st h (by rw [g_162.2.2.2]; exact hw)
theorem f_163 : (((plainName (mY 163).cls && decide (rN (oN 163) = (mY 163).cls)) && decide (mML 163 = 4)) && decide (aC 163 = 0)) = true := by decide +kernel
theorem g_163 : plainName (mY 163).cls = true ∧ rN (oN 163) = (mY 163).cls ∧ mML 163 = 4 ∧ aC 163 = 0 := by
  have h := f_163
  simp only [Bool.and_eq_true, decide_eq_true_eq] at h
  exact ⟨h.1.1.1, h.1.1.2, h.1.2, h.2⟩
theorem s_163 {d : Nat} {Qp : PQ} {v0 : PV} {v1 : PV} {h : PMem} (hd : 1 ≤ d) (hN : h.1 ≤ NC) (c0 : pcat v0 = 1 := by rfl) (c1 : pcat v1 = 1 := by rfl) (hw : ∀ l, wp h.1 (fun t => At l d 163 h.1 (Qn h.1 Qp) t) (CallP (d - 1)) (Qn h.1 Qp) k_163_0 [some v0, some v1, none, none] [] h) : CallP d 163 [v0, v1] h Qp := by
  refine call_of g_163.1 (by rw [g_163.2.2.1]; simp only [pcats, c0, c1, pcatL]; decide) (fun l => ?_)
  have e : ent (mML 163) [v0, v1] = [some v0, some v1, none, none] := by rw [g_163.2.2.1]; simp [ent, pcats, c0, c1, pcatL, List.replicate]
  rw [e]
  refine sound g_163.2.1 (by rw [g_163.2.2.2]; exact hN) hd k_163_0 0 k_163_0_ok _ _ _ ?_
  rw [g_163.2.2.2]
  exact hw l
theorem l_163_8 {l : Launch} {d n0 : Nat} {Qp : PQ} {ls : List (Option PV)} {st : List PV} {h : PMem} (hd : 1 ≤ d) (hN : n0 ≤ NC) (hw : wp n0 (fun t => At l d 163 n0 Qp t) (CallP (d - 1)) Qp k_163_8 ls st h) : At l d 163 n0 Qp 8 ls st h := sound g_163.2.1 (by rw [g_163.2.2.2]; exact hN) hd k_163_8 8 k_163_8_ok ls st h (by rw [g_163.2.2.2]; exact hw)
theorem l_163_34 {l : Launch} {d n0 : Nat} {Qp : PQ} {ls : List (Option PV)} {st : List PV} {h : PMem} (hd : 1 ≤ d) (hN : n0 ≤ NC) (hw : wp n0 (fun t => At l d 163 n0 Qp t) (CallP (d - 1)) Qp k_163_34 ls st h) : At l d 163 n0 Qp 34 ls st h := sound g_163.2.1 (by rw [g_163.2.2.2]; exact hN) hd k_163_34 34 k_163_34_ok ls st h (by rw [g_163.2.2.2]; exact hw)
theorem l_163_35 {l : Launch} {d n0 : Nat} {Qp : PQ} {ls : List (Option PV)} {st : List PV} {h : PMem} (hd : 1 ≤ d) (hN : n0 ≤ NC) (hw : wp n0 (fun t => At l d 163 n0 Qp t) (CallP (d - 1)) Qp k_163_35 ls st h) : At l d 163 n0 Qp 35 ls st h := sound g_163.2.1 (by rw [g_163.2.2.2]; exact hN) hd k_163_35 35 k_163_35_ok ls st h (by rw [g_163.2.2.2]; exact hw)
theorem l_163_43 {l : Launch} {d n0 : Nat} {Qp : PQ} {ls : List (Option PV)} {st : List PV} {h : PMem} (hd : 1 ≤ d) (hN : n0 ≤ NC) (hw : wp n0 (fun t => At l d 163 n0 Qp t) (CallP (d - 1)) Qp k_163_43 ls st h) : At l d 163 n0 Qp 43 ls st h := sound g_163.2.1 (by rw [g_163.2.2.2]; exact hN) hd k_163_43 43 k_163_43_ok ls st h (by rw [g_163.2.2.2]; exact hw)
theorem f_164 : (((plainName (mY 164).cls && decide (rN (oN 164) = (mY 164).cls)) && decide (mML 164 = 3)) && decide (aC 164 = 0)) = true := by decide +kernel
theorem g_164 : plainName (mY 164).cls = true ∧ rN (oN 164) = (mY 164).cls ∧ mML 164 = 3 ∧ aC 164 = 0 := by
  have h := f_164
  simp only [Bool.and_eq_true, decide_eq_true_eq] at h
  exact ⟨h.1.1.1, h.1.1.2, h.1.2, h.2⟩
theorem s_164 {d : Nat} {Qp : PQ} {v0 : PV} {v1 : PV} {v2 : PV} {h : PMem} (hd : 1 ≤ d) (hN : h.1 ≤ NC) (c0 : pcat v0 = 1 := by rfl) (c1 : pcat v1 = 1 := by rfl) (c2 : pcat v2 = 1 := by rfl) (hw : ∀ l, wp h.1 (fun t => At l d 164 h.1 (Qn h.1 Qp) t) (CallP (d - 1)) (Qn h.1 Qp) k_164_0 [some v0, some v1, some v2] [] h) : CallP d 164 [v0, v1, v2] h Qp := by
  refine call_of g_164.1 (by rw [g_164.2.2.1]; simp only [pcats, c0, c1, c2, pcatL]; decide) (fun l => ?_)
  have e : ent (mML 164) [v0, v1, v2] = [some v0, some v1, some v2] := by rw [g_164.2.2.1]; simp [ent, pcats, c0, c1, c2, pcatL, List.replicate]
  rw [e]
  refine sound g_164.2.1 (by rw [g_164.2.2.2]; exact hN) hd k_164_0 0 k_164_0_ok _ _ _ ?_
  rw [g_164.2.2.2]
  exact hw l
theorem f_165 : (((plainName (mY 165).cls && decide (rN (oN 165) = (mY 165).cls)) && decide (mML 165 = 6)) && decide (aC 165 = 0)) = true := by decide +kernel
theorem g_165 : plainName (mY 165).cls = true ∧ rN (oN 165) = (mY 165).cls ∧ mML 165 = 6 ∧ aC 165 = 0 := by
  have h := f_165
  simp only [Bool.and_eq_true, decide_eq_true_eq] at h
  exact ⟨h.1.1.1, h.1.1.2, h.1.2, h.2⟩
theorem s_165 {d : Nat} {Qp : PQ} {v0 : PV} {v1 : PV} {v2 : PV} {v3 : PV} {h : PMem} (hd : 1 ≤ d) (hN : h.1 ≤ NC) (c0 : pcat v0 = 1 := by rfl) (c1 : pcat v1 = 1 := by rfl) (c2 : pcat v2 = 1 := by rfl) (c3 : pcat v3 = 1 := by rfl) (hw : ∀ l, wp h.1 (fun t => At l d 165 h.1 (Qn h.1 Qp) t) (CallP (d - 1)) (Qn h.1 Qp) k_165_0 [some v0, some v1, some v2, some v3, none, none] [] h) : CallP d 165 [v0, v1, v2, v3] h Qp := by
  refine call_of g_165.1 (by rw [g_165.2.2.1]; simp only [pcats, c0, c1, c2, c3, pcatL]; decide) (fun l => ?_)
  have e : ent (mML 165) [v0, v1, v2, v3] = [some v0, some v1, some v2, some v3, none, none] := by rw [g_165.2.2.1]; simp [ent, pcats, c0, c1, c2, c3, pcatL, List.replicate]
  rw [e]
  refine sound g_165.2.1 (by rw [g_165.2.2.2]; exact hN) hd k_165_0 0 k_165_0_ok _ _ _ ?_
  rw [g_165.2.2.2]
  exact hw l
theorem l_165_52 {l : Launch} {d n0 : Nat} {Qp : PQ} {ls : List (Option PV)} {st : List PV} {h : PMem} (hd : 1 ≤ d) (hN : n0 ≤ NC) (hw : wp n0 (fun t => At l d 165 n0 Qp t) (CallP (d - 1)) Qp k_165_52 ls st h) : At l d 165 n0 Qp 52 ls st h := sound g_165.2.1 (by rw [g_165.2.2.2]; exact hN) hd k_165_52 52 k_165_52_ok ls st h (by rw [g_165.2.2.2]; exact hw)
theorem l_165_55 {l : Launch} {d n0 : Nat} {Qp : PQ} {ls : List (Option PV)} {st : List PV} {h : PMem} (hd : 1 ≤ d) (hN : n0 ≤ NC) (hw : wp n0 (fun t => At l d 165 n0 Qp t) (CallP (d - 1)) Qp k_165_55 ls st h) : At l d 165 n0 Qp 55 ls st h := sound g_165.2.1 (by rw [g_165.2.2.2]; exact hN) hd k_165_55 55 k_165_55_ok ls st h (by rw [g_165.2.2.2]; exact hw)
theorem l_165_61 {l : Launch} {d n0 : Nat} {Qp : PQ} {ls : List (Option PV)} {st : List PV} {h : PMem} (hd : 1 ≤ d) (hN : n0 ≤ NC) (hw : wp n0 (fun t => At l d 165 n0 Qp t) (CallP (d - 1)) Qp k_165_61 ls st h) : At l d 165 n0 Qp 61 ls st h := sound g_165.2.1 (by rw [g_165.2.2.2]; exact hN) hd k_165_61 61 k_165_61_ok ls st h (by rw [g_165.2.2.2]; exact hw)
theorem l_165_72 {l : Launch} {d n0 : Nat} {Qp : PQ} {ls : List (Option PV)} {st : List PV} {h : PMem} (hd : 1 ≤ d) (hN : n0 ≤ NC) (hw : wp n0 (fun t => At l d 165 n0 Qp t) (CallP (d - 1)) Qp k_165_72 ls st h) : At l d 165 n0 Qp 72 ls st h := sound g_165.2.1 (by rw [g_165.2.2.2]; exact hN) hd k_165_72 72 k_165_72_ok ls st h (by rw [g_165.2.2.2]; exact hw)
theorem l_165_82 {l : Launch} {d n0 : Nat} {Qp : PQ} {ls : List (Option PV)} {st : List PV} {h : PMem} (hd : 1 ≤ d) (hN : n0 ≤ NC) (hw : wp n0 (fun t => At l d 165 n0 Qp t) (CallP (d - 1)) Qp k_165_82 ls st h) : At l d 165 n0 Qp 82 ls st h := sound g_165.2.1 (by rw [g_165.2.2.2]; exact hN) hd k_165_82 82 k_165_82_ok ls st h (by rw [g_165.2.2.2]; exact hw)
theorem f_166 : (((plainName (mY 166).cls && decide (rN (oN 166) = (mY 166).cls)) && decide (mML 166 = 1)) && decide (aC 166 = 0)) = true := by decide +kernel
theorem g_166 : plainName (mY 166).cls = true ∧ rN (oN 166) = (mY 166).cls ∧ mML 166 = 1 ∧ aC 166 = 0 := by
  have h := f_166
  simp only [Bool.and_eq_true, decide_eq_true_eq] at h
  exact ⟨h.1.1.1, h.1.1.2, h.1.2, h.2⟩
theorem s_166 {d : Nat} {Qp : PQ} {v0 : PV} {h : PMem} (hd : 1 ≤ d) (hN : h.1 ≤ NC) (c0 : pcat v0 = 1 := by rfl) (hw : ∀ l, wp h.1 (fun t => At l d 166 h.1 (Qn h.1 Qp) t) (CallP (d - 1)) (Qn h.1 Qp) k_166_0 [some v0] [] h) : CallP d 166 [v0] h Qp := by
  refine call_of g_166.1 (by rw [g_166.2.2.1]; simp only [pcats, c0, pcatL]; decide) (fun l => ?_)
  have e : ent (mML 166) [v0] = [some v0] := by rw [g_166.2.2.1]; simp [ent, pcats, c0, pcatL, List.replicate]
  rw [e]
  refine sound g_166.2.1 (by rw [g_166.2.2.2]; exact hN) hd k_166_0 0 k_166_0_ok _ _ _ ?_
  rw [g_166.2.2.2]
  exact hw l
theorem l_166_9 {l : Launch} {d n0 : Nat} {Qp : PQ} {ls : List (Option PV)} {st : List PV} {h : PMem} (hd : 1 ≤ d) (hN : n0 ≤ NC) (hw : wp n0 (fun t => At l d 166 n0 Qp t) (CallP (d - 1)) Qp k_166_9 ls st h) : At l d 166 n0 Qp 9 ls st h := sound g_166.2.1 (by rw [g_166.2.2.2]; exact hN) hd k_166_9 9 k_166_9_ok ls st h (by rw [g_166.2.2.2]; exact hw)
theorem l_166_18 {l : Launch} {d n0 : Nat} {Qp : PQ} {ls : List (Option PV)} {st : List PV} {h : PMem} (hd : 1 ≤ d) (hN : n0 ≤ NC) (hw : wp n0 (fun t => At l d 166 n0 Qp t) (CallP (d - 1)) Qp k_166_18 ls st h) : At l d 166 n0 Qp 18 ls st h := sound g_166.2.1 (by rw [g_166.2.2.2]; exact hN) hd k_166_18 18 k_166_18_ok ls st h (by rw [g_166.2.2.2]; exact hw)
theorem l_166_19 {l : Launch} {d n0 : Nat} {Qp : PQ} {ls : List (Option PV)} {st : List PV} {h : PMem} (hd : 1 ≤ d) (hN : n0 ≤ NC) (hw : wp n0 (fun t => At l d 166 n0 Qp t) (CallP (d - 1)) Qp k_166_19 ls st h) : At l d 166 n0 Qp 19 ls st h := sound g_166.2.1 (by rw [g_166.2.2.2]; exact hN) hd k_166_19 19 k_166_19_ok ls st h (by rw [g_166.2.2.2]; exact hw)
theorem f_167 : (((plainName (mY 167).cls && decide (rN (oN 167) = (mY 167).cls)) && decide (mML 167 = 3)) && decide (aC 167 = 0)) = true := by decide +kernel
theorem g_167 : plainName (mY 167).cls = true ∧ rN (oN 167) = (mY 167).cls ∧ mML 167 = 3 ∧ aC 167 = 0 := by
  have h := f_167
  simp only [Bool.and_eq_true, decide_eq_true_eq] at h
  exact ⟨h.1.1.1, h.1.1.2, h.1.2, h.2⟩
theorem s_167 {d : Nat} {Qp : PQ} {v0 : PV} {v1 : PV} {h : PMem} (hd : 1 ≤ d) (hN : h.1 ≤ NC) (c0 : pcat v0 = 1 := by rfl) (c1 : pcat v1 = 1 := by rfl) (hw : ∀ l, wp h.1 (fun t => At l d 167 h.1 (Qn h.1 Qp) t) (CallP (d - 1)) (Qn h.1 Qp) k_167_0 [some v0, some v1, none] [] h) : CallP d 167 [v0, v1] h Qp := by
  refine call_of g_167.1 (by rw [g_167.2.2.1]; simp only [pcats, c0, c1, pcatL]; decide) (fun l => ?_)
  have e : ent (mML 167) [v0, v1] = [some v0, some v1, none] := by rw [g_167.2.2.1]; simp [ent, pcats, c0, c1, pcatL, List.replicate]
  rw [e]
  refine sound g_167.2.1 (by rw [g_167.2.2.2]; exact hN) hd k_167_0 0 k_167_0_ok _ _ _ ?_
  rw [g_167.2.2.2]
  exact hw l
theorem l_167_22 {l : Launch} {d n0 : Nat} {Qp : PQ} {ls : List (Option PV)} {st : List PV} {h : PMem} (hd : 1 ≤ d) (hN : n0 ≤ NC) (hw : wp n0 (fun t => At l d 167 n0 Qp t) (CallP (d - 1)) Qp k_167_22 ls st h) : At l d 167 n0 Qp 22 ls st h := sound g_167.2.1 (by rw [g_167.2.2.2]; exact hN) hd k_167_22 22 k_167_22_ok ls st h (by rw [g_167.2.2.2]; exact hw)
theorem l_167_30 {l : Launch} {d n0 : Nat} {Qp : PQ} {ls : List (Option PV)} {st : List PV} {h : PMem} (hd : 1 ≤ d) (hN : n0 ≤ NC) (hw : wp n0 (fun t => At l d 167 n0 Qp t) (CallP (d - 1)) Qp k_167_30 ls st h) : At l d 167 n0 Qp 30 ls st h := sound g_167.2.1 (by rw [g_167.2.2.2]; exact hN) hd k_167_30 30 k_167_30_ok ls st h (by rw [g_167.2.2.2]; exact hw)
theorem f_168 : (((plainName (mY 168).cls && decide (rN (oN 168) = (mY 168).cls)) && decide (mML 168 = 3)) && decide (aC 168 = 0)) = true := by decide +kernel
theorem g_168 : plainName (mY 168).cls = true ∧ rN (oN 168) = (mY 168).cls ∧ mML 168 = 3 ∧ aC 168 = 0 := by
  have h := f_168
  simp only [Bool.and_eq_true, decide_eq_true_eq] at h
  exact ⟨h.1.1.1, h.1.1.2, h.1.2, h.2⟩
theorem s_168 {d : Nat} {Qp : PQ} {v0 : PV} {v1 : PV} {v2 : PV} {h : PMem} (hd : 1 ≤ d) (hN : h.1 ≤ NC) (c0 : pcat v0 = 1 := by rfl) (c1 : pcat v1 = 1 := by rfl) (c2 : pcat v2 = 1 := by rfl) (hw : ∀ l, wp h.1 (fun t => At l d 168 h.1 (Qn h.1 Qp) t) (CallP (d - 1)) (Qn h.1 Qp) k_168_0 [some v0, some v1, some v2] [] h) : CallP d 168 [v0, v1, v2] h Qp := by
  refine call_of g_168.1 (by rw [g_168.2.2.1]; simp only [pcats, c0, c1, c2, pcatL]; decide) (fun l => ?_)
  have e : ent (mML 168) [v0, v1, v2] = [some v0, some v1, some v2] := by rw [g_168.2.2.1]; simp [ent, pcats, c0, c1, c2, pcatL, List.replicate]
  rw [e]
  refine sound g_168.2.1 (by rw [g_168.2.2.2]; exact hN) hd k_168_0 0 k_168_0_ok _ _ _ ?_
  rw [g_168.2.2.2]
  exact hw l
theorem f_169 : (((plainName (mY 169).cls && decide (rN (oN 169) = (mY 169).cls)) && decide (mML 169 = 5)) && decide (aC 169 = 0)) = true := by decide +kernel
theorem g_169 : plainName (mY 169).cls = true ∧ rN (oN 169) = (mY 169).cls ∧ mML 169 = 5 ∧ aC 169 = 0 := by
  have h := f_169
  simp only [Bool.and_eq_true, decide_eq_true_eq] at h
  exact ⟨h.1.1.1, h.1.1.2, h.1.2, h.2⟩
theorem s_169 {d : Nat} {Qp : PQ} {v0 : PV} {v1 : PV} {v2 : PV} {v3 : PV} {v4 : PV} {h : PMem} (hd : 1 ≤ d) (hN : h.1 ≤ NC) (c0 : pcat v0 = 1 := by rfl) (c1 : pcat v1 = 1 := by rfl) (c2 : pcat v2 = 1 := by rfl) (c3 : pcat v3 = 1 := by rfl) (c4 : pcat v4 = 1 := by rfl) (hw : ∀ l, wp h.1 (fun t => At l d 169 h.1 (Qn h.1 Qp) t) (CallP (d - 1)) (Qn h.1 Qp) k_169_0 [some v0, some v1, some v2, some v3, some v4] [] h) : CallP d 169 [v0, v1, v2, v3, v4] h Qp := by
  refine call_of g_169.1 (by rw [g_169.2.2.1]; simp only [pcats, c0, c1, c2, c3, c4, pcatL]; decide) (fun l => ?_)
  have e : ent (mML 169) [v0, v1, v2, v3, v4] = [some v0, some v1, some v2, some v3, some v4] := by rw [g_169.2.2.1]; simp [ent, pcats, c0, c1, c2, c3, c4, pcatL, List.replicate]
  rw [e]
  refine sound g_169.2.1 (by rw [g_169.2.2.2]; exact hN) hd k_169_0 0 k_169_0_ok _ _ _ ?_
  rw [g_169.2.2.2]
  exact hw l
theorem l_169_27 {l : Launch} {d n0 : Nat} {Qp : PQ} {ls : List (Option PV)} {st : List PV} {h : PMem} (hd : 1 ≤ d) (hN : n0 ≤ NC) (hw : wp n0 (fun t => At l d 169 n0 Qp t) (CallP (d - 1)) Qp k_169_27 ls st h) : At l d 169 n0 Qp 27 ls st h := sound g_169.2.1 (by rw [g_169.2.2.2]; exact hN) hd k_169_27 27 k_169_27_ok ls st h (by rw [g_169.2.2.2]; exact hw)
theorem l_169_32 {l : Launch} {d n0 : Nat} {Qp : PQ} {ls : List (Option PV)} {st : List PV} {h : PMem} (hd : 1 ≤ d) (hN : n0 ≤ NC) (hw : wp n0 (fun t => At l d 169 n0 Qp t) (CallP (d - 1)) Qp k_169_32 ls st h) : At l d 169 n0 Qp 32 ls st h := sound g_169.2.1 (by rw [g_169.2.2.2]; exact hN) hd k_169_32 32 k_169_32_ok ls st h (by rw [g_169.2.2.2]; exact hw)
theorem l_169_49 {l : Launch} {d n0 : Nat} {Qp : PQ} {ls : List (Option PV)} {st : List PV} {h : PMem} (hd : 1 ≤ d) (hN : n0 ≤ NC) (hw : wp n0 (fun t => At l d 169 n0 Qp t) (CallP (d - 1)) Qp k_169_49 ls st h) : At l d 169 n0 Qp 49 ls st h := sound g_169.2.1 (by rw [g_169.2.2.2]; exact hN) hd k_169_49 49 k_169_49_ok ls st h (by rw [g_169.2.2.2]; exact hw)
theorem l_169_98 {l : Launch} {d n0 : Nat} {Qp : PQ} {ls : List (Option PV)} {st : List PV} {h : PMem} (hd : 1 ≤ d) (hN : n0 ≤ NC) (hw : wp n0 (fun t => At l d 169 n0 Qp t) (CallP (d - 1)) Qp k_169_98 ls st h) : At l d 169 n0 Qp 98 ls st h := sound g_169.2.1 (by rw [g_169.2.2.2]; exact hN) hd k_169_98 98 k_169_98_ok ls st h (by rw [g_169.2.2.2]; exact hw)
theorem l_169_99 {l : Launch} {d n0 : Nat} {Qp : PQ} {ls : List (Option PV)} {st : List PV} {h : PMem} (hd : 1 ≤ d) (hN : n0 ≤ NC) (hw : wp n0 (fun t => At l d 169 n0 Qp t) (CallP (d - 1)) Qp k_169_99 ls st h) : At l d 169 n0 Qp 99 ls st h := sound g_169.2.1 (by rw [g_169.2.2.2]; exact hN) hd k_169_99 99 k_169_99_ok ls st h (by rw [g_169.2.2.2]; exact hw)
theorem f_170 : (((plainName (mY 170).cls && decide (rN (oN 170) = (mY 170).cls)) && decide (mML 170 = 4)) && decide (aC 170 = 0)) = true := by decide +kernel
theorem g_170 : plainName (mY 170).cls = true ∧ rN (oN 170) = (mY 170).cls ∧ mML 170 = 4 ∧ aC 170 = 0 := by
  have h := f_170
  simp only [Bool.and_eq_true, decide_eq_true_eq] at h
  exact ⟨h.1.1.1, h.1.1.2, h.1.2, h.2⟩
theorem s_170 {d : Nat} {Qp : PQ} {v0 : PV} {h : PMem} (hd : 1 ≤ d) (hN : h.1 ≤ NC) (c0 : pcat v0 = 1 := by rfl) (hw : ∀ l, wp h.1 (fun t => At l d 170 h.1 (Qn h.1 Qp) t) (CallP (d - 1)) (Qn h.1 Qp) k_170_0 [some v0, none, none, none] [] h) : CallP d 170 [v0] h Qp := by
  refine call_of g_170.1 (by rw [g_170.2.2.1]; simp only [pcats, c0, pcatL]; decide) (fun l => ?_)
  have e : ent (mML 170) [v0] = [some v0, none, none, none] := by rw [g_170.2.2.1]; simp [ent, pcats, c0, pcatL, List.replicate]
  rw [e]
  refine sound g_170.2.1 (by rw [g_170.2.2.2]; exact hN) hd k_170_0 0 k_170_0_ok _ _ _ ?_
  rw [g_170.2.2.2]
  exact hw l
theorem l_170_14 {l : Launch} {d n0 : Nat} {Qp : PQ} {ls : List (Option PV)} {st : List PV} {h : PMem} (hd : 1 ≤ d) (hN : n0 ≤ NC) (hw : wp n0 (fun t => At l d 170 n0 Qp t) (CallP (d - 1)) Qp k_170_14 ls st h) : At l d 170 n0 Qp 14 ls st h := sound g_170.2.1 (by rw [g_170.2.2.2]; exact hN) hd k_170_14 14 k_170_14_ok ls st h (by rw [g_170.2.2.2]; exact hw)
theorem l_170_42 {l : Launch} {d n0 : Nat} {Qp : PQ} {ls : List (Option PV)} {st : List PV} {h : PMem} (hd : 1 ≤ d) (hN : n0 ≤ NC) (hw : wp n0 (fun t => At l d 170 n0 Qp t) (CallP (d - 1)) Qp k_170_42 ls st h) : At l d 170 n0 Qp 42 ls st h := sound g_170.2.1 (by rw [g_170.2.2.2]; exact hN) hd k_170_42 42 k_170_42_ok ls st h (by rw [g_170.2.2.2]; exact hw)
theorem l_170_52 {l : Launch} {d n0 : Nat} {Qp : PQ} {ls : List (Option PV)} {st : List PV} {h : PMem} (hd : 1 ≤ d) (hN : n0 ≤ NC) (hw : wp n0 (fun t => At l d 170 n0 Qp t) (CallP (d - 1)) Qp k_170_52 ls st h) : At l d 170 n0 Qp 52 ls st h := sound g_170.2.1 (by rw [g_170.2.2.2]; exact hN) hd k_170_52 52 k_170_52_ok ls st h (by rw [g_170.2.2.2]; exact hw)
theorem l_170_67 {l : Launch} {d n0 : Nat} {Qp : PQ} {ls : List (Option PV)} {st : List PV} {h : PMem} (hd : 1 ≤ d) (hN : n0 ≤ NC) (hw : wp n0 (fun t => At l d 170 n0 Qp t) (CallP (d - 1)) Qp k_170_67 ls st h) : At l d 170 n0 Qp 67 ls st h := sound g_170.2.1 (by rw [g_170.2.2.2]; exact hN) hd k_170_67 67 k_170_67_ok ls st h (by rw [g_170.2.2.2]; exact hw)
theorem l_170_99 {l : Launch} {d n0 : Nat} {Qp : PQ} {ls : List (Option PV)} {st : List PV} {h : PMem} (hd : 1 ≤ d) (hN : n0 ≤ NC) (hw : wp n0 (fun t => At l d 170 n0 Qp t) (CallP (d - 1)) Qp k_170_99 ls st h) : At l d 170 n0 Qp 99 ls st h := sound g_170.2.1 (by rw [g_170.2.2.2]; exact hN) hd k_170_99 99 k_170_99_ok ls st h (by rw [g_170.2.2.2]; exact hw)
theorem l_170_101 {l : Launch} {d n0 : Nat} {Qp : PQ} {ls : List (Option PV)} {st : List PV} {h : PMem} (hd : 1 ≤ d) (hN : n0 ≤ NC) (hw : wp n0 (fun t => At l d 170 n0 Qp t) (CallP (d - 1)) Qp k_170_101 ls st h) : At l d 170 n0 Qp 101 ls st h := sound g_170.2.1 (by rw [g_170.2.2.2]; exact hN) hd k_170_101 101 k_170_101_ok ls st h (by rw [g_170.2.2.2]; exact hw)
theorem l_170_108 {l : Launch} {d n0 : Nat} {Qp : PQ} {ls : List (Option PV)} {st : List PV} {h : PMem} (hd : 1 ≤ d) (hN : n0 ≤ NC) (hw : wp n0 (fun t => At l d 170 n0 Qp t) (CallP (d - 1)) Qp k_170_108 ls st h) : At l d 170 n0 Qp 108 ls st h := sound g_170.2.1 (by rw [g_170.2.2.2]; exact hN) hd k_170_108 108 k_170_108_ok ls st h (by rw [g_170.2.2.2]; exact hw)
theorem l_170_149 {l : Launch} {d n0 : Nat} {Qp : PQ} {ls : List (Option PV)} {st : List PV} {h : PMem} (hd : 1 ≤ d) (hN : n0 ≤ NC) (hw : wp n0 (fun t => At l d 170 n0 Qp t) (CallP (d - 1)) Qp k_170_149 ls st h) : At l d 170 n0 Qp 149 ls st h := sound g_170.2.1 (by rw [g_170.2.2.2]; exact hN) hd k_170_149 149 k_170_149_ok ls st h (by rw [g_170.2.2.2]; exact hw)
theorem l_170_155 {l : Launch} {d n0 : Nat} {Qp : PQ} {ls : List (Option PV)} {st : List PV} {h : PMem} (hd : 1 ≤ d) (hN : n0 ≤ NC) (hw : wp n0 (fun t => At l d 170 n0 Qp t) (CallP (d - 1)) Qp k_170_155 ls st h) : At l d 170 n0 Qp 155 ls st h := sound g_170.2.1 (by rw [g_170.2.2.2]; exact hN) hd k_170_155 155 k_170_155_ok ls st h (by rw [g_170.2.2.2]; exact hw)
theorem f_171 : (((plainName (mY 171).cls && decide (rN (oN 171) = (mY 171).cls)) && decide (mML 171 = 7)) && decide (aC 171 = 0)) = true := by decide +kernel
theorem g_171 : plainName (mY 171).cls = true ∧ rN (oN 171) = (mY 171).cls ∧ mML 171 = 7 ∧ aC 171 = 0 := by
  have h := f_171
  simp only [Bool.and_eq_true, decide_eq_true_eq] at h
  exact ⟨h.1.1.1, h.1.1.2, h.1.2, h.2⟩
theorem s_171 {d : Nat} {Qp : PQ} {v0 : PV} {h : PMem} (hd : 1 ≤ d) (hN : h.1 ≤ NC) (c0 : pcat v0 = 1 := by rfl) (hw : ∀ l, wp h.1 (fun t => At l d 171 h.1 (Qn h.1 Qp) t) (CallP (d - 1)) (Qn h.1 Qp) k_171_0 [some v0, none, none, none, none, none, none] [] h) : CallP d 171 [v0] h Qp := by
  refine call_of g_171.1 (by rw [g_171.2.2.1]; simp only [pcats, c0, pcatL]; decide) (fun l => ?_)
  have e : ent (mML 171) [v0] = [some v0, none, none, none, none, none, none] := by rw [g_171.2.2.1]; simp [ent, pcats, c0, pcatL, List.replicate]
  rw [e]
  refine sound g_171.2.1 (by rw [g_171.2.2.2]; exact hN) hd k_171_0 0 k_171_0_ok _ _ _ ?_
  rw [g_171.2.2.2]
  exact hw l
theorem l_171_17 {l : Launch} {d n0 : Nat} {Qp : PQ} {ls : List (Option PV)} {st : List PV} {h : PMem} (hd : 1 ≤ d) (hN : n0 ≤ NC) (hw : wp n0 (fun t => At l d 171 n0 Qp t) (CallP (d - 1)) Qp k_171_17 ls st h) : At l d 171 n0 Qp 17 ls st h := sound g_171.2.1 (by rw [g_171.2.2.2]; exact hN) hd k_171_17 17 k_171_17_ok ls st h (by rw [g_171.2.2.2]; exact hw)
theorem l_171_27 {l : Launch} {d n0 : Nat} {Qp : PQ} {ls : List (Option PV)} {st : List PV} {h : PMem} (hd : 1 ≤ d) (hN : n0 ≤ NC) (hw : wp n0 (fun t => At l d 171 n0 Qp t) (CallP (d - 1)) Qp k_171_27 ls st h) : At l d 171 n0 Qp 27 ls st h := sound g_171.2.1 (by rw [g_171.2.2.2]; exact hN) hd k_171_27 27 k_171_27_ok ls st h (by rw [g_171.2.2.2]; exact hw)
theorem l_171_98 {l : Launch} {d n0 : Nat} {Qp : PQ} {ls : List (Option PV)} {st : List PV} {h : PMem} (hd : 1 ≤ d) (hN : n0 ≤ NC) (hw : wp n0 (fun t => At l d 171 n0 Qp t) (CallP (d - 1)) Qp k_171_98 ls st h) : At l d 171 n0 Qp 98 ls st h := sound g_171.2.1 (by rw [g_171.2.2.2]; exact hN) hd k_171_98 98 k_171_98_ok ls st h (by rw [g_171.2.2.2]; exact hw)
theorem l_171_103 {l : Launch} {d n0 : Nat} {Qp : PQ} {ls : List (Option PV)} {st : List PV} {h : PMem} (hd : 1 ≤ d) (hN : n0 ≤ NC) (hw : wp n0 (fun t => At l d 171 n0 Qp t) (CallP (d - 1)) Qp k_171_103 ls st h) : At l d 171 n0 Qp 103 ls st h := sound g_171.2.1 (by rw [g_171.2.2.2]; exact hN) hd k_171_103 103 k_171_103_ok ls st h (by rw [g_171.2.2.2]; exact hw)
theorem l_171_111 {l : Launch} {d n0 : Nat} {Qp : PQ} {ls : List (Option PV)} {st : List PV} {h : PMem} (hd : 1 ≤ d) (hN : n0 ≤ NC) (hw : wp n0 (fun t => At l d 171 n0 Qp t) (CallP (d - 1)) Qp k_171_111 ls st h) : At l d 171 n0 Qp 111 ls st h := sound g_171.2.1 (by rw [g_171.2.2.2]; exact hN) hd k_171_111 111 k_171_111_ok ls st h (by rw [g_171.2.2.2]; exact hw)
theorem l_171_142 {l : Launch} {d n0 : Nat} {Qp : PQ} {ls : List (Option PV)} {st : List PV} {h : PMem} (hd : 1 ≤ d) (hN : n0 ≤ NC) (hw : wp n0 (fun t => At l d 171 n0 Qp t) (CallP (d - 1)) Qp k_171_142 ls st h) : At l d 171 n0 Qp 142 ls st h := sound g_171.2.1 (by rw [g_171.2.2.2]; exact hN) hd k_171_142 142 k_171_142_ok ls st h (by rw [g_171.2.2.2]; exact hw)
theorem l_171_183 {l : Launch} {d n0 : Nat} {Qp : PQ} {ls : List (Option PV)} {st : List PV} {h : PMem} (hd : 1 ≤ d) (hN : n0 ≤ NC) (hw : wp n0 (fun t => At l d 171 n0 Qp t) (CallP (d - 1)) Qp k_171_183 ls st h) : At l d 171 n0 Qp 183 ls st h := sound g_171.2.1 (by rw [g_171.2.2.2]; exact hN) hd k_171_183 183 k_171_183_ok ls st h (by rw [g_171.2.2.2]; exact hw)
theorem l_171_189 {l : Launch} {d n0 : Nat} {Qp : PQ} {ls : List (Option PV)} {st : List PV} {h : PMem} (hd : 1 ≤ d) (hN : n0 ≤ NC) (hw : wp n0 (fun t => At l d 171 n0 Qp t) (CallP (d - 1)) Qp k_171_189 ls st h) : At l d 171 n0 Qp 189 ls st h := sound g_171.2.1 (by rw [g_171.2.2.2]; exact hN) hd k_171_189 189 k_171_189_ok ls st h (by rw [g_171.2.2.2]; exact hw)
theorem l_171_191 {l : Launch} {d n0 : Nat} {Qp : PQ} {ls : List (Option PV)} {st : List PV} {h : PMem} (hd : 1 ≤ d) (hN : n0 ≤ NC) (hw : wp n0 (fun t => At l d 171 n0 Qp t) (CallP (d - 1)) Qp k_171_191 ls st h) : At l d 171 n0 Qp 191 ls st h := sound g_171.2.1 (by rw [g_171.2.2.2]; exact hN) hd k_171_191 191 k_171_191_ok ls st h (by rw [g_171.2.2.2]; exact hw)
theorem l_171_236 {l : Launch} {d n0 : Nat} {Qp : PQ} {ls : List (Option PV)} {st : List PV} {h : PMem} (hd : 1 ≤ d) (hN : n0 ≤ NC) (hw : wp n0 (fun t => At l d 171 n0 Qp t) (CallP (d - 1)) Qp k_171_236 ls st h) : At l d 171 n0 Qp 236 ls st h := sound g_171.2.1 (by rw [g_171.2.2.2]; exact hN) hd k_171_236 236 k_171_236_ok ls st h (by rw [g_171.2.2.2]; exact hw)
theorem f_172 : (((plainName (mY 172).cls && decide (rN (oN 172) = (mY 172).cls)) && decide (mML 172 = 4)) && decide (aC 172 = 0)) = true := by decide +kernel
theorem g_172 : plainName (mY 172).cls = true ∧ rN (oN 172) = (mY 172).cls ∧ mML 172 = 4 ∧ aC 172 = 0 := by
  have h := f_172
  simp only [Bool.and_eq_true, decide_eq_true_eq] at h
  exact ⟨h.1.1.1, h.1.1.2, h.1.2, h.2⟩
theorem s_172 {d : Nat} {Qp : PQ} {v0 : PV} {h : PMem} (hd : 1 ≤ d) (hN : h.1 ≤ NC) (c0 : pcat v0 = 1 := by rfl) (hw : ∀ l, wp h.1 (fun t => At l d 172 h.1 (Qn h.1 Qp) t) (CallP (d - 1)) (Qn h.1 Qp) k_172_0 [some v0, none, none, none] [] h) : CallP d 172 [v0] h Qp := by
  refine call_of g_172.1 (by rw [g_172.2.2.1]; simp only [pcats, c0, pcatL]; decide) (fun l => ?_)
  have e : ent (mML 172) [v0] = [some v0, none, none, none] := by rw [g_172.2.2.1]; simp [ent, pcats, c0, pcatL, List.replicate]
  rw [e]
  refine sound g_172.2.1 (by rw [g_172.2.2.2]; exact hN) hd k_172_0 0 k_172_0_ok _ _ _ ?_
  rw [g_172.2.2.2]
  exact hw l
theorem l_172_14 {l : Launch} {d n0 : Nat} {Qp : PQ} {ls : List (Option PV)} {st : List PV} {h : PMem} (hd : 1 ≤ d) (hN : n0 ≤ NC) (hw : wp n0 (fun t => At l d 172 n0 Qp t) (CallP (d - 1)) Qp k_172_14 ls st h) : At l d 172 n0 Qp 14 ls st h := sound g_172.2.1 (by rw [g_172.2.2.2]; exact hN) hd k_172_14 14 k_172_14_ok ls st h (by rw [g_172.2.2.2]; exact hw)
theorem l_172_39 {l : Launch} {d n0 : Nat} {Qp : PQ} {ls : List (Option PV)} {st : List PV} {h : PMem} (hd : 1 ≤ d) (hN : n0 ≤ NC) (hw : wp n0 (fun t => At l d 172 n0 Qp t) (CallP (d - 1)) Qp k_172_39 ls st h) : At l d 172 n0 Qp 39 ls st h := sound g_172.2.1 (by rw [g_172.2.2.2]; exact hN) hd k_172_39 39 k_172_39_ok ls st h (by rw [g_172.2.2.2]; exact hw)
theorem l_172_71 {l : Launch} {d n0 : Nat} {Qp : PQ} {ls : List (Option PV)} {st : List PV} {h : PMem} (hd : 1 ≤ d) (hN : n0 ≤ NC) (hw : wp n0 (fun t => At l d 172 n0 Qp t) (CallP (d - 1)) Qp k_172_71 ls st h) : At l d 172 n0 Qp 71 ls st h := sound g_172.2.1 (by rw [g_172.2.2.2]; exact hN) hd k_172_71 71 k_172_71_ok ls st h (by rw [g_172.2.2.2]; exact hw)
theorem l_172_73 {l : Launch} {d n0 : Nat} {Qp : PQ} {ls : List (Option PV)} {st : List PV} {h : PMem} (hd : 1 ≤ d) (hN : n0 ≤ NC) (hw : wp n0 (fun t => At l d 172 n0 Qp t) (CallP (d - 1)) Qp k_172_73 ls st h) : At l d 172 n0 Qp 73 ls st h := sound g_172.2.1 (by rw [g_172.2.2.2]; exact hN) hd k_172_73 73 k_172_73_ok ls st h (by rw [g_172.2.2.2]; exact hw)
theorem l_172_80 {l : Launch} {d n0 : Nat} {Qp : PQ} {ls : List (Option PV)} {st : List PV} {h : PMem} (hd : 1 ≤ d) (hN : n0 ≤ NC) (hw : wp n0 (fun t => At l d 172 n0 Qp t) (CallP (d - 1)) Qp k_172_80 ls st h) : At l d 172 n0 Qp 80 ls st h := sound g_172.2.1 (by rw [g_172.2.2.2]; exact hN) hd k_172_80 80 k_172_80_ok ls st h (by rw [g_172.2.2.2]; exact hw)
theorem l_172_121 {l : Launch} {d n0 : Nat} {Qp : PQ} {ls : List (Option PV)} {st : List PV} {h : PMem} (hd : 1 ≤ d) (hN : n0 ≤ NC) (hw : wp n0 (fun t => At l d 172 n0 Qp t) (CallP (d - 1)) Qp k_172_121 ls st h) : At l d 172 n0 Qp 121 ls st h := sound g_172.2.1 (by rw [g_172.2.2.2]; exact hN) hd k_172_121 121 k_172_121_ok ls st h (by rw [g_172.2.2.2]; exact hw)
theorem l_172_127 {l : Launch} {d n0 : Nat} {Qp : PQ} {ls : List (Option PV)} {st : List PV} {h : PMem} (hd : 1 ≤ d) (hN : n0 ≤ NC) (hw : wp n0 (fun t => At l d 172 n0 Qp t) (CallP (d - 1)) Qp k_172_127 ls st h) : At l d 172 n0 Qp 127 ls st h := sound g_172.2.1 (by rw [g_172.2.2.2]; exact hN) hd k_172_127 127 k_172_127_ok ls st h (by rw [g_172.2.2.2]; exact hw)
theorem f_173 : (((plainName (mY 173).cls && decide (rN (oN 173) = (mY 173).cls)) && decide (mML 173 = 1)) && decide (aC 173 = 0)) = true := by decide +kernel
theorem g_173 : plainName (mY 173).cls = true ∧ rN (oN 173) = (mY 173).cls ∧ mML 173 = 1 ∧ aC 173 = 0 := by
  have h := f_173
  simp only [Bool.and_eq_true, decide_eq_true_eq] at h
  exact ⟨h.1.1.1, h.1.1.2, h.1.2, h.2⟩
theorem s_173 {d : Nat} {Qp : PQ} {v0 : PV} {h : PMem} (hd : 1 ≤ d) (hN : h.1 ≤ NC) (c0 : pcat v0 = 1 := by rfl) (hw : ∀ l, wp h.1 (fun t => At l d 173 h.1 (Qn h.1 Qp) t) (CallP (d - 1)) (Qn h.1 Qp) k_173_0 [some v0] [] h) : CallP d 173 [v0] h Qp := by
  refine call_of g_173.1 (by rw [g_173.2.2.1]; simp only [pcats, c0, pcatL]; decide) (fun l => ?_)
  have e : ent (mML 173) [v0] = [some v0] := by rw [g_173.2.2.1]; simp [ent, pcats, c0, pcatL, List.replicate]
  rw [e]
  refine sound g_173.2.1 (by rw [g_173.2.2.2]; exact hN) hd k_173_0 0 k_173_0_ok _ _ _ ?_
  rw [g_173.2.2.2]
  exact hw l
theorem l_173_10 {l : Launch} {d n0 : Nat} {Qp : PQ} {ls : List (Option PV)} {st : List PV} {h : PMem} (hd : 1 ≤ d) (hN : n0 ≤ NC) (hw : wp n0 (fun t => At l d 173 n0 Qp t) (CallP (d - 1)) Qp k_173_10 ls st h) : At l d 173 n0 Qp 10 ls st h := sound g_173.2.1 (by rw [g_173.2.2.2]; exact hN) hd k_173_10 10 k_173_10_ok ls st h (by rw [g_173.2.2.2]; exact hw)
theorem l_173_14 {l : Launch} {d n0 : Nat} {Qp : PQ} {ls : List (Option PV)} {st : List PV} {h : PMem} (hd : 1 ≤ d) (hN : n0 ≤ NC) (hw : wp n0 (fun t => At l d 173 n0 Qp t) (CallP (d - 1)) Qp k_173_14 ls st h) : At l d 173 n0 Qp 14 ls st h := sound g_173.2.1 (by rw [g_173.2.2.2]; exact hN) hd k_173_14 14 k_173_14_ok ls st h (by rw [g_173.2.2.2]; exact hw)
theorem f_174 : (((plainName (mY 174).cls && decide (rN (oN 174) = (mY 174).cls)) && decide (mML 174 = 3)) && decide (aC 174 = 0)) = true := by decide +kernel
theorem g_174 : plainName (mY 174).cls = true ∧ rN (oN 174) = (mY 174).cls ∧ mML 174 = 3 ∧ aC 174 = 0 := by
  have h := f_174
  simp only [Bool.and_eq_true, decide_eq_true_eq] at h
  exact ⟨h.1.1.1, h.1.1.2, h.1.2, h.2⟩
theorem s_174 {d : Nat} {Qp : PQ} {v0 : PV} {v1 : PV} {v2 : PV} {h : PMem} (hd : 1 ≤ d) (hN : h.1 ≤ NC) (c0 : pcat v0 = 1 := by rfl) (c1 : pcat v1 = 1 := by rfl) (c2 : pcat v2 = 1 := by rfl) (hw : ∀ l, wp h.1 (fun t => At l d 174 h.1 (Qn h.1 Qp) t) (CallP (d - 1)) (Qn h.1 Qp) k_174_0 [some v0, some v1, some v2] [] h) : CallP d 174 [v0, v1, v2] h Qp := by
  refine call_of g_174.1 (by rw [g_174.2.2.1]; simp only [pcats, c0, c1, c2, pcatL]; decide) (fun l => ?_)
  have e : ent (mML 174) [v0, v1, v2] = [some v0, some v1, some v2] := by rw [g_174.2.2.1]; simp [ent, pcats, c0, c1, c2, pcatL, List.replicate]
  rw [e]
  refine sound g_174.2.1 (by rw [g_174.2.2.2]; exact hN) hd k_174_0 0 k_174_0_ok _ _ _ ?_
  rw [g_174.2.2.2]
  exact hw l
theorem l_174_20 {l : Launch} {d n0 : Nat} {Qp : PQ} {ls : List (Option PV)} {st : List PV} {h : PMem} (hd : 1 ≤ d) (hN : n0 ≤ NC) (hw : wp n0 (fun t => At l d 174 n0 Qp t) (CallP (d - 1)) Qp k_174_20 ls st h) : At l d 174 n0 Qp 20 ls st h := sound g_174.2.1 (by rw [g_174.2.2.2]; exact hN) hd k_174_20 20 k_174_20_ok ls st h (by rw [g_174.2.2.2]; exact hw)
theorem l_174_25 {l : Launch} {d n0 : Nat} {Qp : PQ} {ls : List (Option PV)} {st : List PV} {h : PMem} (hd : 1 ≤ d) (hN : n0 ≤ NC) (hw : wp n0 (fun t => At l d 174 n0 Qp t) (CallP (d - 1)) Qp k_174_25 ls st h) : At l d 174 n0 Qp 25 ls st h := sound g_174.2.1 (by rw [g_174.2.2.2]; exact hN) hd k_174_25 25 k_174_25_ok ls st h (by rw [g_174.2.2.2]; exact hw)
theorem l_174_49 {l : Launch} {d n0 : Nat} {Qp : PQ} {ls : List (Option PV)} {st : List PV} {h : PMem} (hd : 1 ≤ d) (hN : n0 ≤ NC) (hw : wp n0 (fun t => At l d 174 n0 Qp t) (CallP (d - 1)) Qp k_174_49 ls st h) : At l d 174 n0 Qp 49 ls st h := sound g_174.2.1 (by rw [g_174.2.2.2]; exact hN) hd k_174_49 49 k_174_49_ok ls st h (by rw [g_174.2.2.2]; exact hw)
theorem l_174_70 {l : Launch} {d n0 : Nat} {Qp : PQ} {ls : List (Option PV)} {st : List PV} {h : PMem} (hd : 1 ≤ d) (hN : n0 ≤ NC) (hw : wp n0 (fun t => At l d 174 n0 Qp t) (CallP (d - 1)) Qp k_174_70 ls st h) : At l d 174 n0 Qp 70 ls st h := sound g_174.2.1 (by rw [g_174.2.2.2]; exact hN) hd k_174_70 70 k_174_70_ok ls st h (by rw [g_174.2.2.2]; exact hw)
theorem l_174_76 {l : Launch} {d n0 : Nat} {Qp : PQ} {ls : List (Option PV)} {st : List PV} {h : PMem} (hd : 1 ≤ d) (hN : n0 ≤ NC) (hw : wp n0 (fun t => At l d 174 n0 Qp t) (CallP (d - 1)) Qp k_174_76 ls st h) : At l d 174 n0 Qp 76 ls st h := sound g_174.2.1 (by rw [g_174.2.2.2]; exact hN) hd k_174_76 76 k_174_76_ok ls st h (by rw [g_174.2.2.2]; exact hw)
theorem f_175 : (((plainName (mY 175).cls && decide (rN (oN 175) = (mY 175).cls)) && decide (mML 175 = 3)) && decide (aC 175 = 0)) = true := by decide +kernel
theorem g_175 : plainName (mY 175).cls = true ∧ rN (oN 175) = (mY 175).cls ∧ mML 175 = 3 ∧ aC 175 = 0 := by
  have h := f_175
  simp only [Bool.and_eq_true, decide_eq_true_eq] at h
  exact ⟨h.1.1.1, h.1.1.2, h.1.2, h.2⟩
theorem s_175 {d : Nat} {Qp : PQ} {v0 : PV} {v1 : PV} {v2 : PV} {h : PMem} (hd : 1 ≤ d) (hN : h.1 ≤ NC) (c0 : pcat v0 = 1 := by rfl) (c1 : pcat v1 = 1 := by rfl) (c2 : pcat v2 = 1 := by rfl) (hw : ∀ l, wp h.1 (fun t => At l d 175 h.1 (Qn h.1 Qp) t) (CallP (d - 1)) (Qn h.1 Qp) k_175_0 [some v0, some v1, some v2] [] h) : CallP d 175 [v0, v1, v2] h Qp := by
  refine call_of g_175.1 (by rw [g_175.2.2.1]; simp only [pcats, c0, c1, c2, pcatL]; decide) (fun l => ?_)
  have e : ent (mML 175) [v0, v1, v2] = [some v0, some v1, some v2] := by rw [g_175.2.2.1]; simp [ent, pcats, c0, c1, c2, pcatL, List.replicate]
  rw [e]
  refine sound g_175.2.1 (by rw [g_175.2.2.2]; exact hN) hd k_175_0 0 k_175_0_ok _ _ _ ?_
  rw [g_175.2.2.2]
  exact hw l
theorem l_175_16 {l : Launch} {d n0 : Nat} {Qp : PQ} {ls : List (Option PV)} {st : List PV} {h : PMem} (hd : 1 ≤ d) (hN : n0 ≤ NC) (hw : wp n0 (fun t => At l d 175 n0 Qp t) (CallP (d - 1)) Qp k_175_16 ls st h) : At l d 175 n0 Qp 16 ls st h := sound g_175.2.1 (by rw [g_175.2.2.2]; exact hN) hd k_175_16 16 k_175_16_ok ls st h (by rw [g_175.2.2.2]; exact hw)
theorem l_175_21 {l : Launch} {d n0 : Nat} {Qp : PQ} {ls : List (Option PV)} {st : List PV} {h : PMem} (hd : 1 ≤ d) (hN : n0 ≤ NC) (hw : wp n0 (fun t => At l d 175 n0 Qp t) (CallP (d - 1)) Qp k_175_21 ls st h) : At l d 175 n0 Qp 21 ls st h := sound g_175.2.1 (by rw [g_175.2.2.2]; exact hN) hd k_175_21 21 k_175_21_ok ls st h (by rw [g_175.2.2.2]; exact hw)
theorem l_175_42 {l : Launch} {d n0 : Nat} {Qp : PQ} {ls : List (Option PV)} {st : List PV} {h : PMem} (hd : 1 ≤ d) (hN : n0 ≤ NC) (hw : wp n0 (fun t => At l d 175 n0 Qp t) (CallP (d - 1)) Qp k_175_42 ls st h) : At l d 175 n0 Qp 42 ls st h := sound g_175.2.1 (by rw [g_175.2.2.2]; exact hN) hd k_175_42 42 k_175_42_ok ls st h (by rw [g_175.2.2.2]; exact hw)
theorem l_175_55 {l : Launch} {d n0 : Nat} {Qp : PQ} {ls : List (Option PV)} {st : List PV} {h : PMem} (hd : 1 ≤ d) (hN : n0 ≤ NC) (hw : wp n0 (fun t => At l d 175 n0 Qp t) (CallP (d - 1)) Qp k_175_55 ls st h) : At l d 175 n0 Qp 55 ls st h := sound g_175.2.1 (by rw [g_175.2.2.2]; exact hN) hd k_175_55 55 k_175_55_ok ls st h (by rw [g_175.2.2.2]; exact hw)
theorem l_175_68 {l : Launch} {d n0 : Nat} {Qp : PQ} {ls : List (Option PV)} {st : List PV} {h : PMem} (hd : 1 ≤ d) (hN : n0 ≤ NC) (hw : wp n0 (fun t => At l d 175 n0 Qp t) (CallP (d - 1)) Qp k_175_68 ls st h) : At l d 175 n0 Qp 68 ls st h := sound g_175.2.1 (by rw [g_175.2.2.2]; exact hN) hd k_175_68 68 k_175_68_ok ls st h (by rw [g_175.2.2.2]; exact hw)
theorem f_176 : (((plainName (mY 176).cls && decide (rN (oN 176) = (mY 176).cls)) && decide (mML 176 = 3)) && decide (aC 176 = 0)) = true := by decide +kernel
theorem g_176 : plainName (mY 176).cls = true ∧ rN (oN 176) = (mY 176).cls ∧ mML 176 = 3 ∧ aC 176 = 0 := by
  have h := f_176
  simp only [Bool.and_eq_true, decide_eq_true_eq] at h
  exact ⟨h.1.1.1, h.1.1.2, h.1.2, h.2⟩
theorem s_176 {d : Nat} {Qp : PQ} {v0 : PV} {v1 : PV} {v2 : PV} {h : PMem} (hd : 1 ≤ d) (hN : h.1 ≤ NC) (c0 : pcat v0 = 1 := by rfl) (c1 : pcat v1 = 1 := by rfl) (c2 : pcat v2 = 1 := by rfl) (hw : ∀ l, wp h.1 (fun t => At l d 176 h.1 (Qn h.1 Qp) t) (CallP (d - 1)) (Qn h.1 Qp) k_176_0 [some v0, some v1, some v2] [] h) : CallP d 176 [v0, v1, v2] h Qp := by
  refine call_of g_176.1 (by rw [g_176.2.2.1]; simp only [pcats, c0, c1, c2, pcatL]; decide) (fun l => ?_)
  have e : ent (mML 176) [v0, v1, v2] = [some v0, some v1, some v2] := by rw [g_176.2.2.1]; simp [ent, pcats, c0, c1, c2, pcatL, List.replicate]
  rw [e]
  refine sound g_176.2.1 (by rw [g_176.2.2.2]; exact hN) hd k_176_0 0 k_176_0_ok _ _ _ ?_
  rw [g_176.2.2.2]
  exact hw l
theorem l_176_29 {l : Launch} {d n0 : Nat} {Qp : PQ} {ls : List (Option PV)} {st : List PV} {h : PMem} (hd : 1 ≤ d) (hN : n0 ≤ NC) (hw : wp n0 (fun t => At l d 176 n0 Qp t) (CallP (d - 1)) Qp k_176_29 ls st h) : At l d 176 n0 Qp 29 ls st h := sound g_176.2.1 (by rw [g_176.2.2.2]; exact hN) hd k_176_29 29 k_176_29_ok ls st h (by rw [g_176.2.2.2]; exact hw)
theorem l_176_33 {l : Launch} {d n0 : Nat} {Qp : PQ} {ls : List (Option PV)} {st : List PV} {h : PMem} (hd : 1 ≤ d) (hN : n0 ≤ NC) (hw : wp n0 (fun t => At l d 176 n0 Qp t) (CallP (d - 1)) Qp k_176_33 ls st h) : At l d 176 n0 Qp 33 ls st h := sound g_176.2.1 (by rw [g_176.2.2.2]; exact hN) hd k_176_33 33 k_176_33_ok ls st h (by rw [g_176.2.2.2]; exact hw)
theorem f_177 : (((plainName (mY 177).cls && decide (rN (oN 177) = (mY 177).cls)) && decide (mML 177 = 5)) && decide (aC 177 = 0)) = true := by decide +kernel
theorem g_177 : plainName (mY 177).cls = true ∧ rN (oN 177) = (mY 177).cls ∧ mML 177 = 5 ∧ aC 177 = 0 := by
  have h := f_177
  simp only [Bool.and_eq_true, decide_eq_true_eq] at h
  exact ⟨h.1.1.1, h.1.1.2, h.1.2, h.2⟩
theorem s_177 {d : Nat} {Qp : PQ} {v0 : PV} {v1 : PV} {v2 : PV} {v3 : PV} {v4 : PV} {h : PMem} (hd : 1 ≤ d) (hN : h.1 ≤ NC) (c0 : pcat v0 = 1 := by rfl) (c1 : pcat v1 = 1 := by rfl) (c2 : pcat v2 = 1 := by rfl) (c3 : pcat v3 = 1 := by rfl) (c4 : pcat v4 = 1 := by rfl) (hw : ∀ l, wp h.1 (fun t => At l d 177 h.1 (Qn h.1 Qp) t) (CallP (d - 1)) (Qn h.1 Qp) k_177_0 [some v0, some v1, some v2, some v3, some v4] [] h) : CallP d 177 [v0, v1, v2, v3, v4] h Qp := by
  refine call_of g_177.1 (by rw [g_177.2.2.1]; simp only [pcats, c0, c1, c2, c3, c4, pcatL]; decide) (fun l => ?_)
  have e : ent (mML 177) [v0, v1, v2, v3, v4] = [some v0, some v1, some v2, some v3, some v4] := by rw [g_177.2.2.1]; simp [ent, pcats, c0, c1, c2, c3, c4, pcatL, List.replicate]
  rw [e]
  refine sound g_177.2.1 (by rw [g_177.2.2.2]; exact hN) hd k_177_0 0 k_177_0_ok _ _ _ ?_
  rw [g_177.2.2.2]
  exact hw l
theorem l_177_37 {l : Launch} {d n0 : Nat} {Qp : PQ} {ls : List (Option PV)} {st : List PV} {h : PMem} (hd : 1 ≤ d) (hN : n0 ≤ NC) (hw : wp n0 (fun t => At l d 177 n0 Qp t) (CallP (d - 1)) Qp k_177_37 ls st h) : At l d 177 n0 Qp 37 ls st h := sound g_177.2.1 (by rw [g_177.2.2.2]; exact hN) hd k_177_37 37 k_177_37_ok ls st h (by rw [g_177.2.2.2]; exact hw)
theorem l_177_42 {l : Launch} {d n0 : Nat} {Qp : PQ} {ls : List (Option PV)} {st : List PV} {h : PMem} (hd : 1 ≤ d) (hN : n0 ≤ NC) (hw : wp n0 (fun t => At l d 177 n0 Qp t) (CallP (d - 1)) Qp k_177_42 ls st h) : At l d 177 n0 Qp 42 ls st h := sound g_177.2.1 (by rw [g_177.2.2.2]; exact hN) hd k_177_42 42 k_177_42_ok ls st h (by rw [g_177.2.2.2]; exact hw)
theorem l_177_59 {l : Launch} {d n0 : Nat} {Qp : PQ} {ls : List (Option PV)} {st : List PV} {h : PMem} (hd : 1 ≤ d) (hN : n0 ≤ NC) (hw : wp n0 (fun t => At l d 177 n0 Qp t) (CallP (d - 1)) Qp k_177_59 ls st h) : At l d 177 n0 Qp 59 ls st h := sound g_177.2.1 (by rw [g_177.2.2.2]; exact hN) hd k_177_59 59 k_177_59_ok ls st h (by rw [g_177.2.2.2]; exact hw)
theorem l_177_74 {l : Launch} {d n0 : Nat} {Qp : PQ} {ls : List (Option PV)} {st : List PV} {h : PMem} (hd : 1 ≤ d) (hN : n0 ≤ NC) (hw : wp n0 (fun t => At l d 177 n0 Qp t) (CallP (d - 1)) Qp k_177_74 ls st h) : At l d 177 n0 Qp 74 ls st h := sound g_177.2.1 (by rw [g_177.2.2.2]; exact hN) hd k_177_74 74 k_177_74_ok ls st h (by rw [g_177.2.2.2]; exact hw)
theorem l_177_78 {l : Launch} {d n0 : Nat} {Qp : PQ} {ls : List (Option PV)} {st : List PV} {h : PMem} (hd : 1 ≤ d) (hN : n0 ≤ NC) (hw : wp n0 (fun t => At l d 177 n0 Qp t) (CallP (d - 1)) Qp k_177_78 ls st h) : At l d 177 n0 Qp 78 ls st h := sound g_177.2.1 (by rw [g_177.2.2.2]; exact hN) hd k_177_78 78 k_177_78_ok ls st h (by rw [g_177.2.2.2]; exact hw)
theorem f_178 : (((plainName (mY 178).cls && decide (rN (oN 178) = (mY 178).cls)) && decide (mML 178 = 5)) && decide (aC 178 = 0)) = true := by decide +kernel
theorem g_178 : plainName (mY 178).cls = true ∧ rN (oN 178) = (mY 178).cls ∧ mML 178 = 5 ∧ aC 178 = 0 := by
  have h := f_178
  simp only [Bool.and_eq_true, decide_eq_true_eq] at h
  exact ⟨h.1.1.1, h.1.1.2, h.1.2, h.2⟩
theorem s_178 {d : Nat} {Qp : PQ} {v0 : PV} {v1 : PV} {v2 : PV} {h : PMem} (hd : 1 ≤ d) (hN : h.1 ≤ NC) (c0 : pcat v0 = 1 := by rfl) (c1 : pcat v1 = 1 := by rfl) (c2 : pcat v2 = 1 := by rfl) (hw : ∀ l, wp h.1 (fun t => At l d 178 h.1 (Qn h.1 Qp) t) (CallP (d - 1)) (Qn h.1 Qp) k_178_0 [some v0, some v1, some v2, none, none] [] h) : CallP d 178 [v0, v1, v2] h Qp := by
  refine call_of g_178.1 (by rw [g_178.2.2.1]; simp only [pcats, c0, c1, c2, pcatL]; decide) (fun l => ?_)
  have e : ent (mML 178) [v0, v1, v2] = [some v0, some v1, some v2, none, none] := by rw [g_178.2.2.1]; simp [ent, pcats, c0, c1, c2, pcatL, List.replicate]
  rw [e]
  refine sound g_178.2.1 (by rw [g_178.2.2.2]; exact hN) hd k_178_0 0 k_178_0_ok _ _ _ ?_
  rw [g_178.2.2.2]
  exact hw l
theorem l_178_21 {l : Launch} {d n0 : Nat} {Qp : PQ} {ls : List (Option PV)} {st : List PV} {h : PMem} (hd : 1 ≤ d) (hN : n0 ≤ NC) (hw : wp n0 (fun t => At l d 178 n0 Qp t) (CallP (d - 1)) Qp k_178_21 ls st h) : At l d 178 n0 Qp 21 ls st h := sound g_178.2.1 (by rw [g_178.2.2.2]; exact hN) hd k_178_21 21 k_178_21_ok ls st h (by rw [g_178.2.2.2]; exact hw)
theorem l_178_26 {l : Launch} {d n0 : Nat} {Qp : PQ} {ls : List (Option PV)} {st : List PV} {h : PMem} (hd : 1 ≤ d) (hN : n0 ≤ NC) (hw : wp n0 (fun t => At l d 178 n0 Qp t) (CallP (d - 1)) Qp k_178_26 ls st h) : At l d 178 n0 Qp 26 ls st h := sound g_178.2.1 (by rw [g_178.2.2.2]; exact hN) hd k_178_26 26 k_178_26_ok ls st h (by rw [g_178.2.2.2]; exact hw)
theorem l_178_40 {l : Launch} {d n0 : Nat} {Qp : PQ} {ls : List (Option PV)} {st : List PV} {h : PMem} (hd : 1 ≤ d) (hN : n0 ≤ NC) (hw : wp n0 (fun t => At l d 178 n0 Qp t) (CallP (d - 1)) Qp k_178_40 ls st h) : At l d 178 n0 Qp 40 ls st h := sound g_178.2.1 (by rw [g_178.2.2.2]; exact hN) hd k_178_40 40 k_178_40_ok ls st h (by rw [g_178.2.2.2]; exact hw)
theorem l_178_59 {l : Launch} {d n0 : Nat} {Qp : PQ} {ls : List (Option PV)} {st : List PV} {h : PMem} (hd : 1 ≤ d) (hN : n0 ≤ NC) (hw : wp n0 (fun t => At l d 178 n0 Qp t) (CallP (d - 1)) Qp k_178_59 ls st h) : At l d 178 n0 Qp 59 ls st h := sound g_178.2.1 (by rw [g_178.2.2.2]; exact hN) hd k_178_59 59 k_178_59_ok ls st h (by rw [g_178.2.2.2]; exact hw)
theorem f_179 : (((plainName (mY 179).cls && decide (rN (oN 179) = (mY 179).cls)) && decide (mML 179 = 6)) && decide (aC 179 = 0)) = true := by decide +kernel
theorem g_179 : plainName (mY 179).cls = true ∧ rN (oN 179) = (mY 179).cls ∧ mML 179 = 6 ∧ aC 179 = 0 := by
  have h := f_179
  simp only [Bool.and_eq_true, decide_eq_true_eq] at h
  exact ⟨h.1.1.1, h.1.1.2, h.1.2, h.2⟩
theorem s_179 {d : Nat} {Qp : PQ} {v0 : PV} {v1 : PV} {v2 : PV} {h : PMem} (hd : 1 ≤ d) (hN : h.1 ≤ NC) (c0 : pcat v0 = 1 := by rfl) (c1 : pcat v1 = 1 := by rfl) (c2 : pcat v2 = 1 := by rfl) (hw : ∀ l, wp h.1 (fun t => At l d 179 h.1 (Qn h.1 Qp) t) (CallP (d - 1)) (Qn h.1 Qp) k_179_0 [some v0, some v1, some v2, none, none, none] [] h) : CallP d 179 [v0, v1, v2] h Qp := by
  refine call_of g_179.1 (by rw [g_179.2.2.1]; simp only [pcats, c0, c1, c2, pcatL]; decide) (fun l => ?_)
  have e : ent (mML 179) [v0, v1, v2] = [some v0, some v1, some v2, none, none, none] := by rw [g_179.2.2.1]; simp [ent, pcats, c0, c1, c2, pcatL, List.replicate]
  rw [e]
  refine sound g_179.2.1 (by rw [g_179.2.2.2]; exact hN) hd k_179_0 0 k_179_0_ok _ _ _ ?_
  rw [g_179.2.2.2]
  exact hw l
theorem f_180 : (((plainName (mY 180).cls && decide (rN (oN 180) = (mY 180).cls)) && decide (mML 180 = 3)) && decide (aC 180 = 0)) = true := by decide +kernel
theorem g_180 : plainName (mY 180).cls = true ∧ rN (oN 180) = (mY 180).cls ∧ mML 180 = 3 ∧ aC 180 = 0 := by
  have h := f_180
  simp only [Bool.and_eq_true, decide_eq_true_eq] at h
  exact ⟨h.1.1.1, h.1.1.2, h.1.2, h.2⟩
theorem s_180 {d : Nat} {Qp : PQ} {v0 : PV} {v1 : PV} {v2 : PV} {h : PMem} (hd : 1 ≤ d) (hN : h.1 ≤ NC) (c0 : pcat v0 = 1 := by rfl) (c1 : pcat v1 = 1 := by rfl) (c2 : pcat v2 = 1 := by rfl) (hw : ∀ l, wp h.1 (fun t => At l d 180 h.1 (Qn h.1 Qp) t) (CallP (d - 1)) (Qn h.1 Qp) k_180_0 [some v0, some v1, some v2] [] h) : CallP d 180 [v0, v1, v2] h Qp := by
  refine call_of g_180.1 (by rw [g_180.2.2.1]; simp only [pcats, c0, c1, c2, pcatL]; decide) (fun l => ?_)
  have e : ent (mML 180) [v0, v1, v2] = [some v0, some v1, some v2] := by rw [g_180.2.2.1]; simp [ent, pcats, c0, c1, c2, pcatL, List.replicate]
  rw [e]
  refine sound g_180.2.1 (by rw [g_180.2.2.2]; exact hN) hd k_180_0 0 k_180_0_ok _ _ _ ?_
  rw [g_180.2.2.2]
  exact hw l
theorem l_180_18 {l : Launch} {d n0 : Nat} {Qp : PQ} {ls : List (Option PV)} {st : List PV} {h : PMem} (hd : 1 ≤ d) (hN : n0 ≤ NC) (hw : wp n0 (fun t => At l d 180 n0 Qp t) (CallP (d - 1)) Qp k_180_18 ls st h) : At l d 180 n0 Qp 18 ls st h := sound g_180.2.1 (by rw [g_180.2.2.2]; exact hN) hd k_180_18 18 k_180_18_ok ls st h (by rw [g_180.2.2.2]; exact hw)
theorem l_180_25 {l : Launch} {d n0 : Nat} {Qp : PQ} {ls : List (Option PV)} {st : List PV} {h : PMem} (hd : 1 ≤ d) (hN : n0 ≤ NC) (hw : wp n0 (fun t => At l d 180 n0 Qp t) (CallP (d - 1)) Qp k_180_25 ls st h) : At l d 180 n0 Qp 25 ls st h := sound g_180.2.1 (by rw [g_180.2.2.2]; exact hN) hd k_180_25 25 k_180_25_ok ls st h (by rw [g_180.2.2.2]; exact hw)
theorem l_180_45 {l : Launch} {d n0 : Nat} {Qp : PQ} {ls : List (Option PV)} {st : List PV} {h : PMem} (hd : 1 ≤ d) (hN : n0 ≤ NC) (hw : wp n0 (fun t => At l d 180 n0 Qp t) (CallP (d - 1)) Qp k_180_45 ls st h) : At l d 180 n0 Qp 45 ls st h := sound g_180.2.1 (by rw [g_180.2.2.2]; exact hN) hd k_180_45 45 k_180_45_ok ls st h (by rw [g_180.2.2.2]; exact hw)
theorem f_181 : (((plainName (mY 181).cls && decide (rN (oN 181) = (mY 181).cls)) && decide (mML 181 = 4)) && decide (aC 181 = 0)) = true := by decide +kernel
theorem g_181 : plainName (mY 181).cls = true ∧ rN (oN 181) = (mY 181).cls ∧ mML 181 = 4 ∧ aC 181 = 0 := by
  have h := f_181
  simp only [Bool.and_eq_true, decide_eq_true_eq] at h
  exact ⟨h.1.1.1, h.1.1.2, h.1.2, h.2⟩
theorem s_181 {d : Nat} {Qp : PQ} {v0 : PV} {v1 : PV} {v2 : PV} {v3 : PV} {h : PMem} (hd : 1 ≤ d) (hN : h.1 ≤ NC) (c0 : pcat v0 = 1 := by rfl) (c1 : pcat v1 = 1 := by rfl) (c2 : pcat v2 = 1 := by rfl) (c3 : pcat v3 = 1 := by rfl) (hw : ∀ l, wp h.1 (fun t => At l d 181 h.1 (Qn h.1 Qp) t) (CallP (d - 1)) (Qn h.1 Qp) k_181_0 [some v0, some v1, some v2, some v3] [] h) : CallP d 181 [v0, v1, v2, v3] h Qp := by
  refine call_of g_181.1 (by rw [g_181.2.2.1]; simp only [pcats, c0, c1, c2, c3, pcatL]; decide) (fun l => ?_)
  have e : ent (mML 181) [v0, v1, v2, v3] = [some v0, some v1, some v2, some v3] := by rw [g_181.2.2.1]; simp [ent, pcats, c0, c1, c2, c3, pcatL, List.replicate]
  rw [e]
  refine sound g_181.2.1 (by rw [g_181.2.2.2]; exact hN) hd k_181_0 0 k_181_0_ok _ _ _ ?_
  rw [g_181.2.2.2]
  exact hw l
theorem l_181_10 {l : Launch} {d n0 : Nat} {Qp : PQ} {ls : List (Option PV)} {st : List PV} {h : PMem} (hd : 1 ≤ d) (hN : n0 ≤ NC) (hw : wp n0 (fun t => At l d 181 n0 Qp t) (CallP (d - 1)) Qp k_181_10 ls st h) : At l d 181 n0 Qp 10 ls st h := sound g_181.2.1 (by rw [g_181.2.2.2]; exact hN) hd k_181_10 10 k_181_10_ok ls st h (by rw [g_181.2.2.2]; exact hw)
theorem l_181_43 {l : Launch} {d n0 : Nat} {Qp : PQ} {ls : List (Option PV)} {st : List PV} {h : PMem} (hd : 1 ≤ d) (hN : n0 ≤ NC) (hw : wp n0 (fun t => At l d 181 n0 Qp t) (CallP (d - 1)) Qp k_181_43 ls st h) : At l d 181 n0 Qp 43 ls st h := sound g_181.2.1 (by rw [g_181.2.2.2]; exact hN) hd k_181_43 43 k_181_43_ok ls st h (by rw [g_181.2.2.2]; exact hw)
theorem l_181_45 {l : Launch} {d n0 : Nat} {Qp : PQ} {ls : List (Option PV)} {st : List PV} {h : PMem} (hd : 1 ≤ d) (hN : n0 ≤ NC) (hw : wp n0 (fun t => At l d 181 n0 Qp t) (CallP (d - 1)) Qp k_181_45 ls st h) : At l d 181 n0 Qp 45 ls st h := sound g_181.2.1 (by rw [g_181.2.2.2]; exact hN) hd k_181_45 45 k_181_45_ok ls st h (by rw [g_181.2.2.2]; exact hw)
theorem f_182 : (((plainName (mY 182).cls && decide (rN (oN 182) = (mY 182).cls)) && decide (mML 182 = 2)) && decide (aC 182 = 0)) = true := by decide +kernel
theorem g_182 : plainName (mY 182).cls = true ∧ rN (oN 182) = (mY 182).cls ∧ mML 182 = 2 ∧ aC 182 = 0 := by
  have h := f_182
  simp only [Bool.and_eq_true, decide_eq_true_eq] at h
  exact ⟨h.1.1.1, h.1.1.2, h.1.2, h.2⟩
theorem s_182 {d : Nat} {Qp : PQ} {v0 : PV} {v1 : PV} {h : PMem} (hd : 1 ≤ d) (hN : h.1 ≤ NC) (c0 : pcat v0 = 1 := by rfl) (c1 : pcat v1 = 1 := by rfl) (hw : ∀ l, wp h.1 (fun t => At l d 182 h.1 (Qn h.1 Qp) t) (CallP (d - 1)) (Qn h.1 Qp) k_182_0 [some v0, some v1] [] h) : CallP d 182 [v0, v1] h Qp := by
  refine call_of g_182.1 (by rw [g_182.2.2.1]; simp only [pcats, c0, c1, pcatL]; decide) (fun l => ?_)
  have e : ent (mML 182) [v0, v1] = [some v0, some v1] := by rw [g_182.2.2.1]; simp [ent, pcats, c0, c1, pcatL, List.replicate]
  rw [e]
  refine sound g_182.2.1 (by rw [g_182.2.2.2]; exact hN) hd k_182_0 0 k_182_0_ok _ _ _ ?_
  rw [g_182.2.2.2]
  exact hw l
theorem l_182_11 {l : Launch} {d n0 : Nat} {Qp : PQ} {ls : List (Option PV)} {st : List PV} {h : PMem} (hd : 1 ≤ d) (hN : n0 ≤ NC) (hw : wp n0 (fun t => At l d 182 n0 Qp t) (CallP (d - 1)) Qp k_182_11 ls st h) : At l d 182 n0 Qp 11 ls st h := sound g_182.2.1 (by rw [g_182.2.2.2]; exact hN) hd k_182_11 11 k_182_11_ok ls st h (by rw [g_182.2.2.2]; exact hw)
theorem l_182_15 {l : Launch} {d n0 : Nat} {Qp : PQ} {ls : List (Option PV)} {st : List PV} {h : PMem} (hd : 1 ≤ d) (hN : n0 ≤ NC) (hw : wp n0 (fun t => At l d 182 n0 Qp t) (CallP (d - 1)) Qp k_182_15 ls st h) : At l d 182 n0 Qp 15 ls st h := sound g_182.2.1 (by rw [g_182.2.2.2]; exact hN) hd k_182_15 15 k_182_15_ok ls st h (by rw [g_182.2.2.2]; exact hw)
theorem l_182_16 {l : Launch} {d n0 : Nat} {Qp : PQ} {ls : List (Option PV)} {st : List PV} {h : PMem} (hd : 1 ≤ d) (hN : n0 ≤ NC) (hw : wp n0 (fun t => At l d 182 n0 Qp t) (CallP (d - 1)) Qp k_182_16 ls st h) : At l d 182 n0 Qp 16 ls st h := sound g_182.2.1 (by rw [g_182.2.2.2]; exact hN) hd k_182_16 16 k_182_16_ok ls st h (by rw [g_182.2.2.2]; exact hw)
theorem f_183 : (((plainName (mY 183).cls && decide (rN (oN 183) = (mY 183).cls)) && decide (mML 183 = 2)) && decide (aC 183 = 0)) = true := by decide +kernel
theorem g_183 : plainName (mY 183).cls = true ∧ rN (oN 183) = (mY 183).cls ∧ mML 183 = 2 ∧ aC 183 = 0 := by
  have h := f_183
  simp only [Bool.and_eq_true, decide_eq_true_eq] at h
  exact ⟨h.1.1.1, h.1.1.2, h.1.2, h.2⟩
theorem s_183 {d : Nat} {Qp : PQ} {v0 : PV} {v1 : PV} {h : PMem} (hd : 1 ≤ d) (hN : h.1 ≤ NC) (c0 : pcat v0 = 1 := by rfl) (c1 : pcat v1 = 1 := by rfl) (hw : ∀ l, wp h.1 (fun t => At l d 183 h.1 (Qn h.1 Qp) t) (CallP (d - 1)) (Qn h.1 Qp) k_183_0 [some v0, some v1] [] h) : CallP d 183 [v0, v1] h Qp := by
  refine call_of g_183.1 (by rw [g_183.2.2.1]; simp only [pcats, c0, c1, pcatL]; decide) (fun l => ?_)
  have e : ent (mML 183) [v0, v1] = [some v0, some v1] := by rw [g_183.2.2.1]; simp [ent, pcats, c0, c1, pcatL, List.replicate]
  rw [e]
  refine sound g_183.2.1 (by rw [g_183.2.2.2]; exact hN) hd k_183_0 0 k_183_0_ok _ _ _ ?_
  rw [g_183.2.2.2]
  exact hw l
theorem f_184 : (((plainName (mY 184).cls && decide (rN (oN 184) = (mY 184).cls)) && decide (mML 184 = 6)) && decide (aC 184 = 0)) = true := by decide +kernel
theorem g_184 : plainName (mY 184).cls = true ∧ rN (oN 184) = (mY 184).cls ∧ mML 184 = 6 ∧ aC 184 = 0 := by
  have h := f_184
  simp only [Bool.and_eq_true, decide_eq_true_eq] at h
  exact ⟨h.1.1.1, h.1.1.2, h.1.2, h.2⟩
theorem s_184 {d : Nat} {Qp : PQ} {v0 : PV} {v1 : PV} {h : PMem} (hd : 1 ≤ d) (hN : h.1 ≤ NC) (c0 : pcat v0 = 1 := by rfl) (c1 : pcat v1 = 1 := by rfl) (hw : ∀ l, wp h.1 (fun t => At l d 184 h.1 (Qn h.1 Qp) t) (CallP (d - 1)) (Qn h.1 Qp) k_184_0 [some v0, some v1, none, none, none, none] [] h) : CallP d 184 [v0, v1] h Qp := by
  refine call_of g_184.1 (by rw [g_184.2.2.1]; simp only [pcats, c0, c1, pcatL]; decide) (fun l => ?_)
  have e : ent (mML 184) [v0, v1] = [some v0, some v1, none, none, none, none] := by rw [g_184.2.2.1]; simp [ent, pcats, c0, c1, pcatL, List.replicate]
  rw [e]
  refine sound g_184.2.1 (by rw [g_184.2.2.2]; exact hN) hd k_184_0 0 k_184_0_ok _ _ _ ?_
  rw [g_184.2.2.2]
  exact hw l
theorem l_184_12 {l : Launch} {d n0 : Nat} {Qp : PQ} {ls : List (Option PV)} {st : List PV} {h : PMem} (hd : 1 ≤ d) (hN : n0 ≤ NC) (hw : wp n0 (fun t => At l d 184 n0 Qp t) (CallP (d - 1)) Qp k_184_12 ls st h) : At l d 184 n0 Qp 12 ls st h := sound g_184.2.1 (by rw [g_184.2.2.2]; exact hN) hd k_184_12 12 k_184_12_ok ls st h (by rw [g_184.2.2.2]; exact hw)
theorem l_184_80 {l : Launch} {d n0 : Nat} {Qp : PQ} {ls : List (Option PV)} {st : List PV} {h : PMem} (hd : 1 ≤ d) (hN : n0 ≤ NC) (hw : wp n0 (fun t => At l d 184 n0 Qp t) (CallP (d - 1)) Qp k_184_80 ls st h) : At l d 184 n0 Qp 80 ls st h := sound g_184.2.1 (by rw [g_184.2.2.2]; exact hN) hd k_184_80 80 k_184_80_ok ls st h (by rw [g_184.2.2.2]; exact hw)
theorem l_184_97 {l : Launch} {d n0 : Nat} {Qp : PQ} {ls : List (Option PV)} {st : List PV} {h : PMem} (hd : 1 ≤ d) (hN : n0 ≤ NC) (hw : wp n0 (fun t => At l d 184 n0 Qp t) (CallP (d - 1)) Qp k_184_97 ls st h) : At l d 184 n0 Qp 97 ls st h := sound g_184.2.1 (by rw [g_184.2.2.2]; exact hN) hd k_184_97 97 k_184_97_ok ls st h (by rw [g_184.2.2.2]; exact hw)
theorem l_184_103 {l : Launch} {d n0 : Nat} {Qp : PQ} {ls : List (Option PV)} {st : List PV} {h : PMem} (hd : 1 ≤ d) (hN : n0 ≤ NC) (hw : wp n0 (fun t => At l d 184 n0 Qp t) (CallP (d - 1)) Qp k_184_103 ls st h) : At l d 184 n0 Qp 103 ls st h := sound g_184.2.1 (by rw [g_184.2.2.2]; exact hN) hd k_184_103 103 k_184_103_ok ls st h (by rw [g_184.2.2.2]; exact hw)
theorem f_185 : (((plainName (mY 185).cls && decide (rN (oN 185) = (mY 185).cls)) && decide (mML 185 = 3)) && decide (aC 185 = 0)) = true := by decide +kernel
theorem g_185 : plainName (mY 185).cls = true ∧ rN (oN 185) = (mY 185).cls ∧ mML 185 = 3 ∧ aC 185 = 0 := by
  have h := f_185
  simp only [Bool.and_eq_true, decide_eq_true_eq] at h
  exact ⟨h.1.1.1, h.1.1.2, h.1.2, h.2⟩
theorem s_185 {d : Nat} {Qp : PQ} {v0 : PV} {v1 : PV} {v2 : PV} {h : PMem} (hd : 1 ≤ d) (hN : h.1 ≤ NC) (c0 : pcat v0 = 1 := by rfl) (c1 : pcat v1 = 1 := by rfl) (c2 : pcat v2 = 1 := by rfl) (hw : ∀ l, wp h.1 (fun t => At l d 185 h.1 (Qn h.1 Qp) t) (CallP (d - 1)) (Qn h.1 Qp) k_185_0 [some v0, some v1, some v2] [] h) : CallP d 185 [v0, v1, v2] h Qp := by
  refine call_of g_185.1 (by rw [g_185.2.2.1]; simp only [pcats, c0, c1, c2, pcatL]; decide) (fun l => ?_)
  have e : ent (mML 185) [v0, v1, v2] = [some v0, some v1, some v2] := by rw [g_185.2.2.1]; simp [ent, pcats, c0, c1, c2, pcatL, List.replicate]
  rw [e]
  refine sound g_185.2.1 (by rw [g_185.2.2.2]; exact hN) hd k_185_0 0 k_185_0_ok _ _ _ ?_
  rw [g_185.2.2.2]
  exact hw l
theorem l_185_17 {l : Launch} {d n0 : Nat} {Qp : PQ} {ls : List (Option PV)} {st : List PV} {h : PMem} (hd : 1 ≤ d) (hN : n0 ≤ NC) (hw : wp n0 (fun t => At l d 185 n0 Qp t) (CallP (d - 1)) Qp k_185_17 ls st h) : At l d 185 n0 Qp 17 ls st h := sound g_185.2.1 (by rw [g_185.2.2.2]; exact hN) hd k_185_17 17 k_185_17_ok ls st h (by rw [g_185.2.2.2]; exact hw)
theorem l_185_22 {l : Launch} {d n0 : Nat} {Qp : PQ} {ls : List (Option PV)} {st : List PV} {h : PMem} (hd : 1 ≤ d) (hN : n0 ≤ NC) (hw : wp n0 (fun t => At l d 185 n0 Qp t) (CallP (d - 1)) Qp k_185_22 ls st h) : At l d 185 n0 Qp 22 ls st h := sound g_185.2.1 (by rw [g_185.2.2.2]; exact hN) hd k_185_22 22 k_185_22_ok ls st h (by rw [g_185.2.2.2]; exact hw)
theorem l_185_38 {l : Launch} {d n0 : Nat} {Qp : PQ} {ls : List (Option PV)} {st : List PV} {h : PMem} (hd : 1 ≤ d) (hN : n0 ≤ NC) (hw : wp n0 (fun t => At l d 185 n0 Qp t) (CallP (d - 1)) Qp k_185_38 ls st h) : At l d 185 n0 Qp 38 ls st h := sound g_185.2.1 (by rw [g_185.2.2.2]; exact hN) hd k_185_38 38 k_185_38_ok ls st h (by rw [g_185.2.2.2]; exact hw)
theorem l_185_42 {l : Launch} {d n0 : Nat} {Qp : PQ} {ls : List (Option PV)} {st : List PV} {h : PMem} (hd : 1 ≤ d) (hN : n0 ≤ NC) (hw : wp n0 (fun t => At l d 185 n0 Qp t) (CallP (d - 1)) Qp k_185_42 ls st h) : At l d 185 n0 Qp 42 ls st h := sound g_185.2.1 (by rw [g_185.2.2.2]; exact hN) hd k_185_42 42 k_185_42_ok ls st h (by rw [g_185.2.2.2]; exact hw)
theorem f_186 : (((plainName (mY 186).cls && decide (rN (oN 186) = (mY 186).cls)) && decide (mML 186 = 8)) && decide (aC 186 = 0)) = true := by decide +kernel
theorem g_186 : plainName (mY 186).cls = true ∧ rN (oN 186) = (mY 186).cls ∧ mML 186 = 8 ∧ aC 186 = 0 := by
  have h := f_186
  simp only [Bool.and_eq_true, decide_eq_true_eq] at h
  exact ⟨h.1.1.1, h.1.1.2, h.1.2, h.2⟩
theorem s_186 {d : Nat} {Qp : PQ} {v0 : PV} {v1 : PV} {h : PMem} (hd : 1 ≤ d) (hN : h.1 ≤ NC) (c0 : pcat v0 = 1 := by rfl) (c1 : pcat v1 = 1 := by rfl) (hw : ∀ l, wp h.1 (fun t => At l d 186 h.1 (Qn h.1 Qp) t) (CallP (d - 1)) (Qn h.1 Qp) k_186_0 [some v0, some v1, none, none, none, none, none, none] [] h) : CallP d 186 [v0, v1] h Qp := by
  refine call_of g_186.1 (by rw [g_186.2.2.1]; simp only [pcats, c0, c1, pcatL]; decide) (fun l => ?_)
  have e : ent (mML 186) [v0, v1] = [some v0, some v1, none, none, none, none, none, none] := by rw [g_186.2.2.1]; simp [ent, pcats, c0, c1, pcatL, List.replicate]
  rw [e]
  refine sound g_186.2.1 (by rw [g_186.2.2.2]; exact hN) hd k_186_0 0 k_186_0_ok _ _ _ ?_
  rw [g_186.2.2.2]
  exact hw l
theorem l_186_13 {l : Launch} {d n0 : Nat} {Qp : PQ} {ls : List (Option PV)} {st : List PV} {h : PMem} (hd : 1 ≤ d) (hN : n0 ≤ NC) (hw : wp n0 (fun t => At l d 186 n0 Qp t) (CallP (d - 1)) Qp k_186_13 ls st h) : At l d 186 n0 Qp 13 ls st h := sound g_186.2.1 (by rw [g_186.2.2.2]; exact hN) hd k_186_13 13 k_186_13_ok ls st h (by rw [g_186.2.2.2]; exact hw)
theorem l_186_25 {l : Launch} {d n0 : Nat} {Qp : PQ} {ls : List (Option PV)} {st : List PV} {h : PMem} (hd : 1 ≤ d) (hN : n0 ≤ NC) (hw : wp n0 (fun t => At l d 186 n0 Qp t) (CallP (d - 1)) Qp k_186_25 ls st h) : At l d 186 n0 Qp 25 ls st h := sound g_186.2.1 (by rw [g_186.2.2.2]; exact hN) hd k_186_25 25 k_186_25_ok ls st h (by rw [g_186.2.2.2]; exact hw)
theorem l_186_127 {l : Launch} {d n0 : Nat} {Qp : PQ} {ls : List (Option PV)} {st : List PV} {h : PMem} (hd : 1 ≤ d) (hN : n0 ≤ NC) (hw : wp n0 (fun t => At l d 186 n0 Qp t) (CallP (d - 1)) Qp k_186_127 ls st h) : At l d 186 n0 Qp 127 ls st h := sound g_186.2.1 (by rw [g_186.2.2.2]; exact hN) hd k_186_127 127 k_186_127_ok ls st h (by rw [g_186.2.2.2]; exact hw)
theorem l_186_128 {l : Launch} {d n0 : Nat} {Qp : PQ} {ls : List (Option PV)} {st : List PV} {h : PMem} (hd : 1 ≤ d) (hN : n0 ≤ NC) (hw : wp n0 (fun t => At l d 186 n0 Qp t) (CallP (d - 1)) Qp k_186_128 ls st h) : At l d 186 n0 Qp 128 ls st h := sound g_186.2.1 (by rw [g_186.2.2.2]; exact hN) hd k_186_128 128 k_186_128_ok ls st h (by rw [g_186.2.2.2]; exact hw)
theorem l_186_135 {l : Launch} {d n0 : Nat} {Qp : PQ} {ls : List (Option PV)} {st : List PV} {h : PMem} (hd : 1 ≤ d) (hN : n0 ≤ NC) (hw : wp n0 (fun t => At l d 186 n0 Qp t) (CallP (d - 1)) Qp k_186_135 ls st h) : At l d 186 n0 Qp 135 ls st h := sound g_186.2.1 (by rw [g_186.2.2.2]; exact hN) hd k_186_135 135 k_186_135_ok ls st h (by rw [g_186.2.2.2]; exact hw)
theorem f_187 : (((plainName (mY 187).cls && decide (rN (oN 187) = (mY 187).cls)) && decide (mML 187 = 4)) && decide (aC 187 = 0)) = true := by decide +kernel
theorem g_187 : plainName (mY 187).cls = true ∧ rN (oN 187) = (mY 187).cls ∧ mML 187 = 4 ∧ aC 187 = 0 := by
  have h := f_187
  simp only [Bool.and_eq_true, decide_eq_true_eq] at h
  exact ⟨h.1.1.1, h.1.1.2, h.1.2, h.2⟩
theorem s_187 {d : Nat} {Qp : PQ} {v0 : PV} {v1 : PV} {v2 : PV} {h : PMem} (hd : 1 ≤ d) (hN : h.1 ≤ NC) (c0 : pcat v0 = 1 := by rfl) (c1 : pcat v1 = 1 := by rfl) (c2 : pcat v2 = 1 := by rfl) (hw : ∀ l, wp h.1 (fun t => At l d 187 h.1 (Qn h.1 Qp) t) (CallP (d - 1)) (Qn h.1 Qp) k_187_0 [some v0, some v1, some v2, none] [] h) : CallP d 187 [v0, v1, v2] h Qp := by
  refine call_of g_187.1 (by rw [g_187.2.2.1]; simp only [pcats, c0, c1, c2, pcatL]; decide) (fun l => ?_)
  have e : ent (mML 187) [v0, v1, v2] = [some v0, some v1, some v2, none] := by rw [g_187.2.2.1]; simp [ent, pcats, c0, c1, c2, pcatL, List.replicate]
  rw [e]
  refine sound g_187.2.1 (by rw [g_187.2.2.2]; exact hN) hd k_187_0 0 k_187_0_ok _ _ _ ?_
  rw [g_187.2.2.2]
  exact hw l
theorem l_187_39 {l : Launch} {d n0 : Nat} {Qp : PQ} {ls : List (Option PV)} {st : List PV} {h : PMem} (hd : 1 ≤ d) (hN : n0 ≤ NC) (hw : wp n0 (fun t => At l d 187 n0 Qp t) (CallP (d - 1)) Qp k_187_39 ls st h) : At l d 187 n0 Qp 39 ls st h := sound g_187.2.1 (by rw [g_187.2.2.2]; exact hN) hd k_187_39 39 k_187_39_ok ls st h (by rw [g_187.2.2.2]; exact hw)
theorem l_187_43 {l : Launch} {d n0 : Nat} {Qp : PQ} {ls : List (Option PV)} {st : List PV} {h : PMem} (hd : 1 ≤ d) (hN : n0 ≤ NC) (hw : wp n0 (fun t => At l d 187 n0 Qp t) (CallP (d - 1)) Qp k_187_43 ls st h) : At l d 187 n0 Qp 43 ls st h := sound g_187.2.1 (by rw [g_187.2.2.2]; exact hN) hd k_187_43 43 k_187_43_ok ls st h (by rw [g_187.2.2.2]; exact hw)
theorem l_187_47 {l : Launch} {d n0 : Nat} {Qp : PQ} {ls : List (Option PV)} {st : List PV} {h : PMem} (hd : 1 ≤ d) (hN : n0 ≤ NC) (hw : wp n0 (fun t => At l d 187 n0 Qp t) (CallP (d - 1)) Qp k_187_47 ls st h) : At l d 187 n0 Qp 47 ls st h := sound g_187.2.1 (by rw [g_187.2.2.2]; exact hN) hd k_187_47 47 k_187_47_ok ls st h (by rw [g_187.2.2.2]; exact hw)
theorem f_188 : (((plainName (mY 188).cls && decide (rN (oN 188) = (mY 188).cls)) && decide (mML 188 = 3)) && decide (aC 188 = 0)) = true := by decide +kernel
theorem g_188 : plainName (mY 188).cls = true ∧ rN (oN 188) = (mY 188).cls ∧ mML 188 = 3 ∧ aC 188 = 0 := by
  have h := f_188
  simp only [Bool.and_eq_true, decide_eq_true_eq] at h
  exact ⟨h.1.1.1, h.1.1.2, h.1.2, h.2⟩
theorem s_188 {d : Nat} {Qp : PQ} {v0 : PV} {v1 : PV} {h : PMem} (hd : 1 ≤ d) (hN : h.1 ≤ NC) (c0 : pcat v0 = 1 := by rfl) (c1 : pcat v1 = 1 := by rfl) (hw : ∀ l, wp h.1 (fun t => At l d 188 h.1 (Qn h.1 Qp) t) (CallP (d - 1)) (Qn h.1 Qp) k_188_0 [some v0, some v1, none] [] h) : CallP d 188 [v0, v1] h Qp := by
  refine call_of g_188.1 (by rw [g_188.2.2.1]; simp only [pcats, c0, c1, pcatL]; decide) (fun l => ?_)
  have e : ent (mML 188) [v0, v1] = [some v0, some v1, none] := by rw [g_188.2.2.1]; simp [ent, pcats, c0, c1, pcatL, List.replicate]
  rw [e]
  refine sound g_188.2.1 (by rw [g_188.2.2.2]; exact hN) hd k_188_0 0 k_188_0_ok _ _ _ ?_
  rw [g_188.2.2.2]
  exact hw l
theorem l_188_20 {l : Launch} {d n0 : Nat} {Qp : PQ} {ls : List (Option PV)} {st : List PV} {h : PMem} (hd : 1 ≤ d) (hN : n0 ≤ NC) (hw : wp n0 (fun t => At l d 188 n0 Qp t) (CallP (d - 1)) Qp k_188_20 ls st h) : At l d 188 n0 Qp 20 ls st h := sound g_188.2.1 (by rw [g_188.2.2.2]; exact hN) hd k_188_20 20 k_188_20_ok ls st h (by rw [g_188.2.2.2]; exact hw)
theorem l_188_53 {l : Launch} {d n0 : Nat} {Qp : PQ} {ls : List (Option PV)} {st : List PV} {h : PMem} (hd : 1 ≤ d) (hN : n0 ≤ NC) (hw : wp n0 (fun t => At l d 188 n0 Qp t) (CallP (d - 1)) Qp k_188_53 ls st h) : At l d 188 n0 Qp 53 ls st h := sound g_188.2.1 (by rw [g_188.2.2.2]; exact hN) hd k_188_53 53 k_188_53_ok ls st h (by rw [g_188.2.2.2]; exact hw)
theorem f_189 : (((plainName (mY 189).cls && decide (rN (oN 189) = (mY 189).cls)) && decide (mML 189 = 6)) && decide (aC 189 = 0)) = true := by decide +kernel
theorem g_189 : plainName (mY 189).cls = true ∧ rN (oN 189) = (mY 189).cls ∧ mML 189 = 6 ∧ aC 189 = 0 := by
  have h := f_189
  simp only [Bool.and_eq_true, decide_eq_true_eq] at h
  exact ⟨h.1.1.1, h.1.1.2, h.1.2, h.2⟩
theorem s_189 {d : Nat} {Qp : PQ} {v0 : PV} {v1 : PV} {v2 : PV} {v3 : PV} {h : PMem} (hd : 1 ≤ d) (hN : h.1 ≤ NC) (c0 : pcat v0 = 1 := by rfl) (c1 : pcat v1 = 1 := by rfl) (c2 : pcat v2 = 1 := by rfl) (c3 : pcat v3 = 1 := by rfl) (hw : ∀ l, wp h.1 (fun t => At l d 189 h.1 (Qn h.1 Qp) t) (CallP (d - 1)) (Qn h.1 Qp) k_189_0 [some v0, some v1, some v2, some v3, none, none] [] h) : CallP d 189 [v0, v1, v2, v3] h Qp := by
  refine call_of g_189.1 (by rw [g_189.2.2.1]; simp only [pcats, c0, c1, c2, c3, pcatL]; decide) (fun l => ?_)
  have e : ent (mML 189) [v0, v1, v2, v3] = [some v0, some v1, some v2, some v3, none, none] := by rw [g_189.2.2.1]; simp [ent, pcats, c0, c1, c2, c3, pcatL, List.replicate]
  rw [e]
  refine sound g_189.2.1 (by rw [g_189.2.2.2]; exact hN) hd k_189_0 0 k_189_0_ok _ _ _ ?_
  rw [g_189.2.2.2]
  exact hw l
theorem l_189_38 {l : Launch} {d n0 : Nat} {Qp : PQ} {ls : List (Option PV)} {st : List PV} {h : PMem} (hd : 1 ≤ d) (hN : n0 ≤ NC) (hw : wp n0 (fun t => At l d 189 n0 Qp t) (CallP (d - 1)) Qp k_189_38 ls st h) : At l d 189 n0 Qp 38 ls st h := sound g_189.2.1 (by rw [g_189.2.2.2]; exact hN) hd k_189_38 38 k_189_38_ok ls st h (by rw [g_189.2.2.2]; exact hw)
theorem l_189_54 {l : Launch} {d n0 : Nat} {Qp : PQ} {ls : List (Option PV)} {st : List PV} {h : PMem} (hd : 1 ≤ d) (hN : n0 ≤ NC) (hw : wp n0 (fun t => At l d 189 n0 Qp t) (CallP (d - 1)) Qp k_189_54 ls st h) : At l d 189 n0 Qp 54 ls st h := sound g_189.2.1 (by rw [g_189.2.2.2]; exact hN) hd k_189_54 54 k_189_54_ok ls st h (by rw [g_189.2.2.2]; exact hw)
theorem l_189_58 {l : Launch} {d n0 : Nat} {Qp : PQ} {ls : List (Option PV)} {st : List PV} {h : PMem} (hd : 1 ≤ d) (hN : n0 ≤ NC) (hw : wp n0 (fun t => At l d 189 n0 Qp t) (CallP (d - 1)) Qp k_189_58 ls st h) : At l d 189 n0 Qp 58 ls st h := sound g_189.2.1 (by rw [g_189.2.2.2]; exact hN) hd k_189_58 58 k_189_58_ok ls st h (by rw [g_189.2.2.2]; exact hw)
theorem l_189_59 {l : Launch} {d n0 : Nat} {Qp : PQ} {ls : List (Option PV)} {st : List PV} {h : PMem} (hd : 1 ≤ d) (hN : n0 ≤ NC) (hw : wp n0 (fun t => At l d 189 n0 Qp t) (CallP (d - 1)) Qp k_189_59 ls st h) : At l d 189 n0 Qp 59 ls st h := sound g_189.2.1 (by rw [g_189.2.2.2]; exact hN) hd k_189_59 59 k_189_59_ok ls st h (by rw [g_189.2.2.2]; exact hw)
theorem f_190 : (((plainName (mY 190).cls && decide (rN (oN 190) = (mY 190).cls)) && decide (mML 190 = 13)) && decide (aC 190 = 0)) = true := by decide +kernel
theorem g_190 : plainName (mY 190).cls = true ∧ rN (oN 190) = (mY 190).cls ∧ mML 190 = 13 ∧ aC 190 = 0 := by
  have h := f_190
  simp only [Bool.and_eq_true, decide_eq_true_eq] at h
  exact ⟨h.1.1.1, h.1.1.2, h.1.2, h.2⟩
theorem s_190 {d : Nat} {Qp : PQ} {v0 : PV} {v1 : PV} {v2 : PV} {v3 : PV} {h : PMem} (hd : 1 ≤ d) (hN : h.1 ≤ NC) (c0 : pcat v0 = 1 := by rfl) (c1 : pcat v1 = 1 := by rfl) (c2 : pcat v2 = 1 := by rfl) (c3 : pcat v3 = 1 := by rfl) (hw : ∀ l, wp h.1 (fun t => At l d 190 h.1 (Qn h.1 Qp) t) (CallP (d - 1)) (Qn h.1 Qp) k_190_0 [some v0, some v1, some v2, some v3, none, none, none, none, none, none, none, none, none] [] h) : CallP d 190 [v0, v1, v2, v3] h Qp := by
  refine call_of g_190.1 (by rw [g_190.2.2.1]; simp only [pcats, c0, c1, c2, c3, pcatL]; decide) (fun l => ?_)
  have e : ent (mML 190) [v0, v1, v2, v3] = [some v0, some v1, some v2, some v3, none, none, none, none, none, none, none, none, none] := by rw [g_190.2.2.1]; simp [ent, pcats, c0, c1, c2, c3, pcatL, List.replicate]
  rw [e]
  refine sound g_190.2.1 (by rw [g_190.2.2.2]; exact hN) hd k_190_0 0 k_190_0_ok _ _ _ ?_
  rw [g_190.2.2.2]
  exact hw l
theorem l_190_22 {l : Launch} {d n0 : Nat} {Qp : PQ} {ls : List (Option PV)} {st : List PV} {h : PMem} (hd : 1 ≤ d) (hN : n0 ≤ NC) (hw : wp n0 (fun t => At l d 190 n0 Qp t) (CallP (d - 1)) Qp k_190_22 ls st h) : At l d 190 n0 Qp 22 ls st h := sound g_190.2.1 (by rw [g_190.2.2.2]; exact hN) hd k_190_22 22 k_190_22_ok ls st h (by rw [g_190.2.2.2]; exact hw)
theorem l_190_29 {l : Launch} {d n0 : Nat} {Qp : PQ} {ls : List (Option PV)} {st : List PV} {h : PMem} (hd : 1 ≤ d) (hN : n0 ≤ NC) (hw : wp n0 (fun t => At l d 190 n0 Qp t) (CallP (d - 1)) Qp k_190_29 ls st h) : At l d 190 n0 Qp 29 ls st h := sound g_190.2.1 (by rw [g_190.2.2.2]; exact hN) hd k_190_29 29 k_190_29_ok ls st h (by rw [g_190.2.2.2]; exact hw)
theorem l_190_37 {l : Launch} {d n0 : Nat} {Qp : PQ} {ls : List (Option PV)} {st : List PV} {h : PMem} (hd : 1 ≤ d) (hN : n0 ≤ NC) (hw : wp n0 (fun t => At l d 190 n0 Qp t) (CallP (d - 1)) Qp k_190_37 ls st h) : At l d 190 n0 Qp 37 ls st h := sound g_190.2.1 (by rw [g_190.2.2.2]; exact hN) hd k_190_37 37 k_190_37_ok ls st h (by rw [g_190.2.2.2]; exact hw)
theorem l_190_64 {l : Launch} {d n0 : Nat} {Qp : PQ} {ls : List (Option PV)} {st : List PV} {h : PMem} (hd : 1 ≤ d) (hN : n0 ≤ NC) (hw : wp n0 (fun t => At l d 190 n0 Qp t) (CallP (d - 1)) Qp k_190_64 ls st h) : At l d 190 n0 Qp 64 ls st h := sound g_190.2.1 (by rw [g_190.2.2.2]; exact hN) hd k_190_64 64 k_190_64_ok ls st h (by rw [g_190.2.2.2]; exact hw)
theorem l_190_76 {l : Launch} {d n0 : Nat} {Qp : PQ} {ls : List (Option PV)} {st : List PV} {h : PMem} (hd : 1 ≤ d) (hN : n0 ≤ NC) (hw : wp n0 (fun t => At l d 190 n0 Qp t) (CallP (d - 1)) Qp k_190_76 ls st h) : At l d 190 n0 Qp 76 ls st h := sound g_190.2.1 (by rw [g_190.2.2.2]; exact hN) hd k_190_76 76 k_190_76_ok ls st h (by rw [g_190.2.2.2]; exact hw)
theorem l_190_79 {l : Launch} {d n0 : Nat} {Qp : PQ} {ls : List (Option PV)} {st : List PV} {h : PMem} (hd : 1 ≤ d) (hN : n0 ≤ NC) (hw : wp n0 (fun t => At l d 190 n0 Qp t) (CallP (d - 1)) Qp k_190_79 ls st h) : At l d 190 n0 Qp 79 ls st h := sound g_190.2.1 (by rw [g_190.2.2.2]; exact hN) hd k_190_79 79 k_190_79_ok ls st h (by rw [g_190.2.2.2]; exact hw)
theorem l_190_92 {l : Launch} {d n0 : Nat} {Qp : PQ} {ls : List (Option PV)} {st : List PV} {h : PMem} (hd : 1 ≤ d) (hN : n0 ≤ NC) (hw : wp n0 (fun t => At l d 190 n0 Qp t) (CallP (d - 1)) Qp k_190_92 ls st h) : At l d 190 n0 Qp 92 ls st h := sound g_190.2.1 (by rw [g_190.2.2.2]; exact hN) hd k_190_92 92 k_190_92_ok ls st h (by rw [g_190.2.2.2]; exact hw)
theorem l_190_97 {l : Launch} {d n0 : Nat} {Qp : PQ} {ls : List (Option PV)} {st : List PV} {h : PMem} (hd : 1 ≤ d) (hN : n0 ≤ NC) (hw : wp n0 (fun t => At l d 190 n0 Qp t) (CallP (d - 1)) Qp k_190_97 ls st h) : At l d 190 n0 Qp 97 ls st h := sound g_190.2.1 (by rw [g_190.2.2.2]; exact hN) hd k_190_97 97 k_190_97_ok ls st h (by rw [g_190.2.2.2]; exact hw)
theorem l_190_133 {l : Launch} {d n0 : Nat} {Qp : PQ} {ls : List (Option PV)} {st : List PV} {h : PMem} (hd : 1 ≤ d) (hN : n0 ≤ NC) (hw : wp n0 (fun t => At l d 190 n0 Qp t) (CallP (d - 1)) Qp k_190_133 ls st h) : At l d 190 n0 Qp 133 ls st h := sound g_190.2.1 (by rw [g_190.2.2.2]; exact hN) hd k_190_133 133 k_190_133_ok ls st h (by rw [g_190.2.2.2]; exact hw)
theorem l_190_137 {l : Launch} {d n0 : Nat} {Qp : PQ} {ls : List (Option PV)} {st : List PV} {h : PMem} (hd : 1 ≤ d) (hN : n0 ≤ NC) (hw : wp n0 (fun t => At l d 190 n0 Qp t) (CallP (d - 1)) Qp k_190_137 ls st h) : At l d 190 n0 Qp 137 ls st h := sound g_190.2.1 (by rw [g_190.2.2.2]; exact hN) hd k_190_137 137 k_190_137_ok ls st h (by rw [g_190.2.2.2]; exact hw)
theorem l_190_138 {l : Launch} {d n0 : Nat} {Qp : PQ} {ls : List (Option PV)} {st : List PV} {h : PMem} (hd : 1 ≤ d) (hN : n0 ≤ NC) (hw : wp n0 (fun t => At l d 190 n0 Qp t) (CallP (d - 1)) Qp k_190_138 ls st h) : At l d 190 n0 Qp 138 ls st h := sound g_190.2.1 (by rw [g_190.2.2.2]; exact hN) hd k_190_138 138 k_190_138_ok ls st h (by rw [g_190.2.2.2]; exact hw)
theorem l_190_143 {l : Launch} {d n0 : Nat} {Qp : PQ} {ls : List (Option PV)} {st : List PV} {h : PMem} (hd : 1 ≤ d) (hN : n0 ≤ NC) (hw : wp n0 (fun t => At l d 190 n0 Qp t) (CallP (d - 1)) Qp k_190_143 ls st h) : At l d 190 n0 Qp 143 ls st h := sound g_190.2.1 (by rw [g_190.2.2.2]; exact hN) hd k_190_143 143 k_190_143_ok ls st h (by rw [g_190.2.2.2]; exact hw)
theorem l_190_174 {l : Launch} {d n0 : Nat} {Qp : PQ} {ls : List (Option PV)} {st : List PV} {h : PMem} (hd : 1 ≤ d) (hN : n0 ≤ NC) (hw : wp n0 (fun t => At l d 190 n0 Qp t) (CallP (d - 1)) Qp k_190_174 ls st h) : At l d 190 n0 Qp 174 ls st h := sound g_190.2.1 (by rw [g_190.2.2.2]; exact hN) hd k_190_174 174 k_190_174_ok ls st h (by rw [g_190.2.2.2]; exact hw)
theorem l_190_199 {l : Launch} {d n0 : Nat} {Qp : PQ} {ls : List (Option PV)} {st : List PV} {h : PMem} (hd : 1 ≤ d) (hN : n0 ≤ NC) (hw : wp n0 (fun t => At l d 190 n0 Qp t) (CallP (d - 1)) Qp k_190_199 ls st h) : At l d 190 n0 Qp 199 ls st h := sound g_190.2.1 (by rw [g_190.2.2.2]; exact hN) hd k_190_199 199 k_190_199_ok ls st h (by rw [g_190.2.2.2]; exact hw)
theorem l_190_205 {l : Launch} {d n0 : Nat} {Qp : PQ} {ls : List (Option PV)} {st : List PV} {h : PMem} (hd : 1 ≤ d) (hN : n0 ≤ NC) (hw : wp n0 (fun t => At l d 190 n0 Qp t) (CallP (d - 1)) Qp k_190_205 ls st h) : At l d 190 n0 Qp 205 ls st h := sound g_190.2.1 (by rw [g_190.2.2.2]; exact hN) hd k_190_205 205 k_190_205_ok ls st h (by rw [g_190.2.2.2]; exact hw)
theorem l_190_240 {l : Launch} {d n0 : Nat} {Qp : PQ} {ls : List (Option PV)} {st : List PV} {h : PMem} (hd : 1 ≤ d) (hN : n0 ≤ NC) (hw : wp n0 (fun t => At l d 190 n0 Qp t) (CallP (d - 1)) Qp k_190_240 ls st h) : At l d 190 n0 Qp 240 ls st h := sound g_190.2.1 (by rw [g_190.2.2.2]; exact hN) hd k_190_240 240 k_190_240_ok ls st h (by rw [g_190.2.2.2]; exact hw)
theorem l_190_241 {l : Launch} {d n0 : Nat} {Qp : PQ} {ls : List (Option PV)} {st : List PV} {h : PMem} (hd : 1 ≤ d) (hN : n0 ≤ NC) (hw : wp n0 (fun t => At l d 190 n0 Qp t) (CallP (d - 1)) Qp k_190_241 ls st h) : At l d 190 n0 Qp 241 ls st h := sound g_190.2.1 (by rw [g_190.2.2.2]; exact hN) hd k_190_241 241 k_190_241_ok ls st h (by rw [g_190.2.2.2]; exact hw)
theorem l_190_250 {l : Launch} {d n0 : Nat} {Qp : PQ} {ls : List (Option PV)} {st : List PV} {h : PMem} (hd : 1 ≤ d) (hN : n0 ≤ NC) (hw : wp n0 (fun t => At l d 190 n0 Qp t) (CallP (d - 1)) Qp k_190_250 ls st h) : At l d 190 n0 Qp 250 ls st h := sound g_190.2.1 (by rw [g_190.2.2.2]; exact hN) hd k_190_250 250 k_190_250_ok ls st h (by rw [g_190.2.2.2]; exact hw)
theorem l_190_263 {l : Launch} {d n0 : Nat} {Qp : PQ} {ls : List (Option PV)} {st : List PV} {h : PMem} (hd : 1 ≤ d) (hN : n0 ≤ NC) (hw : wp n0 (fun t => At l d 190 n0 Qp t) (CallP (d - 1)) Qp k_190_263 ls st h) : At l d 190 n0 Qp 263 ls st h := sound g_190.2.1 (by rw [g_190.2.2.2]; exact hN) hd k_190_263 263 k_190_263_ok ls st h (by rw [g_190.2.2.2]; exact hw)
theorem l_190_271 {l : Launch} {d n0 : Nat} {Qp : PQ} {ls : List (Option PV)} {st : List PV} {h : PMem} (hd : 1 ≤ d) (hN : n0 ≤ NC) (hw : wp n0 (fun t => At l d 190 n0 Qp t) (CallP (d - 1)) Qp k_190_271 ls st h) : At l d 190 n0 Qp 271 ls st h := sound g_190.2.1 (by rw [g_190.2.2.2]; exact hN) hd k_190_271 271 k_190_271_ok ls st h (by rw [g_190.2.2.2]; exact hw)
theorem l_190_277 {l : Launch} {d n0 : Nat} {Qp : PQ} {ls : List (Option PV)} {st : List PV} {h : PMem} (hd : 1 ≤ d) (hN : n0 ≤ NC) (hw : wp n0 (fun t => At l d 190 n0 Qp t) (CallP (d - 1)) Qp k_190_277 ls st h) : At l d 190 n0 Qp 277 ls st h := sound g_190.2.1 (by rw [g_190.2.2.2]; exact hN) hd k_190_277 277 k_190_277_ok ls st h (by rw [g_190.2.2.2]; exact hw)
theorem l_190_287 {l : Launch} {d n0 : Nat} {Qp : PQ} {ls : List (Option PV)} {st : List PV} {h : PMem} (hd : 1 ≤ d) (hN : n0 ≤ NC) (hw : wp n0 (fun t => At l d 190 n0 Qp t) (CallP (d - 1)) Qp k_190_287 ls st h) : At l d 190 n0 Qp 287 ls st h := sound g_190.2.1 (by rw [g_190.2.2.2]; exact hN) hd k_190_287 287 k_190_287_ok ls st h (by rw [g_190.2.2.2]; exact hw)
theorem l_190_295 {l : Launch} {d n0 : Nat} {Qp : PQ} {ls : List (Option PV)} {st : List PV} {h : PMem} (hd : 1 ≤ d) (hN : n0 ≤ NC) (hw : wp n0 (fun t => At l d 190 n0 Qp t) (CallP (d - 1)) Qp k_190_295 ls st h) : At l d 190 n0 Qp 295 ls st h := sound g_190.2.1 (by rw [g_190.2.2.2]; exact hN) hd k_190_295 295 k_190_295_ok ls st h (by rw [g_190.2.2.2]; exact hw)
theorem l_190_300 {l : Launch} {d n0 : Nat} {Qp : PQ} {ls : List (Option PV)} {st : List PV} {h : PMem} (hd : 1 ≤ d) (hN : n0 ≤ NC) (hw : wp n0 (fun t => At l d 190 n0 Qp t) (CallP (d - 1)) Qp k_190_300 ls st h) : At l d 190 n0 Qp 300 ls st h := sound g_190.2.1 (by rw [g_190.2.2.2]; exact hN) hd k_190_300 300 k_190_300_ok ls st h (by rw [g_190.2.2.2]; exact hw)
theorem l_190_312 {l : Launch} {d n0 : Nat} {Qp : PQ} {ls : List (Option PV)} {st : List PV} {h : PMem} (hd : 1 ≤ d) (hN : n0 ≤ NC) (hw : wp n0 (fun t => At l d 190 n0 Qp t) (CallP (d - 1)) Qp k_190_312 ls st h) : At l d 190 n0 Qp 312 ls st h := sound g_190.2.1 (by rw [g_190.2.2.2]; exact hN) hd k_190_312 312 k_190_312_ok ls st h (by rw [g_190.2.2.2]; exact hw)
theorem l_190_326 {l : Launch} {d n0 : Nat} {Qp : PQ} {ls : List (Option PV)} {st : List PV} {h : PMem} (hd : 1 ≤ d) (hN : n0 ≤ NC) (hw : wp n0 (fun t => At l d 190 n0 Qp t) (CallP (d - 1)) Qp k_190_326 ls st h) : At l d 190 n0 Qp 326 ls st h := sound g_190.2.1 (by rw [g_190.2.2.2]; exact hN) hd k_190_326 326 k_190_326_ok ls st h (by rw [g_190.2.2.2]; exact hw)
theorem f_191 : (((plainName (mY 191).cls && decide (rN (oN 191) = (mY 191).cls)) && decide (mML 191 = 1)) && decide (aC 191 = 0)) = true := by decide +kernel
theorem g_191 : plainName (mY 191).cls = true ∧ rN (oN 191) = (mY 191).cls ∧ mML 191 = 1 ∧ aC 191 = 0 := by
  have h := f_191
  simp only [Bool.and_eq_true, decide_eq_true_eq] at h
  exact ⟨h.1.1.1, h.1.1.2, h.1.2, h.2⟩
theorem s_191 {d : Nat} {Qp : PQ} {v0 : PV} {h : PMem} (hd : 1 ≤ d) (hN : h.1 ≤ NC) (c0 : pcat v0 = 1 := by rfl) (hw : ∀ l, wp h.1 (fun t => At l d 191 h.1 (Qn h.1 Qp) t) (CallP (d - 1)) (Qn h.1 Qp) k_191_0 [some v0] [] h) : CallP d 191 [v0] h Qp := by
  refine call_of g_191.1 (by rw [g_191.2.2.1]; simp only [pcats, c0, pcatL]; decide) (fun l => ?_)
  have e : ent (mML 191) [v0] = [some v0] := by rw [g_191.2.2.1]; simp [ent, pcats, c0, pcatL, List.replicate]
  rw [e]
  refine sound g_191.2.1 (by rw [g_191.2.2.2]; exact hN) hd k_191_0 0 k_191_0_ok _ _ _ ?_
  rw [g_191.2.2.2]
  exact hw l
theorem f_192 : (((plainName (mY 192).cls && decide (rN (oN 192) = (mY 192).cls)) && decide (mML 192 = 3)) && decide (aC 192 = 0)) = true := by decide +kernel
theorem g_192 : plainName (mY 192).cls = true ∧ rN (oN 192) = (mY 192).cls ∧ mML 192 = 3 ∧ aC 192 = 0 := by
  have h := f_192
  simp only [Bool.and_eq_true, decide_eq_true_eq] at h
  exact ⟨h.1.1.1, h.1.1.2, h.1.2, h.2⟩
theorem s_192 {d : Nat} {Qp : PQ} {v0 : PV} {v1 : PV} {v2 : PV} {h : PMem} (hd : 1 ≤ d) (hN : h.1 ≤ NC) (c0 : pcat v0 = 1 := by rfl) (c1 : pcat v1 = 1 := by rfl) (c2 : pcat v2 = 1 := by rfl) (hw : ∀ l, wp h.1 (fun t => At l d 192 h.1 (Qn h.1 Qp) t) (CallP (d - 1)) (Qn h.1 Qp) k_192_0 [some v0, some v1, some v2] [] h) : CallP d 192 [v0, v1, v2] h Qp := by
  refine call_of g_192.1 (by rw [g_192.2.2.1]; simp only [pcats, c0, c1, c2, pcatL]; decide) (fun l => ?_)
  have e : ent (mML 192) [v0, v1, v2] = [some v0, some v1, some v2] := by rw [g_192.2.2.1]; simp [ent, pcats, c0, c1, c2, pcatL, List.replicate]
  rw [e]
  refine sound g_192.2.1 (by rw [g_192.2.2.2]; exact hN) hd k_192_0 0 k_192_0_ok _ _ _ ?_
  rw [g_192.2.2.2]
  exact hw l
theorem l_192_16 {l : Launch} {d n0 : Nat} {Qp : PQ} {ls : List (Option PV)} {st : List PV} {h : PMem} (hd : 1 ≤ d) (hN : n0 ≤ NC) (hw : wp n0 (fun t => At l d 192 n0 Qp t) (CallP (d - 1)) Qp k_192_16 ls st h) : At l d 192 n0 Qp 16 ls st h := sound g_192.2.1 (by rw [g_192.2.2.2]; exact hN) hd k_192_16 16 k_192_16_ok ls st h (by rw [g_192.2.2.2]; exact hw)
theorem l_192_17 {l : Launch} {d n0 : Nat} {Qp : PQ} {ls : List (Option PV)} {st : List PV} {h : PMem} (hd : 1 ≤ d) (hN : n0 ≤ NC) (hw : wp n0 (fun t => At l d 192 n0 Qp t) (CallP (d - 1)) Qp k_192_17 ls st h) : At l d 192 n0 Qp 17 ls st h := sound g_192.2.1 (by rw [g_192.2.2.2]; exact hN) hd k_192_17 17 k_192_17_ok ls st h (by rw [g_192.2.2.2]; exact hw)
theorem f_193 : (((plainName (mY 193).cls && decide (rN (oN 193) = (mY 193).cls)) && decide (mML 193 = 4)) && decide (aC 193 = 0)) = true := by decide +kernel
theorem g_193 : plainName (mY 193).cls = true ∧ rN (oN 193) = (mY 193).cls ∧ mML 193 = 4 ∧ aC 193 = 0 := by
  have h := f_193
  simp only [Bool.and_eq_true, decide_eq_true_eq] at h
  exact ⟨h.1.1.1, h.1.1.2, h.1.2, h.2⟩
theorem s_193 {d : Nat} {Qp : PQ} {v0 : PV} {v1 : PV} {v2 : PV} {h : PMem} (hd : 1 ≤ d) (hN : h.1 ≤ NC) (c0 : pcat v0 = 1 := by rfl) (c1 : pcat v1 = 1 := by rfl) (c2 : pcat v2 = 1 := by rfl) (hw : ∀ l, wp h.1 (fun t => At l d 193 h.1 (Qn h.1 Qp) t) (CallP (d - 1)) (Qn h.1 Qp) k_193_0 [some v0, some v1, some v2, none] [] h) : CallP d 193 [v0, v1, v2] h Qp := by
  refine call_of g_193.1 (by rw [g_193.2.2.1]; simp only [pcats, c0, c1, c2, pcatL]; decide) (fun l => ?_)
  have e : ent (mML 193) [v0, v1, v2] = [some v0, some v1, some v2, none] := by rw [g_193.2.2.1]; simp [ent, pcats, c0, c1, c2, pcatL, List.replicate]
  rw [e]
  refine sound g_193.2.1 (by rw [g_193.2.2.2]; exact hN) hd k_193_0 0 k_193_0_ok _ _ _ ?_
  rw [g_193.2.2.2]
  exact hw l
theorem l_193_14 {l : Launch} {d n0 : Nat} {Qp : PQ} {ls : List (Option PV)} {st : List PV} {h : PMem} (hd : 1 ≤ d) (hN : n0 ≤ NC) (hw : wp n0 (fun t => At l d 193 n0 Qp t) (CallP (d - 1)) Qp k_193_14 ls st h) : At l d 193 n0 Qp 14 ls st h := sound g_193.2.1 (by rw [g_193.2.2.2]; exact hN) hd k_193_14 14 k_193_14_ok ls st h (by rw [g_193.2.2.2]; exact hw)
theorem l_193_19 {l : Launch} {d n0 : Nat} {Qp : PQ} {ls : List (Option PV)} {st : List PV} {h : PMem} (hd : 1 ≤ d) (hN : n0 ≤ NC) (hw : wp n0 (fun t => At l d 193 n0 Qp t) (CallP (d - 1)) Qp k_193_19 ls st h) : At l d 193 n0 Qp 19 ls st h := sound g_193.2.1 (by rw [g_193.2.2.2]; exact hN) hd k_193_19 19 k_193_19_ok ls st h (by rw [g_193.2.2.2]; exact hw)
theorem l_193_21 {l : Launch} {d n0 : Nat} {Qp : PQ} {ls : List (Option PV)} {st : List PV} {h : PMem} (hd : 1 ≤ d) (hN : n0 ≤ NC) (hw : wp n0 (fun t => At l d 193 n0 Qp t) (CallP (d - 1)) Qp k_193_21 ls st h) : At l d 193 n0 Qp 21 ls st h := sound g_193.2.1 (by rw [g_193.2.2.2]; exact hN) hd k_193_21 21 k_193_21_ok ls st h (by rw [g_193.2.2.2]; exact hw)
theorem l_193_36 {l : Launch} {d n0 : Nat} {Qp : PQ} {ls : List (Option PV)} {st : List PV} {h : PMem} (hd : 1 ≤ d) (hN : n0 ≤ NC) (hw : wp n0 (fun t => At l d 193 n0 Qp t) (CallP (d - 1)) Qp k_193_36 ls st h) : At l d 193 n0 Qp 36 ls st h := sound g_193.2.1 (by rw [g_193.2.2.2]; exact hN) hd k_193_36 36 k_193_36_ok ls st h (by rw [g_193.2.2.2]; exact hw)
theorem f_194 : (((plainName (mY 194).cls && decide (rN (oN 194) = (mY 194).cls)) && decide (mML 194 = 6)) && decide (aC 194 = 0)) = true := by decide +kernel
theorem g_194 : plainName (mY 194).cls = true ∧ rN (oN 194) = (mY 194).cls ∧ mML 194 = 6 ∧ aC 194 = 0 := by
  have h := f_194
  simp only [Bool.and_eq_true, decide_eq_true_eq] at h
  exact ⟨h.1.1.1, h.1.1.2, h.1.2, h.2⟩
theorem s_194 {d : Nat} {Qp : PQ} {v0 : PV} {v1 : PV} {v2 : PV} {v3 : PV} {v4 : PV} {h : PMem} (hd : 1 ≤ d) (hN : h.1 ≤ NC) (c0 : pcat v0 = 1 := by rfl) (c1 : pcat v1 = 1 := by rfl) (c2 : pcat v2 = 1 := by rfl) (c3 : pcat v3 = 1 := by rfl) (c4 : pcat v4 = 1 := by rfl) (hw : ∀ l, wp h.1 (fun t => At l d 194 h.1 (Qn h.1 Qp) t) (CallP (d - 1)) (Qn h.1 Qp) k_194_0 [some v0, some v1, some v2, some v3, some v4, none] [] h) : CallP d 194 [v0, v1, v2, v3, v4] h Qp := by
  refine call_of g_194.1 (by rw [g_194.2.2.1]; simp only [pcats, c0, c1, c2, c3, c4, pcatL]; decide) (fun l => ?_)
  have e : ent (mML 194) [v0, v1, v2, v3, v4] = [some v0, some v1, some v2, some v3, some v4, none] := by rw [g_194.2.2.1]; simp [ent, pcats, c0, c1, c2, c3, c4, pcatL, List.replicate]
  rw [e]
  refine sound g_194.2.1 (by rw [g_194.2.2.2]; exact hN) hd k_194_0 0 k_194_0_ok _ _ _ ?_
  rw [g_194.2.2.2]
  exact hw l
theorem l_194_29 {l : Launch} {d n0 : Nat} {Qp : PQ} {ls : List (Option PV)} {st : List PV} {h : PMem} (hd : 1 ≤ d) (hN : n0 ≤ NC) (hw : wp n0 (fun t => At l d 194 n0 Qp t) (CallP (d - 1)) Qp k_194_29 ls st h) : At l d 194 n0 Qp 29 ls st h := sound g_194.2.1 (by rw [g_194.2.2.2]; exact hN) hd k_194_29 29 k_194_29_ok ls st h (by rw [g_194.2.2.2]; exact hw)
theorem l_194_36 {l : Launch} {d n0 : Nat} {Qp : PQ} {ls : List (Option PV)} {st : List PV} {h : PMem} (hd : 1 ≤ d) (hN : n0 ≤ NC) (hw : wp n0 (fun t => At l d 194 n0 Qp t) (CallP (d - 1)) Qp k_194_36 ls st h) : At l d 194 n0 Qp 36 ls st h := sound g_194.2.1 (by rw [g_194.2.2.2]; exact hN) hd k_194_36 36 k_194_36_ok ls st h (by rw [g_194.2.2.2]; exact hw)
theorem l_194_39 {l : Launch} {d n0 : Nat} {Qp : PQ} {ls : List (Option PV)} {st : List PV} {h : PMem} (hd : 1 ≤ d) (hN : n0 ≤ NC) (hw : wp n0 (fun t => At l d 194 n0 Qp t) (CallP (d - 1)) Qp k_194_39 ls st h) : At l d 194 n0 Qp 39 ls st h := sound g_194.2.1 (by rw [g_194.2.2.2]; exact hN) hd k_194_39 39 k_194_39_ok ls st h (by rw [g_194.2.2.2]; exact hw)
theorem l_194_73 {l : Launch} {d n0 : Nat} {Qp : PQ} {ls : List (Option PV)} {st : List PV} {h : PMem} (hd : 1 ≤ d) (hN : n0 ≤ NC) (hw : wp n0 (fun t => At l d 194 n0 Qp t) (CallP (d - 1)) Qp k_194_73 ls st h) : At l d 194 n0 Qp 73 ls st h := sound g_194.2.1 (by rw [g_194.2.2.2]; exact hN) hd k_194_73 73 k_194_73_ok ls st h (by rw [g_194.2.2.2]; exact hw)
theorem l_194_79 {l : Launch} {d n0 : Nat} {Qp : PQ} {ls : List (Option PV)} {st : List PV} {h : PMem} (hd : 1 ≤ d) (hN : n0 ≤ NC) (hw : wp n0 (fun t => At l d 194 n0 Qp t) (CallP (d - 1)) Qp k_194_79 ls st h) : At l d 194 n0 Qp 79 ls st h := sound g_194.2.1 (by rw [g_194.2.2.2]; exact hN) hd k_194_79 79 k_194_79_ok ls st h (by rw [g_194.2.2.2]; exact hw)
theorem f_195 : (((plainName (mY 195).cls && decide (rN (oN 195) = (mY 195).cls)) && decide (mML 195 = 4)) && decide (aC 195 = 0)) = true := by decide +kernel
theorem g_195 : plainName (mY 195).cls = true ∧ rN (oN 195) = (mY 195).cls ∧ mML 195 = 4 ∧ aC 195 = 0 := by
  have h := f_195
  simp only [Bool.and_eq_true, decide_eq_true_eq] at h
  exact ⟨h.1.1.1, h.1.1.2, h.1.2, h.2⟩
theorem s_195 {d : Nat} {Qp : PQ} {v0 : PV} {v1 : PV} {h : PMem} (hd : 1 ≤ d) (hN : h.1 ≤ NC) (c0 : pcat v0 = 1 := by rfl) (c1 : pcat v1 = 1 := by rfl) (hw : ∀ l, wp h.1 (fun t => At l d 195 h.1 (Qn h.1 Qp) t) (CallP (d - 1)) (Qn h.1 Qp) k_195_0 [some v0, some v1, none, none] [] h) : CallP d 195 [v0, v1] h Qp := by
  refine call_of g_195.1 (by rw [g_195.2.2.1]; simp only [pcats, c0, c1, pcatL]; decide) (fun l => ?_)
  have e : ent (mML 195) [v0, v1] = [some v0, some v1, none, none] := by rw [g_195.2.2.1]; simp [ent, pcats, c0, c1, pcatL, List.replicate]
  rw [e]
  refine sound g_195.2.1 (by rw [g_195.2.2.2]; exact hN) hd k_195_0 0 k_195_0_ok _ _ _ ?_
  rw [g_195.2.2.2]
  exact hw l
theorem l_195_4 {l : Launch} {d n0 : Nat} {Qp : PQ} {ls : List (Option PV)} {st : List PV} {h : PMem} (hd : 1 ≤ d) (hN : n0 ≤ NC) (hw : wp n0 (fun t => At l d 195 n0 Qp t) (CallP (d - 1)) Qp k_195_4 ls st h) : At l d 195 n0 Qp 4 ls st h := sound g_195.2.1 (by rw [g_195.2.2.2]; exact hN) hd k_195_4 4 k_195_4_ok ls st h (by rw [g_195.2.2.2]; exact hw)
theorem l_195_19 {l : Launch} {d n0 : Nat} {Qp : PQ} {ls : List (Option PV)} {st : List PV} {h : PMem} (hd : 1 ≤ d) (hN : n0 ≤ NC) (hw : wp n0 (fun t => At l d 195 n0 Qp t) (CallP (d - 1)) Qp k_195_19 ls st h) : At l d 195 n0 Qp 19 ls st h := sound g_195.2.1 (by rw [g_195.2.2.2]; exact hN) hd k_195_19 19 k_195_19_ok ls st h (by rw [g_195.2.2.2]; exact hw)
theorem f_196 : (((plainName (mY 196).cls && decide (rN (oN 196) = (mY 196).cls)) && decide (mML 196 = 8)) && decide (aC 196 = 0)) = true := by decide +kernel
theorem g_196 : plainName (mY 196).cls = true ∧ rN (oN 196) = (mY 196).cls ∧ mML 196 = 8 ∧ aC 196 = 0 := by
  have h := f_196
  simp only [Bool.and_eq_true, decide_eq_true_eq] at h
  exact ⟨h.1.1.1, h.1.1.2, h.1.2, h.2⟩
theorem s_196 {d : Nat} {Qp : PQ} {v0 : PV} {v1 : PV} {v2 : PV} {v3 : PV} {h : PMem} (hd : 1 ≤ d) (hN : h.1 ≤ NC) (c0 : pcat v0 = 1 := by rfl) (c1 : pcat v1 = 1 := by rfl) (c2 : pcat v2 = 1 := by rfl) (c3 : pcat v3 = 1 := by rfl) (hw : ∀ l, wp h.1 (fun t => At l d 196 h.1 (Qn h.1 Qp) t) (CallP (d - 1)) (Qn h.1 Qp) k_196_0 [some v0, some v1, some v2, some v3, none, none, none, none] [] h) : CallP d 196 [v0, v1, v2, v3] h Qp := by
  refine call_of g_196.1 (by rw [g_196.2.2.1]; simp only [pcats, c0, c1, c2, c3, pcatL]; decide) (fun l => ?_)
  have e : ent (mML 196) [v0, v1, v2, v3] = [some v0, some v1, some v2, some v3, none, none, none, none] := by rw [g_196.2.2.1]; simp [ent, pcats, c0, c1, c2, c3, pcatL, List.replicate]
  rw [e]
  refine sound g_196.2.1 (by rw [g_196.2.2.2]; exact hN) hd k_196_0 0 k_196_0_ok _ _ _ ?_
  rw [g_196.2.2.2]
  exact hw l
theorem l_196_6 {l : Launch} {d n0 : Nat} {Qp : PQ} {ls : List (Option PV)} {st : List PV} {h : PMem} (hd : 1 ≤ d) (hN : n0 ≤ NC) (hw : wp n0 (fun t => At l d 196 n0 Qp t) (CallP (d - 1)) Qp k_196_6 ls st h) : At l d 196 n0 Qp 6 ls st h := sound g_196.2.1 (by rw [g_196.2.2.2]; exact hN) hd k_196_6 6 k_196_6_ok ls st h (by rw [g_196.2.2.2]; exact hw)
theorem l_196_18 {l : Launch} {d n0 : Nat} {Qp : PQ} {ls : List (Option PV)} {st : List PV} {h : PMem} (hd : 1 ≤ d) (hN : n0 ≤ NC) (hw : wp n0 (fun t => At l d 196 n0 Qp t) (CallP (d - 1)) Qp k_196_18 ls st h) : At l d 196 n0 Qp 18 ls st h := sound g_196.2.1 (by rw [g_196.2.2.2]; exact hN) hd k_196_18 18 k_196_18_ok ls st h (by rw [g_196.2.2.2]; exact hw)
theorem l_196_58 {l : Launch} {d n0 : Nat} {Qp : PQ} {ls : List (Option PV)} {st : List PV} {h : PMem} (hd : 1 ≤ d) (hN : n0 ≤ NC) (hw : wp n0 (fun t => At l d 196 n0 Qp t) (CallP (d - 1)) Qp k_196_58 ls st h) : At l d 196 n0 Qp 58 ls st h := sound g_196.2.1 (by rw [g_196.2.2.2]; exact hN) hd k_196_58 58 k_196_58_ok ls st h (by rw [g_196.2.2.2]; exact hw)
theorem l_196_76 {l : Launch} {d n0 : Nat} {Qp : PQ} {ls : List (Option PV)} {st : List PV} {h : PMem} (hd : 1 ≤ d) (hN : n0 ≤ NC) (hw : wp n0 (fun t => At l d 196 n0 Qp t) (CallP (d - 1)) Qp k_196_76 ls st h) : At l d 196 n0 Qp 76 ls st h := sound g_196.2.1 (by rw [g_196.2.2.2]; exact hN) hd k_196_76 76 k_196_76_ok ls st h (by rw [g_196.2.2.2]; exact hw)
theorem l_196_77 {l : Launch} {d n0 : Nat} {Qp : PQ} {ls : List (Option PV)} {st : List PV} {h : PMem} (hd : 1 ≤ d) (hN : n0 ≤ NC) (hw : wp n0 (fun t => At l d 196 n0 Qp t) (CallP (d - 1)) Qp k_196_77 ls st h) : At l d 196 n0 Qp 77 ls st h := sound g_196.2.1 (by rw [g_196.2.2.2]; exact hN) hd k_196_77 77 k_196_77_ok ls st h (by rw [g_196.2.2.2]; exact hw)
theorem l_196_85 {l : Launch} {d n0 : Nat} {Qp : PQ} {ls : List (Option PV)} {st : List PV} {h : PMem} (hd : 1 ≤ d) (hN : n0 ≤ NC) (hw : wp n0 (fun t => At l d 196 n0 Qp t) (CallP (d - 1)) Qp k_196_85 ls st h) : At l d 196 n0 Qp 85 ls st h := sound g_196.2.1 (by rw [g_196.2.2.2]; exact hN) hd k_196_85 85 k_196_85_ok ls st h (by rw [g_196.2.2.2]; exact hw)
theorem f_197 : (((plainName (mY 197).cls && decide (rN (oN 197) = (mY 197).cls)) && decide (mML 197 = 9)) && decide (aC 197 = 0)) = true := by decide +kernel
theorem g_197 : plainName (mY 197).cls = true ∧ rN (oN 197) = (mY 197).cls ∧ mML 197 = 9 ∧ aC 197 = 0 := by
  have h := f_197
  simp only [Bool.and_eq_true, decide_eq_true_eq] at h
  exact ⟨h.1.1.1, h.1.1.2, h.1.2, h.2⟩
theorem s_197 {d : Nat} {Qp : PQ} {v0 : PV} {v1 : PV} {v2 : PV} {v3 : PV} {v4 : PV} {h : PMem} (hd : 1 ≤ d) (hN : h.1 ≤ NC) (c0 : pcat v0 = 1 := by rfl) (c1 : pcat v1 = 1 := by rfl) (c2 : pcat v2 = 1 := by rfl) (c3 : pcat v3 = 1 := by rfl) (c4 : pcat v4 = 1 := by rfl) (hw : ∀ l, wp h.1 (fun t => At l d 197 h.1 (Qn h.1 Qp) t) (CallP (d - 1)) (Qn h.1 Qp) k_197_0 [some v0, some v1, some v2, some v3, some v4, none, none, none, none] [] h) : CallP d 197 [v0, v1, v2, v3, v4] h Qp := by
  refine call_of g_197.1 (by rw [g_197.2.2.1]; simp only [pcats, c0, c1, c2, c3, c4, pcatL]; decide) (fun l => ?_)
  have e : ent (mML 197) [v0, v1, v2, v3, v4] = [some v0, some v1, some v2, some v3, some v4, none, none, none, none] := by rw [g_197.2.2.1]; simp [ent, pcats, c0, c1, c2, c3, c4, pcatL, List.replicate]
  rw [e]
  refine sound g_197.2.1 (by rw [g_197.2.2.2]; exact hN) hd k_197_0 0 k_197_0_ok _ _ _ ?_
  rw [g_197.2.2.2]
  exact hw l
theorem l_197_32 {l : Launch} {d n0 : Nat} {Qp : PQ} {ls : List (Option PV)} {st : List PV} {h : PMem} (hd : 1 ≤ d) (hN : n0 ≤ NC) (hw : wp n0 (fun t => At l d 197 n0 Qp t) (CallP (d - 1)) Qp k_197_32 ls st h) : At l d 197 n0 Qp 32 ls st h := sound g_197.2.1 (by rw [g_197.2.2.2]; exact hN) hd k_197_32 32 k_197_32_ok ls st h (by rw [g_197.2.2.2]; exact hw)
theorem l_197_39 {l : Launch} {d n0 : Nat} {Qp : PQ} {ls : List (Option PV)} {st : List PV} {h : PMem} (hd : 1 ≤ d) (hN : n0 ≤ NC) (hw : wp n0 (fun t => At l d 197 n0 Qp t) (CallP (d - 1)) Qp k_197_39 ls st h) : At l d 197 n0 Qp 39 ls st h := sound g_197.2.1 (by rw [g_197.2.2.2]; exact hN) hd k_197_39 39 k_197_39_ok ls st h (by rw [g_197.2.2.2]; exact hw)
theorem l_197_49 {l : Launch} {d n0 : Nat} {Qp : PQ} {ls : List (Option PV)} {st : List PV} {h : PMem} (hd : 1 ≤ d) (hN : n0 ≤ NC) (hw : wp n0 (fun t => At l d 197 n0 Qp t) (CallP (d - 1)) Qp k_197_49 ls st h) : At l d 197 n0 Qp 49 ls st h := sound g_197.2.1 (by rw [g_197.2.2.2]; exact hN) hd k_197_49 49 k_197_49_ok ls st h (by rw [g_197.2.2.2]; exact hw)
theorem l_197_66 {l : Launch} {d n0 : Nat} {Qp : PQ} {ls : List (Option PV)} {st : List PV} {h : PMem} (hd : 1 ≤ d) (hN : n0 ≤ NC) (hw : wp n0 (fun t => At l d 197 n0 Qp t) (CallP (d - 1)) Qp k_197_66 ls st h) : At l d 197 n0 Qp 66 ls st h := sound g_197.2.1 (by rw [g_197.2.2.2]; exact hN) hd k_197_66 66 k_197_66_ok ls st h (by rw [g_197.2.2.2]; exact hw)
theorem l_197_102 {l : Launch} {d n0 : Nat} {Qp : PQ} {ls : List (Option PV)} {st : List PV} {h : PMem} (hd : 1 ≤ d) (hN : n0 ≤ NC) (hw : wp n0 (fun t => At l d 197 n0 Qp t) (CallP (d - 1)) Qp k_197_102 ls st h) : At l d 197 n0 Qp 102 ls st h := sound g_197.2.1 (by rw [g_197.2.2.2]; exact hN) hd k_197_102 102 k_197_102_ok ls st h (by rw [g_197.2.2.2]; exact hw)
theorem l_197_103 {l : Launch} {d n0 : Nat} {Qp : PQ} {ls : List (Option PV)} {st : List PV} {h : PMem} (hd : 1 ≤ d) (hN : n0 ≤ NC) (hw : wp n0 (fun t => At l d 197 n0 Qp t) (CallP (d - 1)) Qp k_197_103 ls st h) : At l d 197 n0 Qp 103 ls st h := sound g_197.2.1 (by rw [g_197.2.2.2]; exact hN) hd k_197_103 103 k_197_103_ok ls st h (by rw [g_197.2.2.2]; exact hw)
theorem l_197_111 {l : Launch} {d n0 : Nat} {Qp : PQ} {ls : List (Option PV)} {st : List PV} {h : PMem} (hd : 1 ≤ d) (hN : n0 ≤ NC) (hw : wp n0 (fun t => At l d 197 n0 Qp t) (CallP (d - 1)) Qp k_197_111 ls st h) : At l d 197 n0 Qp 111 ls st h := sound g_197.2.1 (by rw [g_197.2.2.2]; exact hN) hd k_197_111 111 k_197_111_ok ls st h (by rw [g_197.2.2.2]; exact hw)
theorem l_197_153 {l : Launch} {d n0 : Nat} {Qp : PQ} {ls : List (Option PV)} {st : List PV} {h : PMem} (hd : 1 ≤ d) (hN : n0 ≤ NC) (hw : wp n0 (fun t => At l d 197 n0 Qp t) (CallP (d - 1)) Qp k_197_153 ls st h) : At l d 197 n0 Qp 153 ls st h := sound g_197.2.1 (by rw [g_197.2.2.2]; exact hN) hd k_197_153 153 k_197_153_ok ls st h (by rw [g_197.2.2.2]; exact hw)
theorem l_197_155 {l : Launch} {d n0 : Nat} {Qp : PQ} {ls : List (Option PV)} {st : List PV} {h : PMem} (hd : 1 ≤ d) (hN : n0 ≤ NC) (hw : wp n0 (fun t => At l d 197 n0 Qp t) (CallP (d - 1)) Qp k_197_155 ls st h) : At l d 197 n0 Qp 155 ls st h := sound g_197.2.1 (by rw [g_197.2.2.2]; exact hN) hd k_197_155 155 k_197_155_ok ls st h (by rw [g_197.2.2.2]; exact hw)
theorem l_197_156 {l : Launch} {d n0 : Nat} {Qp : PQ} {ls : List (Option PV)} {st : List PV} {h : PMem} (hd : 1 ≤ d) (hN : n0 ≤ NC) (hw : wp n0 (fun t => At l d 197 n0 Qp t) (CallP (d - 1)) Qp k_197_156 ls st h) : At l d 197 n0 Qp 156 ls st h := sound g_197.2.1 (by rw [g_197.2.2.2]; exact hN) hd k_197_156 156 k_197_156_ok ls st h (by rw [g_197.2.2.2]; exact hw)
theorem l_197_162 {l : Launch} {d n0 : Nat} {Qp : PQ} {ls : List (Option PV)} {st : List PV} {h : PMem} (hd : 1 ≤ d) (hN : n0 ≤ NC) (hw : wp n0 (fun t => At l d 197 n0 Qp t) (CallP (d - 1)) Qp k_197_162 ls st h) : At l d 197 n0 Qp 162 ls st h := sound g_197.2.1 (by rw [g_197.2.2.2]; exact hN) hd k_197_162 162 k_197_162_ok ls st h (by rw [g_197.2.2.2]; exact hw)
theorem f_198 : (((plainName (mY 198).cls && decide (rN (oN 198) = (mY 198).cls)) && decide (mML 198 = 5)) && decide (aC 198 = 0)) = true := by decide +kernel
theorem g_198 : plainName (mY 198).cls = true ∧ rN (oN 198) = (mY 198).cls ∧ mML 198 = 5 ∧ aC 198 = 0 := by
  have h := f_198
  simp only [Bool.and_eq_true, decide_eq_true_eq] at h
  exact ⟨h.1.1.1, h.1.1.2, h.1.2, h.2⟩
theorem s_198 {d : Nat} {Qp : PQ} {v0 : PV} {v1 : PV} {v2 : PV} {v3 : PV} {h : PMem} (hd : 1 ≤ d) (hN : h.1 ≤ NC) (c0 : pcat v0 = 1 := by rfl) (c1 : pcat v1 = 1 := by rfl) (c2 : pcat v2 = 1 := by rfl) (c3 : pcat v3 = 1 := by rfl) (hw : ∀ l, wp h.1 (fun t => At l d 198 h.1 (Qn h.1 Qp) t) (CallP (d - 1)) (Qn h.1 Qp) k_198_0 [some v0, some v1, some v2, some v3, none] [] h) : CallP d 198 [v0, v1, v2, v3] h Qp := by
  refine call_of g_198.1 (by rw [g_198.2.2.1]; simp only [pcats, c0, c1, c2, c3, pcatL]; decide) (fun l => ?_)
  have e : ent (mML 198) [v0, v1, v2, v3] = [some v0, some v1, some v2, some v3, none] := by rw [g_198.2.2.1]; simp [ent, pcats, c0, c1, c2, c3, pcatL, List.replicate]
  rw [e]
  refine sound g_198.2.1 (by rw [g_198.2.2.2]; exact hN) hd k_198_0 0 k_198_0_ok _ _ _ ?_
  rw [g_198.2.2.2]
  exact hw l
theorem l_198_20 {l : Launch} {d n0 : Nat} {Qp : PQ} {ls : List (Option PV)} {st : List PV} {h : PMem} (hd : 1 ≤ d) (hN : n0 ≤ NC) (hw : wp n0 (fun t => At l d 198 n0 Qp t) (CallP (d - 1)) Qp k_198_20 ls st h) : At l d 198 n0 Qp 20 ls st h := sound g_198.2.1 (by rw [g_198.2.2.2]; exact hN) hd k_198_20 20 k_198_20_ok ls st h (by rw [g_198.2.2.2]; exact hw)
theorem l_198_25 {l : Launch} {d n0 : Nat} {Qp : PQ} {ls : List (Option PV)} {st : List PV} {h : PMem} (hd : 1 ≤ d) (hN : n0 ≤ NC) (hw : wp n0 (fun t => At l d 198 n0 Qp t) (CallP (d - 1)) Qp k_198_25 ls st h) : At l d 198 n0 Qp 25 ls st h := sound g_198.2.1 (by rw [g_198.2.2.2]; exact hN) hd k_198_25 25 k_198_25_ok ls st h (by rw [g_198.2.2.2]; exact hw)
theorem l_198_41 {l : Launch} {d n0 : Nat} {Qp : PQ} {ls : List (Option PV)} {st : List PV} {h : PMem} (hd : 1 ≤ d) (hN : n0 ≤ NC) (hw : wp n0 (fun t => At l d 198 n0 Qp t) (CallP (d - 1)) Qp k_198_41 ls st h) : At l d 198 n0 Qp 41 ls st h := sound g_198.2.1 (by rw [g_198.2.2.2]; exact hN) hd k_198_41 41 k_198_41_ok ls st h (by rw [g_198.2.2.2]; exact hw)
theorem l_198_88 {l : Launch} {d n0 : Nat} {Qp : PQ} {ls : List (Option PV)} {st : List PV} {h : PMem} (hd : 1 ≤ d) (hN : n0 ≤ NC) (hw : wp n0 (fun t => At l d 198 n0 Qp t) (CallP (d - 1)) Qp k_198_88 ls st h) : At l d 198 n0 Qp 88 ls st h := sound g_198.2.1 (by rw [g_198.2.2.2]; exact hN) hd k_198_88 88 k_198_88_ok ls st h (by rw [g_198.2.2.2]; exact hw)
theorem l_198_89 {l : Launch} {d n0 : Nat} {Qp : PQ} {ls : List (Option PV)} {st : List PV} {h : PMem} (hd : 1 ≤ d) (hN : n0 ≤ NC) (hw : wp n0 (fun t => At l d 198 n0 Qp t) (CallP (d - 1)) Qp k_198_89 ls st h) : At l d 198 n0 Qp 89 ls st h := sound g_198.2.1 (by rw [g_198.2.2.2]; exact hN) hd k_198_89 89 k_198_89_ok ls st h (by rw [g_198.2.2.2]; exact hw)
theorem f_199 : (((plainName (mY 199).cls && decide (rN (oN 199) = (mY 199).cls)) && decide (mML 199 = 2)) && decide (aC 199 = 0)) = true := by decide +kernel
theorem g_199 : plainName (mY 199).cls = true ∧ rN (oN 199) = (mY 199).cls ∧ mML 199 = 2 ∧ aC 199 = 0 := by
  have h := f_199
  simp only [Bool.and_eq_true, decide_eq_true_eq] at h
  exact ⟨h.1.1.1, h.1.1.2, h.1.2, h.2⟩
theorem s_199 {d : Nat} {Qp : PQ} {v0 : PV} {h : PMem} (hd : 1 ≤ d) (hN : h.1 ≤ NC) (c0 : pcat v0 = 1 := by rfl) (hw : ∀ l, wp h.1 (fun t => At l d 199 h.1 (Qn h.1 Qp) t) (CallP (d - 1)) (Qn h.1 Qp) k_199_0 [some v0, none] [] h) : CallP d 199 [v0] h Qp := by
  refine call_of g_199.1 (by rw [g_199.2.2.1]; simp only [pcats, c0, pcatL]; decide) (fun l => ?_)
  have e : ent (mML 199) [v0] = [some v0, none] := by rw [g_199.2.2.1]; simp [ent, pcats, c0, pcatL, List.replicate]
  rw [e]
  refine sound g_199.2.1 (by rw [g_199.2.2.2]; exact hN) hd k_199_0 0 k_199_0_ok _ _ _ ?_
  rw [g_199.2.2.2]
  exact hw l
theorem f_200 : (((plainName (mY 200).cls && decide (rN (oN 200) = (mY 200).cls)) && decide (mML 200 = 7)) && decide (aC 200 = 0)) = true := by decide +kernel
theorem g_200 : plainName (mY 200).cls = true ∧ rN (oN 200) = (mY 200).cls ∧ mML 200 = 7 ∧ aC 200 = 0 := by
  have h := f_200
  simp only [Bool.and_eq_true, decide_eq_true_eq] at h
  exact ⟨h.1.1.1, h.1.1.2, h.1.2, h.2⟩
theorem s_200 {d : Nat} {Qp : PQ} {v0 : PV} {v1 : PV} {h : PMem} (hd : 1 ≤ d) (hN : h.1 ≤ NC) (c0 : pcat v0 = 1 := by rfl) (c1 : pcat v1 = 1 := by rfl) (hw : ∀ l, wp h.1 (fun t => At l d 200 h.1 (Qn h.1 Qp) t) (CallP (d - 1)) (Qn h.1 Qp) k_200_0 [some v0, some v1, none, none, none, none, none] [] h) : CallP d 200 [v0, v1] h Qp := by
  refine call_of g_200.1 (by rw [g_200.2.2.1]; simp only [pcats, c0, c1, pcatL]; decide) (fun l => ?_)
  have e : ent (mML 200) [v0, v1] = [some v0, some v1, none, none, none, none, none] := by rw [g_200.2.2.1]; simp [ent, pcats, c0, c1, pcatL, List.replicate]
  rw [e]
  refine sound g_200.2.1 (by rw [g_200.2.2.2]; exact hN) hd k_200_0 0 k_200_0_ok _ _ _ ?_
  rw [g_200.2.2.2]
  exact hw l
theorem l_200_7 {l : Launch} {d n0 : Nat} {Qp : PQ} {ls : List (Option PV)} {st : List PV} {h : PMem} (hd : 1 ≤ d) (hN : n0 ≤ NC) (hw : wp n0 (fun t => At l d 200 n0 Qp t) (CallP (d - 1)) Qp k_200_7 ls st h) : At l d 200 n0 Qp 7 ls st h := sound g_200.2.1 (by rw [g_200.2.2.2]; exact hN) hd k_200_7 7 k_200_7_ok ls st h (by rw [g_200.2.2.2]; exact hw)
theorem l_200_58 {l : Launch} {d n0 : Nat} {Qp : PQ} {ls : List (Option PV)} {st : List PV} {h : PMem} (hd : 1 ≤ d) (hN : n0 ≤ NC) (hw : wp n0 (fun t => At l d 200 n0 Qp t) (CallP (d - 1)) Qp k_200_58 ls st h) : At l d 200 n0 Qp 58 ls st h := sound g_200.2.1 (by rw [g_200.2.2.2]; exact hN) hd k_200_58 58 k_200_58_ok ls st h (by rw [g_200.2.2.2]; exact hw)
theorem l_200_59 {l : Launch} {d n0 : Nat} {Qp : PQ} {ls : List (Option PV)} {st : List PV} {h : PMem} (hd : 1 ≤ d) (hN : n0 ≤ NC) (hw : wp n0 (fun t => At l d 200 n0 Qp t) (CallP (d - 1)) Qp k_200_59 ls st h) : At l d 200 n0 Qp 59 ls st h := sound g_200.2.1 (by rw [g_200.2.2.2]; exact hN) hd k_200_59 59 k_200_59_ok ls st h (by rw [g_200.2.2.2]; exact hw)
theorem l_200_82 {l : Launch} {d n0 : Nat} {Qp : PQ} {ls : List (Option PV)} {st : List PV} {h : PMem} (hd : 1 ≤ d) (hN : n0 ≤ NC) (hw : wp n0 (fun t => At l d 200 n0 Qp t) (CallP (d - 1)) Qp k_200_82 ls st h) : At l d 200 n0 Qp 82 ls st h := sound g_200.2.1 (by rw [g_200.2.2.2]; exact hN) hd k_200_82 82 k_200_82_ok ls st h (by rw [g_200.2.2.2]; exact hw)
theorem l_200_83 {l : Launch} {d n0 : Nat} {Qp : PQ} {ls : List (Option PV)} {st : List PV} {h : PMem} (hd : 1 ≤ d) (hN : n0 ≤ NC) (hw : wp n0 (fun t => At l d 200 n0 Qp t) (CallP (d - 1)) Qp k_200_83 ls st h) : At l d 200 n0 Qp 83 ls st h := sound g_200.2.1 (by rw [g_200.2.2.2]; exact hN) hd k_200_83 83 k_200_83_ok ls st h (by rw [g_200.2.2.2]; exact hw)
theorem l_200_96 {l : Launch} {d n0 : Nat} {Qp : PQ} {ls : List (Option PV)} {st : List PV} {h : PMem} (hd : 1 ≤ d) (hN : n0 ≤ NC) (hw : wp n0 (fun t => At l d 200 n0 Qp t) (CallP (d - 1)) Qp k_200_96 ls st h) : At l d 200 n0 Qp 96 ls st h := sound g_200.2.1 (by rw [g_200.2.2.2]; exact hN) hd k_200_96 96 k_200_96_ok ls st h (by rw [g_200.2.2.2]; exact hw)
theorem l_200_97 {l : Launch} {d n0 : Nat} {Qp : PQ} {ls : List (Option PV)} {st : List PV} {h : PMem} (hd : 1 ≤ d) (hN : n0 ≤ NC) (hw : wp n0 (fun t => At l d 200 n0 Qp t) (CallP (d - 1)) Qp k_200_97 ls st h) : At l d 200 n0 Qp 97 ls st h := sound g_200.2.1 (by rw [g_200.2.2.2]; exact hN) hd k_200_97 97 k_200_97_ok ls st h (by rw [g_200.2.2.2]; exact hw)
theorem l_200_109 {l : Launch} {d n0 : Nat} {Qp : PQ} {ls : List (Option PV)} {st : List PV} {h : PMem} (hd : 1 ≤ d) (hN : n0 ≤ NC) (hw : wp n0 (fun t => At l d 200 n0 Qp t) (CallP (d - 1)) Qp k_200_109 ls st h) : At l d 200 n0 Qp 109 ls st h := sound g_200.2.1 (by rw [g_200.2.2.2]; exact hN) hd k_200_109 109 k_200_109_ok ls st h (by rw [g_200.2.2.2]; exact hw)
theorem l_200_111 {l : Launch} {d n0 : Nat} {Qp : PQ} {ls : List (Option PV)} {st : List PV} {h : PMem} (hd : 1 ≤ d) (hN : n0 ≤ NC) (hw : wp n0 (fun t => At l d 200 n0 Qp t) (CallP (d - 1)) Qp k_200_111 ls st h) : At l d 200 n0 Qp 111 ls st h := sound g_200.2.1 (by rw [g_200.2.2.2]; exact hN) hd k_200_111 111 k_200_111_ok ls st h (by rw [g_200.2.2.2]; exact hw)
theorem l_200_119 {l : Launch} {d n0 : Nat} {Qp : PQ} {ls : List (Option PV)} {st : List PV} {h : PMem} (hd : 1 ≤ d) (hN : n0 ≤ NC) (hw : wp n0 (fun t => At l d 200 n0 Qp t) (CallP (d - 1)) Qp k_200_119 ls st h) : At l d 200 n0 Qp 119 ls st h := sound g_200.2.1 (by rw [g_200.2.2.2]; exact hN) hd k_200_119 119 k_200_119_ok ls st h (by rw [g_200.2.2.2]; exact hw)
theorem l_200_129 {l : Launch} {d n0 : Nat} {Qp : PQ} {ls : List (Option PV)} {st : List PV} {h : PMem} (hd : 1 ≤ d) (hN : n0 ≤ NC) (hw : wp n0 (fun t => At l d 200 n0 Qp t) (CallP (d - 1)) Qp k_200_129 ls st h) : At l d 200 n0 Qp 129 ls st h := sound g_200.2.1 (by rw [g_200.2.2.2]; exact hN) hd k_200_129 129 k_200_129_ok ls st h (by rw [g_200.2.2.2]; exact hw)
theorem l_200_130 {l : Launch} {d n0 : Nat} {Qp : PQ} {ls : List (Option PV)} {st : List PV} {h : PMem} (hd : 1 ≤ d) (hN : n0 ≤ NC) (hw : wp n0 (fun t => At l d 200 n0 Qp t) (CallP (d - 1)) Qp k_200_130 ls st h) : At l d 200 n0 Qp 130 ls st h := sound g_200.2.1 (by rw [g_200.2.2.2]; exact hN) hd k_200_130 130 k_200_130_ok ls st h (by rw [g_200.2.2.2]; exact hw)
theorem f_201 : (((plainName (mY 201).cls && decide (rN (oN 201) = (mY 201).cls)) && decide (mML 201 = 5)) && decide (aC 201 = 0)) = true := by decide +kernel
theorem g_201 : plainName (mY 201).cls = true ∧ rN (oN 201) = (mY 201).cls ∧ mML 201 = 5 ∧ aC 201 = 0 := by
  have h := f_201
  simp only [Bool.and_eq_true, decide_eq_true_eq] at h
  exact ⟨h.1.1.1, h.1.1.2, h.1.2, h.2⟩
theorem s_201 {d : Nat} {Qp : PQ} {v0 : PV} {v1 : PV} {h : PMem} (hd : 1 ≤ d) (hN : h.1 ≤ NC) (c0 : pcat v0 = 1 := by rfl) (c1 : pcat v1 = 1 := by rfl) (hw : ∀ l, wp h.1 (fun t => At l d 201 h.1 (Qn h.1 Qp) t) (CallP (d - 1)) (Qn h.1 Qp) k_201_0 [some v0, some v1, none, none, none] [] h) : CallP d 201 [v0, v1] h Qp := by
  refine call_of g_201.1 (by rw [g_201.2.2.1]; simp only [pcats, c0, c1, pcatL]; decide) (fun l => ?_)
  have e : ent (mML 201) [v0, v1] = [some v0, some v1, none, none, none] := by rw [g_201.2.2.1]; simp [ent, pcats, c0, c1, pcatL, List.replicate]
  rw [e]
  refine sound g_201.2.1 (by rw [g_201.2.2.2]; exact hN) hd k_201_0 0 k_201_0_ok _ _ _ ?_
  rw [g_201.2.2.2]
  exact hw l
theorem l_201_16 {l : Launch} {d n0 : Nat} {Qp : PQ} {ls : List (Option PV)} {st : List PV} {h : PMem} (hd : 1 ≤ d) (hN : n0 ≤ NC) (hw : wp n0 (fun t => At l d 201 n0 Qp t) (CallP (d - 1)) Qp k_201_16 ls st h) : At l d 201 n0 Qp 16 ls st h := sound g_201.2.1 (by rw [g_201.2.2.2]; exact hN) hd k_201_16 16 k_201_16_ok ls st h (by rw [g_201.2.2.2]; exact hw)
theorem l_201_24 {l : Launch} {d n0 : Nat} {Qp : PQ} {ls : List (Option PV)} {st : List PV} {h : PMem} (hd : 1 ≤ d) (hN : n0 ≤ NC) (hw : wp n0 (fun t => At l d 201 n0 Qp t) (CallP (d - 1)) Qp k_201_24 ls st h) : At l d 201 n0 Qp 24 ls st h := sound g_201.2.1 (by rw [g_201.2.2.2]; exact hN) hd k_201_24 24 k_201_24_ok ls st h (by rw [g_201.2.2.2]; exact hw)
theorem l_201_48 {l : Launch} {d n0 : Nat} {Qp : PQ} {ls : List (Option PV)} {st : List PV} {h : PMem} (hd : 1 ≤ d) (hN : n0 ≤ NC) (hw : wp n0 (fun t => At l d 201 n0 Qp t) (CallP (d - 1)) Qp k_201_48 ls st h) : At l d 201 n0 Qp 48 ls st h := sound g_201.2.1 (by rw [g_201.2.2.2]; exact hN) hd k_201_48 48 k_201_48_ok ls st h (by rw [g_201.2.2.2]; exact hw)
theorem l_201_54 {l : Launch} {d n0 : Nat} {Qp : PQ} {ls : List (Option PV)} {st : List PV} {h : PMem} (hd : 1 ≤ d) (hN : n0 ≤ NC) (hw : wp n0 (fun t => At l d 201 n0 Qp t) (CallP (d - 1)) Qp k_201_54 ls st h) : At l d 201 n0 Qp 54 ls st h := sound g_201.2.1 (by rw [g_201.2.2.2]; exact hN) hd k_201_54 54 k_201_54_ok ls st h (by rw [g_201.2.2.2]; exact hw)
theorem l_201_62 {l : Launch} {d n0 : Nat} {Qp : PQ} {ls : List (Option PV)} {st : List PV} {h : PMem} (hd : 1 ≤ d) (hN : n0 ≤ NC) (hw : wp n0 (fun t => At l d 201 n0 Qp t) (CallP (d - 1)) Qp k_201_62 ls st h) : At l d 201 n0 Qp 62 ls st h := sound g_201.2.1 (by rw [g_201.2.2.2]; exact hN) hd k_201_62 62 k_201_62_ok ls st h (by rw [g_201.2.2.2]; exact hw)
theorem l_201_70 {l : Launch} {d n0 : Nat} {Qp : PQ} {ls : List (Option PV)} {st : List PV} {h : PMem} (hd : 1 ≤ d) (hN : n0 ≤ NC) (hw : wp n0 (fun t => At l d 201 n0 Qp t) (CallP (d - 1)) Qp k_201_70 ls st h) : At l d 201 n0 Qp 70 ls st h := sound g_201.2.1 (by rw [g_201.2.2.2]; exact hN) hd k_201_70 70 k_201_70_ok ls st h (by rw [g_201.2.2.2]; exact hw)
theorem l_201_71 {l : Launch} {d n0 : Nat} {Qp : PQ} {ls : List (Option PV)} {st : List PV} {h : PMem} (hd : 1 ≤ d) (hN : n0 ≤ NC) (hw : wp n0 (fun t => At l d 201 n0 Qp t) (CallP (d - 1)) Qp k_201_71 ls st h) : At l d 201 n0 Qp 71 ls st h := sound g_201.2.1 (by rw [g_201.2.2.2]; exact hN) hd k_201_71 71 k_201_71_ok ls st h (by rw [g_201.2.2.2]; exact hw)
theorem f_202 : (((plainName (mY 202).cls && decide (rN (oN 202) = (mY 202).cls)) && decide (mML 202 = 9)) && decide (aC 202 = 0)) = true := by decide +kernel
theorem g_202 : plainName (mY 202).cls = true ∧ rN (oN 202) = (mY 202).cls ∧ mML 202 = 9 ∧ aC 202 = 0 := by
  have h := f_202
  simp only [Bool.and_eq_true, decide_eq_true_eq] at h
  exact ⟨h.1.1.1, h.1.1.2, h.1.2, h.2⟩
theorem s_202 {d : Nat} {Qp : PQ} {v0 : PV} {v1 : PV} {v2 : PV} {v3 : PV} {v4 : PV} {h : PMem} (hd : 1 ≤ d) (hN : h.1 ≤ NC) (c0 : pcat v0 = 1 := by rfl) (c1 : pcat v1 = 1 := by rfl) (c2 : pcat v2 = 1 := by rfl) (c3 : pcat v3 = 1 := by rfl) (c4 : pcat v4 = 1 := by rfl) (hw : ∀ l, wp h.1 (fun t => At l d 202 h.1 (Qn h.1 Qp) t) (CallP (d - 1)) (Qn h.1 Qp) k_202_0 [some v0, some v1, some v2, some v3, some v4, none, none, none, none] [] h) : CallP d 202 [v0, v1, v2, v3, v4] h Qp := by
  refine call_of g_202.1 (by rw [g_202.2.2.1]; simp only [pcats, c0, c1, c2, c3, c4, pcatL]; decide) (fun l => ?_)
  have e : ent (mML 202) [v0, v1, v2, v3, v4] = [some v0, some v1, some v2, some v3, some v4, none, none, none, none] := by rw [g_202.2.2.1]; simp [ent, pcats, c0, c1, c2, c3, c4, pcatL, List.replicate]
  rw [e]
  refine sound g_202.2.1 (by rw [g_202.2.2.2]; exact hN) hd k_202_0 0 k_202_0_ok _ _ _ ?_
  rw [g_202.2.2.2]
  exact hw l
theorem l_202_50 {l : Launch} {d n0 : Nat} {Qp : PQ} {ls : List (Option PV)} {st : List PV} {h : PMem} (hd : 1 ≤ d) (hN : n0 ≤ NC) (hw : wp n0 (fun t => At l d 202 n0 Qp t) (CallP (d - 1)) Qp k_202_50 ls st h) : At l d 202 n0 Qp 50 ls st h := sound g_202.2.1 (by rw [g_202.2.2.2]; exact hN) hd k_202_50 50 k_202_50_ok ls st h (by rw [g_202.2.2.2]; exact hw)
theorem l_202_55 {l : Launch} {d n0 : Nat} {Qp : PQ} {ls : List (Option PV)} {st : List PV} {h : PMem} (hd : 1 ≤ d) (hN : n0 ≤ NC) (hw : wp n0 (fun t => At l d 202 n0 Qp t) (CallP (d - 1)) Qp k_202_55 ls st h) : At l d 202 n0 Qp 55 ls st h := sound g_202.2.1 (by rw [g_202.2.2.2]; exact hN) hd k_202_55 55 k_202_55_ok ls st h (by rw [g_202.2.2.2]; exact hw)
theorem l_202_61 {l : Launch} {d n0 : Nat} {Qp : PQ} {ls : List (Option PV)} {st : List PV} {h : PMem} (hd : 1 ≤ d) (hN : n0 ≤ NC) (hw : wp n0 (fun t => At l d 202 n0 Qp t) (CallP (d - 1)) Qp k_202_61 ls st h) : At l d 202 n0 Qp 61 ls st h := sound g_202.2.1 (by rw [g_202.2.2.2]; exact hN) hd k_202_61 61 k_202_61_ok ls st h (by rw [g_202.2.2.2]; exact hw)
theorem l_202_80 {l : Launch} {d n0 : Nat} {Qp : PQ} {ls : List (Option PV)} {st : List PV} {h : PMem} (hd : 1 ≤ d) (hN : n0 ≤ NC) (hw : wp n0 (fun t => At l d 202 n0 Qp t) (CallP (d - 1)) Qp k_202_80 ls st h) : At l d 202 n0 Qp 80 ls st h := sound g_202.2.1 (by rw [g_202.2.2.2]; exact hN) hd k_202_80 80 k_202_80_ok ls st h (by rw [g_202.2.2.2]; exact hw)
theorem l_202_105 {l : Launch} {d n0 : Nat} {Qp : PQ} {ls : List (Option PV)} {st : List PV} {h : PMem} (hd : 1 ≤ d) (hN : n0 ≤ NC) (hw : wp n0 (fun t => At l d 202 n0 Qp t) (CallP (d - 1)) Qp k_202_105 ls st h) : At l d 202 n0 Qp 105 ls st h := sound g_202.2.1 (by rw [g_202.2.2.2]; exact hN) hd k_202_105 105 k_202_105_ok ls st h (by rw [g_202.2.2.2]; exact hw)
theorem l_202_147 {l : Launch} {d n0 : Nat} {Qp : PQ} {ls : List (Option PV)} {st : List PV} {h : PMem} (hd : 1 ≤ d) (hN : n0 ≤ NC) (hw : wp n0 (fun t => At l d 202 n0 Qp t) (CallP (d - 1)) Qp k_202_147 ls st h) : At l d 202 n0 Qp 147 ls st h := sound g_202.2.1 (by rw [g_202.2.2.2]; exact hN) hd k_202_147 147 k_202_147_ok ls st h (by rw [g_202.2.2.2]; exact hw)
theorem l_202_151 {l : Launch} {d n0 : Nat} {Qp : PQ} {ls : List (Option PV)} {st : List PV} {h : PMem} (hd : 1 ≤ d) (hN : n0 ≤ NC) (hw : wp n0 (fun t => At l d 202 n0 Qp t) (CallP (d - 1)) Qp k_202_151 ls st h) : At l d 202 n0 Qp 151 ls st h := sound g_202.2.1 (by rw [g_202.2.2.2]; exact hN) hd k_202_151 151 k_202_151_ok ls st h (by rw [g_202.2.2.2]; exact hw)
theorem l_202_152 {l : Launch} {d n0 : Nat} {Qp : PQ} {ls : List (Option PV)} {st : List PV} {h : PMem} (hd : 1 ≤ d) (hN : n0 ≤ NC) (hw : wp n0 (fun t => At l d 202 n0 Qp t) (CallP (d - 1)) Qp k_202_152 ls st h) : At l d 202 n0 Qp 152 ls st h := sound g_202.2.1 (by rw [g_202.2.2.2]; exact hN) hd k_202_152 152 k_202_152_ok ls st h (by rw [g_202.2.2.2]; exact hw)
theorem l_202_161 {l : Launch} {d n0 : Nat} {Qp : PQ} {ls : List (Option PV)} {st : List PV} {h : PMem} (hd : 1 ≤ d) (hN : n0 ≤ NC) (hw : wp n0 (fun t => At l d 202 n0 Qp t) (CallP (d - 1)) Qp k_202_161 ls st h) : At l d 202 n0 Qp 161 ls st h := sound g_202.2.1 (by rw [g_202.2.2.2]; exact hN) hd k_202_161 161 k_202_161_ok ls st h (by rw [g_202.2.2.2]; exact hw)
theorem f_203 : (((plainName (mY 203).cls && decide (rN (oN 203) = (mY 203).cls)) && decide (mML 203 = 10)) && decide (aC 203 = 0)) = true := by decide +kernel
theorem g_203 : plainName (mY 203).cls = true ∧ rN (oN 203) = (mY 203).cls ∧ mML 203 = 10 ∧ aC 203 = 0 := by
  have h := f_203
  simp only [Bool.and_eq_true, decide_eq_true_eq] at h
  exact ⟨h.1.1.1, h.1.1.2, h.1.2, h.2⟩
theorem s_203 {d : Nat} {Qp : PQ} {v0 : PV} {v1 : PV} {v2 : PV} {h : PMem} (hd : 1 ≤ d) (hN : h.1 ≤ NC) (c0 : pcat v0 = 1 := by rfl) (c1 : pcat v1 = 1 := by rfl) (c2 : pcat v2 = 1 := by rfl) (hw : ∀ l, wp h.1 (fun t => At l d 203 h.1 (Qn h.1 Qp) t) (CallP (d - 1)) (Qn h.1 Qp) k_203_0 [some v0, some v1, some v2, none, none, none, none, none, none, none] [] h) : CallP d 203 [v0, v1, v2] h Qp := by
  refine call_of g_203.1 (by rw [g_203.2.2.1]; simp only [pcats, c0, c1, c2, pcatL]; decide) (fun l => ?_)
  have e : ent (mML 203) [v0, v1, v2] = [some v0, some v1, some v2, none, none, none, none, none, none, none] := by rw [g_203.2.2.1]; simp [ent, pcats, c0, c1, c2, pcatL, List.replicate]
  rw [e]
  refine sound g_203.2.1 (by rw [g_203.2.2.2]; exact hN) hd k_203_0 0 k_203_0_ok _ _ _ ?_
  rw [g_203.2.2.2]
  exact hw l
theorem l_203_20 {l : Launch} {d n0 : Nat} {Qp : PQ} {ls : List (Option PV)} {st : List PV} {h : PMem} (hd : 1 ≤ d) (hN : n0 ≤ NC) (hw : wp n0 (fun t => At l d 203 n0 Qp t) (CallP (d - 1)) Qp k_203_20 ls st h) : At l d 203 n0 Qp 20 ls st h := sound g_203.2.1 (by rw [g_203.2.2.2]; exact hN) hd k_203_20 20 k_203_20_ok ls st h (by rw [g_203.2.2.2]; exact hw)
theorem l_203_25 {l : Launch} {d n0 : Nat} {Qp : PQ} {ls : List (Option PV)} {st : List PV} {h : PMem} (hd : 1 ≤ d) (hN : n0 ≤ NC) (hw : wp n0 (fun t => At l d 203 n0 Qp t) (CallP (d - 1)) Qp k_203_25 ls st h) : At l d 203 n0 Qp 25 ls st h := sound g_203.2.1 (by rw [g_203.2.2.2]; exact hN) hd k_203_25 25 k_203_25_ok ls st h (by rw [g_203.2.2.2]; exact hw)
theorem l_203_37 {l : Launch} {d n0 : Nat} {Qp : PQ} {ls : List (Option PV)} {st : List PV} {h : PMem} (hd : 1 ≤ d) (hN : n0 ≤ NC) (hw : wp n0 (fun t => At l d 203 n0 Qp t) (CallP (d - 1)) Qp k_203_37 ls st h) : At l d 203 n0 Qp 37 ls st h := sound g_203.2.1 (by rw [g_203.2.2.2]; exact hN) hd k_203_37 37 k_203_37_ok ls st h (by rw [g_203.2.2.2]; exact hw)
theorem l_203_46 {l : Launch} {d n0 : Nat} {Qp : PQ} {ls : List (Option PV)} {st : List PV} {h : PMem} (hd : 1 ≤ d) (hN : n0 ≤ NC) (hw : wp n0 (fun t => At l d 203 n0 Qp t) (CallP (d - 1)) Qp k_203_46 ls st h) : At l d 203 n0 Qp 46 ls st h := sound g_203.2.1 (by rw [g_203.2.2.2]; exact hN) hd k_203_46 46 k_203_46_ok ls st h (by rw [g_203.2.2.2]; exact hw)
theorem l_203_95 {l : Launch} {d n0 : Nat} {Qp : PQ} {ls : List (Option PV)} {st : List PV} {h : PMem} (hd : 1 ≤ d) (hN : n0 ≤ NC) (hw : wp n0 (fun t => At l d 203 n0 Qp t) (CallP (d - 1)) Qp k_203_95 ls st h) : At l d 203 n0 Qp 95 ls st h := sound g_203.2.1 (by rw [g_203.2.2.2]; exact hN) hd k_203_95 95 k_203_95_ok ls st h (by rw [g_203.2.2.2]; exact hw)
theorem l_203_96 {l : Launch} {d n0 : Nat} {Qp : PQ} {ls : List (Option PV)} {st : List PV} {h : PMem} (hd : 1 ≤ d) (hN : n0 ≤ NC) (hw : wp n0 (fun t => At l d 203 n0 Qp t) (CallP (d - 1)) Qp k_203_96 ls st h) : At l d 203 n0 Qp 96 ls st h := sound g_203.2.1 (by rw [g_203.2.2.2]; exact hN) hd k_203_96 96 k_203_96_ok ls st h (by rw [g_203.2.2.2]; exact hw)
theorem l_203_125 {l : Launch} {d n0 : Nat} {Qp : PQ} {ls : List (Option PV)} {st : List PV} {h : PMem} (hd : 1 ≤ d) (hN : n0 ≤ NC) (hw : wp n0 (fun t => At l d 203 n0 Qp t) (CallP (d - 1)) Qp k_203_125 ls st h) : At l d 203 n0 Qp 125 ls st h := sound g_203.2.1 (by rw [g_203.2.2.2]; exact hN) hd k_203_125 125 k_203_125_ok ls st h (by rw [g_203.2.2.2]; exact hw)
theorem l_203_126 {l : Launch} {d n0 : Nat} {Qp : PQ} {ls : List (Option PV)} {st : List PV} {h : PMem} (hd : 1 ≤ d) (hN : n0 ≤ NC) (hw : wp n0 (fun t => At l d 203 n0 Qp t) (CallP (d - 1)) Qp k_203_126 ls st h) : At l d 203 n0 Qp 126 ls st h := sound g_203.2.1 (by rw [g_203.2.2.2]; exact hN) hd k_203_126 126 k_203_126_ok ls st h (by rw [g_203.2.2.2]; exact hw)
theorem l_203_135 {l : Launch} {d n0 : Nat} {Qp : PQ} {ls : List (Option PV)} {st : List PV} {h : PMem} (hd : 1 ≤ d) (hN : n0 ≤ NC) (hw : wp n0 (fun t => At l d 203 n0 Qp t) (CallP (d - 1)) Qp k_203_135 ls st h) : At l d 203 n0 Qp 135 ls st h := sound g_203.2.1 (by rw [g_203.2.2.2]; exact hN) hd k_203_135 135 k_203_135_ok ls st h (by rw [g_203.2.2.2]; exact hw)
theorem l_203_138 {l : Launch} {d n0 : Nat} {Qp : PQ} {ls : List (Option PV)} {st : List PV} {h : PMem} (hd : 1 ≤ d) (hN : n0 ≤ NC) (hw : wp n0 (fun t => At l d 203 n0 Qp t) (CallP (d - 1)) Qp k_203_138 ls st h) : At l d 203 n0 Qp 138 ls st h := sound g_203.2.1 (by rw [g_203.2.2.2]; exact hN) hd k_203_138 138 k_203_138_ok ls st h (by rw [g_203.2.2.2]; exact hw)
theorem l_203_163 {l : Launch} {d n0 : Nat} {Qp : PQ} {ls : List (Option PV)} {st : List PV} {h : PMem} (hd : 1 ≤ d) (hN : n0 ≤ NC) (hw : wp n0 (fun t => At l d 203 n0 Qp t) (CallP (d - 1)) Qp k_203_163 ls st h) : At l d 203 n0 Qp 163 ls st h := sound g_203.2.1 (by rw [g_203.2.2.2]; exact hN) hd k_203_163 163 k_203_163_ok ls st h (by rw [g_203.2.2.2]; exact hw)
theorem l_203_169 {l : Launch} {d n0 : Nat} {Qp : PQ} {ls : List (Option PV)} {st : List PV} {h : PMem} (hd : 1 ≤ d) (hN : n0 ≤ NC) (hw : wp n0 (fun t => At l d 203 n0 Qp t) (CallP (d - 1)) Qp k_203_169 ls st h) : At l d 203 n0 Qp 169 ls st h := sound g_203.2.1 (by rw [g_203.2.2.2]; exact hN) hd k_203_169 169 k_203_169_ok ls st h (by rw [g_203.2.2.2]; exact hw)
theorem f_204 : (((plainName (mY 204).cls && decide (rN (oN 204) = (mY 204).cls)) && decide (mML 204 = 2)) && decide (aC 204 = 0)) = true := by decide +kernel
theorem g_204 : plainName (mY 204).cls = true ∧ rN (oN 204) = (mY 204).cls ∧ mML 204 = 2 ∧ aC 204 = 0 := by
  have h := f_204
  simp only [Bool.and_eq_true, decide_eq_true_eq] at h
  exact ⟨h.1.1.1, h.1.1.2, h.1.2, h.2⟩
theorem s_204 {d : Nat} {Qp : PQ} {v0 : PV} {v1 : PV} {h : PMem} (hd : 1 ≤ d) (hN : h.1 ≤ NC) (c0 : pcat v0 = 1 := by rfl) (c1 : pcat v1 = 1 := by rfl) (hw : ∀ l, wp h.1 (fun t => At l d 204 h.1 (Qn h.1 Qp) t) (CallP (d - 1)) (Qn h.1 Qp) k_204_0 [some v0, some v1] [] h) : CallP d 204 [v0, v1] h Qp := by
  refine call_of g_204.1 (by rw [g_204.2.2.1]; simp only [pcats, c0, c1, pcatL]; decide) (fun l => ?_)
  have e : ent (mML 204) [v0, v1] = [some v0, some v1] := by rw [g_204.2.2.1]; simp [ent, pcats, c0, c1, pcatL, List.replicate]
  rw [e]
  refine sound g_204.2.1 (by rw [g_204.2.2.2]; exact hN) hd k_204_0 0 k_204_0_ok _ _ _ ?_
  rw [g_204.2.2.2]
  exact hw l
theorem l_204_14 {l : Launch} {d n0 : Nat} {Qp : PQ} {ls : List (Option PV)} {st : List PV} {h : PMem} (hd : 1 ≤ d) (hN : n0 ≤ NC) (hw : wp n0 (fun t => At l d 204 n0 Qp t) (CallP (d - 1)) Qp k_204_14 ls st h) : At l d 204 n0 Qp 14 ls st h := sound g_204.2.1 (by rw [g_204.2.2.2]; exact hN) hd k_204_14 14 k_204_14_ok ls st h (by rw [g_204.2.2.2]; exact hw)
theorem f_205 : (((plainName (mY 205).cls && decide (rN (oN 205) = (mY 205).cls)) && decide (mML 205 = 2)) && decide (aC 205 = 0)) = true := by decide +kernel
theorem g_205 : plainName (mY 205).cls = true ∧ rN (oN 205) = (mY 205).cls ∧ mML 205 = 2 ∧ aC 205 = 0 := by
  have h := f_205
  simp only [Bool.and_eq_true, decide_eq_true_eq] at h
  exact ⟨h.1.1.1, h.1.1.2, h.1.2, h.2⟩
theorem s_205 {d : Nat} {Qp : PQ} {v0 : PV} {v1 : PV} {h : PMem} (hd : 1 ≤ d) (hN : h.1 ≤ NC) (c0 : pcat v0 = 1 := by rfl) (c1 : pcat v1 = 1 := by rfl) (hw : ∀ l, wp h.1 (fun t => At l d 205 h.1 (Qn h.1 Qp) t) (CallP (d - 1)) (Qn h.1 Qp) k_205_0 [some v0, some v1] [] h) : CallP d 205 [v0, v1] h Qp := by
  refine call_of g_205.1 (by rw [g_205.2.2.1]; simp only [pcats, c0, c1, pcatL]; decide) (fun l => ?_)
  have e : ent (mML 205) [v0, v1] = [some v0, some v1] := by rw [g_205.2.2.1]; simp [ent, pcats, c0, c1, pcatL, List.replicate]
  rw [e]
  refine sound g_205.2.1 (by rw [g_205.2.2.2]; exact hN) hd k_205_0 0 k_205_0_ok _ _ _ ?_
  rw [g_205.2.2.2]
  exact hw l
theorem l_205_14 {l : Launch} {d n0 : Nat} {Qp : PQ} {ls : List (Option PV)} {st : List PV} {h : PMem} (hd : 1 ≤ d) (hN : n0 ≤ NC) (hw : wp n0 (fun t => At l d 205 n0 Qp t) (CallP (d - 1)) Qp k_205_14 ls st h) : At l d 205 n0 Qp 14 ls st h := sound g_205.2.1 (by rw [g_205.2.2.2]; exact hN) hd k_205_14 14 k_205_14_ok ls st h (by rw [g_205.2.2.2]; exact hw)
theorem l_205_28 {l : Launch} {d n0 : Nat} {Qp : PQ} {ls : List (Option PV)} {st : List PV} {h : PMem} (hd : 1 ≤ d) (hN : n0 ≤ NC) (hw : wp n0 (fun t => At l d 205 n0 Qp t) (CallP (d - 1)) Qp k_205_28 ls st h) : At l d 205 n0 Qp 28 ls st h := sound g_205.2.1 (by rw [g_205.2.2.2]; exact hN) hd k_205_28 28 k_205_28_ok ls st h (by rw [g_205.2.2.2]; exact hw)
theorem f_206 : (((plainName (mY 206).cls && decide (rN (oN 206) = (mY 206).cls)) && decide (mML 206 = 2)) && decide (aC 206 = 0)) = true := by decide +kernel
theorem g_206 : plainName (mY 206).cls = true ∧ rN (oN 206) = (mY 206).cls ∧ mML 206 = 2 ∧ aC 206 = 0 := by
  have h := f_206
  simp only [Bool.and_eq_true, decide_eq_true_eq] at h
  exact ⟨h.1.1.1, h.1.1.2, h.1.2, h.2⟩
theorem s_206 {d : Nat} {Qp : PQ} {v0 : PV} {v1 : PV} {h : PMem} (hd : 1 ≤ d) (hN : h.1 ≤ NC) (c0 : pcat v0 = 1 := by rfl) (c1 : pcat v1 = 1 := by rfl) (hw : ∀ l, wp h.1 (fun t => At l d 206 h.1 (Qn h.1 Qp) t) (CallP (d - 1)) (Qn h.1 Qp) k_206_0 [some v0, some v1] [] h) : CallP d 206 [v0, v1] h Qp := by
  refine call_of g_206.1 (by rw [g_206.2.2.1]; simp only [pcats, c0, c1, pcatL]; decide) (fun l => ?_)
  have e : ent (mML 206) [v0, v1] = [some v0, some v1] := by rw [g_206.2.2.1]; simp [ent, pcats, c0, c1, pcatL, List.replicate]
  rw [e]
  refine sound g_206.2.1 (by rw [g_206.2.2.2]; exact hN) hd k_206_0 0 k_206_0_ok _ _ _ ?_
  rw [g_206.2.2.2]
  exact hw l
theorem l_206_18 {l : Launch} {d n0 : Nat} {Qp : PQ} {ls : List (Option PV)} {st : List PV} {h : PMem} (hd : 1 ≤ d) (hN : n0 ≤ NC) (hw : wp n0 (fun t => At l d 206 n0 Qp t) (CallP (d - 1)) Qp k_206_18 ls st h) : At l d 206 n0 Qp 18 ls st h := sound g_206.2.1 (by rw [g_206.2.2.2]; exact hN) hd k_206_18 18 k_206_18_ok ls st h (by rw [g_206.2.2.2]; exact hw)
theorem l_206_23 {l : Launch} {d n0 : Nat} {Qp : PQ} {ls : List (Option PV)} {st : List PV} {h : PMem} (hd : 1 ≤ d) (hN : n0 ≤ NC) (hw : wp n0 (fun t => At l d 206 n0 Qp t) (CallP (d - 1)) Qp k_206_23 ls st h) : At l d 206 n0 Qp 23 ls st h := sound g_206.2.1 (by rw [g_206.2.2.2]; exact hN) hd k_206_23 23 k_206_23_ok ls st h (by rw [g_206.2.2.2]; exact hw)
theorem f_207 : (((plainName (mY 207).cls && decide (rN (oN 207) = (mY 207).cls)) && decide (mML 207 = 4)) && decide (aC 207 = 0)) = true := by decide +kernel
theorem g_207 : plainName (mY 207).cls = true ∧ rN (oN 207) = (mY 207).cls ∧ mML 207 = 4 ∧ aC 207 = 0 := by
  have h := f_207
  simp only [Bool.and_eq_true, decide_eq_true_eq] at h
  exact ⟨h.1.1.1, h.1.1.2, h.1.2, h.2⟩
theorem s_207 {d : Nat} {Qp : PQ} {v0 : PV} {h : PMem} (hd : 1 ≤ d) (hN : h.1 ≤ NC) (c0 : pcat v0 = 1 := by rfl) (hw : ∀ l, wp h.1 (fun t => At l d 207 h.1 (Qn h.1 Qp) t) (CallP (d - 1)) (Qn h.1 Qp) k_207_0 [some v0, none, none, none] [] h) : CallP d 207 [v0] h Qp := by
  refine call_of g_207.1 (by rw [g_207.2.2.1]; simp only [pcats, c0, pcatL]; decide) (fun l => ?_)
  have e : ent (mML 207) [v0] = [some v0, none, none, none] := by rw [g_207.2.2.1]; simp [ent, pcats, c0, pcatL, List.replicate]
  rw [e]
  refine sound g_207.2.1 (by rw [g_207.2.2.2]; exact hN) hd k_207_0 0 k_207_0_ok _ _ _ ?_
  rw [g_207.2.2.2]
  exact hw l
theorem l_207_4 {l : Launch} {d n0 : Nat} {Qp : PQ} {ls : List (Option PV)} {st : List PV} {h : PMem} (hd : 1 ≤ d) (hN : n0 ≤ NC) (hw : wp n0 (fun t => At l d 207 n0 Qp t) (CallP (d - 1)) Qp k_207_4 ls st h) : At l d 207 n0 Qp 4 ls st h := sound g_207.2.1 (by rw [g_207.2.2.2]; exact hN) hd k_207_4 4 k_207_4_ok ls st h (by rw [g_207.2.2.2]; exact hw)
theorem l_207_14 {l : Launch} {d n0 : Nat} {Qp : PQ} {ls : List (Option PV)} {st : List PV} {h : PMem} (hd : 1 ≤ d) (hN : n0 ≤ NC) (hw : wp n0 (fun t => At l d 207 n0 Qp t) (CallP (d - 1)) Qp k_207_14 ls st h) : At l d 207 n0 Qp 14 ls st h := sound g_207.2.1 (by rw [g_207.2.2.2]; exact hN) hd k_207_14 14 k_207_14_ok ls st h (by rw [g_207.2.2.2]; exact hw)
theorem l_207_42 {l : Launch} {d n0 : Nat} {Qp : PQ} {ls : List (Option PV)} {st : List PV} {h : PMem} (hd : 1 ≤ d) (hN : n0 ≤ NC) (hw : wp n0 (fun t => At l d 207 n0 Qp t) (CallP (d - 1)) Qp k_207_42 ls st h) : At l d 207 n0 Qp 42 ls st h := sound g_207.2.1 (by rw [g_207.2.2.2]; exact hN) hd k_207_42 42 k_207_42_ok ls st h (by rw [g_207.2.2.2]; exact hw)
theorem l_207_43 {l : Launch} {d n0 : Nat} {Qp : PQ} {ls : List (Option PV)} {st : List PV} {h : PMem} (hd : 1 ≤ d) (hN : n0 ≤ NC) (hw : wp n0 (fun t => At l d 207 n0 Qp t) (CallP (d - 1)) Qp k_207_43 ls st h) : At l d 207 n0 Qp 43 ls st h := sound g_207.2.1 (by rw [g_207.2.2.2]; exact hN) hd k_207_43 43 k_207_43_ok ls st h (by rw [g_207.2.2.2]; exact hw)
theorem l_207_51 {l : Launch} {d n0 : Nat} {Qp : PQ} {ls : List (Option PV)} {st : List PV} {h : PMem} (hd : 1 ≤ d) (hN : n0 ≤ NC) (hw : wp n0 (fun t => At l d 207 n0 Qp t) (CallP (d - 1)) Qp k_207_51 ls st h) : At l d 207 n0 Qp 51 ls st h := sound g_207.2.1 (by rw [g_207.2.2.2]; exact hN) hd k_207_51 51 k_207_51_ok ls st h (by rw [g_207.2.2.2]; exact hw)
theorem l_207_57 {l : Launch} {d n0 : Nat} {Qp : PQ} {ls : List (Option PV)} {st : List PV} {h : PMem} (hd : 1 ≤ d) (hN : n0 ≤ NC) (hw : wp n0 (fun t => At l d 207 n0 Qp t) (CallP (d - 1)) Qp k_207_57 ls st h) : At l d 207 n0 Qp 57 ls st h := sound g_207.2.1 (by rw [g_207.2.2.2]; exact hN) hd k_207_57 57 k_207_57_ok ls st h (by rw [g_207.2.2.2]; exact hw)
theorem f_208 : (((plainName (mY 208).cls && decide (rN (oN 208) = (mY 208).cls)) && decide (mML 208 = 2)) && decide (aC 208 = 0)) = true := by decide +kernel
theorem g_208 : plainName (mY 208).cls = true ∧ rN (oN 208) = (mY 208).cls ∧ mML 208 = 2 ∧ aC 208 = 0 := by
  have h := f_208
  simp only [Bool.and_eq_true, decide_eq_true_eq] at h
  exact ⟨h.1.1.1, h.1.1.2, h.1.2, h.2⟩
theorem s_208 {d : Nat} {Qp : PQ} {v0 : PV} {v1 : PV} {h : PMem} (hd : 1 ≤ d) (hN : h.1 ≤ NC) (c0 : pcat v0 = 1 := by rfl) (c1 : pcat v1 = 1 := by rfl) (hw : ∀ l, wp h.1 (fun t => At l d 208 h.1 (Qn h.1 Qp) t) (CallP (d - 1)) (Qn h.1 Qp) k_208_0 [some v0, some v1] [] h) : CallP d 208 [v0, v1] h Qp := by
  refine call_of g_208.1 (by rw [g_208.2.2.1]; simp only [pcats, c0, c1, pcatL]; decide) (fun l => ?_)
  have e : ent (mML 208) [v0, v1] = [some v0, some v1] := by rw [g_208.2.2.1]; simp [ent, pcats, c0, c1, pcatL, List.replicate]
  rw [e]
  refine sound g_208.2.1 (by rw [g_208.2.2.2]; exact hN) hd k_208_0 0 k_208_0_ok _ _ _ ?_
  rw [g_208.2.2.2]
  exact hw l
theorem l_208_13 {l : Launch} {d n0 : Nat} {Qp : PQ} {ls : List (Option PV)} {st : List PV} {h : PMem} (hd : 1 ≤ d) (hN : n0 ≤ NC) (hw : wp n0 (fun t => At l d 208 n0 Qp t) (CallP (d - 1)) Qp k_208_13 ls st h) : At l d 208 n0 Qp 13 ls st h := sound g_208.2.1 (by rw [g_208.2.2.2]; exact hN) hd k_208_13 13 k_208_13_ok ls st h (by rw [g_208.2.2.2]; exact hw)
theorem l_208_27 {l : Launch} {d n0 : Nat} {Qp : PQ} {ls : List (Option PV)} {st : List PV} {h : PMem} (hd : 1 ≤ d) (hN : n0 ≤ NC) (hw : wp n0 (fun t => At l d 208 n0 Qp t) (CallP (d - 1)) Qp k_208_27 ls st h) : At l d 208 n0 Qp 27 ls st h := sound g_208.2.1 (by rw [g_208.2.2.2]; exact hN) hd k_208_27 27 k_208_27_ok ls st h (by rw [g_208.2.2.2]; exact hw)
theorem l_208_39 {l : Launch} {d n0 : Nat} {Qp : PQ} {ls : List (Option PV)} {st : List PV} {h : PMem} (hd : 1 ≤ d) (hN : n0 ≤ NC) (hw : wp n0 (fun t => At l d 208 n0 Qp t) (CallP (d - 1)) Qp k_208_39 ls st h) : At l d 208 n0 Qp 39 ls st h := sound g_208.2.1 (by rw [g_208.2.2.2]; exact hN) hd k_208_39 39 k_208_39_ok ls st h (by rw [g_208.2.2.2]; exact hw)
theorem l_208_53 {l : Launch} {d n0 : Nat} {Qp : PQ} {ls : List (Option PV)} {st : List PV} {h : PMem} (hd : 1 ≤ d) (hN : n0 ≤ NC) (hw : wp n0 (fun t => At l d 208 n0 Qp t) (CallP (d - 1)) Qp k_208_53 ls st h) : At l d 208 n0 Qp 53 ls st h := sound g_208.2.1 (by rw [g_208.2.2.2]; exact hN) hd k_208_53 53 k_208_53_ok ls st h (by rw [g_208.2.2.2]; exact hw)
theorem l_208_67 {l : Launch} {d n0 : Nat} {Qp : PQ} {ls : List (Option PV)} {st : List PV} {h : PMem} (hd : 1 ≤ d) (hN : n0 ≤ NC) (hw : wp n0 (fun t => At l d 208 n0 Qp t) (CallP (d - 1)) Qp k_208_67 ls st h) : At l d 208 n0 Qp 67 ls st h := sound g_208.2.1 (by rw [g_208.2.2.2]; exact hN) hd k_208_67 67 k_208_67_ok ls st h (by rw [g_208.2.2.2]; exact hw)
theorem l_208_71 {l : Launch} {d n0 : Nat} {Qp : PQ} {ls : List (Option PV)} {st : List PV} {h : PMem} (hd : 1 ≤ d) (hN : n0 ≤ NC) (hw : wp n0 (fun t => At l d 208 n0 Qp t) (CallP (d - 1)) Qp k_208_71 ls st h) : At l d 208 n0 Qp 71 ls st h := sound g_208.2.1 (by rw [g_208.2.2.2]; exact hN) hd k_208_71 71 k_208_71_ok ls st h (by rw [g_208.2.2.2]; exact hw)
theorem f_209 : (((plainName (mY 209).cls && decide (rN (oN 209) = (mY 209).cls)) && decide (mML 209 = 2)) && decide (aC 209 = 0)) = true := by decide +kernel
theorem g_209 : plainName (mY 209).cls = true ∧ rN (oN 209) = (mY 209).cls ∧ mML 209 = 2 ∧ aC 209 = 0 := by
  have h := f_209
  simp only [Bool.and_eq_true, decide_eq_true_eq] at h
  exact ⟨h.1.1.1, h.1.1.2, h.1.2, h.2⟩
theorem s_209 {d : Nat} {Qp : PQ} {v0 : PV} {v1 : PV} {h : PMem} (hd : 1 ≤ d) (hN : h.1 ≤ NC) (c0 : pcat v0 = 1 := by rfl) (c1 : pcat v1 = 1 := by rfl) (hw : ∀ l, wp h.1 (fun t => At l d 209 h.1 (Qn h.1 Qp) t) (CallP (d - 1)) (Qn h.1 Qp) k_209_0 [some v0, some v1] [] h) : CallP d 209 [v0, v1] h Qp := by
  refine call_of g_209.1 (by rw [g_209.2.2.1]; simp only [pcats, c0, c1, pcatL]; decide) (fun l => ?_)
  have e : ent (mML 209) [v0, v1] = [some v0, some v1] := by rw [g_209.2.2.1]; simp [ent, pcats, c0, c1, pcatL, List.replicate]
  rw [e]
  refine sound g_209.2.1 (by rw [g_209.2.2.2]; exact hN) hd k_209_0 0 k_209_0_ok _ _ _ ?_
  rw [g_209.2.2.2]
  exact hw l
theorem l_209_17 {l : Launch} {d n0 : Nat} {Qp : PQ} {ls : List (Option PV)} {st : List PV} {h : PMem} (hd : 1 ≤ d) (hN : n0 ≤ NC) (hw : wp n0 (fun t => At l d 209 n0 Qp t) (CallP (d - 1)) Qp k_209_17 ls st h) : At l d 209 n0 Qp 17 ls st h := sound g_209.2.1 (by rw [g_209.2.2.2]; exact hN) hd k_209_17 17 k_209_17_ok ls st h (by rw [g_209.2.2.2]; exact hw)
theorem l_209_21 {l : Launch} {d n0 : Nat} {Qp : PQ} {ls : List (Option PV)} {st : List PV} {h : PMem} (hd : 1 ≤ d) (hN : n0 ≤ NC) (hw : wp n0 (fun t => At l d 209 n0 Qp t) (CallP (d - 1)) Qp k_209_21 ls st h) : At l d 209 n0 Qp 21 ls st h := sound g_209.2.1 (by rw [g_209.2.2.2]; exact hN) hd k_209_21 21 k_209_21_ok ls st h (by rw [g_209.2.2.2]; exact hw)
theorem f_210 : (((plainName (mY 210).cls && decide (rN (oN 210) = (mY 210).cls)) && decide (mML 210 = 5)) && decide (aC 210 = 0)) = true := by decide +kernel
theorem g_210 : plainName (mY 210).cls = true ∧ rN (oN 210) = (mY 210).cls ∧ mML 210 = 5 ∧ aC 210 = 0 := by
  have h := f_210
  simp only [Bool.and_eq_true, decide_eq_true_eq] at h
  exact ⟨h.1.1.1, h.1.1.2, h.1.2, h.2⟩
theorem s_210 {d : Nat} {Qp : PQ} {v0 : PV} {h : PMem} (hd : 1 ≤ d) (hN : h.1 ≤ NC) (c0 : pcat v0 = 1 := by rfl) (hw : ∀ l, wp h.1 (fun t => At l d 210 h.1 (Qn h.1 Qp) t) (CallP (d - 1)) (Qn h.1 Qp) k_210_0 [some v0, none, none, none, none] [] h) : CallP d 210 [v0] h Qp := by
  refine call_of g_210.1 (by rw [g_210.2.2.1]; simp only [pcats, c0, pcatL]; decide) (fun l => ?_)
  have e : ent (mML 210) [v0] = [some v0, none, none, none, none] := by rw [g_210.2.2.1]; simp [ent, pcats, c0, pcatL, List.replicate]
  rw [e]
  refine sound g_210.2.1 (by rw [g_210.2.2.2]; exact hN) hd k_210_0 0 k_210_0_ok _ _ _ ?_
  rw [g_210.2.2.2]
  exact hw l
theorem l_210_6 {l : Launch} {d n0 : Nat} {Qp : PQ} {ls : List (Option PV)} {st : List PV} {h : PMem} (hd : 1 ≤ d) (hN : n0 ≤ NC) (hw : wp n0 (fun t => At l d 210 n0 Qp t) (CallP (d - 1)) Qp k_210_6 ls st h) : At l d 210 n0 Qp 6 ls st h := sound g_210.2.1 (by rw [g_210.2.2.2]; exact hN) hd k_210_6 6 k_210_6_ok ls st h (by rw [g_210.2.2.2]; exact hw)
theorem l_210_31 {l : Launch} {d n0 : Nat} {Qp : PQ} {ls : List (Option PV)} {st : List PV} {h : PMem} (hd : 1 ≤ d) (hN : n0 ≤ NC) (hw : wp n0 (fun t => At l d 210 n0 Qp t) (CallP (d - 1)) Qp k_210_31 ls st h) : At l d 210 n0 Qp 31 ls st h := sound g_210.2.1 (by rw [g_210.2.2.2]; exact hN) hd k_210_31 31 k_210_31_ok ls st h (by rw [g_210.2.2.2]; exact hw)
theorem l_210_33 {l : Launch} {d n0 : Nat} {Qp : PQ} {ls : List (Option PV)} {st : List PV} {h : PMem} (hd : 1 ≤ d) (hN : n0 ≤ NC) (hw : wp n0 (fun t => At l d 210 n0 Qp t) (CallP (d - 1)) Qp k_210_33 ls st h) : At l d 210 n0 Qp 33 ls st h := sound g_210.2.1 (by rw [g_210.2.2.2]; exact hN) hd k_210_33 33 k_210_33_ok ls st h (by rw [g_210.2.2.2]; exact hw)
theorem l_210_67 {l : Launch} {d n0 : Nat} {Qp : PQ} {ls : List (Option PV)} {st : List PV} {h : PMem} (hd : 1 ≤ d) (hN : n0 ≤ NC) (hw : wp n0 (fun t => At l d 210 n0 Qp t) (CallP (d - 1)) Qp k_210_67 ls st h) : At l d 210 n0 Qp 67 ls st h := sound g_210.2.1 (by rw [g_210.2.2.2]; exact hN) hd k_210_67 67 k_210_67_ok ls st h (by rw [g_210.2.2.2]; exact hw)
theorem l_210_69 {l : Launch} {d n0 : Nat} {Qp : PQ} {ls : List (Option PV)} {st : List PV} {h : PMem} (hd : 1 ≤ d) (hN : n0 ≤ NC) (hw : wp n0 (fun t => At l d 210 n0 Qp t) (CallP (d - 1)) Qp k_210_69 ls st h) : At l d 210 n0 Qp 69 ls st h := sound g_210.2.1 (by rw [g_210.2.2.2]; exact hN) hd k_210_69 69 k_210_69_ok ls st h (by rw [g_210.2.2.2]; exact hw)
theorem l_210_84 {l : Launch} {d n0 : Nat} {Qp : PQ} {ls : List (Option PV)} {st : List PV} {h : PMem} (hd : 1 ≤ d) (hN : n0 ≤ NC) (hw : wp n0 (fun t => At l d 210 n0 Qp t) (CallP (d - 1)) Qp k_210_84 ls st h) : At l d 210 n0 Qp 84 ls st h := sound g_210.2.1 (by rw [g_210.2.2.2]; exact hN) hd k_210_84 84 k_210_84_ok ls st h (by rw [g_210.2.2.2]; exact hw)
theorem l_210_124 {l : Launch} {d n0 : Nat} {Qp : PQ} {ls : List (Option PV)} {st : List PV} {h : PMem} (hd : 1 ≤ d) (hN : n0 ≤ NC) (hw : wp n0 (fun t => At l d 210 n0 Qp t) (CallP (d - 1)) Qp k_210_124 ls st h) : At l d 210 n0 Qp 124 ls st h := sound g_210.2.1 (by rw [g_210.2.2.2]; exact hN) hd k_210_124 124 k_210_124_ok ls st h (by rw [g_210.2.2.2]; exact hw)
theorem l_210_130 {l : Launch} {d n0 : Nat} {Qp : PQ} {ls : List (Option PV)} {st : List PV} {h : PMem} (hd : 1 ≤ d) (hN : n0 ≤ NC) (hw : wp n0 (fun t => At l d 210 n0 Qp t) (CallP (d - 1)) Qp k_210_130 ls st h) : At l d 210 n0 Qp 130 ls st h := sound g_210.2.1 (by rw [g_210.2.2.2]; exact hN) hd k_210_130 130 k_210_130_ok ls st h (by rw [g_210.2.2.2]; exact hw)
theorem l_210_132 {l : Launch} {d n0 : Nat} {Qp : PQ} {ls : List (Option PV)} {st : List PV} {h : PMem} (hd : 1 ≤ d) (hN : n0 ≤ NC) (hw : wp n0 (fun t => At l d 210 n0 Qp t) (CallP (d - 1)) Qp k_210_132 ls st h) : At l d 210 n0 Qp 132 ls st h := sound g_210.2.1 (by rw [g_210.2.2.2]; exact hN) hd k_210_132 132 k_210_132_ok ls st h (by rw [g_210.2.2.2]; exact hw)
theorem l_210_161 {l : Launch} {d n0 : Nat} {Qp : PQ} {ls : List (Option PV)} {st : List PV} {h : PMem} (hd : 1 ≤ d) (hN : n0 ≤ NC) (hw : wp n0 (fun t => At l d 210 n0 Qp t) (CallP (d - 1)) Qp k_210_161 ls st h) : At l d 210 n0 Qp 161 ls st h := sound g_210.2.1 (by rw [g_210.2.2.2]; exact hN) hd k_210_161 161 k_210_161_ok ls st h (by rw [g_210.2.2.2]; exact hw)
theorem l_210_163 {l : Launch} {d n0 : Nat} {Qp : PQ} {ls : List (Option PV)} {st : List PV} {h : PMem} (hd : 1 ≤ d) (hN : n0 ≤ NC) (hw : wp n0 (fun t => At l d 210 n0 Qp t) (CallP (d - 1)) Qp k_210_163 ls st h) : At l d 210 n0 Qp 163 ls st h := sound g_210.2.1 (by rw [g_210.2.2.2]; exact hN) hd k_210_163 163 k_210_163_ok ls st h (by rw [g_210.2.2.2]; exact hw)
theorem l_210_198 {l : Launch} {d n0 : Nat} {Qp : PQ} {ls : List (Option PV)} {st : List PV} {h : PMem} (hd : 1 ≤ d) (hN : n0 ≤ NC) (hw : wp n0 (fun t => At l d 210 n0 Qp t) (CallP (d - 1)) Qp k_210_198 ls st h) : At l d 210 n0 Qp 198 ls st h := sound g_210.2.1 (by rw [g_210.2.2.2]; exact hN) hd k_210_198 198 k_210_198_ok ls st h (by rw [g_210.2.2.2]; exact hw)
theorem f_225 : (((plainName (mY 225).cls && decide (rN (oN 225) = (mY 225).cls)) && decide (mML 225 = 1)) && decide (aC 225 = 0)) = true := by decide +kernel
theorem g_225 : plainName (mY 225).cls = true ∧ rN (oN 225) = (mY 225).cls ∧ mML 225 = 1 ∧ aC 225 = 0 := by
  have h := f_225
  simp only [Bool.and_eq_true, decide_eq_true_eq] at h
  exact ⟨h.1.1.1, h.1.1.2, h.1.2, h.2⟩
theorem s_225 {d : Nat} {Qp : PQ} {v0 : PV} {h : PMem} (hd : 1 ≤ d) (hN : h.1 ≤ NC) (c0 : pcat v0 = 1 := by rfl) (hw : ∀ l, wp h.1 (fun t => At l d 225 h.1 (Qn h.1 Qp) t) (CallP (d - 1)) (Qn h.1 Qp) k_225_0 [some v0] [] h) : CallP d 225 [v0] h Qp := by
  refine call_of g_225.1 (by rw [g_225.2.2.1]; simp only [pcats, c0, pcatL]; decide) (fun l => ?_)
  have e : ent (mML 225) [v0] = [some v0] := by rw [g_225.2.2.1]; simp [ent, pcats, c0, pcatL, List.replicate]
  rw [e]
  refine sound g_225.2.1 (by rw [g_225.2.2.2]; exact hN) hd k_225_0 0 k_225_0_ok _ _ _ ?_
  rw [g_225.2.2.2]
  exact hw l
