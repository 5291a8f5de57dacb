/-! EVENINGS of the class -/
def shW (w : Nat → Int) : Nat → Int := fun k => if k = 3 then 7 else if 92 ≤ k ∧ k < 183 then w (k + 13) else w k
def putE (w : Nat → Int) (p : Nat) : Nat → Int := fun k => if k = 3 then p + 1 else if k = 104 + 13 * p then w 1 else if 92 + 13 * p ≤ k ∧ k < 98 + 13 * p then w (4 + 3 * (k - 92 - 13 * p)) else if 98 + 13 * p ≤ k ∧ k < 101 + 13 * p then w (60 + (k - 98 - 13 * p)) else if 101 + 13 * p ≤ k ∧ k < 104 + 13 * p then w (65 + (k - 101 - 13 * p)) else w k
def opKeep (w : Nat → Int) : Nat → Int := if w 3 = 8 then putE (shW w) 7 else putE w (w 3).toNat
def opUndo (w : Nat → Int) (p : Nat) : Nat → Int := fun k => if k = 3 then p else if k = 1 then w (104 + 13 * p) else if 4 ≤ k ∧ k < 22 ∧ (k - 4) % 3 = 0 then w (92 + 13 * p + (k - 4) / 3) else if 60 ≤ k ∧ k < 63 then w (98 + 13 * p + (k - 60)) else if 65 ≤ k ∧ k < 68 then w (101 + 13 * p + (k - 65)) else w k
section EVP
variable {w : Nat → Int} {p : Nat}
theorem pE_3 : putE w p 3 = p + 1 := if_pos rfl
theorem pE_d : putE w p (104 + 13 * p) = w 1 := by
  unfold putE
  rw [if_neg (by omega), if_pos rfl]
theorem pE_b {x : Nat} (hx : x < 6) : putE w p (92 + 13 * p + x) = w (4 + 3 * x) := by
  unfold putE
  rw [if_neg (by omega), if_neg (by omega), if_pos (by omega), show 92 + 13 * p + x - 92 - 13 * p = x by omega]
theorem pE_i {i j : Nat} (hi : i < 2) (hj : j < 3) : putE w p (98 + j + 13 * p + 3 * i) = w (60 + j + 5 * i) := by
  have hi2 : i = 0 ∨ i = 1 := by omega
  unfold putE
  rcases hi2 with rfl | rfl
  · rw [if_neg (by omega), if_neg (by omega), if_neg (by omega), if_pos (by omega), show 60 + (98 + j + 13 * p + 3 * 0 - 98 - 13 * p) = 60 + j + 5 * 0 by omega]
  · rw [if_neg (by omega), if_neg (by omega), if_neg (by omega), if_neg (by omega), if_pos (by omega), show 65 + (98 + j + 13 * p + 3 * 1 - 101 - 13 * p) = 60 + j + 5 * 1 by omega]
theorem pE_ne {k : Nat} (h3 : k ≠ 3) (h : k < 92 + 13 * p ∨ 105 + 13 * p ≤ k) : putE w p k = w k := by
  unfold putE
  rw [if_neg h3, if_neg (by omega), if_neg (by omega), if_neg (by omega), if_neg (by omega)]
theorem shW_lt {k : Nat} (h3 : k ≠ 3) (h : k < 92) : shW w k = w k := by
  unfold shW
  rw [if_neg h3, if_neg (by omega)]
theorem shW_in {k : Nat} (h : 92 ≤ k ∧ k < 183) : shW w k = w (k + 13) := by
  unfold shW
  rw [if_neg (by omega), if_pos h]
theorem WIp_told {w w' : Nat → Int} (h1 : 1 ≤ w 0 ∧ w 0 ≤ 6) (h0 : w' 0 = w 0) (hw : ∀ k, 22 ≤ k → k < 58 → w' k = w k) {l kd wr : Int} (h : toldP w l kd wr) : toldP w' l kd wr := told_eq h1 h0 hw h
theorem WI_shW (h : WI w) (h8 : w 3 = 8) : WI (shW w) := by
  obtain ⟨h1, h2, h3, h4, h5, h6⟩ := h
  unfold WIa at h1
  have e : ∀ k, k ≠ 3 → k < 92 → shW w k = w k := fun k q q2 => shW_lt q q2
  refine ⟨?_, WIb_tr h2 (fun k q q2 => e k (by omega) (by omega)), WIw_tr h3 (e 0 (by omega) (by omega)) (fun k q q2 => e k (by omega) (by omega)), WIi_tr h1.1 h4 (e 0 (by omega) (by omega)) (fun k q q2 => e k (by omega) (by omega)), WIc_tr h5 (e 0 (by omega) (by omega)) (e 2 (by omega) (by omega)) (fun k q q2 => e k (by omega) (by omega)), fun j hj q => ?_⟩
  · unfold WIa
    rw [e 0 (by omega) (by omega), e 1 (by omega) (by omega), e 2 (by omega) (by omega), show shW w 3 = 7 from rfl]
    omega
  · have e3 : shW w 3 = 7 := rfl
    rw [e3] at q
    have t := h6 (j + 1) (by omega) (by omega)
    rw [shW_in (k := 104 + 13 * j) (by omega), show 104 + 13 * j + 13 = 104 + 13 * (j + 1) by omega]
    refine ⟨t.1, fun x hx => ?_, fun i hi => ?_⟩
    · rw [shW_in (by omega), show 92 + 13 * j + x + 13 = 92 + 13 * (j + 1) + x by omega]
      exact t.2.1 x hx
    · rw [shW_in (k := 98 + 13 * j + 3 * i) (by omega), shW_in (k := 99 + 13 * j + 3 * i) (by omega), shW_in (k := 100 + 13 * j + 3 * i) (by omega), show 98 + 13 * j + 3 * i + 13 = 98 + 13 * (j + 1) + 3 * i by omega, show 99 + 13 * j + 3 * i + 13 = 99 + 13 * (j + 1) + 3 * i by omega, show 100 + 13 * j + 3 * i + 13 = 100 + 13 * (j + 1) + 3 * i by omega]
      exact told_eq h1.1 (e 0 (by omega) (by omega)) (fun k q q2 => e k (by omega) (by omega)) (t.2.2 i hi)
theorem WI_putE (h : WI w) (hp : (p : Int) ≤ w 3) (hp8 : p < 8) : WI (putE w p) := by
  obtain ⟨h1, h2, h3, h4, h5, h6⟩ := h
  unfold WIa at h1
  have e : ∀ k, k ≠ 3 → k < 92 → putE w p k = w k := fun k q q2 => pE_ne q (by omega)
  refine ⟨?_, WIb_tr h2 (fun k q q2 => e k (by omega) (by omega)), WIw_tr h3 (e 0 (by omega) (by omega)) (fun k q q2 => e k (by omega) (by omega)), WIi_tr h1.1 h4 (e 0 (by omega) (by omega)) (fun k q q2 => e k (by omega) (by omega)), WIc_tr h5 (e 0 (by omega) (by omega)) (e 2 (by omega) (by omega)) (fun k q q2 => e k (by omega) (by omega)), fun j hj q => ?_⟩
  · unfold WIa
    rw [e 0 (by omega) (by omega), e 1 (by omega) (by omega), e 2 (by omega) (by omega), pE_3]
    omega
  · rw [pE_3] at q
    by_cases q2 : j = p
    · subst q2
      refine ⟨?_, fun x hx => ?_, fun i hi => ?_⟩
      · rw [pE_d]
        exact h1.2.1
      · rw [pE_b hx]
        exact (h2 x hx).1
      · have t0 := pE_i (w := w) (p := j) hi (show 0 < 3 by omega)
        have t1 := pE_i (w := w) (p := j) hi (show 1 < 3 by omega)
        have t2 := pE_i (w := w) (p := j) hi (show 2 < 3 by omega)
        rw [t0, t1, t2]
        exact told_eq h1.1 (e 0 (by omega) (by omega)) (fun k q q2 => e k (by omega) (by omega)) (h4 i hi).2.2
    · have t := h6 j hj (by omega)
      refine ⟨?_, fun x hx => ?_, fun i hi => ?_⟩
      · rw [pE_ne (by omega) (by omega)]
        exact t.1
      · rw [pE_ne (by omega) (by omega)]
        exact t.2.1 x hx
      · rw [pE_ne (by omega) (by omega), pE_ne (by omega) (by omega), pE_ne (by omega) (by omega)]
        exact told_eq h1.1 (e 0 (by omega) (by omega)) (fun k q q2 => e k (by omega) (by omega)) (t.2.2 i hi)
theorem WI_keep (h : WI w) : WI (opKeep w) := by
  have h1 := h.1
  unfold WIa at h1
  unfold opKeep
  split
  · rename_i q
    refine WI_putE (WI_shW h q) ?_ (by omega)
    show ((7 : Nat) : Int) ≤ 7
    omega
  · exact WI_putE h (by omega) (by omega)
theorem keep_lt {k : Nat} (h3 : k ≠ 3) (h : k < 92) : opKeep w k = w k := by
  unfold opKeep
  split
  · rw [pE_ne h3 (by omega), shW_lt h3 h]
  · rw [pE_ne h3 (by omega)]
theorem un_b {x : Nat} (hx : x < 6) : opUndo w p (4 + 3 * x) = w (92 + 13 * p + x) := by
  unfold opUndo
  rw [if_neg (by omega), if_neg (by omega), if_pos (by omega), show (4 + 3 * x - 4) / 3 = x by omega]
theorem un_i {i j : Nat} (hi : i < 2) (hj : j < 3) : opUndo w p (60 + j + 5 * i) = w (98 + j + 13 * p + 3 * i) := by
  have hi2 : i = 0 ∨ i = 1 := by omega
  unfold opUndo
  rcases hi2 with rfl | rfl
  · rw [if_neg (by omega), if_neg (by omega), if_neg (by omega), if_pos (by omega), show 98 + 13 * p + (60 + j + 5 * 0 - 60) = 98 + j + 13 * p + 3 * 0 by omega]
  · rw [if_neg (by omega), if_neg (by omega), if_neg (by omega), if_neg (by omega), if_pos (by omega), show 101 + 13 * p + (60 + j + 5 * 1 - 65) = 98 + j + 13 * p + 3 * 1 by omega]
theorem un_ne {k : Nat} (h : k ≠ 3 ∧ k ≠ 1 ∧ ¬ (4 ≤ k ∧ k < 22 ∧ (k - 4) % 3 = 0) ∧ ¬ (60 ≤ k ∧ k < 63) ∧ ¬ (65 ≤ k ∧ k < 68)) : opUndo w p k = w k := by
  unfold opUndo
  rw [if_neg h.1, if_neg h.2.1, if_neg h.2.2.1, if_neg h.2.2.2.1, if_neg h.2.2.2.2]
theorem WI_undo (h : WI w) (hp : (p : Int) < w 3) : WI (opUndo w p) := by
  obtain ⟨h1, h2, h3, h4, h5, h6⟩ := h
  unfold WIa at h1
  have t := h6 p (by omega) hp
  refine ⟨?_, fun x hx => ?_, WIw_tr h3 (un_ne (by omega)) (fun k q q2 => un_ne (by omega)), fun i hi => ?_, WIc_tr h5 (un_ne (by omega)) (un_ne (by omega)) (fun k q q2 => un_ne (by omega)), fun j hj q => ?_⟩
  · unfold WIa
    rw [un_ne (k := 0) (by omega), un_ne (k := 2) (by omega), show opUndo w p 3 = p from rfl, show opUndo w p 1 = w (104 + 13 * p) from rfl]
    omega
  · rw [un_b hx, un_ne (k := 5 + 3 * x) (by omega), un_ne (k := 6 + 3 * x) (by omega)]
    exact ⟨t.2.1 x hx, (h2 x hx).2⟩
  · have t0 := un_i (w := w) (p := p) hi (show 0 < 3 by omega)
    have t1 := un_i (w := w) (p := p) hi (show 1 < 3 by omega)
    have t2 := un_i (w := w) (p := p) hi (show 2 < 3 by omega)
    rw [t0, t1, t2, un_ne (k := 58 + 5 * i) (by omega), un_ne (k := 59 + 5 * i) (by omega)]
    exact ⟨(h4 i hi).1, (h4 i hi).2.1, told_eq h1.1 (un_ne (by omega)) (fun k q q2 => un_ne (by omega)) (t.2.2 i hi)⟩
  · rw [show opUndo w p 3 = p from rfl] at q
    have t := h6 j hj (by omega)
    refine ⟨?_, fun x hx => ?_, fun i hi => ?_⟩
    · rw [un_ne (by omega)]
      exact t.1
    · rw [un_ne (by omega)]
      exact t.2.1 x hx
    · rw [un_ne (by omega), un_ne (by omega), un_ne (by omega)]
      exact told_eq h1.1 (un_ne (by omega)) (fun k q q2 => un_ne (by omega)) (t.2.2 i hi)
end EVP
section EVC
variable {d n : Nat} {R : Nat → Nat → Option Nat} {M : Nat → Nat → Int} {o : Nat} {Qp : PQ} {w : Nat → Int}
theorem wt_past (h : WT n R o) : ∀ {i : Nat}, i < 8 → R (o + 22) i = some (o + 23 + 5 * i) := by
  intro i hi
  have : i = 0 ∨ i = 1 ∨ i = 2 ∨ i = 3 ∨ i = 4 ∨ i = 5 ∨ i = 6 ∨ i = 7 := by omega
  rcases this with rfl | rfl | rfl | rfl | rfl | rfl | rfl | rfl
  · exact wt_r22_0 h
  · exact wt_r22_1 h
  · exact wt_r22_2 h
  · exact wt_r22_3 h
  · exact wt_r22_4 h
  · exact wt_r22_5 h
  · exact wt_r22_6 h
  · exact wt_r22_7 h
theorem told01 {l kd wr : Int} (h : toldP w l kd wr) : wr = 0 ∨ wr = 1 := by
  unfold toldP at h
  omega
/-- the evening of now, put behind the others -/
theorem CW_put {M' : Nat → Nat → Int} {p : Nat} (hI : WI w) (hC : CW M o w) (hp : (p : Int) ≤ w 3) (hp8 : p < 8) (hE : EE M' (o + 23 + 5 * p) M (o + 17)) (h10 : M' o 10 = p + 1) (h0 : M' o 0 = M o 0) (hF : ∀ a, (a < o ∨ o < a) → (a < o + 23 + 5 * p ∨ o + 28 + 5 * p ≤ a) → M' a = M a) : CW M' o (putE w p) := by
  obtain ⟨g1, g2, g3, g4, g5, g6, g7⟩ := hC
  have hI1 := hI.1
  unfold WIa at hI1
  unfold CWa at g1
  have e : ∀ k, k ≠ 3 → k < 92 → putE w p k = w k := fun k q q2 => pE_ne q (by omega)
  have f : ∀ a, o < a → a < o + 23 → M' a = M a := fun a q q2 => hF a (by omega) (by omega)
  refine ⟨⟨?_, ?_, ?_, ?_⟩, CWb_tr g2 (f _ (by omega) (by omega)) (f _ (by omega) (by omega)) (f _ (by omega) (by omega)) (fun k q q2 => e k (by omega) (by omega)), CWf_tr hI1.1 g3 (f _ (by omega) (by omega)) (e 0 (by omega) (by omega)) (fun k q q2 => e k (by omega) (by omega)), CWw_tr g4 (fun a ha => f _ (by omega) (by omega)) (fun k q q2 => e k (by omega) (by omega)), CWi_tr g5 (f _ (by omega) (by omega)) (f _ (by omega) (by omega)) (f _ (by omega) (by omega)) (f _ (by omega) (by omega)) (f _ (by omega) (by omega)) (fun k q q2 => e k (by omega) (by omega)), CWc_tr g6 (f _ (by omega) (by omega)) (f _ (by omega) (by omega)) (f _ (by omega) (by omega)) (by rw [e 2 (by omega) (by omega)]; omega) (fun k q q2 => e k (by omega) (by omega)), fun j hj => ?_⟩
  · rw [e 0 (by omega) (by omega), h0]
    exact g1.1
  · rw [e 1 (by omega) (by omega), f _ (by omega) (by omega)]
    exact g1.2.1
  · rw [e 2 (by omega) (by omega), f _ (by omega) (by omega)]
    exact g1.2.2.1
  · rw [pE_3, h10]
  · by_cases q : j = p
    · subst q
      obtain ⟨k1, k2, k3⟩ := hE
      refine ⟨fun i hi => ?_, fun _ => ⟨?_, fun x hx => ?_, fun i hi => ?_⟩⟩
      · have := (k3 i hi).2.2
        rw [show o + 23 + 5 * j + 4 = o + 27 + 5 * j by omega, show o + 17 + 4 = o + 21 by omega, (g5 i hi).2.2.2.2] at this
        rw [this]
        exact told01 (hI.2.2.2.1 i hi).2.2
      · rw [pE_d, k1]
        exact g1.2.1
      · have := k2 x hx
        rw [show o + 23 + 5 * j + 1 = o + 24 + 5 * j by omega, show o + 17 + 1 = o + 18 by omega, (g2 x hx).1] at this
        rw [pE_b hx, this]
      · have t0 := pE_i (w := w) (p := j) hi (show 0 < 3 by omega)
        have t1 := pE_i (w := w) (p := j) hi (show 1 < 3 by omega)
        have t2 := pE_i (w := w) (p := j) hi (show 2 < 3 by omega)
        have := k3 i hi
        rw [show o + 23 + 5 * j + 2 = o + 25 + 5 * j by omega, show o + 23 + 5 * j + 3 = o + 26 + 5 * j by omega, show o + 23 + 5 * j + 4 = o + 27 + 5 * j by omega, show o + 17 + 2 = o + 19 by omega, show o + 17 + 3 = o + 20 by omega, show o + 17 + 4 = o + 21 by omega, (g5 i hi).2.2.1, (g5 i hi).2.2.2.1, (g5 i hi).2.2.2.2] at this
        rw [t0, t1, t2]
        exact this
    · have := g7 j hj
      have r : ∀ k, k < 5 → M' (o + 23 + k + 5 * j) = M (o + 23 + k + 5 * j) := fun k hk => hF _ (by omega) (by omega)
      rw [r 0 (by omega), r 1 (by omega), r 2 (by omega), r 3 (by omega), r 4 (by omega)]
      refine ⟨this.1, fun q2 => ?_⟩
      rw [pE_3] at q2
      have t := this.2 (by omega)
      refine ⟨?_, fun x hx => ?_, fun i hi => ?_⟩
      · rw [pE_ne (by omega) (by omega)]
        exact t.1
      · rw [pE_ne (by omega) (by omega)]
        exact t.2.1 x hx
      · rw [pE_ne (by omega) (by omega), pE_ne (by omega) (by omega), pE_ne (by omega) (by omega)]
        exact t.2.2 i hi
end EVC
