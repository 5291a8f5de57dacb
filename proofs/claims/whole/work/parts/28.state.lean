/-! STATE: the class's World at o against the model's flat row w -/
theorem upf_ne {f : Nat → Int} {j x : Nat} {v : Int} (h : x ≠ j) : upf f j v x = f x := if_neg h
theorem upf_same {f : Nat → Int} {j : Nat} {v : Int} : upf f j v j = v := if_pos rfl
def farW (w : Nat → Int) (x : Nat) : Int := farK far0 (fun a b => w (22 + 6 * a + b)) (w 0).toNat 6 x
def toldP (w : Nat → Int) (l kd wr : Int) : Prop := (l = -1 ∧ kd = 0 ∧ wr = 0) ∨ ((0 ≤ l ∧ l < w 0) ∧ (0 ≤ kd ∧ kd ≤ 5) ∧ (wr = 0 ∨ wr = 1) ∧ farW w l.toNat ≠ -1)
def WIa (w : Nat → Int) : Prop := (1 ≤ w 0 ∧ w 0 ≤ 6) ∧ (0 ≤ w 1 ∧ w 1 ≤ 900) ∧ (0 ≤ w 2 ∧ w 2 ≤ 8) ∧ (0 ≤ w 3 ∧ w 3 ≤ 8)
def WIb (w : Nat → Int) : Prop := ∀ x, x < 6 → P16 (w (4 + 3 * x)) ∧ P16 (w (5 + 3 * x)) ∧ P16 (w (6 + 3 * x))
def WIw (w : Nat → Int) : Prop := ∀ a, a < 6 → ∀ b, b < 6 → (0 ≤ w (22 + 6 * a + b) ∧ w (22 + 6 * a + b) ≤ 9) ∧ (w 0 ≤ a ∨ w 0 ≤ b → w (22 + 6 * a + b) = 0)
def WIi (w : Nat → Int) : Prop := ∀ i, i < 2 → (0 ≤ w (58 + 5 * i) ∧ w (58 + 5 * i) ≤ 40) ∧ (1 ≤ w (59 + 5 * i) ∧ w (59 + 5 * i) ≤ 9) ∧ toldP w (w (60 + 5 * i)) (w (61 + 5 * i)) (w (62 + 5 * i))
def WIc (w : Nat → Int) : Prop := ∀ k : Nat, k < 8 → (k : Int) < w 2 → (0 ≤ w (68 + 3 * k) ∧ w (68 + 3 * k) ≤ 3) ∧ (0 ≤ w (69 + 3 * k) ∧ w (69 + 3 * k) < w 0) ∧ (w (70 + 3 * k) = 0 ∨ w (70 + 3 * k) = 1)
def WIp (w : Nat → Int) : Prop := ∀ e : Nat, e < 8 → (e : Int) < w 3 → (0 ≤ w (104 + 13 * e) ∧ w (104 + 13 * e) ≤ 900) ∧ (∀ x, x < 6 → P16 (w (92 + 13 * e + x))) ∧ ∀ i, i < 2 → toldP w (w (98 + 13 * e + 3 * i)) (w (99 + 13 * e + 3 * i)) (w (100 + 13 * e + 3 * i))
def WI (w : Nat → Int) : Prop := WIa w ∧ WIb w ∧ WIw w ∧ WIi w ∧ WIc w ∧ WIp w
def CWa (M : Nat → Nat → Int) (o : Nat) (w : Nat → Int) : Prop := M o 0 = w 0 ∧ M (o + 17) 0 = w 1 ∧ M (o + 13) 0 = w 2 ∧ M o 10 = w 3
def CWb (M : Nat → Nat → Int) (o : Nat) (w : Nat → Int) : Prop := ∀ x, x < 6 → M (o + 18) x = w (4 + 3 * x) ∧ M (o + 1) x = w (5 + 3 * x) ∧ M (o + 2) x = w (6 + 3 * x)
def CWf (M : Nat → Nat → Int) (o : Nat) (w : Nat → Int) : Prop := ∀ x, x < 6 → M (o + 10) x = farW w x
def CWw (M : Nat → Nat → Int) (o : Nat) (w : Nat → Int) : Prop := ∀ a, a < 6 → ∀ b, b < 6 → M (o + 4 + a) b = w (22 + 6 * a + b)
def CWi (M : Nat → Nat → Int) (o : Nat) (w : Nat → Int) : Prop := ∀ i, i < 2 → M (o + 11) i = w (58 + 5 * i) ∧ M (o + 12) i = w (59 + 5 * i) ∧ M (o + 19) i = w (60 + 5 * i) ∧ M (o + 20) i = w (61 + 5 * i) ∧ M (o + 21) i = w (62 + 5 * i)
def CWc (M : Nat → Nat → Int) (o : Nat) (w : Nat → Int) : Prop := ∀ k : Nat, k < 8 → (M (o + 16) k = 0 ∨ M (o + 16) k = 1) ∧ ((k : Int) < w 2 → M (o + 14) k = w (68 + 3 * k) ∧ M (o + 15) k = w (69 + 3 * k) ∧ M (o + 16) k = w (70 + 3 * k))
def CWp (M : Nat → Nat → Int) (o : Nat) (w : Nat → Int) : Prop := ∀ e : Nat, e < 8 → (∀ i, i < 2 → M (o + 27 + 5 * e) i = 0 ∨ M (o + 27 + 5 * e) i = 1) ∧ ((e : Int) < w 3 → M (o + 23 + 5 * e) 0 = w (104 + 13 * e) ∧ (∀ x, x < 6 → M (o + 24 + 5 * e) x = w (92 + 13 * e + x)) ∧ ∀ i, i < 2 → M (o + 25 + 5 * e) i = w (98 + 13 * e + 3 * i) ∧ M (o + 26 + 5 * e) i = w (99 + 13 * e + 3 * i) ∧ M (o + 27 + 5 * e) i = w (100 + 13 * e + 3 * i))
def CW (M : Nat → Nat → Int) (o : Nat) (w : Nat → Int) : Prop := CWa M o w ∧ CWb M o w ∧ CWf M o w ∧ CWw M o w ∧ CWi M o w ∧ CWc M o w ∧ CWp M o w
theorem farG {s : Nat → Int} {g g' : Nat → Nat → Int} {N : Nat} (hN : N ≤ 6) (hg : ∀ a, a < 6 → ∀ b, b < 6 → g a b = g' a b) : ∀ k, farK s g N k = farK s g' N k := by
  have rel : ∀ (f : Nat → Int) (a b : Nat), a < 6 → b < 6 → relF g f a b = relF g' f a b := by
    intro f a b ha hb
    unfold relF
    rw [hg a ha b hb]
  have row : ∀ (f : Nat → Int) (a : Nat), a < 6 → ∀ k, k ≤ 6 → rowF g a f k = rowF g' a f k := by
    intro f a ha k
    induction k with
    | zero => intro _; rfl
    | succ k ih =>
      intro hk
      show relF g (rowF g a f k) a k = relF g' (rowF g' a f k) a k
      rw [ih (by omega), rel _ _ _ ha (by omega)]
  have rnd : ∀ (f : Nat → Int), ∀ k, k ≤ 6 → rndF g N f k = rndF g' N f k := by
    intro f k
    induction k with
    | zero => intro _; rfl
    | succ k ih =>
      intro hk
      show rowF g k (rndF g N f k) N = rowF g' k (rndF g' N f k) N
      rw [ih (by omega), row _ _ (by omega) _ hN]
  intro k
  induction k with
  | zero => rfl
  | succ k ih =>
    show rndF g N (farK s g N k) N = rndF g' N (farK s g' N k) N
    rw [ih, rnd _ _ hN]
theorem farW_eq {w w' : Nat → Int} (h1 : 1 ≤ w 0 ∧ w 0 ≤ 6) (h0 : w' 0 = w 0) (hw : ∀ k, 22 ≤ k → k < 58 → w' k = w k) : ∀ x, farW w' x = farW w x := by
  intro x
  unfold farW
  rw [h0, farG (g := fun a b => w' (22 + 6 * a + b)) (g' := fun a b => w (22 + 6 * a + b)) (by omega) (fun a ha b hb => hw _ (by omega) (by omega))]
theorem farW_b {w : Nat → Int} (h1 : 1 ≤ w 0 ∧ w 0 ≤ 6) (hw : WIw w) {x : Nat} (hx : x < 6) : -1 ≤ farW w x ∧ farW w x ≤ 1944 := by
  have hs : FB far0 0 := fun y hy => by unfold far0; split <;> omega
  have := farB (s := far0) (g := fun a b => w (22 + 6 * a + b)) (n := (w 0).toNat) hs (by omega) (fun a ha b hb => (hw a ha b hb).1) 6 (Nat.le_refl _) x hx
  unfold farW
  omega
theorem told_eq {w w' : Nat → Int} {l kd wr : Int} (h1 : 1 ≤ w 0 ∧ w 0 ≤ 6) (h0 : w' 0 = w 0) (hw : ∀ k, 22 ≤ k → k < 58 → w' k = w k) (h : toldP w l kd wr) : toldP w' l kd wr := by
  unfold toldP at *
  rw [h0, farW_eq h1 h0 hw]
  exact h
theorem WIb_tr {w w' : Nat → Int} (h : WIb w) (hw : ∀ k, 4 ≤ k → k < 22 → w' k = w k) : WIb w' := fun x hx => by
  rw [hw _ (by omega) (by omega), hw _ (by omega) (by omega), hw _ (by omega) (by omega)]
  exact h x hx
theorem WIw_tr {w w' : Nat → Int} (h : WIw w) (h0 : w' 0 = w 0) (hw : ∀ k, 22 ≤ k → k < 58 → w' k = w k) : WIw w' := fun a ha b hb => by
  rw [hw _ (by omega) (by omega), h0]
  exact h a ha b hb
theorem WIi_tr {w w' : Nat → Int} (h1 : 1 ≤ w 0 ∧ w 0 ≤ 6) (h : WIi w) (h0 : w' 0 = w 0) (hw : ∀ k, 22 ≤ k → k < 68 → w' k = w k) : WIi w' := fun i hi => by
  rw [hw _ (by omega) (by omega), hw _ (by omega) (by omega), hw _ (by omega) (by omega), hw _ (by omega) (by omega), hw _ (by omega) (by omega)]
  have := h i hi
  exact ⟨this.1, this.2.1, told_eq h1 h0 (fun k q q2 => hw k q (by omega)) this.2.2⟩
theorem WIc_tr {w w' : Nat → Int} (h : WIc w) (h0 : w' 0 = w 0) (h2 : w' 2 = w 2) (hw : ∀ k, 68 ≤ k → k < 92 → w' k = w k) : WIc w' := fun k hk q => by
  rw [h0, hw (68 + 3 * k) (by omega) (by omega), hw (69 + 3 * k) (by omega) (by omega), hw (70 + 3 * k) (by omega) (by omega)]
  exact h k hk (by omega)
theorem WIp_0 {w' : Nat → Int} (h : w' 3 = 0) : WIp w' := fun e he q => by omega
theorem CWb_tr {M M' : Nat → Nat → Int} {o : Nat} {w w' : Nat → Int} (h : CWb M o w) (h1 : M' (o + 18) = M (o + 18)) (h2 : M' (o + 1) = M (o + 1)) (h3 : M' (o + 2) = M (o + 2)) (hw : ∀ k, 4 ≤ k → k < 22 → w' k = w k) : CWb M' o w' := fun x hx => by
  rw [h1, h2, h3, hw _ (by omega) (by omega), hw _ (by omega) (by omega), hw _ (by omega) (by omega)]
  exact h x hx
theorem CWf_tr {M M' : Nat → Nat → Int} {o : Nat} {w w' : Nat → Int} (hn : 1 ≤ w 0 ∧ w 0 ≤ 6) (h : CWf M o w) (h1 : M' (o + 10) = M (o + 10)) (h0 : w' 0 = w 0) (hw : ∀ k, 22 ≤ k → k < 58 → w' k = w k) : CWf M' o w' := fun x hx => by
  rw [h1, farW_eq hn h0 hw]
  exact h x hx
theorem CWw_tr {M M' : Nat → Nat → Int} {o : Nat} {w w' : Nat → Int} (h : CWw M o w) (h1 : ∀ a, a < 6 → M' (o + 4 + a) = M (o + 4 + a)) (hw : ∀ k, 22 ≤ k → k < 58 → w' k = w k) : CWw M' o w' := fun a ha b hb => by
  rw [h1 a ha, hw _ (by omega) (by omega)]
  exact h a ha b hb
theorem CWi_tr {M M' : Nat → Nat → Int} {o : Nat} {w w' : Nat → Int} (h : CWi M o w) (h1 : M' (o + 11) = M (o + 11)) (h2 : M' (o + 12) = M (o + 12)) (h3 : M' (o + 19) = M (o + 19)) (h4 : M' (o + 20) = M (o + 20)) (h5 : M' (o + 21) = M (o + 21)) (hw : ∀ k, 58 ≤ k → k < 68 → w' k = w k) : CWi M' o w' := fun i hi => by
  rw [h1, h2, h3, h4, h5, hw _ (by omega) (by omega), hw _ (by omega) (by omega), hw _ (by omega) (by omega), hw _ (by omega) (by omega), hw _ (by omega) (by omega)]
  exact h i hi
theorem CWc_tr {M M' : Nat → Nat → Int} {o : Nat} {w w' : Nat → Int} (h : CWc M o w) (h1 : M' (o + 14) = M (o + 14)) (h2 : M' (o + 15) = M (o + 15)) (h3 : M' (o + 16) = M (o + 16)) (hc : w' 2 ≤ w 2) (hw : ∀ k, 68 ≤ k → k < 92 → w' k = w k) : CWc M' o w' := fun k hk => by
  rw [h1, h2, h3, hw (68 + 3 * k) (by omega) (by omega), hw (69 + 3 * k) (by omega) (by omega), hw (70 + 3 * k) (by omega) (by omega)]
  exact ⟨(h k hk).1, fun q => (h k hk).2 (by omega)⟩
theorem CWp_tr {M M' : Nat → Nat → Int} {o : Nat} {w w' : Nat → Int} (h : CWp M o w) (h1 : ∀ a, o + 23 ≤ a → a < o + 63 → M' a = M a) (hp : w' 3 ≤ w 3) (hw : ∀ k, 92 ≤ k → k < 196 → w' k = w k) : CWp M' o w' := fun e he => by
  rw [h1 _ (by omega) (by omega), h1 _ (by omega) (by omega), h1 _ (by omega) (by omega), h1 _ (by omega) (by omega), h1 _ (by omega) (by omega), hw (104 + 13 * e) (by omega) (by omega)]
  refine ⟨(h e he).1, fun q => ?_⟩
  have := (h e he).2 (by omega)
  refine ⟨this.1, fun x hx => ?_, fun i hi => ?_⟩
  · rw [hw _ (by omega) (by omega)]
    exact this.2.1 x hx
  · rw [hw _ (by omega) (by omega), hw _ (by omega) (by omega), hw _ (by omega) (by omega)]
    exact this.2.2 i hi
theorem CWp_0 {M M' : Nat → Nat → Int} {o : Nat} {w w' : Nat → Int} (h : CWp M o w) (h1 : ∀ a, o + 23 ≤ a → a < o + 63 → M' a = M a) (hp : w' 3 = 0) : CWp M' o w' := fun e he => by
  rw [h1 _ (by omega) (by omega), h1 _ (by omega) (by omega), h1 _ (by omega) (by omega), h1 _ (by omega) (by omega), h1 _ (by omega) (by omega)]
  exact ⟨(h e he).1, fun q => by omega⟩
/-! what the state's ops leave -/
def opBel (w : Nat → Int) (x : Nat) (b : Int) : Nat → Int := upf (upf w (4 + 3 * x) b) 3 0
def opChg (w : Nat → Int) (x : Nat) (u v : Int) : Nat → Int := upf (upf (upf w (5 + 3 * x) u) (6 + 3 * x) v) 3 0
def opHush (w : Nat → Int) : Nat → Int := upf (upf w 2 0) 3 0
def opCaw (w : Nat → Int) (c x y : Int) : Nat → Int := upf (upf (upf (upf (upf w (68 + 3 * (w 2).toNat) c) (69 + 3 * (w 2).toNat) x) (70 + 3 * (w 2).toNat) y) 2 (w 2 + 1)) 3 0
def opSil (w : Nat → Int) : Nat → Int := upf (upf (upf (upf (upf (upf (upf w 60 (-1)) 61 0) 62 0) 65 (-1)) 66 0) 67 0) 3 0
def opWay (w : Nat → Int) (a b : Nat) (h : Int) : Nat → Int := opSil (upf (upf w (22 + 6 * a + b) h) (22 + 6 * b + a) h)
def opBird (w : Nat → Int) (i : Nat) (r f : Int) : Nat → Int := opSil (upf (upf w (58 + 5 * i) r) (59 + 5 * i) f)
def anewB (N : Int) (k : Nat) : Int := if k = 0 then N else if 4 ≤ k ∧ k < 22 then (if (k - 4) % 3 = 0 then 8 else 2) else if k = 58 ∨ k = 63 then 12 else if k = 59 ∨ k = 64 then 4 else if k = 60 ∨ k = 65 then -1 else 0
def opNew (w : Nat → Int) (N : Int) : Nat → Int := fun k => if k < 196 then anewB N k else w k
theorem WI_bel {w : Nat → Int} {x : Nat} {b : Int} (h : WI w) (hx : x < 6) (hb : P16 b) : WI (opBel w x b) := by
  obtain ⟨h1, h2, h3, h4, h5, h6⟩ := h
  unfold WIa at h1
  refine ⟨?_, ?_, WIw_tr h3 ?_ ?_, WIi_tr h1.1 h4 ?_ ?_, WIc_tr h5 ?_ ?_ ?_, WIp_0 ?_⟩ <;> unfold opBel
  · unfold WIa
    (repeat (first | rw [upf_ne (by omega)] | rw [upf_same]))
    omega
  · intro y hy
    have := h2 y hy
    by_cases q : y = x
    · subst q
      (repeat (first | rw [upf_ne (by omega)] | rw [upf_same]))
      exact ⟨hb, this.2⟩
    · (repeat (first | rw [upf_ne (by omega)] | rw [upf_same]))
      exact this
  all_goals first | (repeat (first | rw [upf_ne (by omega)] | rw [upf_same])); done | (intro k q q2; (repeat (first | rw [upf_ne (by omega)] | rw [upf_same])); done)
theorem WI_chg {w : Nat → Int} {x : Nat} {u v : Int} (h : WI w) (hx : x < 6) (hu : P16 u) (hv : P16 v) : WI (opChg w x u v) := by
  obtain ⟨h1, h2, h3, h4, h5, h6⟩ := h
  unfold WIa at h1
  refine ⟨?_, ?_, WIw_tr h3 ?_ ?_, WIi_tr h1.1 h4 ?_ ?_, WIc_tr h5 ?_ ?_ ?_, WIp_0 ?_⟩ <;> unfold opChg
  · unfold WIa
    (repeat (first | rw [upf_ne (by omega)] | rw [upf_same]))
    omega
  · intro y hy
    have := h2 y hy
    by_cases q : y = x
    · subst q
      (repeat (first | rw [upf_ne (by omega)] | rw [upf_same]))
      exact ⟨this.1, hu, hv⟩
    · (repeat (first | rw [upf_ne (by omega)] | rw [upf_same]))
      exact this
  all_goals first | (repeat (first | rw [upf_ne (by omega)] | rw [upf_same])); done | (intro k q q2; (repeat (first | rw [upf_ne (by omega)] | rw [upf_same])); done)
theorem WI_hush {w : Nat → Int} (h : WI w) : WI (opHush w) := by
  obtain ⟨h1, h2, h3, h4, h5, h6⟩ := h
  unfold WIa at h1
  refine ⟨?_, WIb_tr h2 ?_, WIw_tr h3 ?_ ?_, WIi_tr h1.1 h4 ?_ ?_, fun k hk q => ?_, WIp_0 ?_⟩ <;> unfold opHush at *
  · unfold WIa
    (repeat (first | rw [upf_ne (by omega)] | rw [upf_same]))
    omega
  all_goals first | (repeat (first | rw [upf_ne (by omega)] | rw [upf_same])); done | (intro k q q2; (repeat (first | rw [upf_ne (by omega)] | rw [upf_same])); done) | skip
  exfalso
  rw [upf_ne (by omega), upf_same] at q
  omega
theorem WI_caw {w : Nat → Int} {c x y : Int} (h : WI w) (h8 : w 2 < 8) (hc : 0 ≤ c ∧ c ≤ 3) (hx : 0 ≤ x ∧ x < w 0) (hy : y = 0 ∨ y = 1) : WI (opCaw w c x y) := by
  obtain ⟨h1, h2, h3, h4, h5, h6⟩ := h
  unfold WIa at h1
  refine ⟨?_, WIb_tr h2 ?_, WIw_tr h3 ?_ ?_, WIi_tr h1.1 h4 ?_ ?_, fun k hk q => ?_, WIp_0 ?_⟩ <;> unfold opCaw at *
  · unfold WIa
    (repeat (first | rw [upf_ne (by omega)] | rw [upf_same]))
    omega
  all_goals first | (repeat (first | rw [upf_ne (by omega)] | rw [upf_same])); done | (intro k q q2; (repeat (first | rw [upf_ne (by omega)] | rw [upf_same])); done) | skip
  rw [upf_ne (by omega), upf_same] at q
  by_cases e : (k : Int) = w 2
  · have e2 : (w 2).toNat = k := by omega
    rw [e2]
    (repeat (first | rw [upf_ne (by omega)] | rw [upf_same]))
    exact ⟨hc, hx, hy⟩
  · (repeat (first | rw [upf_ne (by omega)] | rw [upf_same]))
    exact h5 k hk (by omega)
theorem WI_sil {w : Nat → Int} (h1 : WIa w) (h2 : WIb w) (h3 : WIw w) (h4 : ∀ i, i < 2 → (0 ≤ w (58 + 5 * i) ∧ w (58 + 5 * i) ≤ 40) ∧ (1 ≤ w (59 + 5 * i) ∧ w (59 + 5 * i) ≤ 9)) (h5 : WIc w) : WI (opSil w) := by
  unfold WIa at h1
  refine ⟨?_, WIb_tr h2 ?_, WIw_tr h3 ?_ ?_, fun i hi => ?_, WIc_tr h5 ?_ ?_ ?_, WIp_0 ?_⟩ <;> unfold opSil
  · unfold WIa
    (repeat (first | rw [upf_ne (by omega)] | rw [upf_same]))
    omega
  all_goals first | (repeat (first | rw [upf_ne (by omega)] | rw [upf_same])); done | (intro k q q2; (repeat (first | rw [upf_ne (by omega)] | rw [upf_same])); done) | skip
  have := h4 i hi
  have hi2 : i = 0 ∨ i = 1 := by omega
  rcases hi2 with rfl | rfl
  · refine ⟨?_, ?_, Or.inl ⟨?_, ?_, ?_⟩⟩
    · (repeat (first | rw [upf_ne (by omega)] | rw [upf_same]))
      exact this.1
    · (repeat (first | rw [upf_ne (by omega)] | rw [upf_same]))
      exact this.2
    all_goals (repeat (first | rw [upf_ne (by omega)] | rw [upf_same]))
  · refine ⟨?_, ?_, Or.inl ⟨?_, ?_, ?_⟩⟩
    · (repeat (first | rw [upf_ne (by omega)] | rw [upf_same]))
      exact this.1
    · (repeat (first | rw [upf_ne (by omega)] | rw [upf_same]))
      exact this.2
    all_goals (repeat (first | rw [upf_ne (by omega)] | rw [upf_same]))
theorem WI_way {w : Nat → Int} {a b : Nat} {v : Int} (h : WI w) (ha : (a : Int) < w 0) (hb : (b : Int) < w 0) (hv : 0 ≤ v ∧ v ≤ 9) : WI (opWay w a b v) := by
  obtain ⟨h1, h2, h3, h4, h5, h6⟩ := h
  unfold WIa at h1
  refine WI_sil ?_ (WIb_tr h2 ?_) ?_ (fun i hi => ?_) (WIc_tr h5 ?_ ?_ ?_)
  · unfold WIa
    (repeat (first | rw [upf_ne (by omega)] | rw [upf_same]))
    omega
  all_goals first | (repeat (first | rw [upf_ne (by omega)] | rw [upf_same])); done | (intro k q q2; (repeat (first | rw [upf_ne (by omega)] | rw [upf_same])); done) | skip
  · intro x hx y hy
    have := h3 x hx y hy
    rw [upf_ne (show 0 ≠ 22 + 6 * b + a by omega), upf_ne (show 0 ≠ 22 + 6 * a + b by omega)]
    by_cases q : x = b ∧ y = a
    · obtain ⟨rfl, rfl⟩ := q
      (repeat (first | rw [upf_ne (by omega)] | rw [upf_same]))
      omega
    · rw [upf_ne (show 22 + 6 * x + y ≠ 22 + 6 * b + a by omega)]
      by_cases q : x = a ∧ y = b
      · obtain ⟨rfl, rfl⟩ := q
        (repeat (first | rw [upf_ne (by omega)] | rw [upf_same]))
        omega
      · rw [upf_ne (by omega)]
        exact this
  · have := h4 i hi
    (repeat (first | rw [upf_ne (by omega)] | rw [upf_same]))
    exact ⟨this.1, this.2.1⟩
theorem WI_bird {w : Nat → Int} {i : Nat} {r f : Int} (h : WI w) (hi : i < 2) (hr : 0 ≤ r ∧ r ≤ 40) (hf : 1 ≤ f ∧ f ≤ 9) : WI (opBird w i r f) := by
  obtain ⟨h1, h2, h3, h4, h5, h6⟩ := h
  unfold WIa at h1
  refine WI_sil ?_ (WIb_tr h2 ?_) (WIw_tr h3 ?_ ?_) (fun j hj => ?_) (WIc_tr h5 ?_ ?_ ?_)
  · unfold WIa
    (repeat (first | rw [upf_ne (by omega)] | rw [upf_same]))
    omega
  all_goals first | (repeat (first | rw [upf_ne (by omega)] | rw [upf_same])); done | (intro k q q2; (repeat (first | rw [upf_ne (by omega)] | rw [upf_same])); done) | skip
  have := h4 j hj
  by_cases q : j = i
  · subst q
    (repeat (first | rw [upf_ne (by omega)] | rw [upf_same]))
    exact ⟨hr, hf⟩
  · (repeat (first | rw [upf_ne (by omega)] | rw [upf_same]))
    exact ⟨this.1, this.2.1⟩
theorem anew_b {N : Int} {k : Nat} (h : 4 ≤ k ∧ k < 22) : anewB N k = if (k - 4) % 3 = 0 then 8 else 2 := by
  unfold anewB
  rw [if_neg (by omega), if_pos h]
theorem anew_0 {N : Int} {k : Nat} (h : (1 ≤ k ∧ k < 4) ∨ (22 ≤ k ∧ k < 58) ∨ (61 ≤ k ∧ k < 63) ∨ 66 ≤ k) : anewB N k = 0 := by
  unfold anewB
  rw [if_neg (by omega), if_neg (by omega), if_neg (by omega), if_neg (by omega), if_neg (by omega)]
theorem opNew_lt {w : Nat → Int} {N : Int} {k : Nat} (h : k < 196) : opNew w N k = anewB N k := if_pos h
theorem WI_new {w : Nat → Int} {N : Int} (hN : 1 ≤ N ∧ N ≤ 6) : WI (opNew w N) := by
  refine ⟨?_, fun x hx => ?_, fun a ha b hb => ?_, fun i hi => ?_, fun k hk q => ?_, WIp_0 ?_⟩
  · unfold WIa
    rw [opNew_lt (by omega), opNew_lt (by omega), opNew_lt (by omega), opNew_lt (by omega), anew_0 (k := 1) (by omega), anew_0 (k := 2) (by omega), anew_0 (k := 3) (by omega)]
    unfold anewB
    rw [if_pos rfl]
    omega
  · rw [opNew_lt (by omega), opNew_lt (by omega), opNew_lt (by omega), anew_b (by omega), anew_b (by omega), anew_b (by omega)]
    unfold P16
    refine ⟨?_, ?_, ?_⟩ <;> split <;> omega
  · rw [opNew_lt (k := 22 + 6 * a + b) (by omega), anew_0 (k := 22 + 6 * a + b) (by omega)]
    omega
  · have hi2 : i = 0 ∨ i = 1 := by omega
    rcases hi2 with rfl | rfl <;> refine ⟨?_, ?_, Or.inl ⟨?_, ?_, ?_⟩⟩ <;> rw [opNew_lt (by omega)] <;> unfold anewB <;> simp
  · rw [opNew_lt (by omega), anew_0 (by omega)] at q
    omega
  · rw [opNew_lt (by omega), anew_0 (by omega)]
