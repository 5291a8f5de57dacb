/-! FAR: as many rounds as LANDS are enough -/
abbrev le1 (a b : Int) : Prop := b = -1 ∨ (a ≠ -1 ∧ a ≤ b)
abbrev LF (f f' : Nat → Int) : Prop := ∀ x, x < 6 → le1 (f x) (f' x)
abbrev NB (f : Nat → Int) : Prop := ∀ x, x < 6 → -1 ≤ f x
theorem LF_refl {f : Nat → Int} : LF f f := fun x _ => by unfold le1; omega
theorem LF_trans {f1 f2 f3 : Nat → Int} (h : LF f1 f2) (h2 : LF f2 f3) : LF f1 f3 := fun x hx => by
  have := h x hx
  have := h2 x hx
  unfold le1 at *
  omega
section CONV
variable {g : Nat → Nat → Int} {N : Nat}
theorem rel_nb {f : Nat → Int} {a b : Nat} (ha : a < 6) (h : NB f) : NB (relF g f a b) := by
  intro x hx
  have h1 := h x hx
  have h2 := h a ha
  unfold relF
  split
  · unfold upf
    split <;> omega
  · exact h1
theorem rel_le {f : Nat → Int} {a b : Nat} (ha : a < 6) (h : NB f) : LF (relF g f a b) f := by
  intro x hx
  have h1 := h x hx
  have h2 := h a ha
  unfold relF le1
  split
  · unfold upf
    split
    · rename_i q q2
      subst q2
      omega
    · omega
  · omega
theorem row_nb {f : Nat → Int} {a : Nat} (ha : a < 6) (h : NB f) : ∀ k, NB (rowF g a f k)
  | 0 => h
  | k + 1 => rel_nb ha (row_nb ha h k)
theorem rnd_nb {f : Nat → Int} (hN : N ≤ 6) (h : NB f) : ∀ k, k ≤ 6 → NB (rndF g N f k)
  | 0, _ => h
  | k + 1, hk => row_nb (show k < 6 by omega) (rnd_nb hN h k (by omega)) N
theorem far_nb {s : Nat → Int} (hN : N ≤ 6) (h : NB s) : ∀ k, NB (farK s g N k)
  | 0 => h
  | k + 1 => rnd_nb hN (far_nb hN h k) N hN
theorem row_le {f : Nat → Int} {a : Nat} (ha : a < 6) (h : NB f) : ∀ (k j : Nat), LF (rowF g a f (j + k)) (rowF g a f j)
  | 0, j => LF_refl
  | k + 1, j => LF_trans (rel_le ha (row_nb ha h (j + k))) (row_le ha h k j)
theorem rnd_le {f : Nat → Int} (hN : N ≤ 6) (h : NB f) : ∀ (k j : Nat), j + k ≤ 6 → LF (rndF g N f (j + k)) (rndF g N f j)
  | 0, j, _ => LF_refl
  | k + 1, j, hk => LF_trans (by have := row_le (g := g) (show j + k < 6 by omega) (rnd_nb (g := g) hN h (j + k) (by omega)) N 0; rw [Nat.zero_add] at this; exact this) (rnd_le hN h k j (by omega))
theorem far_le {s : Nat → Int} (hN : N ≤ 6) (h : NB s) : ∀ (k j : Nat), LF (farK s g N (j + k)) (farK s g N j)
  | 0, j => LF_refl
  | k + 1, j => LF_trans (by have := rnd_le (g := g) hN (far_nb (g := g) hN h (j + k)) N 0 (by omega); rw [Nat.zero_add] at this; exact this) (far_le hN h k j)
/-- a round looks along every way -/
theorem rnd_rel {f : Nat → Int} {a x : Nat} (hN : N ≤ 6) (h : NB f) (ha : a < N) (hx : x < N) (hf : f a ≠ -1) (hg : 0 < g a x) : rndF g N f N x ≠ -1 ∧ rndF g N f N x ≤ f a + g a x := by
  have nu := rnd_nb (g := g) hN h a (by omega)
  have l1 := rnd_le (g := g) hN h a 0 (by omega) a (by omega)
  rw [Nat.zero_add] at l1
  have l2 := row_le (g := g) (show a < 6 by omega) nu x 0 a (by omega)
  rw [Nat.zero_add] at l2
  have nv := row_nb (g := g) (show a < 6 by omega) nu x
  have l3 := row_le (g := g) (show a < 6 by omega) nu (N - (x + 1)) (x + 1) x (by omega)
  rw [show x + 1 + (N - (x + 1)) = N by omega] at l3
  have l4 := rnd_le (g := g) hN h (N - (a + 1)) (a + 1) (by omega) x (by omega)
  rw [show a + 1 + (N - (a + 1)) = N by omega] at l4
  have e1 : rndF g N f (a + 1) = rowF g a (rndF g N f a) N := rfl
  have e2 : rowF g a (rndF g N f a) (x + 1) = relF g (rowF g a (rndF g N f a) x) a x := rfl
  rw [e1] at l4
  rw [e2] at l3
  have e3 : rndF g N f 0 = f := rfl
  have e4 : rowF g a (rndF g N f a) 0 = rndF g N f a := rfl
  rw [e3] at l1
  rw [e4] at l2
  have key : relF g (rowF g a (rndF g N f a) x) a x x ≠ -1 ∧ relF g (rowF g a (rndF g N f a) x) a x x ≤ rowF g a (rndF g N f a) x a + g a x := by
    have := nv a (by omega)
    have := nv x (by omega)
    have q1 : rowF g a (rndF g N f a) x a ≠ -1 := by
      unfold le1 at l1 l2
      omega
    unfold relF
    split
    · unfold upf
      rw [if_pos rfl]
      omega
    · omega
  unfold le1 at l1 l2 l3 l4
  omega
/-- below it nothing goes -/
abbrev FX (g : Nat → Nat → Int) (N : Nat) (F : Nat → Int) : Prop := ∀ a x, a < N → x < N → F a ≠ -1 → 0 < g a x → F x ≠ -1 ∧ F x ≤ F a + g a x
theorem rel_lb {f F : Nat → Int} {a b : Nat} (hN : N ≤ 6) (ha : a < N) (hb : b < N) (hF : FX g N F) (h : LF F f) : LF F (relF g f a b) := by
  intro x hx
  have h1 := h x hx
  have h2 := h a (by omega)
  have h3 := hF a b ha hb
  unfold relF
  split
  · unfold upf
    split
    · rename_i q q2
      subst q2
      unfold le1 at *
      omega
    · exact h1
  · exact h1
theorem row_lb {f F : Nat → Int} {a : Nat} (hN : N ≤ 6) (ha : a < N) (hF : FX g N F) (h : LF F f) : ∀ k, k ≤ N → LF F (rowF g a f k)
  | 0, _ => h
  | k + 1, hk => rel_lb hN ha (by omega) hF (row_lb hN ha hF h k (by omega))
theorem rnd_lb {f F : Nat → Int} (hN : N ≤ 6) (hF : FX g N F) (h : LF F f) : ∀ k, k ≤ N → LF F (rndF g N f k)
  | 0, _ => h
  | k + 1, hk => row_lb hN (by omega) hF (rnd_lb hN hF h k (by omega)) N (Nat.le_refl _)
theorem far_lb {s F : Nat → Int} (hN : N ≤ 6) (hF : FX g N F) (h : LF F s) : ∀ k, LF F (farK s g N k)
  | 0 => h
  | k + 1 => rnd_lb hN hF (far_lb hN hF h k) N (Nat.le_refl _)
/-- each is come to from another one -/
abbrev TI (g : Nat → Nat → Int) (N : Nat) (f : Nat → Int) : Prop := ∀ x, x < 6 → f x ≠ -1 → x = 0 ∨ (x < N ∧ ∃ a, a < N ∧ f a ≠ -1 ∧ 0 < g a x ∧ f a + g a x ≤ f x)
theorem rel_ti {f : Nat → Int} {a b : Nat} (hN : N ≤ 6) (ha : a < N) (hb : b < N) (hn : NB f) (h : TI g N f) : TI g N (relF g f a b) := by
  unfold relF
  split
  · rename_i hc
    have hab : a ≠ b := by
      intro q
      subst q
      omega
    intro x hx hfx
    by_cases q : x = b
    · subst q
      refine Or.inr ⟨hb, a, ha, ?_, hc.2.1, ?_⟩
      · unfold upf
        rw [if_neg hab]
        exact hc.1
      · unfold upf
        rw [if_neg hab, if_pos rfl]
        omega
    · have hfx' : f x ≠ -1 := by
        unfold upf at hfx
        rw [if_neg q] at hfx
        exact hfx
      rcases h x hx hfx' with h0 | ⟨hxN, a', ha', g1, g2, g3⟩
      · exact Or.inl h0
      · refine Or.inr ⟨hxN, a', ha', ?_, g2, ?_⟩
        · unfold upf
          split
          · have := hn a (by omega)
            omega
          · exact g1
        · have : upf f b (f a + g a b) x = f x := by
            unfold upf
            rw [if_neg q]
          rw [this]
          unfold upf
          split
          · rename_i q2
            subst q2
            omega
          · exact g3
  · exact h
theorem row_ti {f : Nat → Int} {a : Nat} (hN : N ≤ 6) (ha : a < N) (hn : NB f) (h : TI g N f) : ∀ k, k ≤ N → TI g N (rowF g a f k)
  | 0, _ => h
  | k + 1, hk => rel_ti hN ha (by omega) (row_nb (by omega) hn k) (row_ti hN ha hn h k (by omega))
theorem rnd_ti {f : Nat → Int} (hN : N ≤ 6) (hn : NB f) (h : TI g N f) : ∀ k, k ≤ N → TI g N (rndF g N f k)
  | 0, _ => h
  | k + 1, hk => row_ti hN (by omega) (rnd_nb hN hn k (by omega)) (rnd_ti hN hn h k (by omega)) N (Nat.le_refl _)
theorem far_ti {s : Nat → Int} (hN : N ≤ 6) (hn : NB s) (h : TI g N s) : ∀ k, TI g N (farK s g N k)
  | 0 => h
  | k + 1 => rnd_ti hN (far_nb hN hn k) (far_ti hN hn h k) N (Nat.le_refl _)
def cOf (f : Nat → Int) (x : Nat) : Nat := if f x = -1 then 1 else 0
def sOf (f : Nat → Int) (x : Nat) : Nat := (f x + 1).toNat
def six (u : Nat → Nat) : Nat := u 0 + u 1 + u 2 + u 3 + u 4 + u 5
theorem cs_le {f f' : Nat → Int} {x : Nat} (hx : x < 6) (h : LF f' f) (n1 : NB f) (n2 : NB f') : cOf f' x ≤ cOf f x ∧ (cOf f' x = cOf f x → sOf f' x ≤ sOf f x ∧ (sOf f' x = sOf f x → f' x = f x)) := by
  have := h x hx
  have := n1 x hx
  have := n2 x hx
  unfold le1 at *
  unfold cOf sOf
  split <;> split <;> omega
theorem fix_ex (hN : N ≤ 6) : ∀ (c m : Nat) (f : Nat → Int), NB f → six (cOf f) ≤ c → six (sOf f) ≤ m → ∃ K, Fq (rndF g N (farK f g N K) N) (farK f g N K) := by
  have sh : ∀ (f : Nat → Int) (k : Nat), farK (rndF g N f N) g N k = farK f g N (k + 1) := by
    intro f k
    induction k with
    | zero => rfl
    | succ k ih =>
      show rndF g N (farK (rndF g N f N) g N k) N = rndF g N (farK f g N (k + 1)) N
      rw [ih]
  intro c
  induction c with
  | zero =>
    intro m
    induction m with
    | zero =>
      intro f hn hc hm
      by_cases q : Fq (rndF g N f N) f
      · exact ⟨0, q⟩
      · exfalso
        have hl := rnd_le (g := g) hN hn N 0 (by omega)
        rw [Nat.zero_add] at hl
        have hl' : LF (rndF g N f N) f := hl
        have hn' := rnd_nb (g := g) hN hn N hN
        have k0 := cs_le (show 0 < 6 by omega) hl' hn hn'
        have k1 := cs_le (show 1 < 6 by omega) hl' hn hn'
        have k2 := cs_le (show 2 < 6 by omega) hl' hn hn'
        have k3 := cs_le (show 3 < 6 by omega) hl' hn hn'
        have k4 := cs_le (show 4 < 6 by omega) hl' hn hn'
        have k5 := cs_le (show 5 < 6 by omega) hl' hn hn'
        unfold six at hc hm
        apply q
        intro x hx
        have k := cs_le hx hl' hn hn'
        have : x = 0 ∨ x = 1 ∨ x = 2 ∨ x = 3 ∨ x = 4 ∨ x = 5 := by omega
        rcases this with rfl | rfl | rfl | rfl | rfl | rfl <;> exact (k.2 (by omega)).2 (by omega)
    | succ m ihm =>
      intro f hn hc hm
      by_cases q : Fq (rndF g N f N) f
      · exact ⟨0, q⟩
      · have hl := rnd_le (g := g) hN hn N 0 (by omega)
        rw [Nat.zero_add] at hl
        have hl' : LF (rndF g N f N) f := hl
        have hn' := rnd_nb (g := g) hN hn N hN
        have k0 := cs_le (show 0 < 6 by omega) hl' hn hn'
        have k1 := cs_le (show 1 < 6 by omega) hl' hn hn'
        have k2 := cs_le (show 2 < 6 by omega) hl' hn hn'
        have k3 := cs_le (show 3 < 6 by omega) hl' hn hn'
        have k4 := cs_le (show 4 < 6 by omega) hl' hn hn'
        have k5 := cs_le (show 5 < 6 by omega) hl' hn hn'
        have hs : six (sOf (rndF g N f N)) ≤ m := by
          apply Classical.byContradiction
          intro hno
          apply q
          unfold six at hc hm hno
          have z0 := (k0.2 (by omega))
          have z1 := (k1.2 (by omega))
          have z2 := (k2.2 (by omega))
          have z3 := (k3.2 (by omega))
          have z4 := (k4.2 (by omega))
          have z5 := (k5.2 (by omega))
          intro x hx
          have : x = 0 ∨ x = 1 ∨ x = 2 ∨ x = 3 ∨ x = 4 ∨ x = 5 := by omega
          rcases this with rfl | rfl | rfl | rfl | rfl | rfl
          · exact z0.2 (by omega)
          · exact z1.2 (by omega)
          · exact z2.2 (by omega)
          · exact z3.2 (by omega)
          · exact z4.2 (by omega)
          · exact z5.2 (by omega)
        obtain ⟨K, hK⟩ := ihm (rndF g N f N) hn' (by unfold six at *; omega) hs
        refine ⟨K + 1, ?_⟩
        rw [sh] at hK
        exact hK
  | succ c ihc =>
    intro m
    induction m with
    | zero =>
      intro f hn hc hm
      by_cases q : Fq (rndF g N f N) f
      · exact ⟨0, q⟩
      · have hl := rnd_le (g := g) hN hn N 0 (by omega)
        rw [Nat.zero_add] at hl
        have hl' : LF (rndF g N f N) f := hl
        have hn' := rnd_nb (g := g) hN hn N hN
        have k0 := cs_le (show 0 < 6 by omega) hl' hn hn'
        have k1 := cs_le (show 1 < 6 by omega) hl' hn hn'
        have k2 := cs_le (show 2 < 6 by omega) hl' hn hn'
        have k3 := cs_le (show 3 < 6 by omega) hl' hn hn'
        have k4 := cs_le (show 4 < 6 by omega) hl' hn hn'
        have k5 := cs_le (show 5 < 6 by omega) hl' hn hn'
        have hs : six (cOf (rndF g N f N)) ≤ c := by
          apply Classical.byContradiction
          intro hno
          apply q
          unfold six at hc hm hno
          have z0 := (k0.2 (by omega))
          have z1 := (k1.2 (by omega))
          have z2 := (k2.2 (by omega))
          have z3 := (k3.2 (by omega))
          have z4 := (k4.2 (by omega))
          have z5 := (k5.2 (by omega))
          intro x hx
          have : x = 0 ∨ x = 1 ∨ x = 2 ∨ x = 3 ∨ x = 4 ∨ x = 5 := by omega
          rcases this with rfl | rfl | rfl | rfl | rfl | rfl
          · exact z0.2 (by omega)
          · exact z1.2 (by omega)
          · exact z2.2 (by omega)
          · exact z3.2 (by omega)
          · exact z4.2 (by omega)
          · exact z5.2 (by omega)
        obtain ⟨K, hK⟩ := ihc _ (rndF g N f N) hn' hs (Nat.le_refl _)
        refine ⟨K + 1, ?_⟩
        rw [sh] at hK
        exact hK
    | succ m ihm =>
      intro f hn hc hm
      by_cases q : Fq (rndF g N f N) f
      · exact ⟨0, q⟩
      · have hl := rnd_le (g := g) hN hn N 0 (by omega)
        rw [Nat.zero_add] at hl
        have hl' : LF (rndF g N f N) f := hl
        have hn' := rnd_nb (g := g) hN hn N hN
        have k0 := cs_le (show 0 < 6 by omega) hl' hn hn'
        have k1 := cs_le (show 1 < 6 by omega) hl' hn hn'
        have k2 := cs_le (show 2 < 6 by omega) hl' hn hn'
        have k3 := cs_le (show 3 < 6 by omega) hl' hn hn'
        have k4 := cs_le (show 4 < 6 by omega) hl' hn hn'
        have k5 := cs_le (show 5 < 6 by omega) hl' hn hn'
        by_cases hcc : six (cOf (rndF g N f N)) ≤ c
        · obtain ⟨K, hK⟩ := ihc _ (rndF g N f N) hn' hcc (Nat.le_refl _)
          refine ⟨K + 1, ?_⟩
          rw [sh] at hK
          exact hK
        · have hs : six (sOf (rndF g N f N)) ≤ m := by
            apply Classical.byContradiction
            intro hno
            apply q
            unfold six at hc hm hno hcc
            have z0 := (k0.2 (by omega))
            have z1 := (k1.2 (by omega))
            have z2 := (k2.2 (by omega))
            have z3 := (k3.2 (by omega))
            have z4 := (k4.2 (by omega))
            have z5 := (k5.2 (by omega))
            intro x hx
            have : x = 0 ∨ x = 1 ∨ x = 2 ∨ x = 3 ∨ x = 4 ∨ x = 5 := by omega
            rcases this with rfl | rfl | rfl | rfl | rfl | rfl
            · exact z0.2 (by omega)
            · exact z1.2 (by omega)
            · exact z2.2 (by omega)
            · exact z3.2 (by omega)
            · exact z4.2 (by omega)
            · exact z5.2 (by omega)
          obtain ⟨K, hK⟩ := ihm (rndF g N f N) hn' (by unfold six at *; omega) hs
          refine ⟨K + 1, ?_⟩
          rw [sh] at hK
          exact hK
/-- how many are nearer -/
def rk1 (F : Nat → Int) (N : Nat) (v : Int) (y : Nat) : Nat := if y < N ∧ F y ≠ -1 ∧ F y < v then 1 else 0
theorem rk_mono {F : Nat → Int} {v w : Int} {y : Nat} (h : v ≤ w) : rk1 F N v y ≤ rk1 F N w y := by
  unfold rk1
  split <;> split <;> omega
theorem rk_lt {F : Nat → Int} {v w : Int} {y : Nat} (h : v ≤ w) (hy : y < N) (hv : F y = v) (hv1 : F y ≠ -1) (hw : v < w) : rk1 F N v y < rk1 F N w y := by
  unfold rk1
  rw [if_neg (by omega), if_pos (by omega)]
  omega
theorem rk_self {F : Nat → Int} {v : Int} {y : Nat} (hv : F y = v) : rk1 F N v y = 0 := by
  unfold rk1
  rw [if_neg (by omega)]
theorem rk_le1 {F : Nat → Int} {v : Int} {y : Nat} : rk1 F N v y ≤ 1 ∧ (N ≤ y → rk1 F N v y = 0) := by
  unfold rk1
  split <;> omega
theorem far_conv (h1 : 1 ≤ N) (hN : N ≤ 6) : Fq (farK far0 g N N) (farK far0 g N 6) := by
  have n0 : NB far0 := fun x hx => by unfold far0; split <;> omega
  have t0 : TI g N far0 := fun x hx h => Or.inl (by
    unfold far0 at h
    apply Classical.byContradiction
    intro q
    rw [if_neg q] at h
    omega)
  obtain ⟨K, hK⟩ := fix_ex (g := g) hN _ _ far0 n0 (Nat.le_refl _) (Nat.le_refl _)
  have hn := far_nb (g := g) hN n0 K
  have hti := far_ti (g := g) hN n0 t0 K
  have hl0 : LF (farK far0 g N K) far0 := by
    have := far_le (g := g) hN n0 K 0
    rw [Nat.zero_add] at this
    exact this
  generalize farK far0 g N K = F at hK hn hti hl0
  have hfx : FX g N F := by
    intro a x ha hx hf hg
    have := rnd_rel hN hn ha hx hf hg
    rw [hK x (by omega)] at this
    exact this
  have lb := far_lb hN hfx hl0
  have main : ∀ (L x : Nat), x < 6 → F x ≠ -1 → six (rk1 F N (F x)) ≤ L → farK far0 g N L x = F x := by
    intro L
    induction L with
    | zero =>
      intro x hx hf hr
      rcases hti x hx hf with rfl | ⟨hxN, a, ha, g1, g2, g3⟩
      · have := hl0 0 (by omega)
        have := hn 0 (by omega)
        show far0 0 = F 0
        unfold le1 far0 at *
        simp at *
        omega
      · exfalso
        have h6 : a = 0 ∨ a = 1 ∨ a = 2 ∨ a = 3 ∨ a = 4 ∨ a = 5 := by omega
        have lt := rk_lt (N := N) (F := F) (show F a ≤ F x by omega) ha rfl g1 (by omega)
        unfold six at hr
        rcases h6 with rfl | rfl | rfl | rfl | rfl | rfl <;> omega
    | succ L ih =>
      intro x hx hf hr
      rcases hti x hx hf with rfl | ⟨hxN, a, ha, g1, g2, g3⟩
      · have a1 := hl0 0 (by omega)
        have a2 := hn 0 (by omega)
        have a3 := lb (L + 1) 0 (by omega)
        have a4 := far_le (g := g) hN n0 (L + 1) 0 0 (by omega)
        rw [Nat.zero_add] at a4
        have a5 : farK far0 g N 0 0 = 0 := rfl
        have a6 : far0 0 = 0 := rfl
        unfold le1 at *
        omega
      · have m0 := rk_mono (F := F) (N := N) (y := 0) (show F a ≤ F x by omega)
        have m1 := rk_mono (F := F) (N := N) (y := 1) (show F a ≤ F x by omega)
        have m2 := rk_mono (F := F) (N := N) (y := 2) (show F a ≤ F x by omega)
        have m3 := rk_mono (F := F) (N := N) (y := 3) (show F a ≤ F x by omega)
        have m4 := rk_mono (F := F) (N := N) (y := 4) (show F a ≤ F x by omega)
        have m5 := rk_mono (F := F) (N := N) (y := 5) (show F a ≤ F x by omega)
        have lt := rk_lt (N := N) (F := F) (show F a ≤ F x by omega) ha rfl g1 (by omega)
        have hra : six (rk1 F N (F a)) ≤ L := by
          unfold six at *
          have h6 : a = 0 ∨ a = 1 ∨ a = 2 ∨ a = 3 ∨ a = 4 ∨ a = 5 := by omega
          rcases h6 with rfl | rfl | rfl | rfl | rfl | rfl <;> omega
        have ea := ih a (by omega) g1 hra
        have hr2 := rnd_rel (f := farK far0 g N L) hN (far_nb hN n0 L) ha hxN (by rw [ea]; exact g1) g2
        have e1 : farK far0 g N (L + 1) = rndF g N (farK far0 g N L) N := rfl
        have lbx := lb (L + 1) x hx
        rw [e1] at lbx ⊢
        rw [ea] at hr2
        unfold le1 at lbx
        omega
  have fin : ∀ L, N ≤ L → ∀ x, x < 6 → farK far0 g N L x = F x := by
    intro L hL x hx
    by_cases hf : F x = -1
    · have := lb L x hx
      unfold le1 at this
      omega
    · refine main L x hx hf ?_
      have b0 := rk_le1 (F := F) (N := N) (v := F x) (y := 0)
      have b1 := rk_le1 (F := F) (N := N) (v := F x) (y := 1)
      have b2 := rk_le1 (F := F) (N := N) (v := F x) (y := 2)
      have b3 := rk_le1 (F := F) (N := N) (v := F x) (y := 3)
      have b4 := rk_le1 (F := F) (N := N) (v := F x) (y := 4)
      have b5 := rk_le1 (F := F) (N := N) (v := F x) (y := 5)
      unfold six
      omega
  intro x hx
  rw [fin N (Nat.le_refl _) x hx, fin 6 hN x hx]
end CONV
