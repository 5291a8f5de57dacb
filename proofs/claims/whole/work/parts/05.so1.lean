/-! SOUNDNESS, one instruction at a time: what the pure machine asks gives the walk of the machine itself -/
def Cx (mid : Nat) (p : Program) (s : State) (m : MethodId) (args : Array Value) (meth : Method) (c : Code) : Prop :=
  p.tables.exec = Jvm.exec ∧ c.code = mB mid ∧ c.maxLocals = mML mid ∧ meth.sig.returnType = mRt mid ∧ meth.locks = false ∧ s.vm.findClass (mY mid).cls = some m.cls ∧ (∀ w ∈ WUg, w.before args s = true) ∧ meth.name = (mY mid).name
def Qm (E : PE) (Qp : PQ) : Array Value → State → Outcome → State → Prop := fun _ st o t => (∃ (v : Option PV) (h' : PMem), Qp v h' ∧ o = .returned (v.map (pv (pad E))) ∧ Rl E t t.heap h') ∧ va_F (pA E) st t
def RmOk (R : Room) (d mid n0 : Nat) : Prop := d ≤ R.frames ∧ 64 * d ≤ R.locals ∧ aC mid ≤ R.cells ∧ SL (n0 + aC mid) - SL n0 ≤ R.slots
def At (l : Launch) (d mid n0 : Nat) (Qp : PQ) (pc : Nat) : PK := fun ls st h =>
  ∀ (E : PE) (R : Room) (p : Program) (e : Env) (s : State) (m : MethodId) (args : Array Value) (below : List Frame) (meth : Method) (c : Code) (H : Heap) (locs : List Loc) (lsA : Array Slot),
    Cx mid p s m args meth c → RmOk R d mid n0 → Rl E s H h → va_S (pA E) s.heap H locs → HL E (mML mid) lsA ls → n0 ≤ h.1 → eB E ≤ s.heap.size →
    W p l e R s m args below meth c H locs (h.1 - n0) (SL h.1 - SL n0) (MQ below (Qm E Qp) args s (aC mid) (SL (n0 + aC mid) - SL n0) (pA E)) (F0 m pc lsA (st.map (pv (pad E))))
section SO
variable {l : Launch} {d mid n0 pc : Nat} {Qp : PQ} {k : PK} {ls : List (Option PV)} {st : List PV} {h : PMem}
theorem so_iadd (hd : decode (mB mid) pc = .ok (.iadd, 1)) (hk : ∀ ls st h, k ls st h → At l d mid n0 Qp (pc + 1) ls st h) (hw : w_i2 (fun x y => x + y) k ls st h) : At l d mid n0 Qp pc ls st h := by
  simp only [w_i2, w_l2] at hw
  split at hw
  · intro E R p e s m args below meth c H locs lsA cx hm hR hS hL hn hb0
    refine lv_iadd cx.1 cx.2.1 hd ?_
    rw [← pI_add]
    exact hk _ _ _ hw E R p e s m args below meth c H locs lsA cx hm hR hS hL hn hb0
  · exact hw.elim
theorem so_isub (hd : decode (mB mid) pc = .ok (.isub, 1)) (hk : ∀ ls st h, k ls st h → At l d mid n0 Qp (pc + 1) ls st h) (hw : w_i2 (fun x y => x - y) k ls st h) : At l d mid n0 Qp pc ls st h := by
  simp only [w_i2, w_l2] at hw
  split at hw
  · intro E R p e s m args below meth c H locs lsA cx hm hR hS hL hn hb0
    refine lv_isub cx.1 cx.2.1 hd ?_
    rw [← pI_sub]
    exact hk _ _ _ hw E R p e s m args below meth c H locs lsA cx hm hR hS hL hn hb0
  · exact hw.elim
theorem so_imul (hd : decode (mB mid) pc = .ok (.imul, 1)) (hk : ∀ ls st h, k ls st h → At l d mid n0 Qp (pc + 1) ls st h) (hw : w_i2 (fun x y => x * y) k ls st h) : At l d mid n0 Qp pc ls st h := by
  simp only [w_i2, w_l2] at hw
  split at hw
  · intro E R p e s m args below meth c H locs lsA cx hm hR hS hL hn hb0
    refine lv_imul cx.1 cx.2.1 hd ?_
    rw [← pI_mul]
    exact hk _ _ _ hw E R p e s m args below meth c H locs lsA cx hm hR hS hL hn hb0
  · exact hw.elim
theorem so_ladd (hd : decode (mB mid) pc = .ok (.ladd, 1)) (hk : ∀ ls st h, k ls st h → At l d mid n0 Qp (pc + 1) ls st h) (hw : w_l2 (fun x y => x + y) k ls st h) : At l d mid n0 Qp pc ls st h := by
  simp only [w_i2, w_l2] at hw
  split at hw
  · intro E R p e s m args below meth c H locs lsA cx hm hR hS hL hn hb0
    refine lv_ladd cx.1 cx.2.1 hd ?_
    rw [← pL_add]
    exact hk _ _ _ hw E R p e s m args below meth c H locs lsA cx hm hR hS hL hn hb0
  · exact hw.elim
theorem so_lsub (hd : decode (mB mid) pc = .ok (.lsub, 1)) (hk : ∀ ls st h, k ls st h → At l d mid n0 Qp (pc + 1) ls st h) (hw : w_l2 (fun x y => x - y) k ls st h) : At l d mid n0 Qp pc ls st h := by
  simp only [w_i2, w_l2] at hw
  split at hw
  · intro E R p e s m args below meth c H locs lsA cx hm hR hS hL hn hb0
    refine lv_lsub cx.1 cx.2.1 hd ?_
    rw [← pL_sub]
    exact hk _ _ _ hw E R p e s m args below meth c H locs lsA cx hm hR hS hL hn hb0
  · exact hw.elim
theorem so_lmul (hd : decode (mB mid) pc = .ok (.lmul, 1)) (hk : ∀ ls st h, k ls st h → At l d mid n0 Qp (pc + 1) ls st h) (hw : w_l2 (fun x y => x * y) k ls st h) : At l d mid n0 Qp pc ls st h := by
  simp only [w_i2, w_l2] at hw
  split at hw
  · intro E R p e s m args below meth c H locs lsA cx hm hR hS hL hn hb0
    refine lv_lmul cx.1 cx.2.1 hd ?_
    rw [← pL_mul]
    exact hk _ _ _ hw E R p e s m args below meth c H locs lsA cx hm hR hS hL hn hb0
  · exact hw.elim
theorem so_iand (hd : decode (mB mid) pc = .ok (.iand, 1)) (hk : ∀ ls st h, k ls st h → At l d mid n0 Qp (pc + 1) ls st h) (hw : w_i2 bAnd k ls st h) : At l d mid n0 Qp pc ls st h := by
  simp only [w_i2] at hw
  split at hw
  · rename_i y x st'
    intro E R p e s m args below meth c H locs lsA cx hm hR hS hL hn hb0
    refine lv_iand cx.1 cx.2.1 hd ?_
    rw [← pI_eta (pI x &&& pI y)]
    exact hk _ _ _ hw E R p e s m args below meth c H locs lsA cx hm hR hS hL hn hb0
  · exact hw.elim
theorem so_ior (hd : decode (mB mid) pc = .ok (.ior, 1)) (hk : ∀ ls st h, k ls st h → At l d mid n0 Qp (pc + 1) ls st h) (hw : w_i2 bOr k ls st h) : At l d mid n0 Qp pc ls st h := by
  simp only [w_i2] at hw
  split at hw
  · rename_i y x st'
    intro E R p e s m args below meth c H locs lsA cx hm hR hS hL hn hb0
    refine lv_ior cx.1 cx.2.1 hd ?_
    rw [← pI_eta (pI x ||| pI y)]
    exact hk _ _ _ hw E R p e s m args below meth c H locs lsA cx hm hR hS hL hn hb0
  · exact hw.elim
theorem so_ixor (hd : decode (mB mid) pc = .ok (.ixor, 1)) (hk : ∀ ls st h, k ls st h → At l d mid n0 Qp (pc + 1) ls st h) (hw : w_i2 bXor k ls st h) : At l d mid n0 Qp pc ls st h := by
  simp only [w_i2] at hw
  split at hw
  · rename_i y x st'
    intro E R p e s m args below meth c H locs lsA cx hm hR hS hL hn hb0
    refine lv_ixor cx.1 cx.2.1 hd ?_
    rw [← pI_eta (pI x ^^^ pI y)]
    exact hk _ _ _ hw E R p e s m args below meth c H locs lsA cx hm hR hS hL hn hb0
  · exact hw.elim
theorem so_ishl (hd : decode (mB mid) pc = .ok (.ishl, 1)) (hk : ∀ ls st h, k ls st h → At l d mid n0 Qp (pc + 1) ls st h) (hw : w_i2 bShl k ls st h) : At l d mid n0 Qp pc ls st h := by
  simp only [w_i2] at hw
  split at hw
  · rename_i y x st'
    intro E R p e s m args below meth c H locs lsA cx hm hR hS hL hn hb0
    refine lv_ishl cx.1 cx.2.1 hd ?_
    rw [← pI_eta (pI x <<< (pI y &&& 31))]
    exact hk _ _ _ hw E R p e s m args below meth c H locs lsA cx hm hR hS hL hn hb0
  · exact hw.elim
theorem so_ishr (hd : decode (mB mid) pc = .ok (.ishr, 1)) (hk : ∀ ls st h, k ls st h → At l d mid n0 Qp (pc + 1) ls st h) (hw : w_i2 bShr k ls st h) : At l d mid n0 Qp pc ls st h := by
  simp only [w_i2] at hw
  split at hw
  · rename_i y x st'
    intro E R p e s m args below meth c H locs lsA cx hm hR hS hL hn hb0
    refine lv_ishr cx.1 cx.2.1 hd ?_
    rw [← pI_eta (pI x >>> (pI y &&& 31))]
    exact hk _ _ _ hw E R p e s m args below meth c H locs lsA cx hm hR hS hL hn hb0
  · exact hw.elim
theorem so_iushr (hd : decode (mB mid) pc = .ok (.iushr, 1)) (hk : ∀ ls st h, k ls st h → At l d mid n0 Qp (pc + 1) ls st h) (hw : w_i2 bUshr k ls st h) : At l d mid n0 Qp pc ls st h := by
  simp only [w_i2] at hw
  split at hw
  · rename_i y x st'
    intro E R p e s m args below meth c H locs lsA cx hm hR hS hL hn hb0
    refine lv_iushr (v := pI (bUshr x y)) cx.1 cx.2.1 hd (pI_eta _).symm ?_
    exact hk _ _ _ hw E R p e s m args below meth c H locs lsA cx hm hR hS hL hn hb0
  · exact hw.elim
theorem so_iload {i : Nat} (hd : decode (mB mid) pc = .ok (.iload i, 2)) (hk : ∀ ls st h, k ls st h → At l d mid n0 Qp (pc + 2) ls st h) (hw : w_iload i k ls st h) : At l d mid n0 Qp pc ls st h := by
  simp only [w_iload] at hw
  split at hw
  · rename_i z hz
    intro E R p e s m args below meth c H locs lsA cx hm hR hS hL hn hb0
    refine lv_iload cx.1 cx.2.1 hd (hL.at hz) ?_
    exact hk _ _ _ hw E R p e s m args below meth c H locs lsA cx hm hR hS hL hn hb0
  · exact hw.elim
theorem so_iload_n {i : Nat} {q : Fin 4} (hq : (q : Nat) = i) (hd : decode (mB mid) pc = .ok (.iload_n q, 1)) (hk : ∀ ls st h, k ls st h → At l d mid n0 Qp (pc + 1) ls st h) (hw : w_iload i k ls st h) : At l d mid n0 Qp pc ls st h := by
  simp only [w_iload] at hw
  split at hw
  · rename_i z hz
    intro E R p e s m args below meth c H locs lsA cx hm hR hS hL hn hb0
    refine lv_iload_n cx.1 cx.2.1 hd hq (hL.at hz) ?_
    exact hk _ _ _ hw E R p e s m args below meth c H locs lsA cx hm hR hS hL hn hb0
  · exact hw.elim
theorem so_lload {i : Nat} (hd : decode (mB mid) pc = .ok (.lload i, 2)) (hk : ∀ ls st h, k ls st h → At l d mid n0 Qp (pc + 2) ls st h) (hw : w_lload i k ls st h) : At l d mid n0 Qp pc ls st h := by
  simp only [w_lload] at hw
  split at hw
  · rename_i z hz
    intro E R p e s m args below meth c H locs lsA cx hm hR hS hL hn hb0
    refine lv_lload cx.1 cx.2.1 hd (hL.at hz) ?_
    exact hk _ _ _ hw E R p e s m args below meth c H locs lsA cx hm hR hS hL hn hb0
  · exact hw.elim
theorem so_lload_n {i : Nat} {q : Fin 4} (hq : (q : Nat) = i) (hd : decode (mB mid) pc = .ok (.lload_n q, 1)) (hk : ∀ ls st h, k ls st h → At l d mid n0 Qp (pc + 1) ls st h) (hw : w_lload i k ls st h) : At l d mid n0 Qp pc ls st h := by
  simp only [w_lload] at hw
  split at hw
  · rename_i z hz
    intro E R p e s m args below meth c H locs lsA cx hm hR hS hL hn hb0
    refine lv_lload_n cx.1 cx.2.1 hd hq (hL.at hz) ?_
    exact hk _ _ _ hw E R p e s m args below meth c H locs lsA cx hm hR hS hL hn hb0
  · exact hw.elim
theorem so_aload {i : Nat} (hd : decode (mB mid) pc = .ok (.aload i, 2)) (hk : ∀ ls st h, k ls st h → At l d mid n0 Qp (pc + 2) ls st h) (hw : w_aload i k ls st h) : At l d mid n0 Qp pc ls st h := by
  simp only [w_aload] at hw
  split at hw
  · rename_i z hz
    intro E R p e s m args below meth c H locs lsA cx hm hR hS hL hn hb0
    refine lv_aload cx.1 cx.2.1 hd (hL.at hz) ?_
    exact hk _ _ _ hw E R p e s m args below meth c H locs lsA cx hm hR hS hL hn hb0
  · exact hw.elim
theorem so_aload_n {i : Nat} {q : Fin 4} (hq : (q : Nat) = i) (hd : decode (mB mid) pc = .ok (.aload_n q, 1)) (hk : ∀ ls st h, k ls st h → At l d mid n0 Qp (pc + 1) ls st h) (hw : w_aload i k ls st h) : At l d mid n0 Qp pc ls st h := by
  simp only [w_aload] at hw
  split at hw
  · rename_i z hz
    intro E R p e s m args below meth c H locs lsA cx hm hR hS hL hn hb0
    refine lv_aload_n cx.1 cx.2.1 hd hq (hL.at hz) ?_
    exact hk _ _ _ hw E R p e s m args below meth c H locs lsA cx hm hR hS hL hn hb0
  · exact hw.elim
theorem so_istore {i : Nat} (hd : decode (mB mid) pc = .ok (.istore i, 2)) (hk : ∀ ls st h, k ls st h → At l d mid n0 Qp (pc + 2) ls st h) (hw : w_istore i k ls st h) : At l d mid n0 Qp pc ls st h := by
  simp only [w_istore] at hw
  split at hw
  · rename_i z st'
    intro E R p e s m args below meth c H locs lsA cx hm hR hS hL hn hb0
    obtain ⟨⟨h1, h2⟩, hw⟩ := hw
    refine lv_istore cx.1 cx.2.1 hd hL.1 (by rw [← hL.2]; exact h1) rfl (fun lsB hB => ?_)
    exact hk _ _ _ hw E R p e s m args below meth c H locs lsB cx hm hR hS (hL.set1 (v := .inl z) h1 h2 hB) hn hb0
  · exact hw.elim
theorem so_istore_n {i : Nat} {q : Fin 4} (hq : (q : Nat) = i) (hd : decode (mB mid) pc = .ok (.istore_n q, 1)) (hk : ∀ ls st h, k ls st h → At l d mid n0 Qp (pc + 1) ls st h) (hw : w_istore i k ls st h) : At l d mid n0 Qp pc ls st h := by
  simp only [w_istore] at hw
  split at hw
  · rename_i z st'
    intro E R p e s m args below meth c H locs lsA cx hm hR hS hL hn hb0
    obtain ⟨⟨h1, h2⟩, hw⟩ := hw
    refine lv_istore_n cx.1 cx.2.1 hd hq hL.1 (by rw [← hL.2]; exact h1) rfl (fun lsB hB => ?_)
    exact hk _ _ _ hw E R p e s m args below meth c H locs lsB cx hm hR hS (hL.set1 (v := .inl z) h1 h2 hB) hn hb0
  · exact hw.elim
theorem so_astore {i : Nat} (hd : decode (mB mid) pc = .ok (.astore i, 2)) (hk : ∀ ls st h, k ls st h → At l d mid n0 Qp (pc + 2) ls st h) (hw : w_astore i k ls st h) : At l d mid n0 Qp pc ls st h := by
  simp only [w_astore] at hw
  split at hw
  · rename_i z st'
    intro E R p e s m args below meth c H locs lsA cx hm hR hS hL hn hb0
    obtain ⟨⟨h1, h2⟩, hw⟩ := hw
    refine lv_astore cx.1 cx.2.1 hd hL.1 (by rw [← hL.2]; exact h1) rfl (fun lsB hB => ?_)
    exact hk _ _ _ hw E R p e s m args below meth c H locs lsB cx hm hR hS (hL.set1 (v := .inr (.inr (some z))) h1 h2 hB) hn hb0
  · exact hw.elim
theorem so_astore_n {i : Nat} {q : Fin 4} (hq : (q : Nat) = i) (hd : decode (mB mid) pc = .ok (.astore_n q, 1)) (hk : ∀ ls st h, k ls st h → At l d mid n0 Qp (pc + 1) ls st h) (hw : w_astore i k ls st h) : At l d mid n0 Qp pc ls st h := by
  simp only [w_astore] at hw
  split at hw
  · rename_i z st'
    intro E R p e s m args below meth c H locs lsA cx hm hR hS hL hn hb0
    obtain ⟨⟨h1, h2⟩, hw⟩ := hw
    refine lv_astore_n cx.1 cx.2.1 hd hq hL.1 (by rw [← hL.2]; exact h1) rfl (fun lsB hB => ?_)
    exact hk _ _ _ hw E R p e s m args below meth c H locs lsB cx hm hR hS (hL.set1 (v := .inr (.inr (some z))) h1 h2 hB) hn hb0
  · exact hw.elim
theorem so_lstore {i : Nat} (hd : decode (mB mid) pc = .ok (.lstore i, 2)) (hk : ∀ ls st h, k ls st h → At l d mid n0 Qp (pc + 2) ls st h) (hw : w_lstore i k ls st h) : At l d mid n0 Qp pc ls st h := by
  simp only [w_lstore] at hw
  split at hw
  · rename_i z st'
    intro E R p e s m args below meth c H locs lsA cx hm hR hS hL hn hb0
    obtain ⟨⟨h1, h2⟩, hw⟩ := hw
    refine lv_lstore cx.1 cx.2.1 hd hL.1 (by rw [← hL.2]; exact h1) rfl (fun lsB hB => ?_)
    exact hk _ _ _ hw E R p e s m args below meth c H locs lsB cx hm hR hS (hL.set2 (v := .inr (.inl z)) h1 h2 hB) hn hb0
  · exact hw.elim
theorem so_lstore_n {i : Nat} {q : Fin 4} (hq : (q : Nat) = i) (hd : decode (mB mid) pc = .ok (.lstore_n q, 1)) (hk : ∀ ls st h, k ls st h → At l d mid n0 Qp (pc + 1) ls st h) (hw : w_lstore i k ls st h) : At l d mid n0 Qp pc ls st h := by
  simp only [w_lstore] at hw
  split at hw
  · rename_i z st'
    intro E R p e s m args below meth c H locs lsA cx hm hR hS hL hn hb0
    obtain ⟨⟨h1, h2⟩, hw⟩ := hw
    refine lv_lstore_n cx.1 cx.2.1 hd hq hL.1 (by rw [← hL.2]; exact h1) rfl (fun lsB hB => ?_)
    exact hk _ _ _ hw E R p e s m args below meth c H locs lsB cx hm hR hS (hL.set2 (v := .inr (.inl z)) h1 h2 hB) hn hb0
  · exact hw.elim
theorem so_iinc {i : Nat} {z0 : Int} (hd : decode (mB mid) pc = .ok (.iinc i z0, 3)) (hk : ∀ ls st h, k ls st h → At l d mid n0 Qp (pc + 3) ls st h) (hw : w_iinc i z0 k ls st h) : At l d mid n0 Qp pc ls st h := by
  simp only [w_iinc] at hw
  split at hw
  · rename_i z hz
    intro E R p e s m args below meth c H locs lsA cx hm hR hS hL hn hb0
    obtain ⟨h2, hw⟩ := hw
    have hi : i < ls.length := (List.getElem?_eq_some_iff.mp hz).1
    obtain ⟨q, hq⟩ := List.getElem?_of_mem (mem_alst (E := E).mpr ⟨_, hz, rfl⟩)
    refine lv_iinc (v := pI (z + z0)) cx.1 cx.2.1 hd hL.1 hq (pI_add z z0).symm (by rw [← hL.2]; exact hi) rfl (fun lsB hB => ?_)
    exact hk _ _ _ hw E R p e s m args below meth c H locs lsB cx hm hR hS (hL.set1 (v := .inl (z + z0)) hi h2 hB) hn hb0
  · exact hw.elim
theorem so_iconst {z : Int} (hd : decode (mB mid) pc = .ok (.iconst z, 1)) (hk : ∀ ls st h, k ls st h → At l d mid n0 Qp (pc + 1) ls st h) (hw : w_ic z k ls st h) : At l d mid n0 Qp pc ls st h := by
  intro E R p e s m args below meth c H locs lsA cx hm hR hS hL hn hb0
  refine lv_iconst (v := pI z) cx.1 cx.2.1 hd rfl ?_
  exact hk _ _ _ hw E R p e s m args below meth c H locs lsA cx hm hR hS hL hn hb0
theorem so_bipush {z : Int} (hv : (Int8.ofInt z).toInt32 = pI z) (hd : decode (mB mid) pc = .ok (.bipush z, 2)) (hk : ∀ ls st h, k ls st h → At l d mid n0 Qp (pc + 2) ls st h) (hw : w_ic z k ls st h) : At l d mid n0 Qp pc ls st h := by
  intro E R p e s m args below meth c H locs lsA cx hm hR hS hL hn hb0
  refine lv_bipush (v := pI z) cx.1 cx.2.1 hd hv ?_
  exact hk _ _ _ hw E R p e s m args below meth c H locs lsA cx hm hR hS hL hn hb0
theorem so_sipush {z : Int} (hv : (Int16.ofInt z).toInt32 = pI z) (hd : decode (mB mid) pc = .ok (.sipush z, 3)) (hk : ∀ ls st h, k ls st h → At l d mid n0 Qp (pc + 3) ls st h) (hw : w_ic z k ls st h) : At l d mid n0 Qp pc ls st h := by
  intro E R p e s m args below meth c H locs lsA cx hm hR hS hL hn hb0
  refine lv_sipush (v := pI z) cx.1 cx.2.1 hd hv ?_
  exact hk _ _ _ hw E R p e s m args below meth c H locs lsA cx hm hR hS hL hn hb0
theorem so_lconst {q : Fin 2} {z : Int} (hv : Int64.ofNat (q : Nat) = pL z) (hd : decode (mB mid) pc = .ok (.lconst q, 1)) (hk : ∀ ls st h, k ls st h → At l d mid n0 Qp (pc + 1) ls st h) (hw : w_lc z k ls st h) : At l d mid n0 Qp pc ls st h := by
  intro E R p e s m args below meth c H locs lsA cx hm hR hS hL hn hb0
  refine lv_lconst (v := pL z) cx.1 cx.2.1 hd hv ?_
  exact hk _ _ _ hw E R p e s m args below meth c H locs lsA cx hm hR hS hL hn hb0
theorem so_ldc {idx : Nat} {z : Int} (hc : Cond.constant (mY mid).cls idx (pI z) ∈ WUg) (hd : decode (mB mid) pc = .ok (.ldc idx, 2)) (hk : ∀ ls st h, k ls st h → At l d mid n0 Qp (pc + 2) ls st h) (hw : w_ic z k ls st h) : At l d mid n0 Qp pc ls st h := by
  intro E R p e s m args below meth c H locs lsA cx hm hR hS hL hn hb0
  refine lv_ldc (v := pI z) cx.1 cx.2.1 cx.2.2.2.2.2.1 (cx.2.2.2.2.2.2.1 _ hc) hd ?_
  exact hk _ _ _ hw E R p e s m args below meth c H locs lsA cx hm hR hS hL hn hb0
theorem so_ldcw {idx : Nat} {z : Int} (hc : Cond.constant (mY mid).cls idx (pI z) ∈ WUg) (hd : decode (mB mid) pc = .ok (.ldc_w idx, 3)) (hk : ∀ ls st h, k ls st h → At l d mid n0 Qp (pc + 3) ls st h) (hw : w_ic z k ls st h) : At l d mid n0 Qp pc ls st h := by
  intro E R p e s m args below meth c H locs lsA cx hm hR hS hL hn hb0
  refine lv_ldcw (v := pI z) cx.1 cx.2.1 cx.2.2.2.2.2.1 (cx.2.2.2.2.2.2.1 _ hc) hd ?_
  exact hk _ _ _ hw E R p e s m args below meth c H locs lsA cx hm hR hS hL hn hb0
theorem so_ldc2 {idx : Nat} {z : Int} (hc : Cond.constantLong (mY mid).cls idx (pL z) ∈ WUg) (hd : decode (mB mid) pc = .ok (.ldc2_w idx, 3)) (hk : ∀ ls st h, k ls st h → At l d mid n0 Qp (pc + 3) ls st h) (hw : w_lc z k ls st h) : At l d mid n0 Qp pc ls st h := by
  intro E R p e s m args below meth c H locs lsA cx hm hR hS hL hn hb0
  refine lv_ldc2 (v := pL z) cx.1 cx.2.1 cx.2.2.2.2.2.1 (cx.2.2.2.2.2.2.1 _ hc) hd ?_
  exact hk _ _ _ hw E R p e s m args below meth c H locs lsA cx hm hR hS hL hn hb0
theorem so_ldcS {idx a : Nat} {tx : String} (hc : (idx, tx, a) ∈ txS) (ha : 1000 ≤ a) (hm5 : (mY mid).cls = RX5) (hd : decode (mB mid) pc = .ok (.ldc idx, 2)) (hk : ∀ ls st h, k ls st h → At l d mid n0 Qp (pc + 2) ls st h) (hw : w_rc a k ls st h) : At l d mid n0 Qp pc ls st h := by
  intro E R p e s m args below meth c H locs lsA cx hm hR hS hL hn hb0
  refine va_ldcS (own := RX5) cx.1 cx.2.1 (by rw [← hm5]; exact cx.2.2.2.2.2.1) (hR.2.2.2.2.1.2.2.2.2.2.2.1 _ hc) hd ?_
  have := hk _ _ _ hw E R p e s m args below meth c H locs lsA cx hm hR hS hL hn hb0
  simpa only [List.map_cons, pv, pad, if_neg (show ¬ a < 1000 by omega)] using this
theorem so_idiv (hd : decode (mB mid) pc = .ok (.idiv, 1)) (hk : ∀ ls st h, k ls st h → At l d mid n0 Qp (pc + 1) ls st h) (hw : w_idv (fun x y => x / y) k ls st h) : At l d mid n0 Qp pc ls st h := by
  simp only [w_idv] at hw
  split at hw
  · rename_i y x st'
    intro E R p e s m args below meth c H locs lsA cx hm hR hS hL hn hb0
    obtain ⟨⟨h1, h2⟩, hw⟩ := hw
    refine lv_idiv cx.1 cx.2.1 hd (pI_div h1 h2).2 ?_
    rw [(pI_div h1 h2).1]
    exact hk _ _ _ hw E R p e s m args below meth c H locs lsA cx hm hR hS hL hn hb0
  · exact hw.elim
theorem so_irem (hd : decode (mB mid) pc = .ok (.irem, 1)) (hk : ∀ ls st h, k ls st h → At l d mid n0 Qp (pc + 1) ls st h) (hw : w_idv (fun x y => x % y) k ls st h) : At l d mid n0 Qp pc ls st h := by
  simp only [w_idv] at hw
  split at hw
  · rename_i y x st'
    intro E R p e s m args below meth c H locs lsA cx hm hR hS hL hn hb0
    obtain ⟨⟨h1, h2⟩, hw⟩ := hw
    refine lv_irem cx.1 cx.2.1 hd (pI_div h1 h2).2 ?_
    first | rw [pI_mod h1 h2] | (rw [show pI x - pI x / pI y * pI y = pI (x % y) by rw [(pI_div h1 h2).1, ← pI_mul, ← pI_sub]; congr 1; have := Int.emod_add_mul_ediv x y; rw [Int.mul_comm] at this; omega])
    exact hk _ _ _ hw E R p e s m args below meth c H locs lsA cx hm hR hS hL hn hb0
  · exact hw.elim
theorem so_ldiv (hd : decode (mB mid) pc = .ok (.ldiv, 1)) (hk : ∀ ls st h, k ls st h → At l d mid n0 Qp (pc + 1) ls st h) (hw : w_ldv (fun x y => x / y) k ls st h) : At l d mid n0 Qp pc ls st h := by
  simp only [w_ldv] at hw
  split at hw
  · rename_i y x st'
    intro E R p e s m args below meth c H locs lsA cx hm hR hS hL hn hb0
    obtain ⟨⟨h1, h2⟩, hw⟩ := hw
    refine lv_ldiv cx.1 cx.2.1 hd (pL_div h1 h2).2 ?_
    rw [(pL_div h1 h2).1]
    exact hk _ _ _ hw E R p e s m args below meth c H locs lsA cx hm hR hS hL hn hb0
  · exact hw.elim
theorem so_lrem (hd : decode (mB mid) pc = .ok (.lrem, 1)) (hk : ∀ ls st h, k ls st h → At l d mid n0 Qp (pc + 1) ls st h) (hw : w_ldv (fun x y => x % y) k ls st h) : At l d mid n0 Qp pc ls st h := by
  simp only [w_ldv] at hw
  split at hw
  · rename_i y x st'
    intro E R p e s m args below meth c H locs lsA cx hm hR hS hL hn hb0
    obtain ⟨⟨h1, h2⟩, hw⟩ := hw
    refine lv_lrem cx.1 cx.2.1 hd (pL_div h1 h2).2 ?_
    first | rw [pL_mod h1 h2] | (rw [show pL x - pL x / pL y * pL y = pL (x % y) by rw [(pL_div h1 h2).1, ← pL_mul, ← pL_sub]; congr 1; have := Int.emod_add_mul_ediv x y; rw [Int.mul_comm] at this; omega])
    exact hk _ _ _ hw E R p e s m args below meth c H locs lsA cx hm hR hS hL hn hb0
  · exact hw.elim
theorem so_lcmp (hd : decode (mB mid) pc = .ok (.lcmp, 1)) (hk : ∀ ls st h, k ls st h → At l d mid n0 Qp (pc + 1) ls st h) (hw : w_lcmp k ls st h) : At l d mid n0 Qp pc ls st h := by
  simp only [w_lcmp] at hw
  split at hw
  · rename_i y x st'
    intro E R p e s m args below meth c H locs lsA cx hm hR hS hL hn hb0
    obtain ⟨h0, hw⟩ := hw
    refine W.lcmp cx.1 cx.2.1 hd ?_
    rw [pL_cmp2 h0]
    exact hk _ _ _ hw E R p e s m args below meth c H locs lsA cx hm hR hS hL hn hb0
  · exact hw.elim
theorem so_i2l (hd : decode (mB mid) pc = .ok (.i2l, 1)) (hk : ∀ ls st h, k ls st h → At l d mid n0 Qp (pc + 1) ls st h) (hw : w_i2l k ls st h) : At l d mid n0 Qp pc ls st h := by
  simp only [w_i2l] at hw
  split at hw
  · rename_i x st'
    intro E R p e s m args below meth c H locs lsA cx hm hR hS hL hn hb0
    obtain ⟨h1, hw⟩ := hw
    refine lv_i2l (v := pL x) cx.1 cx.2.1 hd (pI_64 h1) ?_
    exact hk _ _ _ hw E R p e s m args below meth c H locs lsA cx hm hR hS hL hn hb0
  · exact hw.elim
theorem so_i2c (hd : decode (mB mid) pc = .ok (.i2c, 1)) (hk : ∀ ls st h, k ls st h → At l d mid n0 Qp (pc + 1) ls st h) (hw : w_i2c k ls st h) : At l d mid n0 Qp pc ls st h := by
  simp only [w_i2c] at hw
  split at hw
  · rename_i x st'
    intro E R p e s m args below meth c H locs lsA cx hm hR hS hL hn hb0
    obtain ⟨h1, hw⟩ := hw
    refine lv_i2c (v := pI x) cx.1 cx.2.1 hd (pI_c h1) ?_
    exact hk _ _ _ hw E R p e s m args below meth c H locs lsA cx hm hR hS hL hn hb0
  · exact hw.elim
theorem so_dup (hd : decode (mB mid) pc = .ok (.dup, 1)) (hk : ∀ ls st h, k ls st h → At l d mid n0 Qp (pc + 1) ls st h) (hw : w_dup k ls st h) : At l d mid n0 Qp pc ls st h := by
  simp only [w_dup] at hw
  split at hw
  · rename_i x st'
    intro E R p e s m args below meth c H locs lsA cx hm hR hS hL hn hb0
    obtain ⟨h1, hw⟩ := hw
    refine lv_dup cx.1 cx.2.1 hd (by rw [pv_cat]; exact h1) ?_
    exact hk _ _ _ hw E R p e s m args below meth c H locs lsA cx hm hR hS hL hn hb0
  · exact hw.elim
theorem so_dup2 (hd : decode (mB mid) pc = .ok (.dup2, 1)) (hk : ∀ ls st h, k ls st h → At l d mid n0 Qp (pc + 1) ls st h) (hw : w_dup2 k ls st h) : At l d mid n0 Qp pc ls st h := by
  simp only [w_dup2] at hw
  split at hw
  · rename_i x y st'
    intro E R p e s m args below meth c H locs lsA cx hm hR hS hL hn hb0
    obtain ⟨⟨h1, h2⟩, hw⟩ := hw
    refine lv_dup2_11 cx.1 cx.2.1 hd (by rw [pv_cat]; exact h1) (by rw [pv_cat]; exact h2) ?_
    exact hk _ _ _ hw E R p e s m args below meth c H locs lsA cx hm hR hS hL hn hb0
  · exact hw.elim
theorem so_pop (hd : decode (mB mid) pc = .ok (.pop, 1)) (hk : ∀ ls st h, k ls st h → At l d mid n0 Qp (pc + 1) ls st h) (hw : w_pop k ls st h) : At l d mid n0 Qp pc ls st h := by
  simp only [w_pop] at hw
  split at hw
  · rename_i x st'
    intro E R p e s m args below meth c H locs lsA cx hm hR hS hL hn hb0
    obtain ⟨h1, hw⟩ := hw
    refine lv_pop cx.1 cx.2.1 hd (by rw [pv_cat]; exact h1) ?_
    exact hk _ _ _ hw E R p e s m args below meth c H locs lsA cx hm hR hS hL hn hb0
  · exact hw.elim
variable {J : PK} {tgt : Nat}
theorem so_if_eq {off : Int} (hd : decode (mB mid) pc = .ok (.ifCond .eq off, 3)) (ht : (pc : Int) + off = (tgt : Int)) (hJ : ∀ ls st h, J ls st h → At l d mid n0 Qp tgt ls st h) (hk : ∀ ls st h, k ls st h → At l d mid n0 Qp (pc + 3) ls st h) (hw : w_if .eq tgt (fun _ => J) k ls st h) : At l d mid n0 Qp pc ls st h := by
  simp only [w_if, cnd] at hw
  split at hw
  · rename_i x st'
    intro E R p e s m args below meth c H locs lsA cx hm hR hS hL hn hb0
    obtain ⟨h1, ha, hb⟩ := hw
    have e0 : (0 : Int32) = pI 0 := rfl
    refine lv_if_eq cx.1 cx.2.1 hd ht (fun hc => ?_) (fun hc => ?_)
    · refine hJ _ _ _ (ha ?_) E R p e s m args below meth c H locs lsA cx hm hR hS hL hn hb0
      rw [e0] at hc
      first | exact (pI_eqI h1 inR0).mp hc | exact (pI_eqI inR0 h1).mp hc | exact fun q => hc ((pI_eqI h1 inR0).mpr q)
    · refine hk _ _ _ (hb ?_) E R p e s m args below meth c H locs lsA cx hm hR hS hL hn hb0
      rw [e0] at hc
      first | exact fun q => hc ((pI_eqI h1 inR0).mpr q) | exact fun q => hc ((pI_eqI inR0 h1).mpr q) | exact fun q => hc (fun z => q ((pI_eqI h1 inR0).mp z)) | exact fun q => q ((pI_eqI h1 inR0).mp hc)
  · exact hw.elim
theorem so_icmp_eq {off : Int} (hd : decode (mB mid) pc = .ok (.if_icmp .eq off, 3)) (ht : (pc : Int) + off = (tgt : Int)) (hJ : ∀ ls st h, J ls st h → At l d mid n0 Qp tgt ls st h) (hk : ∀ ls st h, k ls st h → At l d mid n0 Qp (pc + 3) ls st h) (hw : w_icmp .eq tgt (fun _ => J) k ls st h) : At l d mid n0 Qp pc ls st h := by
  simp only [w_icmp, cnd] at hw
  split at hw
  · rename_i y x st'
    intro E R p e s m args below meth c H locs lsA cx hm hR hS hL hn hb0
    obtain ⟨⟨h1, h2⟩, ha, hb⟩ := hw
    refine lv_icmp_eq cx.1 cx.2.1 hd ht (fun hc => ?_) (fun hc => ?_)
    · refine hJ _ _ _ (ha ?_) E R p e s m args below meth c H locs lsA cx hm hR hS hL hn hb0
      first | exact (pI_eqI h1 h2).mp hc | exact (pI_eqI h2 h1).mp hc | exact fun q => hc ((pI_eqI h1 h2).mpr q)
    · refine hk _ _ _ (hb ?_) E R p e s m args below meth c H locs lsA cx hm hR hS hL hn hb0
      first | exact fun q => hc ((pI_eqI h1 h2).mpr q) | exact fun q => hc ((pI_eqI h2 h1).mpr q) | exact fun q => hc (fun z => q ((pI_eqI h1 h2).mp z)) | exact fun q => q ((pI_eqI h1 h2).mp hc)
  · exact hw.elim
theorem so_if_ne {off : Int} (hd : decode (mB mid) pc = .ok (.ifCond .ne off, 3)) (ht : (pc : Int) + off = (tgt : Int)) (hJ : ∀ ls st h, J ls st h → At l d mid n0 Qp tgt ls st h) (hk : ∀ ls st h, k ls st h → At l d mid n0 Qp (pc + 3) ls st h) (hw : w_if .ne tgt (fun _ => J) k ls st h) : At l d mid n0 Qp pc ls st h := by
  simp only [w_if, cnd] at hw
  split at hw
  · rename_i x st'
    intro E R p e s m args below meth c H locs lsA cx hm hR hS hL hn hb0
    obtain ⟨h1, ha, hb⟩ := hw
    have e0 : (0 : Int32) = pI 0 := rfl
    refine lv_if_ne cx.1 cx.2.1 hd ht (fun hc => ?_) (fun hc => ?_)
    · refine hJ _ _ _ (ha ?_) E R p e s m args below meth c H locs lsA cx hm hR hS hL hn hb0
      rw [e0] at hc
      first | exact (pI_eqI h1 inR0).mp hc | exact (pI_eqI inR0 h1).mp hc | exact fun q => hc ((pI_eqI h1 inR0).mpr q)
    · refine hk _ _ _ (hb ?_) E R p e s m args below meth c H locs lsA cx hm hR hS hL hn hb0
      rw [e0] at hc
      first | exact fun q => hc ((pI_eqI h1 inR0).mpr q) | exact fun q => hc ((pI_eqI inR0 h1).mpr q) | exact fun q => hc (fun z => q ((pI_eqI h1 inR0).mp z)) | exact fun q => q ((pI_eqI h1 inR0).mp hc)
  · exact hw.elim
theorem so_icmp_ne {off : Int} (hd : decode (mB mid) pc = .ok (.if_icmp .ne off, 3)) (ht : (pc : Int) + off = (tgt : Int)) (hJ : ∀ ls st h, J ls st h → At l d mid n0 Qp tgt ls st h) (hk : ∀ ls st h, k ls st h → At l d mid n0 Qp (pc + 3) ls st h) (hw : w_icmp .ne tgt (fun _ => J) k ls st h) : At l d mid n0 Qp pc ls st h := by
  simp only [w_icmp, cnd] at hw
  split at hw
  · rename_i y x st'
    intro E R p e s m args below meth c H locs lsA cx hm hR hS hL hn hb0
    obtain ⟨⟨h1, h2⟩, ha, hb⟩ := hw
    refine lv_icmp_ne cx.1 cx.2.1 hd ht (fun hc => ?_) (fun hc => ?_)
    · refine hJ _ _ _ (ha ?_) E R p e s m args below meth c H locs lsA cx hm hR hS hL hn hb0
      first | exact (pI_eqI h1 h2).mp hc | exact (pI_eqI h2 h1).mp hc | exact fun q => hc ((pI_eqI h1 h2).mpr q)
    · refine hk _ _ _ (hb ?_) E R p e s m args below meth c H locs lsA cx hm hR hS hL hn hb0
      first | exact fun q => hc ((pI_eqI h1 h2).mpr q) | exact fun q => hc ((pI_eqI h2 h1).mpr q) | exact fun q => hc (fun z => q ((pI_eqI h1 h2).mp z)) | exact fun q => q ((pI_eqI h1 h2).mp hc)
  · exact hw.elim
theorem so_if_lt {off : Int} (hd : decode (mB mid) pc = .ok (.ifCond .lt off, 3)) (ht : (pc : Int) + off = (tgt : Int)) (hJ : ∀ ls st h, J ls st h → At l d mid n0 Qp tgt ls st h) (hk : ∀ ls st h, k ls st h → At l d mid n0 Qp (pc + 3) ls st h) (hw : w_if .lt tgt (fun _ => J) k ls st h) : At l d mid n0 Qp pc ls st h := by
  simp only [w_if, cnd] at hw
  split at hw
  · rename_i x st'
    intro E R p e s m args below meth c H locs lsA cx hm hR hS hL hn hb0
    obtain ⟨h1, ha, hb⟩ := hw
    have e0 : (0 : Int32) = pI 0 := rfl
    refine lv_if_lt cx.1 cx.2.1 hd ht (fun hc => ?_) (fun hc => ?_)
    · refine hJ _ _ _ (ha ?_) E R p e s m args below meth c H locs lsA cx hm hR hS hL hn hb0
      rw [e0] at hc
      first | exact (pI_ltI h1 inR0).mp hc | exact (pI_ltI inR0 h1).mp hc | exact fun q => hc ((pI_ltI h1 inR0).mpr q)
    · refine hk _ _ _ (hb ?_) E R p e s m args below meth c H locs lsA cx hm hR hS hL hn hb0
      rw [e0] at hc
      first | exact fun q => hc ((pI_ltI h1 inR0).mpr q) | exact fun q => hc ((pI_ltI inR0 h1).mpr q) | exact fun q => hc (fun z => q ((pI_ltI h1 inR0).mp z)) | exact fun q => q ((pI_ltI h1 inR0).mp hc)
  · exact hw.elim
theorem so_icmp_lt {off : Int} (hd : decode (mB mid) pc = .ok (.if_icmp .lt off, 3)) (ht : (pc : Int) + off = (tgt : Int)) (hJ : ∀ ls st h, J ls st h → At l d mid n0 Qp tgt ls st h) (hk : ∀ ls st h, k ls st h → At l d mid n0 Qp (pc + 3) ls st h) (hw : w_icmp .lt tgt (fun _ => J) k ls st h) : At l d mid n0 Qp pc ls st h := by
  simp only [w_icmp, cnd] at hw
  split at hw
  · rename_i y x st'
    intro E R p e s m args below meth c H locs lsA cx hm hR hS hL hn hb0
    obtain ⟨⟨h1, h2⟩, ha, hb⟩ := hw
    refine lv_icmp_lt cx.1 cx.2.1 hd ht (fun hc => ?_) (fun hc => ?_)
    · refine hJ _ _ _ (ha ?_) E R p e s m args below meth c H locs lsA cx hm hR hS hL hn hb0
      first | exact (pI_ltI h1 h2).mp hc | exact (pI_ltI h2 h1).mp hc | exact fun q => hc ((pI_ltI h1 h2).mpr q)
    · refine hk _ _ _ (hb ?_) E R p e s m args below meth c H locs lsA cx hm hR hS hL hn hb0
      first | exact fun q => hc ((pI_ltI h1 h2).mpr q) | exact fun q => hc ((pI_ltI h2 h1).mpr q) | exact fun q => hc (fun z => q ((pI_ltI h1 h2).mp z)) | exact fun q => q ((pI_ltI h1 h2).mp hc)
  · exact hw.elim
theorem so_if_ge {off : Int} (hd : decode (mB mid) pc = .ok (.ifCond .ge off, 3)) (ht : (pc : Int) + off = (tgt : Int)) (hJ : ∀ ls st h, J ls st h → At l d mid n0 Qp tgt ls st h) (hk : ∀ ls st h, k ls st h → At l d mid n0 Qp (pc + 3) ls st h) (hw : w_if .ge tgt (fun _ => J) k ls st h) : At l d mid n0 Qp pc ls st h := by
  simp only [w_if, cnd] at hw
  split at hw
  · rename_i x st'
    intro E R p e s m args below meth c H locs lsA cx hm hR hS hL hn hb0
    obtain ⟨h1, ha, hb⟩ := hw
    have e0 : (0 : Int32) = pI 0 := rfl
    refine lv_if_ge cx.1 cx.2.1 hd ht (fun hc => ?_) (fun hc => ?_)
    · refine hJ _ _ _ (ha ?_) E R p e s m args below meth c H locs lsA cx hm hR hS hL hn hb0
      rw [e0] at hc
      first | exact (pI_leI h1 inR0).mp hc | exact (pI_leI inR0 h1).mp hc | exact fun q => hc ((pI_leI h1 inR0).mpr q)
    · refine hk _ _ _ (hb ?_) E R p e s m args below meth c H locs lsA cx hm hR hS hL hn hb0
      rw [e0] at hc
      first | exact fun q => hc ((pI_leI h1 inR0).mpr q) | exact fun q => hc ((pI_leI inR0 h1).mpr q) | exact fun q => hc (fun z => q ((pI_leI h1 inR0).mp z)) | exact fun q => q ((pI_leI h1 inR0).mp hc)
  · exact hw.elim
theorem so_icmp_ge {off : Int} (hd : decode (mB mid) pc = .ok (.if_icmp .ge off, 3)) (ht : (pc : Int) + off = (tgt : Int)) (hJ : ∀ ls st h, J ls st h → At l d mid n0 Qp tgt ls st h) (hk : ∀ ls st h, k ls st h → At l d mid n0 Qp (pc + 3) ls st h) (hw : w_icmp .ge tgt (fun _ => J) k ls st h) : At l d mid n0 Qp pc ls st h := by
  simp only [w_icmp, cnd] at hw
  split at hw
  · rename_i y x st'
    intro E R p e s m args below meth c H locs lsA cx hm hR hS hL hn hb0
    obtain ⟨⟨h1, h2⟩, ha, hb⟩ := hw
    refine lv_icmp_ge cx.1 cx.2.1 hd ht (fun hc => ?_) (fun hc => ?_)
    · refine hJ _ _ _ (ha ?_) E R p e s m args below meth c H locs lsA cx hm hR hS hL hn hb0
      first | exact (pI_leI h1 h2).mp hc | exact (pI_leI h2 h1).mp hc | exact fun q => hc ((pI_leI h1 h2).mpr q)
    · refine hk _ _ _ (hb ?_) E R p e s m args below meth c H locs lsA cx hm hR hS hL hn hb0
      first | exact fun q => hc ((pI_leI h1 h2).mpr q) | exact fun q => hc ((pI_leI h2 h1).mpr q) | exact fun q => hc (fun z => q ((pI_leI h1 h2).mp z)) | exact fun q => q ((pI_leI h1 h2).mp hc)
  · exact hw.elim
theorem so_if_gt {off : Int} (hd : decode (mB mid) pc = .ok (.ifCond .gt off, 3)) (ht : (pc : Int) + off = (tgt : Int)) (hJ : ∀ ls st h, J ls st h → At l d mid n0 Qp tgt ls st h) (hk : ∀ ls st h, k ls st h → At l d mid n0 Qp (pc + 3) ls st h) (hw : w_if .gt tgt (fun _ => J) k ls st h) : At l d mid n0 Qp pc ls st h := by
  simp only [w_if, cnd] at hw
  split at hw
  · rename_i x st'
    intro E R p e s m args below meth c H locs lsA cx hm hR hS hL hn hb0
    obtain ⟨h1, ha, hb⟩ := hw
    have e0 : (0 : Int32) = pI 0 := rfl
    refine lv_if_gt cx.1 cx.2.1 hd ht (fun hc => ?_) (fun hc => ?_)
    · refine hJ _ _ _ (ha ?_) E R p e s m args below meth c H locs lsA cx hm hR hS hL hn hb0
      rw [e0] at hc
      first | exact (pI_ltI h1 inR0).mp hc | exact (pI_ltI inR0 h1).mp hc | exact fun q => hc ((pI_ltI h1 inR0).mpr q)
    · refine hk _ _ _ (hb ?_) E R p e s m args below meth c H locs lsA cx hm hR hS hL hn hb0
      rw [e0] at hc
      first | exact fun q => hc ((pI_ltI h1 inR0).mpr q) | exact fun q => hc ((pI_ltI inR0 h1).mpr q) | exact fun q => hc (fun z => q ((pI_ltI h1 inR0).mp z)) | exact fun q => q ((pI_ltI h1 inR0).mp hc)
  · exact hw.elim
theorem so_icmp_gt {off : Int} (hd : decode (mB mid) pc = .ok (.if_icmp .gt off, 3)) (ht : (pc : Int) + off = (tgt : Int)) (hJ : ∀ ls st h, J ls st h → At l d mid n0 Qp tgt ls st h) (hk : ∀ ls st h, k ls st h → At l d mid n0 Qp (pc + 3) ls st h) (hw : w_icmp .gt tgt (fun _ => J) k ls st h) : At l d mid n0 Qp pc ls st h := by
  simp only [w_icmp, cnd] at hw
  split at hw
  · rename_i y x st'
    intro E R p e s m args below meth c H locs lsA cx hm hR hS hL hn hb0
    obtain ⟨⟨h1, h2⟩, ha, hb⟩ := hw
    refine lv_icmp_gt cx.1 cx.2.1 hd ht (fun hc => ?_) (fun hc => ?_)
    · refine hJ _ _ _ (ha ?_) E R p e s m args below meth c H locs lsA cx hm hR hS hL hn hb0
      first | exact (pI_ltI h1 h2).mp hc | exact (pI_ltI h2 h1).mp hc | exact fun q => hc ((pI_ltI h1 h2).mpr q)
    · refine hk _ _ _ (hb ?_) E R p e s m args below meth c H locs lsA cx hm hR hS hL hn hb0
      first | exact fun q => hc ((pI_ltI h1 h2).mpr q) | exact fun q => hc ((pI_ltI h2 h1).mpr q) | exact fun q => hc (fun z => q ((pI_ltI h1 h2).mp z)) | exact fun q => q ((pI_ltI h1 h2).mp hc)
  · exact hw.elim
theorem so_if_le {off : Int} (hd : decode (mB mid) pc = .ok (.ifCond .le off, 3)) (ht : (pc : Int) + off = (tgt : Int)) (hJ : ∀ ls st h, J ls st h → At l d mid n0 Qp tgt ls st h) (hk : ∀ ls st h, k ls st h → At l d mid n0 Qp (pc + 3) ls st h) (hw : w_if .le tgt (fun _ => J) k ls st h) : At l d mid n0 Qp pc ls st h := by
  simp only [w_if, cnd] at hw
  split at hw
  · rename_i x st'
    intro E R p e s m args below meth c H locs lsA cx hm hR hS hL hn hb0
    obtain ⟨h1, ha, hb⟩ := hw
    have e0 : (0 : Int32) = pI 0 := rfl
    refine lv_if_le cx.1 cx.2.1 hd ht (fun hc => ?_) (fun hc => ?_)
    · refine hJ _ _ _ (ha ?_) E R p e s m args below meth c H locs lsA cx hm hR hS hL hn hb0
      rw [e0] at hc
      first | exact (pI_leI h1 inR0).mp hc | exact (pI_leI inR0 h1).mp hc | exact fun q => hc ((pI_leI h1 inR0).mpr q)
    · refine hk _ _ _ (hb ?_) E R p e s m args below meth c H locs lsA cx hm hR hS hL hn hb0
      rw [e0] at hc
      first | exact fun q => hc ((pI_leI h1 inR0).mpr q) | exact fun q => hc ((pI_leI inR0 h1).mpr q) | exact fun q => hc (fun z => q ((pI_leI h1 inR0).mp z)) | exact fun q => q ((pI_leI h1 inR0).mp hc)
  · exact hw.elim
theorem so_icmp_le {off : Int} (hd : decode (mB mid) pc = .ok (.if_icmp .le off, 3)) (ht : (pc : Int) + off = (tgt : Int)) (hJ : ∀ ls st h, J ls st h → At l d mid n0 Qp tgt ls st h) (hk : ∀ ls st h, k ls st h → At l d mid n0 Qp (pc + 3) ls st h) (hw : w_icmp .le tgt (fun _ => J) k ls st h) : At l d mid n0 Qp pc ls st h := by
  simp only [w_icmp, cnd] at hw
  split at hw
  · rename_i y x st'
    intro E R p e s m args below meth c H locs lsA cx hm hR hS hL hn hb0
    obtain ⟨⟨h1, h2⟩, ha, hb⟩ := hw
    refine lv_icmp_le cx.1 cx.2.1 hd ht (fun hc => ?_) (fun hc => ?_)
    · refine hJ _ _ _ (ha ?_) E R p e s m args below meth c H locs lsA cx hm hR hS hL hn hb0
      first | exact (pI_leI h1 h2).mp hc | exact (pI_leI h2 h1).mp hc | exact fun q => hc ((pI_leI h1 h2).mpr q)
    · refine hk _ _ _ (hb ?_) E R p e s m args below meth c H locs lsA cx hm hR hS hL hn hb0
      first | exact fun q => hc ((pI_leI h1 h2).mpr q) | exact fun q => hc ((pI_leI h2 h1).mpr q) | exact fun q => hc (fun z => q ((pI_leI h1 h2).mp z)) | exact fun q => q ((pI_leI h1 h2).mp hc)
  · exact hw.elim
theorem so_goto {off : Int} (hd : decode (mB mid) pc = .ok (.goto off, 3)) (ht : (pc : Int) + off = (tgt : Int)) (hJ : ∀ ls st h, J ls st h → At l d mid n0 Qp tgt ls st h) (hw : J ls st h) : At l d mid n0 Qp pc ls st h := by
  intro E R p e s m args below meth c H locs lsA cx hm hR hS hL hn hb0
  refine lv_goto cx.1 cx.2.1 hd ht ?_
  exact hJ _ _ _ hw E R p e s m args below meth c H locs lsA cx hm hR hS hL hn hb0
end SO
