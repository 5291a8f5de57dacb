/-! THE LINK of the machine's instructions with those of the pure machine, and the soundness of a whole code -/
def oL : List Nat := [0, 0, 0, 0, 0, 1, 1, 1, 1, 2, 2, 2, 2, 2, 2, 2, 2, 2, 2, 2, 2, 3, 3, 3, 3, 3, 3, 3, 3, 3, 3, 4, 4, 4, 4, 4, 5, 5, 5, 5, 5, 5, 5, 5, 5, 5, 5, 5, 6, 6, 6, 6, 6, 6, 6, 6, 6, 6, 6, 6, 6, 6, 6, 6, 6, 6, 6, 6, 6, 6, 6, 6, 6, 6, 6, 6, 7, 7, 7, 7, 7, 7, 7, 7, 7, 7, 7, 7, 7, 7, 7, 7, 7, 7, 7, 7, 7, 7, 7, 7, 0, 1, 2, 4, 5, 6, 7, 8, 9, 7, 7, 7, 7, 7, 7, 7, 7, 7, 7, 7, 7, 7, 7, 7, 7, 8, 8, 8, 8, 8, 8, 8, 8, 8, 8, 8, 8, 8, 8, 8, 8, 8, 8, 8, 8, 8, 8, 8, 8, 8, 8, 8, 8, 8, 8, 8, 8, 8, 8, 8, 8, 8, 8, 8, 8, 8, 8, 8, 8, 8, 8, 8, 8, 8, 8, 8, 8, 8, 8, 8, 8, 8, 8, 8, 8, 8, 8, 8, 8, 8, 8, 8, 8, 8, 8, 8, 8, 8, 8, 8, 8, 8, 8, 8, 8, 8, 8, 8, 8, 8, 8, 10, 11, 11, 11, 11, 11, 11, 11, 11, 11, 11, 11, 11, 11, 2]
def oN (mid : Nat) : Nat := oL.getD mid 11
def lk (mid pc : Nat) (raw : Instr) (len : Nat) : Option Instr := match raw with
  | .iadd => if len = 1 then some .iadd else none
  | .isub => if len = 1 then some .isub else none
  | .imul => if len = 1 then some .imul else none
  | .idiv => if len = 1 then some .idiv else none
  | .irem => if len = 1 then some .irem else none
  | .iand => if len = 1 then some .iand else none
  | .ior => if len = 1 then some .ior else none
  | .ixor => if len = 1 then some .ixor else none
  | .ishl => if len = 1 then some .ishl else none
  | .ishr => if len = 1 then some .ishr else none
  | .iushr => if len = 1 then some .iushr else none
  | .ladd => if len = 1 then some .ladd else none
  | .lsub => if len = 1 then some .lsub else none
  | .lmul => if len = 1 then some .lmul else none
  | .ldiv => if len = 1 then some .ldiv else none
  | .lrem => if len = 1 then some .lrem else none
  | .lcmp => if len = 1 then some .lcmp else none
  | .i2l => if len = 1 then some .i2l else none
  | .i2c => if len = 1 then some .i2c else none
  | .dup => if len = 1 then some .dup else none
  | .dup2 => if len = 1 then some .dup2 else none
  | .pop => if len = 1 then some .pop else none
  | .baload => if len = 1 then some .baload else none
  | .caload => if len = 1 then some .caload else none
  | .iastore => if len = 1 then some .iastore else none
  | .bastore => if len = 1 then some .bastore else none
  | .castore => if len = 1 then some .castore else none
  | .aaload => if len = 1 then some .aaload else none
  | .aastore => if len = 1 then some .aastore else none
  | .iload n => if len = 2 then some (.iload n) else none
  | .iload_n q => if len = 1 then some (.iload (q : Nat)) else none
  | .lload n => if len = 2 then some (.lload n) else none
  | .lload_n q => if len = 1 then some (.lload (q : Nat)) else none
  | .aload n => if len = 2 then some (.aload n) else none
  | .aload_n q => if len = 1 then some (.aload (q : Nat)) else none
  | .istore n => if len = 2 then some (.istore n) else none
  | .istore_n q => if len = 1 then some (.istore (q : Nat)) else none
  | .lstore n => if len = 2 then some (.lstore n) else none
  | .lstore_n q => if len = 1 then some (.lstore (q : Nat)) else none
  | .astore n => if len = 2 then some (.astore n) else none
  | .astore_n q => if len = 1 then some (.astore (q : Nat)) else none
  | .iinc i c => if len = 3 then some (.iinc i c) else none
  | .iconst z => if len = 1 then some (.bipush z) else none
  | .bipush z => if len = 2 ∧ (Int8.ofInt z).toInt32 = pI z then some (.bipush z) else none
  | .sipush z => if len = 3 ∧ (Int16.ofInt z).toInt32 = pI z then some (.bipush z) else none
  | .lconst q => if len = 1 ∧ Int64.ofNat (q : Nat) = pL ((q : Nat) : Int) then some (.sipush ((q : Nat) : Int)) else none
  | .ldc idx => match CE.find? (fun e => e.1 == (oN mid, idx)) with
    | some e => if len = 2 ∧ e.2.1.1 = false then some (.bipush e.2.1.2) else none
    | none => match txS.find? (fun e => e.1 == idx) with
      | some e => if len = 2 ∧ (mY mid).cls = RX5 ∧ 1000 ≤ e.2.2 then some (.ldc e.2.2) else none
      | none => none
  | .ldc_w idx => match CE.find? (fun e => e.1 == (oN mid, idx)) with
    | some e => if len = 3 ∧ e.2.1.1 = false then some (.bipush e.2.1.2) else none
    | none => none
  | .ldc2_w idx => match CE.find? (fun e => e.1 == (oN mid, idx)) with
    | some e => if len = 3 ∧ e.2.1.1 = true then some (.sipush e.2.1.2) else none
    | none => none
  | .ifCond c off => if len = 3 ∧ 0 ≤ (pc : Int) + off then some (.ifCond c ((pc : Int) + off)) else none
  | .if_icmp c off => if len = 3 ∧ 0 ≤ (pc : Int) + off then some (.if_icmp c ((pc : Int) + off)) else none
  | .goto off => if len = 3 ∧ 0 ≤ (pc : Int) + off then some (.goto ((pc : Int) + off)) else none
  | .tableswitch d lo hi offs => if 0 ≤ (pc : Int) + d ∧ offs.toList.all (fun o => decide (0 ≤ (pc : Int) + o)) = true then some (.tableswitch ((pc : Int) + d) lo hi (offs.map (fun o => (pc : Int) + o))) else none
  | .lookupswitch d ps => if (ps.toList.zip (ps.toList.drop 1)).all (fun (a, next) => a.1 < next.1) = true ∧ 0 ≤ (pc : Int) + d ∧ ps.toList.all (fun o => decide (0 ≤ (pc : Int) + o.2)) = true then some (.lookupswitch ((pc : Int) + d) (ps.map (fun q => (q.1, (pc : Int) + q.2)))) else none
  | .getfield idx => match FE.find? (fun e => e.1 == (oN mid, idx)) with
    | some e => if len = 3 ∧ e.2.1.2 < 100 then (if tyC e.2.1.1 e.2.1.2 = .int then some (.getfield (100 * e.2.1.1 + e.2.1.2)) else some (.getstatic (100 * e.2.1.1 + e.2.1.2))) else none
    | none => none
  | .putfield idx => match FE.find? (fun e => e.1 == (oN mid, idx)) with
    | some e => if len = 3 ∧ e.2.1.2 < 100 then (if tyC e.2.1.1 e.2.1.2 = .int then some (.putfield (100 * e.2.1.1 + e.2.1.2)) else if (mY mid).name = "<init>" ∧ (vC e.2.1.1).1 = (mY mid).cls then some (.putstatic (100 * e.2.1.1 + e.2.1.2)) else none) else none
    | none => none
  | .iaload => if len = 1 then (if mid = 108 then some .saload else some .iaload) else none
  | .arraylength => if len = 1 then some .arraylength else none
  | .newarray t => if len = 2 then (match t with
    | .int => some (.anewarray 8)
    | .boolean => some (.anewarray 9)
    | .char => some (.anewarray 10)
    | _ => none) else none
  | .new idx => match NE.find? (fun e => e.1 == (oN mid, idx)) with
    | some e => if len = 3 then some (.new e.2.1) else none
    | none => none
  | .anewarray idx => match AE.find? (fun e => e.1 == (oN mid, idx)) with
    | some e => if len = 3 then some (.anewarray e.2.1) else none
    | none => none
  | .multianewarray idx dims => match UE.find? (fun e => e.1 == (oN mid, idx)) with
    | some _ => if len = 4 ∧ dims = 2 then some (.multianewarray 0 0) else none
    | none => none
  | .invokevirtual idx => match ME.find? (fun e => e.1 == (oN mid, idx)) with
    | some e => if len = 3 ∧ (e.2.1.2 = 1 ∨ e.2.1.2 = 2) then some (.invokeinterface e.2.1.1 e.2.2.1.2) else none
    | none => none
  | .invokestatic idx => match ME.find? (fun e => e.1 == (oN mid, idx)) with
    | some e => if len = 3 ∧ e.2.1.2 = 0 then some (.invokeinterface e.2.1.1 e.2.2.1.2) else none
    | none => match MX.find? (fun e => e.1 == (oN mid, idx)) with
      | some _ => if len = 3 then some .fadd else none
      | none => match MN.find? (fun e => e.1 == (oN mid, idx)) with
        | some _ => if len = 3 then some .fsub else none
        | none => match CP.find? (fun e => e.1 == (oN mid, idx)) with
          | some _ => if len = 3 then some .fmul else none
          | none => none
  | .invokespecial idx => match ME.find? (fun e => e.1 == (oN mid, idx)) with
    | some e => if len = 3 ∧ e.2.1.2 = 3 then some (.invokeinterface e.2.1.1 e.2.2.1.2) else none
    | none => match OE.find? (fun e => e.1 == (oN mid, idx)) with
      | some _ => if len = 3 then some .nop else none
      | none => none
  | .ireturn => if len = 1 then (match mRt mid with
    | some .int => some .ireturn
    | some .boolean => some .freturn
    | some .char => some .dreturn
    | _ => none) else none
  | .lreturn => if len = 1 ∧ mRt mid = some .long then some .lreturn else none
  | .return_ => if len = 1 ∧ mRt mid = none then some .return_ else none
  | _ => none
theorem find_eq {α : Type} {l : List ((Nat × Nat) × α)} {a : Nat × Nat} {e : (Nat × Nat) × α} (h : l.find? (fun e => e.1 == a) = some e) : e ∈ l ∧ e.1 = a := by
  refine ⟨List.mem_of_find?_eq_some h, ?_⟩
  have := List.find?_some h
  exact eq_of_beq this
theorem fw_of {mid idx : Nat} {e : (Nat × Nat) × (Nat × Nat) × (Bool × Nat)} (hm : rN (oN mid) = (mY mid).cls) (h : FE.find? (fun e => e.1 == (oN mid, idx)) = some e) : FW mid idx e.2.1.1 e.2.1.2 := by
  obtain ⟨h1, h2⟩ := find_eq h
  have h3 := List.all_eq_true.mp FE_ok e h1
  unfold fOk at h3
  simp only [Bool.and_eq_true, decide_eq_true_eq] at h3
  obtain ⟨⟨h3, h4⟩, h5⟩ := h3
  have e1 : e.1.1 = oN mid := by rw [h2]
  have e2 : e.1.2 = idx := by rw [h2]
  refine ⟨h4, h5, ?_⟩
  unfold fW at h3
  rw [e1, e2, hm] at h3
  by_cases hn : e.2.2.1 = true
  · rw [if_pos hn, if_pos hn] at h3
    exact Or.inr (inN_ok h3)
  · rw [if_neg hn, if_neg hn] at h3
    exact Or.inl (inW_ok h3)
theorem mf_of {mid idx : Nat} {e : MEy} (hm : rN (oN mid) = (mY mid).cls) (h : ME.find? (fun e => e.1 == (oN mid, idx)) = some e) : MFc mid idx e.2.1.1 e.2.1.2 e.2.2.1.2 e.2.2.1.1 ∧ (e.2.2.1.1 = true → e.2.1.2 ≤ 1 ∨ e.2.1.2 = 3) := by
  obtain ⟨h1, h2⟩ := find_eq h
  have h3 := List.all_eq_true.mp ME_ok e h1
  unfold mOk mOk2 at h3
  simp only [Bool.and_eq_true, decide_eq_true_eq] at h3
  obtain ⟨⟨⟨⟨⟨⟨p1, p2⟩, p3⟩, p4⟩, p5⟩, p6⟩, ⟨⟨⟨⟨⟨⟨⟨q1, q2⟩, q3⟩, q4⟩, q5⟩, q6⟩, q7⟩, q8⟩, q9⟩ := h3
  have e1 : e.1.1 = oN mid := by rw [h2]
  have e2 : e.1.2 = idx := by rw [h2]
  refine ⟨⟨?_, inW_ok p2, ?_, ?_, inW_ok p5, of_decide_eq_true p6, q1, q2, q3, q4, q5, q6, q7⟩, q8⟩
  · unfold mLink at p1
    rw [e1, e2, hm] at p1
    by_cases hn : e.2.2.1.1 = true
    · rw [if_pos hn] at p1 ⊢
      rw [if_pos hn] at p1
      exact inN_ok p1
    · rw [if_neg hn] at p1 ⊢
      rw [if_neg hn] at p1
      exact inW_ok p1
  · have := inW_ok p3
    by_cases hk : e.2.1.2 = 0
    · rw [if_pos hk] at this ⊢
      exact this
    · rw [if_neg hk] at this ⊢
      exact this
  · intro hk
    rw [if_pos hk] at p4
    exact inW_ok p4
theorem c_of {mid idx : Nat} {e : (Nat × Nat) × (Bool × Int) × Nat} (hm : rN (oN mid) = (mY mid).cls) (h : CE.find? (fun e => e.1 == (oN mid, idx)) = some e) : (e.2.1.1 = false → Cond.constant (mY mid).cls idx (pI e.2.1.2) ∈ WUg) ∧ (e.2.1.1 = true → Cond.constantLong (mY mid).cls idx (pL e.2.1.2) ∈ WUg) := by
  obtain ⟨h1, h2⟩ := find_eq h
  have h3 := inW_ok (List.all_eq_true.mp CE_ok e h1)
  have e1 : e.1.1 = oN mid := by rw [h2]
  have e2 : e.1.2 = idx := by rw [h2]
  rw [e1, e2, hm] at h3
  refine ⟨fun hf => ?_, fun hf => ?_⟩ <;> rw [hf] at h3 <;> exact h3
theorem pl_of {mid idx : Nat} {D : List ((Nat × Nat) × Nat)} {y : MethodName} (hD : D.all (fun e => inW e.2 (.methodLink (rN e.1.1) e.1.2 y)) = true) {e : (Nat × Nat) × Nat} (hm : rN (oN mid) = (mY mid).cls) (h : D.find? (fun e => e.1 == (oN mid, idx)) = some e) : Cond.methodLink (mY mid).cls idx y ∈ WUg := by
  obtain ⟨h1, h2⟩ := find_eq h
  have h3 := inW_ok (List.all_eq_true.mp hD e h1)
  have e1 : e.1.1 = oN mid := by rw [h2]
  have e2 : e.1.2 = idx := by rw [h2]
  rw [e1, e2, hm] at h3
  exact h3
theorem n_of {mid idx : Nat} {e : (Nat × Nat) × Nat × (Nat × Nat × Nat)} (hm : rN (oN mid) = (mY mid).cls) (h : NE.find? (fun e => e.1 == (oN mid, idx)) = some e) : e.2.1 < 8 ∧ Cond.classLink (mY mid).cls idx (vC e.2.1).1 ∈ WUg ∧ Cond.instantiable (vC e.2.1).1 (vC e.2.1).2.2 ∈ WUg ∧ Cond.initialized (vC e.2.1).1 ∈ WUg := by
  obtain ⟨h1, h2⟩ := find_eq h
  have h3 := List.all_eq_true.mp NE_ok e h1
  unfold nOk at h3
  simp only [Bool.and_eq_true, decide_eq_true_eq] at h3
  obtain ⟨⟨⟨p1, p2⟩, p3⟩, p4⟩ := h3
  have e1 : e.1.1 = oN mid := by rw [h2]
  have e2 : e.1.2 = idx := by rw [h2]
  rw [e1, e2, hm] at p1
  exact ⟨p4, inW_ok p1, inW_ok p2, inW_ok p3⟩
theorem a_of {mid idx : Nat} {e : (Nat × Nat) × Nat × (Nat × Nat)} (hm : rN (oN mid) = (mY mid).cls) (h : AE.find? (fun e => e.1 == (oN mid, idx)) = some e) : (e.2.1 = 11 ∨ e.2.1 = 12) ∧ Cond.classLink (mY mid).cls idx (aCl e.2.1) ∈ WUg := by
  obtain ⟨h1, h2⟩ := find_eq h
  have h3 := List.all_eq_true.mp AE_ok e h1
  unfold aOk at h3
  simp only [Bool.and_eq_true, decide_eq_true_eq] at h3
  obtain ⟨⟨p1, p2⟩, p3⟩ := h3
  have e1 : e.1.1 = oN mid := by rw [h2]
  have e2 : e.1.2 = idx := by rw [h2]
  rw [e1, e2, hm] at p1
  exact ⟨p3, inW_ok p1⟩
theorem u_of {mid idx : Nat} {e : (Nat × Nat) × Nat} (hm : rN (oN mid) = (mY mid).cls) (h : UE.find? (fun e => e.1 == (oN mid, idx)) = some e) : Cond.classLink (mY mid).cls idx "[[I" ∈ WUg := by
  obtain ⟨h1, h2⟩ := find_eq h
  have h3 := inW_ok (List.all_eq_true.mp UE_ok e h1)
  have e1 : e.1.1 = oN mid := by rw [h2]
  have e2 : e.1.2 = idx := by rw [h2]
  rw [e1, e2, hm] at h3
  exact h3
theorem off_nn {pc : Int} {d x : Int} : ∀ {l : List (Int × Int)}, 0 ≤ pc + d → (∀ o ∈ l, 0 ≤ pc + o.2) → 0 ≤ pc + Op.lookupswitch.offset l d x
  | [], h, _ => h
  | (a, t) :: r, h, hl => by
    have ih := off_nn (x := x) (l := r) h (fun o ho => hl o (List.mem_cons_of_mem _ ho))
    have h0 := hl (a, t) List.mem_cons_self
    by_cases hx : a = x
    · simp [Op.lookupswitch.offset, hx]; exact h0
    · have hx' : ¬ x = a := fun z => hx z.symm
      simp [Op.lookupswitch.offset, hx, hx']; exact ih
set_option maxHeartbeats 4000000 in
theorem sound1 {l : Launch} {d mid n0 pc len : Nat} {Qp : PQ} {k : PK} {ls : List (Option PV)} {st : List PV} {h : PMem} {raw i : Instr} (hm : rN (oN mid) = (mY mid).cls) (hN : n0 + aC mid ≤ NC) (hd1 : 1 ≤ d) (hl : lk mid pc raw len = some i) (hd : decode (mB mid) pc = .ok (raw, len)) (hk : ∀ ls st h, k ls st h → At l d mid n0 Qp (pc + len) ls st h) (hw : wi (n0 + aC mid) (fun t => At l d mid n0 Qp t) (CallP (d - 1)) Qp i k ls st h) : At l d mid n0 Qp pc ls st h := by
  have hJ : ∀ (t : Nat) (ls : List (Option PV)) (st : List PV) (h : PMem), At l d mid n0 Qp t ls st h → At l d mid n0 Qp t ls st h := fun _ _ _ _ h => h
  cases raw
  case iadd =>
    simp only [lk] at hl
    split at hl
    · rename_i hlen
      subst hlen
      cases hl
      exact so_iadd hd hk hw
    · cases hl
  case isub =>
    simp only [lk] at hl
    split at hl
    · rename_i hlen
      subst hlen
      cases hl
      exact so_isub hd hk hw
    · cases hl
  case imul =>
    simp only [lk] at hl
    split at hl
    · rename_i hlen
      subst hlen
      cases hl
      exact so_imul hd hk hw
    · cases hl
  case idiv =>
    simp only [lk] at hl
    split at hl
    · rename_i hlen
      subst hlen
      cases hl
      exact so_idiv hd hk hw
    · cases hl
  case irem =>
    simp only [lk] at hl
    split at hl
    · rename_i hlen
      subst hlen
      cases hl
      exact so_irem hd hk hw
    · cases hl
  case iand =>
    simp only [lk] at hl
    split at hl
    · rename_i hlen
      subst hlen
      cases hl
      exact so_iand hd hk hw
    · cases hl
  case ior =>
    simp only [lk] at hl
    split at hl
    · rename_i hlen
      subst hlen
      cases hl
      exact so_ior hd hk hw
    · cases hl
  case ixor =>
    simp only [lk] at hl
    split at hl
    · rename_i hlen
      subst hlen
      cases hl
      exact so_ixor hd hk hw
    · cases hl
  case ishl =>
    simp only [lk] at hl
    split at hl
    · rename_i hlen
      subst hlen
      cases hl
      exact so_ishl hd hk hw
    · cases hl
  case ishr =>
    simp only [lk] at hl
    split at hl
    · rename_i hlen
      subst hlen
      cases hl
      exact so_ishr hd hk hw
    · cases hl
  case iushr =>
    simp only [lk] at hl
    split at hl
    · rename_i hlen
      subst hlen
      cases hl
      exact so_iushr hd hk hw
    · cases hl
  case ladd =>
    simp only [lk] at hl
    split at hl
    · rename_i hlen
      subst hlen
      cases hl
      exact so_ladd hd hk hw
    · cases hl
  case lsub =>
    simp only [lk] at hl
    split at hl
    · rename_i hlen
      subst hlen
      cases hl
      exact so_lsub hd hk hw
    · cases hl
  case lmul =>
    simp only [lk] at hl
    split at hl
    · rename_i hlen
      subst hlen
      cases hl
      exact so_lmul hd hk hw
    · cases hl
  case ldiv =>
    simp only [lk] at hl
    split at hl
    · rename_i hlen
      subst hlen
      cases hl
      exact so_ldiv hd hk hw
    · cases hl
  case lrem =>
    simp only [lk] at hl
    split at hl
    · rename_i hlen
      subst hlen
      cases hl
      exact so_lrem hd hk hw
    · cases hl
  case lcmp =>
    simp only [lk] at hl
    split at hl
    · rename_i hlen
      subst hlen
      cases hl
      exact so_lcmp hd hk hw
    · cases hl
  case i2l =>
    simp only [lk] at hl
    split at hl
    · rename_i hlen
      subst hlen
      cases hl
      exact so_i2l hd hk hw
    · cases hl
  case i2c =>
    simp only [lk] at hl
    split at hl
    · rename_i hlen
      subst hlen
      cases hl
      exact so_i2c hd hk hw
    · cases hl
  case dup =>
    simp only [lk] at hl
    split at hl
    · rename_i hlen
      subst hlen
      cases hl
      exact so_dup hd hk hw
    · cases hl
  case dup2 =>
    simp only [lk] at hl
    split at hl
    · rename_i hlen
      subst hlen
      cases hl
      exact so_dup2 hd hk hw
    · cases hl
  case pop =>
    simp only [lk] at hl
    split at hl
    · rename_i hlen
      subst hlen
      cases hl
      exact so_pop hd hk hw
    · cases hl
  case baload =>
    simp only [lk] at hl
    split at hl
    · rename_i hlen
      subst hlen
      cases hl
      exact so_bald hd hk hw
    · cases hl
  case caload =>
    simp only [lk] at hl
    split at hl
    · rename_i hlen
      subst hlen
      cases hl
      exact so_cald hd hk hw
    · cases hl
  case iastore =>
    simp only [lk] at hl
    split at hl
    · rename_i hlen
      subst hlen
      cases hl
      exact so_iast hd hk hw
    · cases hl
  case bastore =>
    simp only [lk] at hl
    split at hl
    · rename_i hlen
      subst hlen
      cases hl
      exact so_bast hd hk hw
    · cases hl
  case castore =>
    simp only [lk] at hl
    split at hl
    · rename_i hlen
      subst hlen
      cases hl
      exact so_cast hd hk hw
    · cases hl
  case aaload =>
    simp only [lk] at hl
    split at hl
    · rename_i hlen
      subst hlen
      cases hl
      exact so_aald hd hk hw
    · cases hl
  case aastore =>
    simp only [lk] at hl
    split at hl
    · rename_i hlen
      subst hlen
      cases hl
      exact so_aast hd hk hw
    · cases hl
  case iload n =>
    simp only [lk] at hl
    split at hl
    · rename_i hlen
      subst hlen
      cases hl
      exact so_iload hd hk hw
    · cases hl
  case iload_n q =>
    simp only [lk] at hl
    split at hl
    · rename_i hlen
      subst hlen
      cases hl
      exact so_iload_n rfl hd hk hw
    · cases hl
  case lload n =>
    simp only [lk] at hl
    split at hl
    · rename_i hlen
      subst hlen
      cases hl
      exact so_lload hd hk hw
    · cases hl
  case lload_n q =>
    simp only [lk] at hl
    split at hl
    · rename_i hlen
      subst hlen
      cases hl
      exact so_lload_n rfl hd hk hw
    · cases hl
  case aload n =>
    simp only [lk] at hl
    split at hl
    · rename_i hlen
      subst hlen
      cases hl
      exact so_aload hd hk hw
    · cases hl
  case aload_n q =>
    simp only [lk] at hl
    split at hl
    · rename_i hlen
      subst hlen
      cases hl
      exact so_aload_n rfl hd hk hw
    · cases hl
  case istore n =>
    simp only [lk] at hl
    split at hl
    · rename_i hlen
      subst hlen
      cases hl
      exact so_istore hd hk hw
    · cases hl
  case istore_n q =>
    simp only [lk] at hl
    split at hl
    · rename_i hlen
      subst hlen
      cases hl
      exact so_istore_n rfl hd hk hw
    · cases hl
  case lstore n =>
    simp only [lk] at hl
    split at hl
    · rename_i hlen
      subst hlen
      cases hl
      exact so_lstore hd hk hw
    · cases hl
  case lstore_n q =>
    simp only [lk] at hl
    split at hl
    · rename_i hlen
      subst hlen
      cases hl
      exact so_lstore_n rfl hd hk hw
    · cases hl
  case astore n =>
    simp only [lk] at hl
    split at hl
    · rename_i hlen
      subst hlen
      cases hl
      exact so_astore hd hk hw
    · cases hl
  case astore_n q =>
    simp only [lk] at hl
    split at hl
    · rename_i hlen
      subst hlen
      cases hl
      exact so_astore_n rfl hd hk hw
    · cases hl
  case iinc i c =>
    simp only [lk] at hl
    split at hl
    · rename_i hlen
      subst hlen
      cases hl
      exact so_iinc hd hk hw
    · cases hl
  case iconst z =>
    simp only [lk] at hl
    split at hl
    · rename_i hlen
      subst hlen
      cases hl
      exact so_iconst hd hk hw
    · cases hl
  case bipush z =>
    simp only [lk] at hl
    split at hl
    · rename_i hlen
      obtain ⟨rfl, hz⟩ := hlen
      cases hl
      exact so_bipush hz hd hk hw
    · cases hl
  case sipush z =>
    simp only [lk] at hl
    split at hl
    · rename_i hlen
      obtain ⟨rfl, hz⟩ := hlen
      cases hl
      exact so_sipush hz hd hk hw
    · cases hl
  case lconst q =>
    simp only [lk] at hl
    split at hl
    · rename_i hlen
      obtain ⟨rfl, hz⟩ := hlen
      cases hl
      exact so_lconst hz hd hk hw
    · cases hl
  case ldc idx =>
    simp only [lk] at hl
    split at hl
    · rename_i e he
      split at hl
      · rename_i hlen
        obtain ⟨rfl, hz⟩ := hlen
        cases hl
        exact so_ldc ((c_of hm he).1 hz) hd hk hw
      · cases hl
    · split at hl
      · rename_i e he
        split at hl
        · rename_i hlen
          obtain ⟨rfl, hz, h1000⟩ := hlen
          cases hl
          have h1 := List.mem_of_find?_eq_some he
          have h2 : e.1 = idx := by
            have := List.find?_some he
            simpa using this
          exact so_ldcS (tx := e.2.1) (by rw [← h2]; exact h1) h1000 hz hd hk hw
        · cases hl
      · cases hl
  case ldc_w idx =>
    simp only [lk] at hl
    split at hl
    · rename_i e he
      split at hl
      · rename_i hlen
        obtain ⟨rfl, hz⟩ := hlen
        cases hl
        exact so_ldcw ((c_of hm he).1 hz) hd hk hw
      · cases hl
    · cases hl
  case ldc2_w idx =>
    simp only [lk] at hl
    split at hl
    · rename_i e he
      split at hl
      · rename_i hlen
        obtain ⟨rfl, hz⟩ := hlen
        cases hl
        exact so_ldc2 ((c_of hm he).2 hz) hd hk hw
      · cases hl
    · cases hl
  case ifCond c off =>
    simp only [lk] at hl
    split at hl
    · rename_i hlen
      obtain ⟨rfl, hz⟩ := hlen
      cases hl
      cases c
      · exact so_if_eq (J := At l d mid n0 Qp ((pc : Int) + off).toNat) hd (Int.toNat_of_nonneg hz).symm (hJ _) hk hw
      · exact so_if_ne (J := At l d mid n0 Qp ((pc : Int) + off).toNat) hd (Int.toNat_of_nonneg hz).symm (hJ _) hk hw
      · exact so_if_lt (J := At l d mid n0 Qp ((pc : Int) + off).toNat) hd (Int.toNat_of_nonneg hz).symm (hJ _) hk hw
      · exact so_if_ge (J := At l d mid n0 Qp ((pc : Int) + off).toNat) hd (Int.toNat_of_nonneg hz).symm (hJ _) hk hw
      · exact so_if_gt (J := At l d mid n0 Qp ((pc : Int) + off).toNat) hd (Int.toNat_of_nonneg hz).symm (hJ _) hk hw
      · exact so_if_le (J := At l d mid n0 Qp ((pc : Int) + off).toNat) hd (Int.toNat_of_nonneg hz).symm (hJ _) hk hw
    · cases hl
  case if_icmp c off =>
    simp only [lk] at hl
    split at hl
    · rename_i hlen
      obtain ⟨rfl, hz⟩ := hlen
      cases hl
      cases c
      · exact so_icmp_eq (J := At l d mid n0 Qp ((pc : Int) + off).toNat) hd (Int.toNat_of_nonneg hz).symm (hJ _) hk hw
      · exact so_icmp_ne (J := At l d mid n0 Qp ((pc : Int) + off).toNat) hd (Int.toNat_of_nonneg hz).symm (hJ _) hk hw
      · exact so_icmp_lt (J := At l d mid n0 Qp ((pc : Int) + off).toNat) hd (Int.toNat_of_nonneg hz).symm (hJ _) hk hw
      · exact so_icmp_ge (J := At l d mid n0 Qp ((pc : Int) + off).toNat) hd (Int.toNat_of_nonneg hz).symm (hJ _) hk hw
      · exact so_icmp_gt (J := At l d mid n0 Qp ((pc : Int) + off).toNat) hd (Int.toNat_of_nonneg hz).symm (hJ _) hk hw
      · exact so_icmp_le (J := At l d mid n0 Qp ((pc : Int) + off).toNat) hd (Int.toNat_of_nonneg hz).symm (hJ _) hk hw
    · cases hl
  case goto off =>
    simp only [lk] at hl
    split at hl
    · rename_i hlen
      obtain ⟨rfl, hz⟩ := hlen
      cases hl
      exact so_goto hd (Int.toNat_of_nonneg hz).symm (hJ _) hw
    · cases hl
  case tableswitch d0 lo hi offs =>
    simp only [lk] at hl
    split at hl
    · rename_i hlen
      obtain ⟨hz, hz2⟩ := hlen
      cases hl
      exact so_tsw hd hz (fun o ho => of_decide_eq_true (List.all_eq_true.mp hz2 o ho)) hJ hw
    · cases hl
  case lookupswitch d0 ps =>
    simp only [lk] at hl
    split at hl
    · rename_i hlen
      obtain ⟨hz0, hz, hz2⟩ := hlen
      cases hl
      exact so_lsw hd hz0 (fun x => off_nn hz (fun o ho => of_decide_eq_true (List.all_eq_true.mp hz2 o ho))) hJ hw
    · cases hl
  case getfield idx =>
    simp only [lk] at hl
    split at hl
    · rename_i e he
      split at hl
      · rename_i hlen
        obtain ⟨rfl, hz⟩ := hlen
        split at hl
        · rename_i hty
          cases hl
          exact so_getI (fw_of hm he) hty hz hd hk hw
        · rename_i hty
          cases hl
          exact so_getR (fw_of hm he) hty hz hd hk hw
      · cases hl
    · cases hl
  case putfield idx =>
    simp only [lk] at hl
    split at hl
    · rename_i e he
      split at hl
      · rename_i hlen
        obtain ⟨rfl, hz⟩ := hlen
        split at hl
        · rename_i hty
          cases hl
          exact so_putI (fw_of hm he) hty hz hd hk hw
        · rename_i hty
          split at hl
          · rename_i hin
            cases hl
            exact so_putR (fw_of hm he) hty hz hin.1 hin.2 hd hk hw
          · cases hl
      · cases hl
    · cases hl
  case iaload =>
    simp only [lk] at hl
    split at hl
    · rename_i hlen
      subst hlen
      split at hl
      · cases hl
        exact so_sld hd hk hw
      · cases hl
        exact so_iald hd hk hw
    · cases hl
  case arraylength =>
    simp only [lk] at hl
    split at hl
    · rename_i hlen
      subst hlen
      cases hl
      exact so_slen hd hk hw
    · cases hl
  case newarray t =>
    simp only [lk] at hl
    split at hl
    · rename_i hlen
      subst hlen
      split at hl
      · cases hl
        exact so_newI (kd := 8) (ty := .int) rfl (by omega) (by omega) (fun _ => rfl) (fun _ _ => rfl) rfl (by decide) i_arrI hN hd hk hw
      · cases hl
        exact so_newI (kd := 9) (ty := .boolean) rfl (by omega) (by omega) (fun _ => rfl) (fun _ _ => rfl) rfl (by decide) i_arrZ hN hd hk hw
      · cases hl
        exact so_newI (kd := 10) (ty := .char) rfl (by omega) (by omega) (fun _ => rfl) (fun _ _ => rfl) rfl (by decide) i_arrC hN hd hk hw
      · cases hl
    · cases hl
  case new idx =>
    simp only [lk] at hl
    split at hl
    · rename_i e he
      split at hl
      · rename_i hlen
        subst hlen
        cases hl
        obtain ⟨q1, q2, q3, q4⟩ := n_of hm he
        exact so_new q1 q2 q3 q4 hN hd hk hw
      · cases hl
    · cases hl
  case anewarray idx =>
    simp only [lk] at hl
    split at hl
    · rename_i e he
      split at hl
      · rename_i hlen
        subst hlen
        cases hl
        obtain ⟨q1, q2⟩ := a_of hm he
        exact so_newR q1 q2 hN hd hk hw
      · cases hl
    · cases hl
  case multianewarray idx dims =>
    simp only [lk] at hl
    split at hl
    · rename_i e he
      split at hl
      · rename_i hlen
        obtain ⟨rfl, rfl⟩ := hlen
        cases hl
        exact so_mna (u_of hm he) hN hd hk hw
      · cases hl
    · cases hl
  case invokevirtual idx =>
    simp only [lk] at hl
    split at hl
    · rename_i e he
      split at hl
      · rename_i hlen
        obtain ⟨rfl, hz⟩ := hlen
        cases hl
        obtain ⟨q1, q2⟩ := mf_of hm he
        exact so_call q1 (Or.inr (Or.inl ⟨hz, rfl⟩)) q2 hd1 hd hk hw
      · cases hl
    · cases hl
  case invokestatic idx =>
    simp only [lk] at hl
    split at hl
    · rename_i e he
      split at hl
      · rename_i hlen
        obtain ⟨rfl, hz⟩ := hlen
        cases hl
        obtain ⟨q1, q2⟩ := mf_of hm he
        exact so_call q1 (Or.inl ⟨hz, rfl⟩) q2 hd1 hd hk hw
      · cases hl
    · split at hl
      · rename_i e he
        split at hl
        · rename_i hlen
          subst hlen
          cases hl
          exact so_max (pl_of MX_ok hm he) hd1 hd hk hw
        · cases hl
      · split at hl
        · rename_i e he
          split at hl
          · rename_i hlen
            subst hlen
            cases hl
            exact so_min (pl_of MN_ok hm he) hd1 hd hk hw
          · cases hl
        · split at hl
          · rename_i e he
            split at hl
            · rename_i hlen
              subst hlen
              cases hl
              exact so_cpy (pl_of CP_ok hm he) hd1 hd hk hw
            · cases hl
          · cases hl
  case invokespecial idx =>
    simp only [lk] at hl
    split at hl
    · rename_i e he
      split at hl
      · rename_i hlen
        obtain ⟨rfl, hz⟩ := hlen
        cases hl
        obtain ⟨q1, q2⟩ := mf_of hm he
        exact so_call q1 (Or.inr (Or.inr ⟨hz, rfl⟩)) q2 hd1 hd hk hw
      · cases hl
    · split at hl
      · rename_i e he
        split at hl
        · rename_i hlen
          subst hlen
          cases hl
          exact so_obj (pl_of OE_ok hm he) hd1 hd hk hw
        · cases hl
      · cases hl
  case ireturn =>
    simp only [lk] at hl
    split at hl
    · rename_i hlen
      subst hlen
      split at hl
      · rename_i hrt
        cases hl
        exact so_ret hrt (Or.inl ⟨rfl, rfl⟩) hd hw
      · rename_i hrt
        cases hl
        exact so_ret hrt (Or.inr (Or.inl ⟨rfl, rfl⟩)) hd hw
      · rename_i hrt
        cases hl
        exact so_ret hrt (Or.inr (Or.inr ⟨rfl, rfl⟩)) hd hw
      · cases hl
    · cases hl
  case lreturn =>
    simp only [lk] at hl
    split at hl
    · rename_i hlen
      obtain ⟨rfl, hz⟩ := hlen
      cases hl
      exact so_lret hz hd hw
    · cases hl
  case return_ =>
    simp only [lk] at hl
    split at hl
    · rename_i hlen
      obtain ⟨rfl, hz⟩ := hlen
      cases hl
      exact so_vret hz hd hw
    · cases hl
  all_goals (simp only [lk] at hl; cases hl)
/-- a code from pc on, linked -/
def okc (mid : Nat) : Nat → List Instr → Bool
  | _, [] => true
  | pc, i :: r => match decode (mB mid) pc with
    | .ok (raw, len) => decide (lk mid pc raw len = some i) && okc mid (pc + len) r
    | _ => false
theorem sound {l : Launch} {d mid n0 : Nat} {Qp : PQ} (hm : rN (oN mid) = (mY mid).cls) (hN : n0 + aC mid ≤ NC) (hd1 : 1 ≤ d) : ∀ (code : List Instr) (pc : Nat), okc mid pc code = true → ∀ (ls : List (Option PV)) (st : List PV) (h : PMem), wp (n0 + aC mid) (fun t => At l d mid n0 Qp t) (CallP (d - 1)) Qp code ls st h → At l d mid n0 Qp pc ls st h
  | [], _, _, _, _, _, hw => hw.elim
  | i :: r, pc, hc, ls, st, h, hw => by
    unfold okc at hc
    split at hc
    · rename_i raw len hdec
      simp only [Bool.and_eq_true, decide_eq_true_eq] at hc
      exact sound1 hm hN hd1 hc.1 hdec (fun ls st h hw => sound hm hN hd1 r (pc + len) hc.2 ls st h hw) hw
    · cases hc
