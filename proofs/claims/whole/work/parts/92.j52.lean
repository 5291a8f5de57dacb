/-! THE JDK's length and charAt, of the text constants: pieces -/
abbrev SCl : String := "java/lang/String"
theorem w_1241 : inW 1244 (.fieldLink SCl 9 SCl "value" "[B") = true := by decide +kernel
theorem w_1242 : inW 1245 (.fieldLink SCl 15 SCl "coder" "B") = true := by decide +kernel
theorem w_421 : inW 421 (.fieldLink SCl 38 SCl "COMPACT_STRINGS" "Z") = true := by decide +kernel
theorem w_437 : inW 437 (.fieldLink SCl 1053 "jdk/internal/util/Preconditions" "SIOOBE_FORMATTER" "Ljava/util/function/BiFunction;") = true := by decide +kernel
theorem cl_214 : (mY 214).cls = SCl ∧ mML 214 = 1 ∧ aC 214 = 0 ∧ plainName (mY 214).cls = true ∧ mRt 214 = some .int := by decide +kernel
theorem cl_215 : (mY 215).cls = SCl ∧ mML 215 = 2 ∧ aC 215 = 0 ∧ plainName (mY 215).cls = true ∧ mRt 215 = some .char := by decide +kernel
theorem cl_216 : (mY 216).cls = SCl ∧ mML 216 = 1 ∧ aC 216 = 0 ∧ plainName (mY 216).cls = true ∧ mRt 216 = some .byte := by decide +kernel
theorem cl_217 : (mY 217).cls = SCl ∧ mML 217 = 1 ∧ aC 217 = 0 ∧ plainName (mY 217).cls = true ∧ mRt 217 = some .boolean := by decide +kernel
theorem cl_218 : (mY 218).cls = SCl ∧ mML 218 = 2 ∧ aC 218 = 0 ∧ plainName (mY 218).cls = true ∧ mRt 218 = none := by decide +kernel
theorem cl_219 : (mY 219).cls = "java/lang/StringLatin1" ∧ mML 219 = 2 ∧ aC 219 = 0 ∧ plainName (mY 219).cls = true ∧ mRt 219 = some .char := by decide +kernel
theorem cl_224 : (mY 224).cls = "jdk/internal/util/Preconditions" ∧ mML 224 = 3 ∧ aC 224 = 0 ∧ plainName (mY 224).cls = true ∧ mRt 224 = some .int := by decide +kernel
theorem g_214 : plainName (mY 214).cls = true ∧ True ∧ mML 214 = 1 ∧ aC 214 = 0 := ⟨cl_214.2.2.2.1, trivial, cl_214.2.1, cl_214.2.2.1⟩
theorem g_215 : plainName (mY 215).cls = true ∧ True ∧ mML 215 = 2 ∧ aC 215 = 0 := ⟨cl_215.2.2.2.1, trivial, cl_215.2.1, cl_215.2.2.1⟩
theorem wf_1 : inW 417 (.methodLink (mY 214).cls 335 (mY 216)) = true ∧ inW 420 (mCode 216) = true ∧ inW 418 (.instanceMethod (mY 216)) = true ∧ inW 419 (.selects (mY 216).cls (mY 216) (mY 216)) = true ∧ inW 59 (.initialized (mY 216).cls) = true ∧ dLen (mY 216) = some 0 := by decide +kernel
theorem wf_2 : inW 427 (.methodLink (mY 215).cls 492 (mY 217)) = true ∧ inW 430 (mCode 217) = true ∧ inW 428 (.instanceMethod (mY 217)) = true ∧ inW 429 (.selects (mY 217).cls (mY 217) (mY 217)) = true ∧ inW 59 (.initialized (mY 217).cls) = true ∧ dLen (mY 217) = some 0 := by decide +kernel
theorem wf_3 : inW 431 (.methodLink (mY 215).cls 495 (mY 219)) = true ∧ inW 433 (mCode 219) = true ∧ inW 432 (.static (mY 219)) = true ∧ inW 60 (.initialized (mY 219).cls) = true ∧ dLen (mY 219) = some 2 := by decide +kernel
theorem wf_4 : inW 434 (.methodLink (mY 219).cls 9 (mY 218)) = true ∧ inW 436 (mCode 218) = true ∧ inW 435 (.static (mY 218)) = true ∧ inW 59 (.initialized (mY 218).cls) = true ∧ dLen (mY 218) = some 2 := by decide +kernel
theorem wf_5 : inW 439 (.methodLink (mY 218).cls 1059 (mY 224)) = true ∧ inW 441 (mCode 224) = true ∧ inW 440 (.static (mY 224)) = true ∧ inW 61 (.initialized (mY 224).cls) = true ∧ dLen (mY 224) = some 3 := by decide +kernel
theorem mf_1 : MFc 214 335 216 2 96 false := ⟨inW_ok wf_1.1, inW_ok wf_1.2.1, inW_ok wf_1.2.2.1, fun _ => inW_ok wf_1.2.2.2.1, inW_ok wf_1.2.2.2.2.1, ⟨by decide +kernel, by decide +kernel⟩, wf_1.2.2.2.2.2, by decide, fun _ => by decide, fun h => (by cases h), fun h => (by rcases h with h | h <;> cases h), fun _ => cl_216.1, by rw [cl_216.2.1]; decide⟩
theorem mf_2 : MFc 215 492 217 2 96 false := ⟨inW_ok wf_2.1, inW_ok wf_2.2.1, inW_ok wf_2.2.2.1, fun _ => inW_ok wf_2.2.2.2.1, inW_ok wf_2.2.2.2.2.1, ⟨by decide +kernel, by decide +kernel⟩, wf_2.2.2.2.2.2, by decide, fun _ => by decide, fun h => (by cases h), fun h => (by rcases h with h | h <;> cases h), fun _ => cl_217.1, by rw [cl_217.2.1]; decide⟩
theorem mf_3 : MFc 215 495 219 0 128 false := ⟨inW_ok wf_3.1, inW_ok wf_3.2.1, inW_ok wf_3.2.2.1, fun h => (by rcases h with h | h <;> cases h), inW_ok wf_3.2.2.2.1, ⟨by decide +kernel, by decide +kernel⟩, wf_3.2.2.2.2, by decide, fun h => absurd rfl h, fun h => (by cases h), fun h => (by rcases h with h | h <;> cases h), fun h => (by cases h), by rw [cl_219.2.1]; decide⟩
theorem mf_4 : MFc 219 9 218 0 128 false := ⟨inW_ok wf_4.1, inW_ok wf_4.2.1, inW_ok wf_4.2.2.1, fun h => (by rcases h with h | h <;> cases h), inW_ok wf_4.2.2.2.1, ⟨by decide +kernel, by decide +kernel⟩, wf_4.2.2.2.2, by decide, fun h => absurd rfl h, fun h => (by cases h), fun h => (by rcases h with h | h <;> cases h), fun h => (by cases h), by rw [cl_218.2.1]; decide⟩
theorem mf_5 : MFc 218 1059 224 0 192 false := ⟨inW_ok wf_5.1, inW_ok wf_5.2.1, inW_ok wf_5.2.2.1, fun h => (by rcases h with h | h <;> cases h), inW_ok wf_5.2.2.2.1, ⟨by decide +kernel, by decide +kernel⟩, wf_5.2.2.2.2, by decide, fun h => absurd rfl h, fun h => (by cases h), fun h => (by rcases h with h | h <;> cases h), fun h => (by cases h), by rw [cl_224.2.1]; decide⟩
theorem txb : ∀ i, i < 5 → lenS.getD i 0 ≤ 6 := by decide
/-- the text constants, as they stood at the method's start -/
theorem sx_V {E : PE} {h : PMem} {s : State} {H : Heap} {locs : List Loc} (hR : Rl E s H h) (hS : va_S (pA E) s.heap H locs) (hb0 : eB E ≤ s.heap.size) : vk_S 5 lenS bytS (fun i => eX E (1001 + i)) (eV E) (pA E) s s.heap :=
  hR.2.2.2.2.1.2.2.2.1.kept (fun a _ ha => (hS.2.1 a (by have : ¬ eB E ≤ a := ha; omega) ha).symm)
theorem sx_Z {E : PE} {h : PMem} {s : State} {H : Heap} {locs : List Loc} (hR : Rl E s H h) (hS : va_S (pA E) s.heap H locs) (hb0 : eB E ≤ s.heap.size) : va_Z SCl "COMPACT_STRINGS" "Z" (.int 1) (pA E) s s.heap ∧ va_Zq "jdk/internal/util/Preconditions" "SIOOBE_FORMATTER" "Ljava/util/function/BiFunction;" (pA E) s s.heap :=
  ⟨hR.2.2.2.2.1.2.2.2.2.1.kept (fun a _ ha => (hS.2.1 a (by have : ¬ eB E ≤ a := ha; omega) ha).symm), hR.2.2.2.2.1.2.2.2.2.2.1.kept (fun a _ ha => (hS.2.1 a (by have : ¬ eB E ≤ a := ha; omega) ha).symm)⟩
section SX
variable {l : Launch} {d mid n0 pc : Nat} {Qp : PQ} {ls : List (Option PV)} {st : List PV} {h : PMem}
theorem sx_coder {i j : Nat} {q : Fin 4} (hls : ls[j]? = some (some (.inr (.inr (some (1001 + i)))))) (hq : (q : Nat) = j) (hi : i < 5) (hc : (mY mid).cls = SCl) (d0 : decode (mB mid) pc = .ok (.aload_n q, 1)) (d1 : decode (mB mid) (pc + 1) = .ok (.getfield 15, 3)) (hk : At l d mid n0 Qp (pc + 4) ls (.inl 0 :: st) h) : At l d mid n0 Qp pc ls st h := by
  intro E R p e s m args below meth c H locs lsA cx hm hR hS hL hn hb0
  have hV := (sx_V hR hS hb0).1 i hi
  have hp : pad E (1001 + i) = eX E (1001 + i) := if_neg (by omega)
  refine lv_aload_n cx.1 cx.2.1 d0 hq (hL.at hls) ?_
  rw [hp]
  exact vk_getf cx.1 cx.2.1 hV.2.1 hS (by rw [← hc]; exact cx.2.2.2.2.2.1) (cx.2.2.2.2.2.2.1 _ (inW_ok w_1242)) (fun x hx => hx) d1 (hk E R p e s m args below meth c H locs lsA cx hm hR hS hL hn hb0)
theorem sx_len {i j : Nat} {q : Fin 4} (hls : ls[j]? = some (some (.inr (.inr (some (1001 + i)))))) (hq : (q : Nat) = j) (hi : i < 5) (hc : (mY mid).cls = SCl) (d0 : decode (mB mid) pc = .ok (.aload_n q, 1)) (d1 : decode (mB mid) (pc + 1) = .ok (.getfield 9, 3)) (d2 : decode (mB mid) (pc + 4) = .ok (.arraylength, 1)) (hk : At l d mid n0 Qp (pc + 5) ls (.inl (lenS.getD i 0 : Nat) :: st) h) : At l d mid n0 Qp pc ls st h := by
  intro E R p e s m args below meth c H locs lsA cx hm hR hS hL hn hb0
  have hV := (sx_V hR hS hb0).1 i hi
  have hp : pad E (1001 + i) = eX E (1001 + i) := if_neg (by omega)
  refine lv_aload_n cx.1 cx.2.1 d0 hq (hL.at hls) ?_
  rw [hp]
  refine vk_getf cx.1 cx.2.1 hV.2.2.1 hS (by rw [← hc]; exact cx.2.2.2.2.2.1) (cx.2.2.2.2.2.2.1 _ (inW_ok w_1241)) (fun x hx => hx) d1 ?_
  exact va_tlen cx.1 cx.2.1 hV.2.2.2 hS rfl d2 (hk E R p e s m args below meth c H locs lsA cx hm hR hS hL hn hb0)
theorem sx_static (hc : (mY mid).cls = SCl) (d0 : decode (mB mid) pc = .ok (.getstatic 38, 3)) (hk : At l d mid n0 Qp (pc + 3) ls (.inl 1 :: st) h) : At l d mid n0 Qp pc ls st h := by
  intro E R p e s m args below meth c H locs lsA cx hm hR hS hL hn hb0
  exact va_gets cx.1 cx.2.1 (sx_Z hR hS hb0).1 hS (by rw [← hc]; exact cx.2.2.2.2.2.1) (cx.2.2.2.2.2.2.1 _ (inW_ok w_421)) (fun x hx => hx) d0 (hk E R p e s m args below meth c H locs lsA cx hm hR hS hL hn hb0)
/-- a static call with arguments of any kind -/
theorem sx_call {E : PE} {R : Room} {p : Program} {e : Env} {s : State} {m : MethodId} {args : Array Value} {below : List Frame} {meth : Method} {c : Code} {H : Heap} {locs : List Loc} {lsA : Array Slot} {idx mid' q : Nat} {As rest : List Value} {Qc : PQ} {Q : State → Prop} (hM : MFc mid idx mid' 0 q false) (hlen : As.length = q / 64) (hMet : Met l (mY mid') (mW mid') (rmOf (d - 1) mid' h.1) (fun a s => a = As.toArray ∧ Rl E s s.heap h) (Qm E (Qn (h.1 + aC mid') Qc)) (aC mid') (SL (h.1 + aC mid') - SL h.1) (pA E)) (hd1 : 1 ≤ d) (hN : h.1 + aC mid' ≤ n0 + aC mid) (hr8 : (rest.map fun v => v.category).sum ≤ 8) (hsz : lsA.size = mML mid) (cx : Cx mid p s m args meth c) (hm : RmOk R d mid n0) (hR : Rl E s H h) (hS : va_S (pA E) s.heap H locs) (hn : n0 ≤ h.1) (hd : decode (mB mid) pc = .ok (.invokestatic idx, 3))
    (fin : ∀ (v : Option PV) (h' : PMem) (H1 : Heap) (locs1 : List Loc), Qn (h.1 + aC mid') Qc v h' → Rl E s H1 h' → va_S (pA E) s.heap H1 locs1 → W p l e R s m args below meth c H1 locs1 (h.1 - n0 + aC mid') (SL h.1 - SL n0 + (SL (h.1 + aC mid') - SL h.1)) Q (F0 m (pc + 3) lsA ((v.map (pv (pad E))).toList ++ rest))) : W p l e R s m args below meth c H locs (h.1 - n0) (SL h.1 - SL n0) Q (F0 m pc lsA (As.reverse ++ rest)) := by
  obtain ⟨m1, m2, m3, m4, m5, m6, m7, m8, m9, m10, m11, m12, m13⟩ := hM
  have hts := cx.2.2.2.2.2.2.1
  have hown := cx.2.2.2.2.2.1
  obtain ⟨r1, r2, r3, r4⟩ := id hm
  have g1 := SL_mono hN
  have g2 := SL_mono hn
  have g3 := SL_mono (show h.1 ≤ h.1 + aC mid' by omega)
  have hgood : ∀ w ∈ mW mid', ∀ (a' : Array Value) (U : State), s.WarmedH U.vm → w.before a' U = true := pay_in hts (good_WU m2)
  have hcode : Cond.code (mY mid') (mB mid') (mML mid') (mRt mid') ∈ mW mid' := List.mem_cons_self
  have hfr : (rmOf (d - 1) mid' h.1).frames + 1 ≤ R.frames := by show d - 1 + 1 ≤ _; omega
  have hlo : 8 + (mML mid' + 11) + (rmOf (d - 1) mid' h.1).locals ≤ R.locals := by show _ + 64 * (d - 1) ≤ _; omega
  have hf : h.1 - n0 + aC mid' ≤ R.cells ∧ SL h.1 - SL n0 + (SL (h.1 + aC mid') - SL h.1) ≤ R.slots := ⟨by omega, by omega⟩
  have hWd : 2 * (F0 m pc lsA (As.reverse ++ rest)).monitorRoom + (rest.map fun v => v.category).sum ≤ 8 := lv_room hr8
  have pre : ∀ U : State, U.heap = H → s.WarmedH U.vm → As.toArray = As.toArray ∧ Rl E U U.heap h := fun U hU hW => ⟨rfl, by rw [hU]; exact hR.warm hW⟩
  have hbl : FrameBlind (fun a s => a = As.toArray ∧ Rl E s s.heap h) := fun a U g mk hq => ⟨hq.1, hq.2.blind g mk a⟩
  have hdl' : ∀ sig, parseMethodDescriptor (mY mid').desc = some sig → q / 64 = sig.parameters.length := by
    intro sig hsig
    unfold dLen at m7
    rw [hsig] at m7
    have := (Option.some.inj m7).symm
    simpa using this
  rw [if_pos rfl] at m3
  refine pm_after (a := As.toArray) (rest := rest) ?_ hR hS fin
  exact va_runS (ret := mRt mid') (bytes := mB mid') (maxL := mML mid') (n := q / 64) (As := As) ⟨cx.1, cx.2.1, cx.2.2.1, hown, hts⟩ hMet ⟨⟨rfl, rfl, hfr, hlo, hgood, hcode, hts _ m2, hts _ m5, m6, hdl', hts _ m1⟩, hts _ m3⟩ ⟨hbl, pre⟩ rfl hlen hsz rfl hWd hd hf
end SX
