/-! THE JDK's length and charAt, of the text constants -/
theorem dj_214_0 : decode (mB 214) 0 = .ok (.aload_n 0, 1) := by decide +kernel
theorem dj_214_1 : decode (mB 214) 1 = .ok (.getfield 9, 3) := by decide +kernel
theorem dj_214_4 : decode (mB 214) 4 = .ok (.arraylength, 1) := by decide +kernel
theorem dj_214_5 : decode (mB 214) 5 = .ok (.aload_n 0, 1) := by decide +kernel
theorem dj_214_6 : decode (mB 214) 6 = .ok (.invokevirtual 335, 3) := by decide +kernel
theorem dj_214_9 : decode (mB 214) 9 = .ok (.ishr, 1) := by decide +kernel
theorem dj_214_10 : decode (mB 214) 10 = .ok (.ireturn, 1) := by decide +kernel
theorem dj_215_0 : decode (mB 215) 0 = .ok (.aload_n 0, 1) := by decide +kernel
theorem dj_215_1 : decode (mB 215) 1 = .ok (.invokevirtual 492, 3) := by decide +kernel
theorem dj_215_4 : decode (mB 215) 4 = .ok (.ifCond .eq 12, 3) := by decide +kernel
theorem dj_215_7 : decode (mB 215) 7 = .ok (.aload_n 0, 1) := by decide +kernel
theorem dj_215_8 : decode (mB 215) 8 = .ok (.getfield 9, 3) := by decide +kernel
theorem dj_215_11 : decode (mB 215) 11 = .ok (.iload_n 1, 1) := by decide +kernel
theorem dj_215_12 : decode (mB 215) 12 = .ok (.invokestatic 495, 3) := by decide +kernel
theorem dj_215_15 : decode (mB 215) 15 = .ok (.ireturn, 1) := by decide +kernel
theorem dj_216_0 : decode (mB 216) 0 = .ok (.getstatic 38, 3) := by decide +kernel
theorem dj_216_3 : decode (mB 216) 3 = .ok (.ifCond .eq 10, 3) := by decide +kernel
theorem dj_216_6 : decode (mB 216) 6 = .ok (.aload_n 0, 1) := by decide +kernel
theorem dj_216_7 : decode (mB 216) 7 = .ok (.getfield 15, 3) := by decide +kernel
theorem dj_216_10 : decode (mB 216) 10 = .ok (.goto 4, 3) := by decide +kernel
theorem dj_216_14 : decode (mB 216) 14 = .ok (.ireturn, 1) := by decide +kernel
theorem dj_217_0 : decode (mB 217) 0 = .ok (.getstatic 38, 3) := by decide +kernel
theorem dj_217_3 : decode (mB 217) 3 = .ok (.ifCond .eq 14, 3) := by decide +kernel
theorem dj_217_6 : decode (mB 217) 6 = .ok (.aload_n 0, 1) := by decide +kernel
theorem dj_217_7 : decode (mB 217) 7 = .ok (.getfield 15, 3) := by decide +kernel
theorem dj_217_10 : decode (mB 217) 10 = .ok (.ifCond .ne 7, 3) := by decide +kernel
theorem dj_217_13 : decode (mB 217) 13 = .ok (.iconst 1, 1) := by decide +kernel
theorem dj_217_14 : decode (mB 217) 14 = .ok (.goto 4, 3) := by decide +kernel
theorem dj_217_18 : decode (mB 217) 18 = .ok (.ireturn, 1) := by decide +kernel
theorem dj_218_0 : decode (mB 218) 0 = .ok (.iload_n 0, 1) := by decide +kernel
theorem dj_218_1 : decode (mB 218) 1 = .ok (.iload_n 1, 1) := by decide +kernel
theorem dj_218_2 : decode (mB 218) 2 = .ok (.getstatic 1053, 3) := by decide +kernel
theorem dj_218_5 : decode (mB 218) 5 = .ok (.invokestatic 1059, 3) := by decide +kernel
theorem dj_218_8 : decode (mB 218) 8 = .ok (.pop, 1) := by decide +kernel
theorem dj_218_9 : decode (mB 218) 9 = .ok (.return_, 1) := by decide +kernel
theorem dj_219_0 : decode (mB 219) 0 = .ok (.iload_n 1, 1) := by decide +kernel
theorem dj_219_1 : decode (mB 219) 1 = .ok (.aload_n 0, 1) := by decide +kernel
theorem dj_219_2 : decode (mB 219) 2 = .ok (.arraylength, 1) := by decide +kernel
theorem dj_219_3 : decode (mB 219) 3 = .ok (.invokestatic 9, 3) := by decide +kernel
theorem dj_219_6 : decode (mB 219) 6 = .ok (.aload_n 0, 1) := by decide +kernel
theorem dj_219_7 : decode (mB 219) 7 = .ok (.iload_n 1, 1) := by decide +kernel
theorem dj_219_8 : decode (mB 219) 8 = .ok (.baload, 1) := by decide +kernel
theorem dj_219_9 : decode (mB 219) 9 = .ok (.sipush 255, 3) := by decide +kernel
theorem dj_219_12 : decode (mB 219) 12 = .ok (.iand, 1) := by decide +kernel
theorem dj_219_13 : decode (mB 219) 13 = .ok (.i2c, 1) := by decide +kernel
theorem dj_219_14 : decode (mB 219) 14 = .ok (.ireturn, 1) := by decide +kernel
theorem dj_224_0 : decode (mB 224) 0 = .ok (.iload_n 0, 1) := by decide +kernel
theorem dj_224_1 : decode (mB 224) 1 = .ok (.ifCond .lt 8, 3) := by decide +kernel
theorem dj_224_4 : decode (mB 224) 4 = .ok (.iload_n 0, 1) := by decide +kernel
theorem dj_224_5 : decode (mB 224) 5 = .ok (.iload_n 1, 1) := by decide +kernel
theorem dj_224_6 : decode (mB 224) 6 = .ok (.if_icmp .lt 10, 3) := by decide +kernel
theorem dj_224_16 : decode (mB 224) 16 = .ok (.iload_n 0, 1) := by decide +kernel
theorem dj_224_17 : decode (mB 224) 17 = .ok (.ireturn, 1) := by decide +kernel
def byT (i j : Nat) : Int := ((bytS.getD i []).getD j 0).toInt
theorem byT_ok : ∀ i, i < 5 → ∀ j, j < 6 → ((0 ≤ byT i j ∧ byT i j ≤ 127) ∧ pI (byT i j) = (bytS.getD i []).getD j 0) := by decide +kernel
theorem byA_ok : ∀ i, i < 5 → ∀ j, j < 6 → bAnd (byT i j) 255 = byT i j := by decide +kernel
abbrev tx (i : Nat) : PV := .inr (.inr (some (1001 + i)))
section SJ
variable {l : Launch} {d mid n0 pc : Nat} {Qp : PQ} {ls : List (Option PV)} {st : List PV} {h : PMem}
theorem so_bret (hrt : mRt mid = some .byte) (hd : decode (mB mid) pc = .ok (.ireturn, 1)) (h1 : h.1 = n0 + aC mid) (hq : Qp (some (.inl 0)) h) : At l d mid n0 Qp pc ls [.inl 0] h := by
  intro E R p e s m args below meth c H locs lsA cx hm hR hS hL hn hb0
  rw [h1, show n0 + aC mid - n0 = aC mid by omega]
  have hr : meth.sig.returnType = some .byte := cx.2.2.2.1.trans hrt
  exact W.zret (v := pI 0) cx.1 cx.2.1 hr rfl (fun t ht hW => Qm_ret (v := some (.inl 0)) hq hR hS ht hW args) hS.2.2 hd cx.2.2.2.2.1
theorem C_coder {i : Nat} (hi : i < 5) (h1 : Qp (some (.inl 0)) h) : CallP d 216 [tx i] h Qp := by
  refine call_of cl_216.2.2.2.1 (by rw [cl_216.2.1]; simp only [pcats, pcat]; decide) (fun l => ?_)
  have e : ent (mML 216) [tx i] = [some (tx i)] := by rw [cl_216.2.1]; simp [ent, pcats, pcat, List.replicate]
  rw [e]
  refine sx_static (pc := 0) cl_216.1 dj_216_0 ?_
  refine so_if_eq (tgt := 13) (J := At l d 216 h.1 (Qn (h.1 + aC 216) Qp) 13) (k := At l d 216 h.1 (Qn (h.1 + aC 216) Qp) 6) dj_216_3 (by decide) (fun _ _ _ h => h) (fun _ _ _ h => h) ?_
  simp only [w_if, cnd, inR]
  refine ⟨by omega, fun q => by omega, fun _ => ?_⟩
  refine sx_coder (q := 0) rfl rfl hi cl_216.1 dj_216_6 dj_216_7 ?_
  refine so_goto (tgt := 14) (J := At l d 216 h.1 (Qn (h.1 + aC 216) Qp) 14) dj_216_10 (by decide) (fun _ _ _ h => h) ?_
  exact so_bret cl_216.2.2.2.2 dj_216_14 (by rw [cl_216.2.2.1, Nat.add_zero]) ⟨by rw [cl_216.2.2.1, Nat.add_zero], h1⟩
theorem C_isLatin {i : Nat} (hi : i < 5) (h1 : Qp (some (.inl 1)) h) : CallP d 217 [tx i] h Qp := by
  refine call_of cl_217.2.2.2.1 (by rw [cl_217.2.1]; simp only [pcats, pcat]; decide) (fun l => ?_)
  have e : ent (mML 217) [tx i] = [some (tx i)] := by rw [cl_217.2.1]; simp [ent, pcats, pcat, List.replicate]
  rw [e]
  refine sx_static (pc := 0) cl_217.1 dj_217_0 ?_
  refine so_if_eq (tgt := 17) (J := At l d 217 h.1 (Qn (h.1 + aC 217) Qp) 17) (k := At l d 217 h.1 (Qn (h.1 + aC 217) Qp) 6) dj_217_3 (by decide) (fun _ _ _ h => h) (fun _ _ _ h => h) ?_
  simp only [w_if, cnd, inR]
  refine ⟨by omega, fun q => by omega, fun _ => ?_⟩
  refine sx_coder (q := 0) rfl rfl hi cl_217.1 dj_217_6 dj_217_7 ?_
  refine so_if_ne (tgt := 17) (J := At l d 217 h.1 (Qn (h.1 + aC 217) Qp) 17) (k := At l d 217 h.1 (Qn (h.1 + aC 217) Qp) 13) dj_217_10 (by decide) (fun _ _ _ h => h) (fun _ _ _ h => h) ?_
  simp only [w_if, cnd, inR]
  refine ⟨by omega, fun q => by omega, fun _ => ?_⟩
  refine so_iconst (k := At l d 217 h.1 (Qn (h.1 + aC 217) Qp) 14) dj_217_13 (fun _ _ _ h => h) ?_
  refine so_goto (tgt := 18) (J := At l d 217 h.1 (Qn (h.1 + aC 217) Qp) 18) dj_217_14 (by decide) (fun _ _ _ h => h) ?_
  exact so_ret (rk := 1) cl_217.2.2.2.2 (Or.inr (Or.inl ⟨rfl, rfl⟩)) dj_217_18 ⟨⟨by rw [cl_217.2.2.1, Nat.add_zero], Or.inr rfl⟩, ⟨by rw [cl_217.2.2.1, Nat.add_zero], h1⟩⟩
theorem C_length {i : Nat} (hi : i < 5) (hd : 1 ≤ d) (hN : h.1 ≤ NC) (h1 : Qp (some (.inl (lenS.getD i 0 : Nat))) h) : CallP d 214 [tx i] h Qp := by
  refine call_of cl_214.2.2.2.1 (by rw [cl_214.2.1]; simp only [pcats, pcat]; decide) (fun l => ?_)
  have e : ent (mML 214) [tx i] = [some (tx i)] := by rw [cl_214.2.1]; simp [ent, pcats, pcat, List.replicate]
  rw [e]
  have hl := txb i hi
  refine sx_len (pc := 0) (q := 0) rfl rfl hi cl_214.1 dj_214_0 dj_214_1 dj_214_4 ?_
  refine so_aload_n (i := 0) (k := At l d 214 h.1 (Qn (h.1 + aC 214) Qp) 6) rfl dj_214_5 (fun _ _ _ h => h) ?_
  show At l d 214 h.1 (Qn (h.1 + aC 214) Qp) 6 [some (tx i)] [tx i, .inl (lenS.getD i 0 : Nat)] h
  refine so_call (k := At l d 214 h.1 (Qn (h.1 + aC 214) Qp) 9) mf_1 (Or.inr (Or.inl ⟨Or.inr rfl, rfl⟩)) (fun h => by cases h) hd dj_214_6 (fun _ _ _ h => h) ?_
  refine ⟨⟨⟨by show 1 ≤ 2; omega, by show 1 ≤ 8; omega⟩, ⟨by omega, by omega⟩, by rw [cl_214.2.2.1, cl_216.2.2.1]; exact Nat.le_refl _⟩, ?_⟩
  refine C_coder hi ?_
  show At l d 214 h.1 (Qn (h.1 + aC 214) Qp) 9 [some (tx i)] [.inl 0, .inl (lenS.getD i 0 : Nat)] h
  refine so_ishr (k := At l d 214 h.1 (Qn (h.1 + aC 214) Qp) 10) dj_214_9 (fun _ _ _ h => h) ?_
  have e0 : bShr ((lenS.getD i 0 : Nat) : Int) 0 = ((lenS.getD i 0 : Nat) : Int) := by
    have := bShr_nat (a := lenS.getD i 0) (p := 0) (by omega) (by omega)
    rw [Nat.pow_zero, Nat.div_one] at this
    exact this
  show At l d 214 h.1 (Qn (h.1 + aC 214) Qp) 10 [some (tx i)] [.inl (bShr ((lenS.getD i 0 : Nat) : Int) 0)] h
  rw [e0]
  exact so_ret (rk := 0) cl_214.2.2.2.2 (Or.inl ⟨rfl, rfl⟩) dj_214_10 ⟨⟨by rw [cl_214.2.2.1, Nat.add_zero], trivial⟩, ⟨by rw [cl_214.2.2.1, Nat.add_zero], h1⟩⟩
/-- a method's contract with arguments of any kind -/
theorem call_raw {E : PE} {As : List Value} (hpl : plainName (mY mid).cls = true) (hlen : (lg_sl As).length ≤ mML mid) (hw : ∀ (R : Room) (p : Program) (e : Env) (s : State) (m : MethodId) (args : Array Value) (below : List Frame) (meth : Method) (c : Code) (H : Heap) (locs : List Loc) (lsA : Array Slot), Cx mid p s m args meth c → RmOk R d mid h.1 → Rl E s H h → va_S (pA E) s.heap H locs → lv_has lsA (mML mid) (lv_args 0 As) → eB E ≤ s.heap.size → W p l e R s m args below meth c H locs (h.1 - h.1) (SL h.1 - SL h.1) (MQ below (Qm E (Qn (h.1 + aC mid) Qp)) args s (aC mid) (SL (h.1 + aC mid) - SL h.1) (pA E)) (F0 m 0 lsA [])) : Met l (mY mid) (mW mid) (rmOf d mid h.1) (fun a s => a = As.toArray ∧ Rl E s s.heap h) (Qm E (Qn (h.1 + aC mid) Qp)) (aC mid) (SL (h.1 + aC mid) - SL h.1) (pA E) := by
  refine Met.ofW (cc := mB mid) (maxL := mML mid) (ret := mRt mid) hpl rfl ?_
  intro p e s m args below meth c s₁ B hmlc hv
  obtain ⟨rfl, hR⟩ := hv
  have hts := atoms_spec (ws := mW mid) B.pre
  have hcx : Cx mid p s m As.toArray meth c := ⟨B.exec, B.bytes, hmlc, B.returns, B.notSynchronized, findClass_of_methodNamed B.named, fun w hw => hts w (List.mem_cons_of_mem _ hw), (name_of_methodNamed B.named B.method).1⟩
  have hl := lv_entry As (n := mML mid) hlen
  rw [lg_entry_eq]
  have := hw (rmOf d mid h.1) p e s m _ below meth c s.heap [] _ hcx ⟨Nat.le_refl _, Nat.le_refl _, Nat.le_refl _, Nat.le_refl _⟩ hR va_S.rf hl (by have := hR.2.1; omega)
  rw [Nat.sub_self, Nat.sub_self] at this
  exact this
theorem HL_of {E : PE} {lsA : Array Slot} {As : List Value} {n : Nat} (h : lv_has lsA n (lv_args 0 As)) (hn : ls.length = n) (hin : ∀ j u, ls[j]? = some (some u) → (j, pv (pad E) u) ∈ lv_args 0 As) : HL E n lsA ls := by
  refine ⟨⟨h.1, h.2.1, fun q hq => ?_⟩, hn⟩
  obtain ⟨j, w⟩ := q
  obtain ⟨u, hu, rfl⟩ := mem_alst.mp hq
  exact h.2.2 _ (hin j u hu)
theorem M_pcheck {E : PE} {j n : Int} {v : Value} (hv : v.category = 1) (hj : 0 ≤ j ∧ j < n ∧ n ≤ 2147483647) (h1 : Qp (some (.inl j)) h) : Met l (mY 224) (mW 224) (rmOf d 224 h.1) (fun a s => a = ([.int (pI j), .int (pI n), v] : List Value).toArray ∧ Rl E s s.heap h) (Qm E (Qn (h.1 + aC 224) Qp)) (aC 224) (SL (h.1 + aC 224) - SL h.1) (pA E) := by
  have c0 : ∀ x : Int32, (Value.int x).category = 1 := fun _ => rfl
  have sl : ∀ v : Value, v.category = 1 → (lg_sl [v]).length = 1 := fun v hv => by
    cases v <;> first | rfl | cases hv
  refine call_raw cl_224.2.2.2.1 ?_ (fun R p e s m args below meth c H locs lsA cx hm hR hS hL hb0 => ?_)
  · rw [cl_224.2.1]
    have : (lg_sl ([.int (pI j), .int (pI n), v] : List Value)).length = 3 := by
      have := sl v hv
      unfold lg_sl at this ⊢
      simp only [List.flatMap_cons, List.flatMap_nil, List.length_append, List.append_nil] at this ⊢
      rw [this]
      rfl
    omega
  · have ea : lv_args 0 ([.int (pI j), .int (pI n), v] : List Value) = [(0, .int (pI j)), (1, .int (pI n)), (2, v)] := rfl
    have hHL : HL E (mML 224) lsA [some (.inl j), some (.inl n), none] := by
      refine HL_of hL (by rw [cl_224.2.1]; rfl) (fun k u hu => ?_)
      rw [ea]
      match k, hu with
      | 0, hu => cases hu; exact List.mem_cons_self
      | 1, hu => cases hu; exact List.mem_cons_of_mem _ List.mem_cons_self
      | 2, hu => cases hu
      | k + 3, hu => cases hu
    have key : At l d 224 h.1 (Qn (h.1 + aC 224) Qp) 0 [some (.inl j), some (.inl n), none] [] h := by
      refine so_iload_n (i := 0) (k := At l d 224 h.1 (Qn (h.1 + aC 224) Qp) 1) rfl dj_224_0 (fun _ _ _ h => h) ?_
      show At l d 224 h.1 (Qn (h.1 + aC 224) Qp) 1 [some (.inl j), some (.inl n), none] [.inl j] h
      refine so_if_lt (tgt := 9) (J := At l d 224 h.1 (Qn (h.1 + aC 224) Qp) 9) (k := At l d 224 h.1 (Qn (h.1 + aC 224) Qp) 4) dj_224_1 (by decide) (fun _ _ _ h => h) (fun _ _ _ h => h) ?_
      simp only [w_if, cnd, inR]
      refine ⟨by omega, fun q => by omega, fun _ => ?_⟩
      refine so_iload_n (i := 0) (k := At l d 224 h.1 (Qn (h.1 + aC 224) Qp) 5) rfl dj_224_4 (fun _ _ _ h => h) ?_
      show At l d 224 h.1 (Qn (h.1 + aC 224) Qp) 5 [some (.inl j), some (.inl n), none] [.inl j] h
      refine so_iload_n (i := 1) (k := At l d 224 h.1 (Qn (h.1 + aC 224) Qp) 6) rfl dj_224_5 (fun _ _ _ h => h) ?_
      show At l d 224 h.1 (Qn (h.1 + aC 224) Qp) 6 [some (.inl j), some (.inl n), none] [.inl n, .inl j] h
      refine so_icmp_lt (tgt := 16) (J := At l d 224 h.1 (Qn (h.1 + aC 224) Qp) 16) (k := At l d 224 h.1 (Qn (h.1 + aC 224) Qp) 9) dj_224_6 (by decide) (fun _ _ _ h => h) (fun _ _ _ h => h) ?_
      simp only [w_icmp, cnd, inR]
      refine ⟨by omega, fun _ => ?_, fun q => by omega⟩
      refine so_iload_n (i := 0) (k := At l d 224 h.1 (Qn (h.1 + aC 224) Qp) 17) rfl dj_224_16 (fun _ _ _ h => h) ?_
      show At l d 224 h.1 (Qn (h.1 + aC 224) Qp) 17 [some (.inl j), some (.inl n), none] [.inl j] h
      exact so_ret (rk := 0) cl_224.2.2.2.2 (Or.inl ⟨rfl, rfl⟩) dj_224_17 ⟨⟨by rw [cl_224.2.2.1, Nat.add_zero], trivial⟩, ⟨by rw [cl_224.2.2.1, Nat.add_zero], h1⟩⟩
    exact key E R p e s m args below meth c H locs lsA cx hm hR hS hHL (Nat.le_refl _) hb0
theorem C_scheck {j n : Int} (hd : 1 ≤ d) (hj : 0 ≤ j ∧ j < n ∧ n ≤ 2147483647) (h1 : Qp none h) : CallP d 218 [.inl j, .inl n] h Qp := by
  refine call_of cl_218.2.2.2.1 (by rw [cl_218.2.1]; simp only [pcats, pcat]; decide) (fun l => ?_)
  have e : ent (mML 218) [.inl j, .inl n] = [some (.inl j), some (.inl n)] := by rw [cl_218.2.1]; simp [ent, pcats, pcat, List.replicate]
  rw [e]
  refine so_iload_n (i := 0) (k := At l d 218 h.1 (Qn (h.1 + aC 218) Qp) 1) rfl dj_218_0 (fun _ _ _ h => h) ?_
  show At l d 218 h.1 (Qn (h.1 + aC 218) Qp) 1 [some (.inl j), some (.inl n)] [.inl j] h
  refine so_iload_n (i := 1) (k := At l d 218 h.1 (Qn (h.1 + aC 218) Qp) 2) rfl dj_218_1 (fun _ _ _ h => h) ?_
  show At l d 218 h.1 (Qn (h.1 + aC 218) Qp) 2 [some (.inl j), some (.inl n)] [.inl n, .inl j] h
  have at8 : At l d 218 h.1 (Qn (h.1 + aC 218) Qp) 8 [some (.inl j), some (.inl n)] [.inl j] h := by
    refine so_pop (k := At l d 218 h.1 (Qn (h.1 + aC 218) Qp) 9) dj_218_8 (fun _ _ _ h => h) ?_
    refine ⟨rfl, ?_⟩
    exact so_vret cl_218.2.2.2.2 dj_218_9 ⟨by rw [cl_218.2.2.1, Nat.add_zero], ⟨by rw [cl_218.2.2.1, Nat.add_zero], h1⟩⟩
  intro E R p e s m args below meth c H locs lsA cx hm hR hS hL hn hb0
  have go : ∀ v : Value, v.category = 1 → va_Z "jdk/internal/util/Preconditions" "SIOOBE_FORMATTER" "Ljava/util/function/BiFunction;" v (pA E) s s.heap → W p l e R s m args below meth c H locs (h.1 - h.1) (SL h.1 - SL h.1) (MQ below (Qm E (Qn (h.1 + aC 218) Qp)) args s (aC 218) (SL (h.1 + aC 218) - SL h.1) (pA E)) (F0 m 2 lsA [.int (pI n), .int (pI j)]) := by
    intro v hv hZ
    refine va_gets cx.1 cx.2.1 hZ hS (by rw [← cl_218.1]; exact cx.2.2.2.2.2.1) (cx.2.2.2.2.2.2.1 _ (inW_ok w_437)) (fun x hx => hx) dj_218_2 ?_
    refine sx_call (n0 := h.1) (As := [.int (pI j), .int (pI n), v]) (rest := []) (Qc := fun v' h' => v' = some (.inl j) ∧ h' = h) mf_5 rfl (M_pcheck hv hj ⟨rfl, rfl⟩) hd (by rw [cl_218.2.2.1, cl_224.2.2.1]; exact Nat.le_refl _) (by show 0 ≤ 8; omega) hL.1.1 cx hm hR hS hn dj_218_5 (fun v' h' H1 locs1 hq hR1 hS1 => ?_)
    obtain ⟨hq1, rfl, rfl⟩ := hq
    rw [cl_224.2.2.1, Nat.add_zero, Nat.sub_self, Nat.add_zero, Nat.sub_self]
    have := at8 E R p e s m args below meth c H1 locs1 lsA cx hm hR1 hS1 hL (Nat.le_refl _) hb0
    rw [Nat.sub_self, Nat.sub_self] at this
    exact this
  rcases (sx_Z hR hS hb0).2 with hz | ⟨t, hz⟩
  · exact go _ rfl hz
  · exact go _ rfl hz
theorem M_lat {E : PE} {i j : Nat} (hi : i < 5) (hj : j < lenS.getD i 0) (hd : 2 ≤ d) (h1 : Qp (some (.inl (byT i j))) h) : Met l (mY 219) (mW 219) (rmOf d 219 h.1) (fun a s => a = ([.ref (eV E i), .int (pI j)] : List Value).toArray ∧ Rl E s s.heap h) (Qm E (Qn (h.1 + aC 219) Qp)) (aC 219) (SL (h.1 + aC 219) - SL h.1) (pA E) := by
  have hl6 := txb i hi
  obtain ⟨⟨b0, b1⟩, b2⟩ := byT_ok i hi j (by omega)
  have bA := byA_ok i hi j (by omega)
  refine call_raw cl_219.2.2.2.1 (by rw [cl_219.2.1]; exact Nat.le_refl _) (fun R p e s m args below meth c H locs lsA cx hm hR hS hL hb0 => ?_)
  have ea : lv_args 0 ([.ref (eV E i), .int (pI j)] : List Value) = [(0, .ref (eV E i)), (1, .int (pI j))] := rfl
  rw [ea] at hL
  have l0 : lsA[0]? = some (.val (.ref (eV E i))) := lv_at hL 0 rfl
  have l1 : lsA[1]? = some (.val (.int (pI j))) := lv_at hL 1 rfl
  have hHL : HL E (mML 219) lsA [none, some (.inl (j : Int))] := by
    refine ⟨⟨hL.1, hL.2.1, fun q hq => ?_⟩, by rw [cl_219.2.1]; rfl⟩
    obtain ⟨k, w⟩ := q
    obtain ⟨u, hu, rfl⟩ := mem_alst.mp hq
    match k, hu with
    | 0, hu => cases hu
    | 1, hu => cases hu; exact l1
    | k + 2, hu => cases hu
  have hV := ((sx_V hR hS hb0).1 i hi).2.2.2
  have ix := pI_ix (i := (j : Int)) (n := lenS.getD i 0) ⟨by omega, by omega⟩ (by omega)
  have at9 : At l d 219 h.1 (Qn (h.1 + aC 219) Qp) 9 [none, some (.inl (j : Int))] [.inl (byT i j)] h := by
    refine so_sipush (z := 255) (k := At l d 219 h.1 (Qn (h.1 + aC 219) Qp) 12) (by decide) dj_219_9 (fun _ _ _ h => h) ?_
    refine so_iand (k := At l d 219 h.1 (Qn (h.1 + aC 219) Qp) 13) dj_219_12 (fun _ _ _ h => h) ?_
    show At l d 219 h.1 (Qn (h.1 + aC 219) Qp) 13 [none, some (.inl (j : Int))] [.inl (bAnd (byT i j) 255)] h
    rw [bA]
    refine so_i2c (k := At l d 219 h.1 (Qn (h.1 + aC 219) Qp) 14) dj_219_13 (fun _ _ _ h => h) ?_
    refine ⟨by omega, ?_⟩
    exact so_ret (rk := 2) cl_219.2.2.2.2 (Or.inr (Or.inr ⟨rfl, rfl⟩)) dj_219_14 ⟨⟨by rw [cl_219.2.2.1, Nat.add_zero], by show 0 ≤ byT i j ∧ byT i j ≤ 65535; omega⟩, ⟨by rw [cl_219.2.2.1, Nat.add_zero], h1⟩⟩
  refine lv_iload_n cx.1 cx.2.1 dj_219_0 (i := 1) rfl l1 ?_
  refine lv_aload_n cx.1 cx.2.1 dj_219_1 (i := 0) rfl l0 ?_
  refine va_tlen cx.1 cx.2.1 hV hS rfl dj_219_2 ?_
  have at6 : ∀ (H1 : Heap) (locs1 : List Loc), Rl E s H1 h → va_S (pA E) s.heap H1 locs1 → W p l e R s m args below meth c H1 locs1 (h.1 - h.1) (SL h.1 - SL h.1) (MQ below (Qm E (Qn (h.1 + aC 219) Qp)) args s (aC 219) (SL (h.1 + aC 219) - SL h.1) (pA E)) (F0 m 6 lsA []) := by
    intro H1 locs1 hR1 hS1
    refine lv_aload_n cx.1 cx.2.1 dj_219_6 (i := 0) rfl l0 ?_
    refine lv_iload_n cx.1 cx.2.1 dj_219_7 (i := 1) rfl l1 ?_
    refine va_tb (v := .int (pI (byT i j))) cx.1 cx.2.1 hV hS1 ix.1 (by rw [ix.2, Int.toNat_natCast, b2]) dj_219_8 ?_
    exact at9 E R p e s m args below meth c H1 locs1 lsA cx hm hR1 hS1 hHL (Nat.le_refl _) hb0
  refine sx_call (n0 := h.1) (As := [.int (pI j), .int (pI (lenS.getD i 0 : Nat))]) (rest := []) (Qc := fun v' h' => v' = none ∧ h' = h) mf_4 rfl ?_ (by omega) (by rw [cl_218.2.2.1, cl_219.2.2.1]; exact Nat.le_refl _) (by show 0 ≤ 8; omega) hL.1 cx hm hR hS (Nat.le_refl _) dj_219_3 (fun v' h' H1 locs1 hq hR1 hS1 => ?_)
  · exact C_scheck (d := d - 1) (j := (j : Int)) (n := (lenS.getD i 0 : Nat)) (by omega) (by omega) (⟨rfl, rfl⟩ : none = none ∧ h = h) l E
  · obtain ⟨hq1, rfl, rfl⟩ := hq
    rw [cl_218.2.2.1, Nat.add_zero, Nat.sub_self, Nat.add_zero, Nat.sub_self]
    have := at6 H1 locs1 hR1 hS1
    rw [Nat.sub_self, Nat.sub_self] at this
    exact this
theorem C_charAt {i j : Nat} (hi : i < 5) (hj : j < lenS.getD i 0) (hd : 3 ≤ d) (hN : h.1 ≤ NC) (h1 : Qp (some (.inl (byT i j))) h) : CallP d 215 [tx i, .inl (j : Int)] h Qp := by
  refine call_of cl_215.2.2.2.1 (by rw [cl_215.2.1]; simp only [pcats, pcat]; decide) (fun l => ?_)
  have hl6 := txb i hi
  obtain ⟨⟨b0, b1⟩, b2⟩ := byT_ok i hi j (by omega)
  have e : ent (mML 215) [tx i, .inl (j : Int)] = [some (tx i), some (.inl (j : Int))] := by rw [cl_215.2.1]; simp [ent, pcats, pcat, List.replicate]
  rw [e]
  refine so_aload_n (i := 0) (k := At l d 215 h.1 (Qn (h.1 + aC 215) Qp) 1) rfl dj_215_0 (fun _ _ _ h => h) ?_
  show At l d 215 h.1 (Qn (h.1 + aC 215) Qp) 1 [some (tx i), some (.inl (j : Int))] [tx i] h
  refine so_call (k := At l d 215 h.1 (Qn (h.1 + aC 215) Qp) 4) mf_2 (Or.inr (Or.inl ⟨Or.inr rfl, rfl⟩)) (fun h => by cases h) (by omega) dj_215_1 (fun _ _ _ h => h) ?_
  refine ⟨⟨⟨by show 1 ≤ 1; omega, by show 0 ≤ 8; omega⟩, ⟨by omega, by omega⟩, by rw [cl_215.2.2.1, cl_217.2.2.1]; exact Nat.le_refl _⟩, ?_⟩
  refine C_isLatin hi ?_
  show At l d 215 h.1 (Qn (h.1 + aC 215) Qp) 4 [some (tx i), some (.inl (j : Int))] [.inl 1] h
  refine so_if_eq (tgt := 16) (J := At l d 215 h.1 (Qn (h.1 + aC 215) Qp) 16) (k := At l d 215 h.1 (Qn (h.1 + aC 215) Qp) 7) dj_215_4 (by decide) (fun _ _ _ h => h) (fun _ _ _ h => h) ?_
  simp only [w_if, cnd, inR]
  refine ⟨by omega, fun q => by omega, fun _ => ?_⟩
  have at15 : At l d 215 h.1 (Qn (h.1 + aC 215) Qp) 15 [some (tx i), some (.inl (j : Int))] [.inl (byT i j)] h := so_ret (rk := 2) cl_215.2.2.2.2 (Or.inr (Or.inr ⟨rfl, rfl⟩)) dj_215_15 ⟨⟨by rw [cl_215.2.2.1, Nat.add_zero], by show 0 ≤ byT i j ∧ byT i j ≤ 65535; omega⟩, ⟨by rw [cl_215.2.2.1, Nat.add_zero], h1⟩⟩
  intro E R p e s m args below meth c H locs lsA cx hm hR hS hL hn hb0
  have hV := (sx_V hR hS hb0).1 i hi
  have hp : pad E (1001 + i) = eX E (1001 + i) := if_neg (by omega)
  refine lv_aload_n (x := pad E (1001 + i)) cx.1 cx.2.1 dj_215_7 (i := 0) rfl (hL.at (i := 0) (v := tx i) rfl) ?_
  rw [hp]
  refine vk_getf cx.1 cx.2.1 hV.2.2.1 hS (by rw [← cl_215.1]; exact cx.2.2.2.2.2.1) (cx.2.2.2.2.2.2.1 _ (inW_ok w_1241)) (fun x hx => hx) dj_215_8 ?_
  refine lv_iload_n (x := pI j) cx.1 cx.2.1 dj_215_11 (i := 1) rfl (hL.at (i := 1) (v := .inl (j : Int)) rfl) ?_
  refine sx_call (n0 := h.1) (As := [.ref (eV E i), .int (pI j)]) (rest := []) (Qc := fun v' h' => v' = some (.inl (byT i j)) ∧ h' = h) mf_3 rfl (M_lat hi hj (by omega) ⟨rfl, rfl⟩) (by omega) (by rw [cl_215.2.2.1, cl_219.2.2.1]; exact Nat.le_refl _) (by show 0 ≤ 8; omega) hL.1.1 cx hm hR hS hn dj_215_12 (fun v' h' H1 locs1 hq hR1 hS1 => ?_)
  obtain ⟨hq1, rfl, rfl⟩ := hq
  rw [cl_219.2.2.1, Nat.add_zero, Nat.sub_self, Nat.add_zero, Nat.sub_self]
  have := at15 E R p e s m args below meth c H1 locs1 lsA cx hm hR1 hS1 hL (Nat.le_refl _) hb0
  rw [Nat.sub_self, Nat.sub_self] at this
  exact this
end SJ
