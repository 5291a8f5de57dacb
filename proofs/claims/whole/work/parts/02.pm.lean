/-! THE PURE MACHINE: values, memory, what each linked instruction asks of the continuation (weakest precondition). References are numbers of cells in the order of allocation; 1000 is the script, 1001.. the text constants. -/
abbrev PV : Type := Int ⊕ (Int ⊕ Option Nat)
abbrev PMem : Type := Nat × ((Nat → Nat → Option Nat) × (Nat → Nat → Int))
abbrev PK : Type := List (Option PV) → List PV → PMem → Prop
abbrev PQ : Type := Option PV → PMem → Prop
def pI (z : Int) : Int32 := Int32.ofInt z
def pL (z : Int) : Int64 := Int64.ofInt z
def pv (ad : Nat → Nat) : PV → Value
  | .inl z => .int (pI z)
  | .inr (.inl z) => .long (pL z)
  | .inr (.inr none) => .null
  | .inr (.inr (some k)) => .ref (ad k)
def pcat : PV → Nat
  | .inr (.inl _) => 2
  | _ => 1
def pcats : List PV → Nat
  | [] => 0
  | v :: r => pcat v + pcats r
def inR (x : Int) : Prop := -2147483648 ≤ x ∧ x ≤ 2147483647
def inL (x : Int) : Prop := -9223372036854775808 ≤ x ∧ x ≤ 9223372036854775807
def cnd (c : ClassFile.Cond) (x y : Int) : Prop := match c with
  | .eq => x = y
  | .ne => x ≠ y
  | .lt => x < y
  | .ge => y ≤ x
  | .gt => y < x
  | .le => x ≤ y
/-- shapes: kinds 0 .. 7 are the objects (by vwCl), 8 int[], 9 boolean[], 10 char[], 11 World[], 12 Evening[], 13 int[][]; with the length -/
def skEv : List (Nat × Nat) := [(1, 0), (8, 6), (8, 2), (8, 2), (9, 2)]
def skWd : List (Nat × Nat) := [(5, 0), (8, 6), (8, 6), (13, 6), (8, 6), (8, 6), (8, 6), (8, 6), (8, 6), (8, 6), (8, 6), (8, 2), (8, 2), (0, 0), (8, 8), (8, 8), (9, 8)] ++ (skEv ++ ([(12, 8)] ++ (skEv ++ (skEv ++ (skEv ++ (skEv ++ (skEv ++ (skEv ++ (skEv ++ skEv)))))))))
def skL : List (Nat × Nat) := [(6, 0)] ++ (skWd ++ (skWd ++ ([(11, 2)] ++ (skWd ++ (skWd ++ ([(9, 2), (4, 0), (10, 150), (8, 3), (2, 0), (8, 2), (13, 2), (8, 8), (8, 8), (8, 6), (8, 2), (3, 0), (8, 5), (8, 3), (7, 0), (8, 196), (8, 196), (8, 392), (9, 2), (8, 3), (8, 150), (8, 6), (8, 6), (8, 3)]))))))
def SK (k : Nat) : Nat × Nat := skL.getD k (99, 0)
/-- which fields of a kind of object are references -/
def fldB : Nat → List Bool
  | 0 => [false, true, true, true]
  | 1 => [false, true, true, true, true]
  | 2 => [true, true, true, true, false]
  | 3 => [true, false, false, false, false]
  | 4 => [true, false, false, false, true]
  | 5 => [false, true, true, true, true, true, true, true, true, true, false]
  | 6 => [true, true, true, true, true, true, true, true]
  | 7 => [true, true, true, true, true, true, false, true, true, false, false, false, false, true, false, false, false]
  | _ => []
/-- slots that a cell takes -/
def slK (q : Nat × Nat) : Nat := if q.1 < 8 then (fldB q.1).length else q.2
def SL : Nat → Nat
  | 0 => 0
  | n + 1 => SL n + slK (SK n)
/-- cells that a constructor makes -/
def aC (mid : Nat) : Nat := if mid = 100 then 3 else if mid = 101 then 4 else if mid = 102 then 6 else if mid = 103 then 1 else if mid = 104 then 2 else if mid = 105 then 62 else if mid = 106 then 267 else if mid = 107 then 9 else if mid = 108 then 278 else 0
/-! memory -/
def mAl (h : PMem) (n : Nat) : PMem := (h.1 + n, fun a j => if h.1 ≤ a ∧ a < h.1 + n then none else h.2.1 a j, fun a j => if h.1 ≤ a ∧ a < h.1 + n then 0 else h.2.2 a j)
def mSt (M : Nat → Nat → Int) (a j : Nat) (v : Int) : Nat → Nat → Int := fun a' j' => if a' = a ∧ j' = j then v else M a' j'
def mRf (R : Nat → Nat → Option Nat) (a j : Nat) (v : Option Nat) : Nat → Nat → Option Nat := fun a' j' => if a' = a ∧ j' = j then v else R a' j'
def mRows (R : Nat → Nat → Option Nat) (a n : Nat) : Nat → Nat → Option Nat := fun a' j' => if a' = a ∧ j' < n then some (a + 1 + j') else R a' j'
def mCp (M : Nat → Nat → Int) (a b sp dp n : Nat) : Nat → Nat → Int := fun a' j' => if a' = b ∧ (dp ≤ j' ∧ j' < dp + n) then M a (sp + (j' - dp)) else M a' j'
/-! one instruction -/
def w_iload (i : Nat) (k : PK) : PK := fun ls st h => match ls[i]? with
  | some (some (.inl z)) => k ls (.inl z :: st) h
  | _ => False
def w_lload (i : Nat) (k : PK) : PK := fun ls st h => match ls[i]? with
  | some (some (.inr (.inl z))) => k ls (.inr (.inl z) :: st) h
  | _ => False
def w_aload (i : Nat) (k : PK) : PK := fun ls st h => match ls[i]? with
  | some (some (.inr (.inr (some a)))) => k ls (.inr (.inr (some a)) :: st) h
  | _ => False
/-- the place below isn't the first half of a long -/
def nlb (ls : List (Option PV)) : Nat → Bool
  | 0 => true
  | i + 1 => match ls[i]? with
    | some (some (.inr (.inl _))) => false
    | _ => true
def w_istore (i : Nat) (k : PK) : PK := fun ls st h => match st with
  | .inl z :: st' => (i < ls.length ∧ nlb ls i = true) ∧ k (ls.set i (some (.inl z))) st' h
  | _ => False
def w_astore (i : Nat) (k : PK) : PK := fun ls st h => match st with
  | .inr (.inr (some a)) :: st' => (i < ls.length ∧ nlb ls i = true) ∧ k (ls.set i (some (.inr (.inr (some a))))) st' h
  | _ => False
def w_lstore (i : Nat) (k : PK) : PK := fun ls st h => match st with
  | .inr (.inl z) :: st' => (i + 1 < ls.length ∧ nlb ls i = true) ∧ k ((ls.set i (some (.inr (.inl z)))).set (i + 1) none) st' h
  | _ => False
def w_iinc (i : Nat) (c : Int) (k : PK) : PK := fun ls st h => match ls[i]? with
  | some (some (.inl z)) => nlb ls i = true ∧ k (ls.set i (some (.inl (z + c)))) st h
  | _ => False
def w_ic (z : Int) (k : PK) : PK := fun ls st h => k ls (.inl z :: st) h
def w_lc (z : Int) (k : PK) : PK := fun ls st h => k ls (.inr (.inl z) :: st) h
def w_rc (a : Nat) (k : PK) : PK := fun ls st h => k ls (.inr (.inr (some a)) :: st) h
def w_i2 (f : Int → Int → Int) (k : PK) : PK := fun ls st h => match st with
  | .inl y :: .inl x :: st' => k ls (.inl (f x y) :: st') h
  | _ => False
def w_l2 (f : Int → Int → Int) (k : PK) : PK := fun ls st h => match st with
  | .inr (.inl y) :: .inr (.inl x) :: st' => k ls (.inr (.inl (f x y)) :: st') h
  | _ => False
def w_idv (f : Int → Int → Int) (k : PK) : PK := fun ls st h => match st with
  | .inl y :: .inl x :: st' => ((0 ≤ x ∧ x ≤ 2147483647) ∧ (0 < y ∧ y ≤ 2147483647)) ∧ k ls (.inl (f x y) :: st') h
  | _ => False
def w_ldv (f : Int → Int → Int) (k : PK) : PK := fun ls st h => match st with
  | .inr (.inl y) :: .inr (.inl x) :: st' => ((0 ≤ x ∧ x ≤ 9223372036854775807) ∧ (0 < y ∧ y ≤ 9223372036854775807)) ∧ k ls (.inr (.inl (f x y)) :: st') h
  | _ => False
def bAnd (x y : Int) : Int := (pI x &&& pI y).toInt
def bOr (x y : Int) : Int := (pI x ||| pI y).toInt
def bXor (x y : Int) : Int := (pI x ^^^ pI y).toInt
def bShl (x y : Int) : Int := (pI x <<< (pI y &&& 31)).toInt
def bShr (x y : Int) : Int := (pI x >>> (pI y &&& 31)).toInt
def bUshr (x y : Int) : Int := ((pI x).toUInt32 >>> ((pI y).toUInt32 &&& Int32.toUInt32 31)).toInt32.toInt
def lCmp (x y : Int) : Int := if x > y then 1 else if x = y then 0 else -1
def w_lcmp (k : PK) : PK := fun ls st h => match st with
  | .inr (.inl y) :: .inr (.inl x) :: st' => (x = y ∨ (inL x ∧ inL y)) ∧ k ls (.inl (lCmp x y) :: st') h
  | _ => False
def w_i2l (k : PK) : PK := fun ls st h => match st with
  | .inl x :: st' => inR x ∧ k ls (.inr (.inl x) :: st') h
  | _ => False
def w_i2c (k : PK) : PK := fun ls st h => match st with
  | .inl x :: st' => (0 ≤ x ∧ x ≤ 65535) ∧ k ls (.inl x :: st') h
  | _ => False
def w_dup (k : PK) : PK := fun ls st h => match st with
  | v :: st' => pcat v = 1 ∧ k ls (v :: v :: st') h
  | _ => False
def w_dup2 (k : PK) : PK := fun ls st h => match st with
  | v :: w :: st' => (pcat v = 1 ∧ pcat w = 1) ∧ k ls (v :: w :: v :: w :: st') h
  | _ => False
def w_pop (k : PK) : PK := fun ls st h => match st with
  | v :: st' => pcat v = 1 ∧ k ls st' h
  | _ => False
/-- Object's constructor -/
def w_obj (k : PK) : PK := fun ls st h => match st with
  | .inr (.inr (some _)) :: st' => pcats st' ≤ 8 ∧ k ls st' h
  | _ => False
def w_max (N : Nat) (f : Int → Int → Int) (k : PK) : PK := fun ls st h => match st with
  | .inl y :: .inl x :: st' => ((inR x ∧ inR y) ∧ pcats st' ≤ 8 ∧ h.1 ≤ N) ∧ k ls (.inl (f x y) :: st') h
  | _ => False
def w_if (c : ClassFile.Cond) (t : Nat) (J : Nat → PK) (k : PK) : PK := fun ls st h => match st with
  | .inl x :: st' => inR x ∧ ((cnd c x 0 → J t ls st' h) ∧ (¬ cnd c x 0 → k ls st' h))
  | _ => False
def w_icmp (c : ClassFile.Cond) (t : Nat) (J : Nat → PK) (k : PK) : PK := fun ls st h => match st with
  | .inl y :: .inl x :: st' => (inR x ∧ inR y) ∧ ((cnd c x y → J t ls st' h) ∧ (¬ cnd c x y → k ls st' h))
  | _ => False
def w_tsw (d lo hi : Int) (offs : Array Int) (J : Nat → PK) : PK := fun ls st h => match st with
  | .inl x :: st' => inR x ∧ (if x < lo ∨ hi < x then J d.toNat ls st' h else match offs[(x - lo).toNat]? with
    | some t => J t.toNat ls st' h
    | none => False)
  | _ => False
def lsw (x : Int) (d : Int) : List (Int × Int) → Int
  | [] => d
  | (a, t) :: r => if x = a then t else lsw x d r
def w_lsw (d : Int) (ps : Array (Int × Int)) (J : Nat → PK) : PK := fun ls st h => match st with
  | .inl x :: st' => inR x ∧ J (lsw x d ps.toList).toNat ls st' h
  | _ => False
/-- fields: ci the kind, j the slot -/
def w_getI (q : Nat) (k : PK) : PK := fun ls st h => match st with
  | .inr (.inr (some a)) :: st' => (a < h.1 ∧ (SK a).1 = q / 100) ∧ k ls (.inl (h.2.2 a (q % 100)) :: st') h
  | _ => False
def w_getR (q : Nat) (k : PK) : PK := fun ls st h => match st with
  | .inr (.inr (some a)) :: st' => (a < h.1 ∧ (SK a).1 = q / 100) ∧ k ls (.inr (.inr (h.2.1 a (q % 100))) :: st') h
  | _ => False
def w_putI (q : Nat) (k : PK) : PK := fun ls st h => match st with
  | .inl v :: .inr (.inr (some a)) :: st' => (a < h.1 ∧ (SK a).1 = q / 100) ∧ k ls st' (h.1, h.2.1, mSt h.2.2 a (q % 100) v)
  | _ => False
def w_putR (q : Nat) (k : PK) : PK := fun ls st h => match st with
  | .inr (.inr (some v)) :: .inr (.inr (some a)) :: st' => (a < h.1 ∧ (SK a).1 = q / 100) ∧ k ls st' (h.1, mRf h.2.1 a (q % 100) (some v), h.2.2)
  | _ => False
/-- arrays: kd the kind -/
def ixIn (i : Int) (n : Nat) : Prop := 0 ≤ i ∧ i < (n : Int)
def w_ald (kd : Nat) (k : PK) : PK := fun ls st h => match st with
  | .inl i :: .inr (.inr (some a)) :: st' => ((a < h.1 ∧ (SK a).1 = kd) ∧ ixIn i (SK a).2) ∧ k ls (.inl (h.2.2 a i.toNat) :: st') h
  | _ => False
/-- the script -/
def w_sld (k : PK) : PK := fun ls st h => match st with
  | .inl i :: .inr (.inr (some a)) :: st' => (a = 1000 ∧ (0 ≤ i ∧ i < h.2.2 999 0)) ∧ k ls (.inl (h.2.2 1000 i.toNat) :: st') h
  | _ => False
def w_slen (k : PK) : PK := fun ls st h => match st with
  | .inr (.inr (some a)) :: st' => a = 1000 ∧ k ls (.inl (h.2.2 999 0) :: st') h
  | _ => False
def arOk (kd : Nat) (v : Int) : Prop := if kd = 9 then (v = 0 ∨ v = 1) else if kd = 10 then (0 ≤ v ∧ v ≤ 65535) else True
def w_ast (kd : Nat) (k : PK) : PK := fun ls st h => match st with
  | .inl v :: .inl i :: .inr (.inr (some a)) :: st' => (((a < h.1 ∧ (SK a).1 = kd) ∧ ixIn i (SK a).2) ∧ arOk kd v) ∧ k ls st' (h.1, h.2.1, mSt h.2.2 a i.toNat v)
  | _ => False
def w_aald (k : PK) : PK := fun ls st h => match st with
  | .inl i :: .inr (.inr (some a)) :: st' => ((a < h.1 ∧ 11 ≤ (SK a).1 ∧ (SK a).1 ≤ 13) ∧ ixIn i (SK a).2) ∧ k ls (.inr (.inr (h.2.1 a i.toNat)) :: st') h
  | _ => False
def w_aast (k : PK) : PK := fun ls st h => match st with
  | .inr (.inr (some v)) :: .inl i :: .inr (.inr (some a)) :: st' => ((a < h.1 ∧ (((SK a).1 = 11 ∧ (SK v).1 = 5) ∨ ((SK a).1 = 12 ∧ (SK v).1 = 1)) ∧ v < h.1) ∧ ixIn i (SK a).2) ∧ k ls st' (h.1, mRf h.2.1 a i.toNat (some v), h.2.2)
  | _ => False
def w_new (ci N : Nat) (k : PK) : PK := fun ls st h => ((SK h.1).1 = ci ∧ h.1 < N) ∧ k ls (.inr (.inr (some h.1)) :: st) (mAl h 1)
def w_newa (kd N : Nat) (k : PK) : PK := fun ls st h => match st with
  | .inl n :: st' => ((SK h.1 = (kd, n.toNat) ∧ 0 ≤ n) ∧ h.1 < N) ∧ k ls (.inr (.inr (some h.1)) :: st') (mAl h 1)
  | _ => False
def w_mna (N : Nat) (k : PK) : PK := fun ls st h => match st with
  | .inl q :: .inl n :: st' => (((SK h.1 = (13, n.toNat) ∧ (∀ i, i < n.toNat → SK (h.1 + 1 + i) = (8, q.toNat))) ∧ 0 ≤ n ∧ 0 ≤ q) ∧ h.1 + n.toNat < N) ∧ k ls (.inr (.inr (some h.1)) :: st') (h.1 + (1 + n.toNat), mRows (mAl h (1 + n.toNat)).2.1 h.1 n.toNat, (mAl h (1 + n.toNat)).2.2)
  | _ => False
def w_cpy (k : PK) : PK := fun ls st h => match st with
  | .inl n :: .inl dp :: .inr (.inr (some b)) :: .inl sp :: .inr (.inr (some a)) :: st' => (((a < h.1 ∧ b < h.1) ∧ ((SK a).1 = 8 ∧ (SK b).1 = 8 ∨ ((SK a).1 = 9 ∧ (SK b).1 = 9) ∧ ∀ i, i < n.toNat → arOk 9 (h.2.2 a (sp.toNat + i)))) ∧ ((0 ≤ sp ∧ 0 ≤ dp ∧ 0 ≤ n) ∧ sp + n ≤ (SK a).2 ∧ dp + n ≤ (SK b).2) ∧ pcats st' ≤ 8) ∧ k ls st' (h.1, h.2.1, mCp h.2.2 a b sp.toNat dp.toNat n.toNat)
  | _ => False
/-- receivers: kind 0 none, 1 an own object, 2 a text constant -/
def rcv (kind ci : Nat) (h : PMem) (args : List PV) : Prop := match kind with
  | 0 => True
  | 2 => match args with
    | .inr (.inr (some a)) :: _ => 1001 ≤ a ∧ a ≤ 1005
    | _ => False
  | _ => match args with
    | .inr (.inr (some a)) :: _ => a < h.1 ∧ (SK a).1 = ci
    | _ => False
/-- a call: q is ((words popped) * 4 + kind) * 16 + ci -/
def w_call (N mid q : Nat) (C : Nat → List PV → PMem → PQ → Prop) (k : PK) : PK := fun ls st h =>
  ((q / 64 ≤ st.length ∧ pcats (st.drop (q / 64)) ≤ 8) ∧ rcv (q / 16 % 4) (q % 16) h (st.take (q / 64)).reverse ∧ h.1 + aC mid ≤ N) ∧ C mid (st.take (q / 64)).reverse h (fun v h' => k ls (v.toList ++ st.drop (q / 64)) h')
def w_ret (N rk : Nat) (Rr : PQ) : PK := fun _ st h => match st with
  | [.inl z] => (h.1 = N ∧ (match rk with
    | 1 => z = 0 ∨ z = 1
    | 2 => 0 ≤ z ∧ z ≤ 65535
    | _ => True)) ∧ Rr (some (.inl z)) h
  | _ => False
def w_lret (N : Nat) (Rr : PQ) : PK := fun _ st h => match st with
  | [.inr (.inl z)] => h.1 = N ∧ Rr (some (.inr (.inl z))) h
  | _ => False
def w_vret (N : Nat) (Rr : PQ) : PK := fun _ st h => match st with
  | [] => h.1 = N ∧ Rr none h
  | _ => False
/-- linked instructions (the constructors are those of the machine's own, some of them in another's place) -/
def wi (N : Nat) (J : Nat → PK) (C : Nat → List PV → PMem → PQ → Prop) (Rr : PQ) (i : Instr) (k : PK) : PK := match i with
  | .iload n => w_iload n k
  | .lload n => w_lload n k
  | .aload n => w_aload n k
  | .istore n => w_istore n k
  | .lstore n => w_lstore n k
  | .astore n => w_astore n k
  | .iinc n c => w_iinc n c k
  | .bipush z => w_ic z k
  | .sipush z => w_lc z k
  | .ldc a => w_rc a k
  | .iadd => w_i2 (fun x y => x + y) k
  | .isub => w_i2 (fun x y => x - y) k
  | .imul => w_i2 (fun x y => x * y) k
  | .idiv => w_idv (fun x y => x / y) k
  | .irem => w_idv (fun x y => x % y) k
  | .iand => w_i2 bAnd k
  | .ior => w_i2 bOr k
  | .ixor => w_i2 bXor k
  | .ishl => w_i2 bShl k
  | .ishr => w_i2 bShr k
  | .iushr => w_i2 bUshr k
  | .ladd => w_l2 (fun x y => x + y) k
  | .lsub => w_l2 (fun x y => x - y) k
  | .lmul => w_l2 (fun x y => x * y) k
  | .ldiv => w_ldv (fun x y => x / y) k
  | .lrem => w_ldv (fun x y => x % y) k
  | .lcmp => w_lcmp k
  | .i2l => w_i2l k
  | .i2c => w_i2c k
  | .dup => w_dup k
  | .dup2 => w_dup2 k
  | .pop => w_pop k
  | .nop => w_obj k
  | .fadd => w_max N (fun x y => max x y) k
  | .fsub => w_max N (fun x y => min x y) k
  | .ifCond c t => w_if c t.toNat J k
  | .if_icmp c t => w_icmp c t.toNat J k
  | .goto t => J t.toNat
  | .tableswitch d lo hi offs => w_tsw d lo hi offs J
  | .lookupswitch d ps => w_lsw d ps J
  | .getfield q => w_getI q k
  | .getstatic q => w_getR q k
  | .putfield q => w_putI q k
  | .putstatic q => w_putR q k
  | .iaload => w_ald 8 k
  | .baload => w_ald 9 k
  | .caload => w_ald 10 k
  | .iastore => w_ast 8 k
  | .bastore => w_ast 9 k
  | .castore => w_ast 10 k
  | .saload => w_sld k
  | .arraylength => w_slen k
  | .aaload => w_aald k
  | .aastore => w_aast k
  | .new ci => w_new ci N k
  | .anewarray kd => w_newa kd N k
  | .multianewarray _ _ => w_mna N k
  | .fmul => w_cpy k
  | .invokeinterface mid q => w_call N mid q C k
  | .ireturn => w_ret N 0 Rr
  | .freturn => w_ret N 1 Rr
  | .dreturn => w_ret N 2 Rr
  | .lreturn => w_lret N Rr
  | .return_ => w_vret N Rr
  | _ => fun _ _ _ => False
def wp (N : Nat) (J : Nat → PK) (C : Nat → List PV → PMem → PQ → Prop) (Rr : PQ) : List Instr → PK
  | [] => fun _ _ _ => False
  | i :: r => wi N J C Rr i (wp N J C Rr r)
