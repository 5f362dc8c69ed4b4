/-! ===== a small machine over pictures of the heap: values with places (numbers of cells) for references; what a method answers is a function of its arguments and the picture ===== -/
abbrev ax_C : Type := (Nat × vp_A) ⊕ (Nat × List Value)
abbrev ax_H : Type := Nat → ax_C
abbrev ax_L : Type := List (Option Value)
abbrev ax_N : Type := Nat × ax_L × List Value × ax_H
abbrev ax_O : Type := Option Value × ax_H
abbrev ax_R : Type := Option (ax_N ⊕ (ax_O ⊕ (Nat × ax_L × ax_N)))
def ax_NC : Nat := 147
def ax_up (h : ax_H) (a : Nat) (c : ax_C) : ax_H := fun j => if j = a then c else h j
-- the heap's own steps
def ax_getF (h : ax_H) (a ci k : Nat) : Option Value := match h a with
  | .inr (c, fs) => if a < ax_NC ∧ c = ci then fs[k]? else none
  | .inl _ => none
def ax_putF (h : ax_H) (a ci k : Nat) (v : Value) : Option ax_H := match h a with
  | .inr (c, fs) => if a < ax_NC ∧ c = ci ∧ k < fs.length then some (ax_up h a (.inr (c, fs.set k v))) else none
  | .inl _ => none
def ax_isO (h : ax_H) (a ci : Nat) : Bool := match h a with
  | .inr (c, _) => decide (a < ax_NC) && c == ci
  | .inl _ => false
def ax_getI (h : ax_H) (a t : Nat) (i : Int32) : Option Int32 := match h a with
  | .inl (t', n, .inl f) => if a < ax_NC ∧ t' = t ∧ ¬ (i < 0 ∨ n ≤ i.toNatClampNeg) then some (f i.toNatClampNeg) else none
  | _ => none
def ax_putI (h : ax_H) (a : Nat) (i v : Int32) : Option ax_H := match h a with
  | .inl (t', n, .inl f) => if a < ax_NC ∧ t' = 0 ∧ ¬ (i < 0 ∨ n ≤ i.toNatClampNeg) then some (ax_up h a (.inl (t', n, .inl (upd f i.toNatClampNeg v)))) else none
  | _ => none
def ax_putC (h : ax_H) (a : Nat) (i v : Int32) : Option ax_H := match h a with
  | .inl (t', n, .inl f) => if a < ax_NC ∧ t' = 2 ∧ ¬ (i < 0 ∨ n ≤ i.toNatClampNeg) then some (ax_up h a (.inl (t', n, .inl (upd f i.toNatClampNeg (vp_nar .char v))))) else none
  | _ => none
def ax_getJ (h : ax_H) (a : Nat) (i : Int32) : Option Int64 := match h a with
  | .inl (t', n, .inr (.inl f)) => if a < ax_NC ∧ t' = 1 ∧ ¬ (i < 0 ∨ n ≤ i.toNatClampNeg) then some (f i.toNatClampNeg) else none
  | _ => none
def ax_putJ (h : ax_H) (a : Nat) (i : Int32) (v : Int64) : Option ax_H := match h a with
  | .inl (t', n, .inr (.inl f)) => if a < ax_NC ∧ t' = 1 ∧ ¬ (i < 0 ∨ n ≤ i.toNatClampNeg) then some (ax_up h a (.inl (t', n, .inr (.inl (vp_updL f i.toNatClampNeg v))))) else none
  | _ => none
def ax_getA (h : ax_H) (a : Nat) (i : Int32) : Option Nat := match h a with
  | .inl (t', n, .inr (.inr (.inr (.inr f)))) => if a < ax_NC ∧ (t' = 3 ∨ t' = 4) ∧ ¬ (i < 0 ∨ n ≤ i.toNatClampNeg) then f i.toNatClampNeg else none
  | _ => none
def ax_lenA (h : ax_H) (a : Nat) : Option Int32 := match h a with
  | .inl (t', n, _) => if a < ax_NC ∧ t' < 5 then some (Int32.ofNat n) else none
  | _ => none
def ax_cpyI (h : ax_H) (a0 a1 : Nat) (sp dp n : Int32) : Option ax_H := match h a0, h a1 with
  | .inl (t0, n0, .inl f), .inl (t1, n1, .inl g) => if a0 < ax_NC ∧ a1 < ax_NC ∧ t0 = 0 ∧ t1 = 0 ∧ ¬ sp < 0 ∧ ¬ dp < 0 ∧ ¬ n < 0 ∧ sp.toNatClampNeg + n.toNatClampNeg ≤ n0 ∧ dp.toNatClampNeg + n.toNatClampNeg ≤ n1 then
      some (ax_up h a1 (.inl (t1, n1, .inl (va_cpy f g sp.toNatClampNeg dp.toNatClampNeg n.toNatClampNeg)))) else none
  | _, _ => none
def ax_cpyJ (h : ax_H) (a0 a1 : Nat) (sp dp n : Int32) : Option ax_H := match h a0, h a1 with
  | .inl (t0, n0, .inr (.inl f)), .inl (t1, n1, .inr (.inl g)) => if a0 < ax_NC ∧ a1 < ax_NC ∧ t0 = 1 ∧ t1 = 1 ∧ ¬ sp < 0 ∧ ¬ dp < 0 ∧ ¬ n < 0 ∧ sp.toNatClampNeg + n.toNatClampNeg ≤ n0 ∧ dp.toNatClampNeg + n.toNatClampNeg ≤ n1 then
      some (ax_up h a1 (.inl (t1, n1, .inr (.inl (va_cpy f g sp.toNatClampNeg dp.toNatClampNeg n.toNatClampNeg))))) else none
  | _, _ => none
/-- the place of a letter among p f m d g -/
def ax_idx (c : Int32) : Int32 := if c = 112 then 0 else if c = 102 then 1 else if c = 109 then 2 else if c = 100 then 3 else if c = 103 then 4 else -1
-- locals
def ax_kill (ls : ax_L) : Nat → ax_L
  | 0 => ls
  | j + 1 => match ls[j]? with
    | some (some (.long _)) => ls.set j none
    | _ => ls
def ax_st1 (ls : ax_L) (i : Nat) (v : Value) : Option ax_L := if i < ls.length then some ((ax_kill ls i).set i (some v)) else none
def ax_st2 (ls : ax_L) (i : Nat) (v : Value) : Option ax_L := if i + 1 < ls.length then some (((ax_kill ls i).set i (some v)).set (i + 1) none) else none
def ax_keep : Nat → ax_L → ax_L
  | _, [] => []
  | 0, _ :: t => none :: ax_keep 0 t
  | c + 1, v :: t => v :: ax_keep c t
def ax_sl : List Value → ax_L
  | [] => []
  | .long x :: t => some (.long x) :: none :: ax_sl t
  | .double _ :: t => none :: none :: ax_sl t
  | v :: t => some v :: ax_sl t
def ax_pad : Nat → ax_L → ax_L
  | 0, l => l
  | n + 1, [] => none :: ax_pad n []
  | n + 1, v :: t => v :: ax_pad n t
def ax_ent (n : Nat) (vs : List Value) : ax_L := ax_pad n (ax_sl vs)
-- a step
def ax_nx (pc : Nat) (ls : ax_L) (st : List Value) (h : ax_H) : ax_R := some (.inl (pc, ls, st, h))
def ax_fitF (k : Int32) : Value → Bool
  | .int x => k == 0 || (k == 1 && (x == 0 || x == 1))
  | _ => false
def ax_fitR (a : Nat) (x : Int32) : Bool := a == 0 || (a == 1 && (x == 0 || x == 1)) || (a == 2 && (decide (0 ≤ x) && decide (x ≤ 65535)))
def ax_ldI (pc : Nat) (ls : ax_L) (st : List Value) (h : ax_H) (i : Nat) : ax_R := match ls[i]? with
  | some (some (.int x)) => ax_nx pc ls (.int x :: st) h
  | _ => none
def ax_ldJ (pc : Nat) (ls : ax_L) (st : List Value) (h : ax_H) (i : Nat) : ax_R := match ls[i]? with
  | some (some (.long x)) => ax_nx pc ls (.long x :: st) h
  | _ => none
def ax_ldA (pc : Nat) (ls : ax_L) (st : List Value) (h : ax_H) (i : Nat) : ax_R := match ls[i]? with
  | some (some (.ref x)) => ax_nx pc ls (.ref x :: st) h
  | _ => none
def ax_sI (pc : Nat) (ls : ax_L) (st : List Value) (h : ax_H) (i : Nat) : ax_R := match st with
  | .int x :: st => (match ax_st1 ls i (.int x) with | some ls' => ax_nx pc ls' st h | none => none)
  | _ => none
def ax_sJ (pc : Nat) (ls : ax_L) (st : List Value) (h : ax_H) (i : Nat) : ax_R := match st with
  | .long x :: st => (match ax_st2 ls i (.long x) with | some ls' => ax_nx pc ls' st h | none => none)
  | _ => none
def ax_sA (pc : Nat) (ls : ax_L) (st : List Value) (h : ax_H) (i : Nat) : ax_R := match st with
  | .ref x :: st => (match ax_st1 ls i (.ref x) with | some ls' => ax_nx pc ls' st h | none => none)
  | _ => none
def ax_inc (pc : Nat) (ls : ax_L) (st : List Value) (h : ax_H) (i : Nat) (k : Int32) : ax_R := match ls[i]? with
  | some (some (.int x)) => (match ax_st1 ls i (.int (x + k)) with | some ls' => ax_nx pc ls' st h | none => none)
  | _ => none
def ax_b2 (pc : Nat) (ls : ax_L) (st : List Value) (h : ax_H) (f : Int32 → Int32 → Option Int32) : ax_R := match st with
  | .int y :: .int x :: st => (match f x y with | some z => ax_nx pc ls (.int z :: st) h | none => none)
  | _ => none
def ax_b2L (pc : Nat) (ls : ax_L) (st : List Value) (h : ax_H) (f : Int64 → Int64 → Option Int64) : ax_R := match st with
  | .long y :: .long x :: st => (match f x y with | some z => ax_nx pc ls (.long z :: st) h | none => none)
  | _ => none
def ax_u1 (pc : Nat) (ls : ax_L) (st : List Value) (h : ax_H) (f : Int32 → Value) : ax_R := match st with
  | .int x :: st => ax_nx pc ls (f x :: st) h
  | _ => none
def ax_br1 (pc t : Nat) (ls : ax_L) (st : List Value) (h : ax_H) (f : Int32 → Bool) : ax_R := match st with
  | .int x :: st => bif f x then ax_nx t ls st h else ax_nx (pc + 3) ls st h
  | _ => none
def ax_br2 (pc t : Nat) (ls : ax_L) (st : List Value) (h : ax_H) (f : Int32 → Int32 → Bool) : ax_R := match st with
  | .int y :: .int x :: st => bif f x y then ax_nx t ls st h else ax_nx (pc + 3) ls st h
  | _ => none
def ax_cond (cd : ClassFile.Cond) (x y : Int32) : Bool := match cd with
  | .eq => decide (x = y)
  | .ne => decide (¬ x = y)
  | .lt => decide (x < y)
  | .ge => decide (y ≤ x)
  | .gt => decide (y < x)
  | .le => decide (x ≤ y)
def ax_small (st : List Value) : Bool := Nat.ble ((st.map fun v => v.category).sum) 8
def ax_inv (pc y : Nat) (ls : ax_L) (st : List Value) (h : ax_H) : ax_R :=
  match st.drop (ax_m y).2.2.2.2.1.2.1 with
  | .ref a :: rest => bif ax_small rest && (ax_isO h a (ax_m y).2.2.2.2.1.2.2 && ((st.take (ax_m y).2.2.2.2.1.2.1).length == (ax_m y).2.2.2.2.1.2.1 && Nat.ble (ax_sl (.ref a :: (st.take (ax_m y).2.2.2.2.1.2.1).reverse)).length (ax_m y).2.2.1)) then
      some (.inr (.inr (y, ax_ent (ax_m y).2.2.1 (.ref a :: (st.take (ax_m y).2.2.2.2.1.2.1).reverse), (pc + 3, ls, rest, h)))) else none
  | _ => none
def ax_ins (pc y : Nat) (ls : ax_L) (st : List Value) (h : ax_H) : ax_R :=
  bif ax_small (st.drop (ax_m y).2.2.2.2.1.2.1) && ((st.take (ax_m y).2.2.2.2.1.2.1).length == (ax_m y).2.2.2.2.1.2.1 && Nat.ble (ax_sl (st.take (ax_m y).2.2.2.2.1.2.1).reverse).length (ax_m y).2.2.1) then
    some (.inr (.inr (y, ax_ent (ax_m y).2.2.1 (st.take (ax_m y).2.2.2.2.1.2.1).reverse, (pc + 3, ls, st.drop (ax_m y).2.2.2.2.1.2.1, h)))) else none
def ax_cp (pc : Nat) (ls : ax_L) (st : List Value) (h : ax_H) (f : ax_H → Nat → Nat → Int32 → Int32 → Int32 → Option ax_H) : ax_R := match st with
  | .int n :: .int dp :: .ref a1 :: .int sp :: .ref a0 :: st => (match (bif ax_small st then f h a0 a1 sp dp n else none) with | some h' => ax_nx pc ls st h' | none => none)
  | _ => none
def ax_mm (pc : Nat) (ls : ax_L) (st : List Value) (h : ax_H) (f : Int32 → Int32 → Int32) : ax_R := match st with
  | .int y :: .int x :: st => bif ax_small st then ax_nx pc ls (.int (f x y) :: st) h else none
  | _ => none
def ax_min (x y : Int32) : Int32 := if y < x then y else x
def ax_max (x y : Int32) : Int32 := if x < y then y else x
def ax_ix (pc : Nat) (ls : ax_L) (st : List Value) (h : ax_H) : ax_R := match st with
  | .int x :: .ref a :: st => bif a == 999 && ax_small st then ax_nx pc ls (.int (ax_idx x) :: st) h else none
  | _ => none
def ax_rI (a : Nat) (st : List Value) (h : ax_H) : ax_R := match st with
  | [.int x] => bif ax_fitR a x then some (.inr (.inl (some (.int x), h))) else none
  | _ => none
def ax_rJ (st : List Value) (h : ax_H) : ax_R := match st with
  | [.long x] => some (.inr (.inl (some (.long x), h)))
  | _ => none
def ax_rV (st : List Value) (h : ax_H) : ax_R := match st with
  | [] => some (.inr (.inl (none, h)))
  | _ => none
def ax_stp (I : ax_I) (pc : Nat) (ls : ax_L) (st : List Value) (h : ax_H) : ax_R :=
  match I.1.1 with
  | .iconst _ => ax_nx (pc + 1) ls (.int I.2.2.1 :: st) h
  | .bipush _ => ax_nx (pc + 2) ls (.int I.2.2.1 :: st) h
  | .sipush _ => ax_nx (pc + 3) ls (.int I.2.2.1 :: st) h
  | .ldc _ => bif I.2.1.1 == 1 then ax_nx (pc + 2) ls (.ref 999 :: st) h else ax_nx (pc + 2) ls (.int I.2.2.1 :: st) h
  | .ldc_w _ => ax_nx (pc + 3) ls (.int I.2.2.1 :: st) h
  | .lconst _ => ax_nx (pc + 1) ls (.long I.2.2.2 :: st) h
  | .ldc2_w _ => ax_nx (pc + 3) ls (.long I.2.2.2 :: st) h
  | .iload i => ax_ldI (pc + 2) ls st h i
  | .iload_n i => ax_ldI (pc + 1) ls st h i.val
  | .lload i => ax_ldJ (pc + 2) ls st h i
  | .lload_n i => ax_ldJ (pc + 1) ls st h i.val
  | .aload i => ax_ldA (pc + 2) ls st h i
  | .aload_n i => ax_ldA (pc + 1) ls st h i.val
  | .istore i => ax_sI (pc + 2) ls st h i
  | .istore_n i => ax_sI (pc + 1) ls st h i.val
  | .lstore i => ax_sJ (pc + 2) ls st h i
  | .lstore_n i => ax_sJ (pc + 1) ls st h i.val
  | .astore i => ax_sA (pc + 2) ls st h i
  | .astore_n i => ax_sA (pc + 1) ls st h i.val
  | .iinc i k => ax_inc (pc + 3) ls st h i (Int32.ofInt k)
  | .iadd => ax_b2 (pc + 1) ls st h (fun x y => some (x + y))
  | .isub => ax_b2 (pc + 1) ls st h (fun x y => some (x - y))
  | .imul => ax_b2 (pc + 1) ls st h (fun x y => some (x * y))
  | .idiv => ax_b2 (pc + 1) ls st h (fun x y => bif y == 0 then none else some (x / y))
  | .irem => ax_b2 (pc + 1) ls st h (fun x y => bif y == 0 then none else some (x - x / y * y))
  | .iand => ax_b2 (pc + 1) ls st h (fun x y => some (x &&& y))
  | .ior => ax_b2 (pc + 1) ls st h (fun x y => some (x ||| y))
  | .ixor => ax_b2 (pc + 1) ls st h (fun x y => some (x ^^^ y))
  | .ishl => ax_b2 (pc + 1) ls st h (fun x y => some (x <<< (y &&& 31)))
  | .ishr => ax_b2 (pc + 1) ls st h (fun x y => some (x >>> (y &&& 31)))
  | .iushr => ax_b2 (pc + 1) ls st h (fun x y => some ((x.toUInt32 >>> (y.toUInt32 &&& Int32.toUInt32 31)).toInt32))
  | .ladd => ax_b2L (pc + 1) ls st h (fun x y => some (x + y))
  | .lsub => ax_b2L (pc + 1) ls st h (fun x y => some (x - y))
  | .lmul => ax_b2L (pc + 1) ls st h (fun x y => some (x * y))
  | .land => ax_b2L (pc + 1) ls st h (fun x y => some (x &&& y))
  | .ldiv => ax_b2L (pc + 1) ls st h (fun x y => bif y == 0 then none else some (x / y))
  | .lrem => ax_b2L (pc + 1) ls st h (fun x y => bif y == 0 then none else some (x - x / y * y))
  | .lcmp => (match st with | .long y :: .long x :: st => ax_nx (pc + 1) ls (.int (lg_cmp x y) :: st) h | _ => none)
  | .ineg => ax_u1 (pc + 1) ls st h (fun x => .int (-x))
  | .i2l => ax_u1 (pc + 1) ls st h (fun x => .long x.toInt64)
  | .i2b => ax_u1 (pc + 1) ls st h (fun x => .int x.toInt8.toInt32)
  | .i2s => ax_u1 (pc + 1) ls st h (fun x => .int x.toInt16.toInt32)
  | .i2c => ax_u1 (pc + 1) ls st h (fun x => .int (x.toUInt32 % 65536).toInt32)
  | .l2i => (match st with | .long x :: st => ax_nx (pc + 1) ls (.int x.toInt32 :: st) h | _ => none)
  | .dup => (match st with | v :: st => (bif v.category == 1 then ax_nx (pc + 1) ls (v :: v :: st) h else none) | _ => none)
  | .dup2 => (match st with | v :: w :: st => (bif v.category == 1 && w.category == 1 then ax_nx (pc + 1) ls (v :: w :: v :: w :: st) h else none) | _ => none)
  | .pop => (match st with | v :: st => (bif v.category == 1 then ax_nx (pc + 1) ls st h else none) | _ => none)
  | .goto _ => ax_nx I.2.1.1 (ax_keep I.2.1.2.1 ls) st h
  | .ifCond cd _ => ax_br1 pc I.2.1.1 ls st h (fun x => ax_cond cd x 0)
  | .if_icmp cd _ => ax_br2 pc I.2.1.1 ls st h (fun x y => ax_cond cd x y)
  | .tableswitch dflt lo hi offs => (match st with
      | .int x :: st => bif decide (x.toInt < lo) || decide (hi < x.toInt) then ax_nx ((pc : Int) + dflt).toNat ls st h else
          (match offs[(x.toInt - lo).toNat]? with | some o => ax_nx ((pc : Int) + o).toNat ls st h | none => none)
      | _ => none)
  | .getfield _ => (match st with
      | .ref a :: st => (match ax_getF h a I.2.1.1 I.2.1.2.1 with | some v => ax_nx (pc + 3) ls (v :: st) h | none => none)
      | _ => none)
  | .putfield _ => (match st with
      | v :: .ref a :: st => (match (bif ax_fitF I.2.2.1 v then ax_putF h a I.2.1.1 I.2.1.2.1 v else none) with | some h' => ax_nx (pc + 3) ls st h' | none => none)
      | _ => none)
  | .iaload => (match st with
      | .int i :: .ref a :: st => (match ax_getI h a 0 i with | some v => ax_nx (pc + 1) ls (.int v :: st) h | none => none)
      | _ => none)
  | .caload => (match st with
      | .int i :: .ref a :: st => (match ax_getI h a 2 i with | some v => ax_nx (pc + 1) ls (.int v :: st) h | none => none)
      | _ => none)
  | .laload => (match st with
      | .int i :: .ref a :: st => (match ax_getJ h a i with | some v => ax_nx (pc + 1) ls (.long v :: st) h | none => none)
      | _ => none)
  | .aaload => (match st with
      | .int i :: .ref a :: st => (match ax_getA h a i with | some v => ax_nx (pc + 1) ls (.ref v :: st) h | none => none)
      | _ => none)
  | .iastore => (match st with
      | .int v :: .int i :: .ref a :: st => (match ax_putI h a i v with | some h' => ax_nx (pc + 1) ls st h' | none => none)
      | _ => none)
  | .castore => (match st with
      | .int v :: .int i :: .ref a :: st => (match ax_putC h a i v with | some h' => ax_nx (pc + 1) ls st h' | none => none)
      | _ => none)
  | .lastore => (match st with
      | .long v :: .int i :: .ref a :: st => (match ax_putJ h a i v with | some h' => ax_nx (pc + 1) ls st h' | none => none)
      | _ => none)
  | .arraylength => (match st with
      | .ref a :: st => (match ax_lenA h a with | some v => ax_nx (pc + 1) ls (.int v :: st) h | none => none)
      | _ => none)
  | .invokevirtual _ => bif I.2.1.2.1 == 3 then ax_ix (pc + 3) ls st h else ax_inv pc I.2.1.1 ls st h
  | .invokestatic _ => bif I.2.1.2.1 == 1 then ax_cp (pc + 3) ls st h ax_cpyI else bif I.2.1.2.1 == 2 then ax_cp (pc + 3) ls st h ax_cpyJ else bif I.2.1.2.1 == 4 then ax_mm (pc + 3) ls st h ax_min else bif I.2.1.2.1 == 5 then ax_mm (pc + 3) ls st h ax_max else ax_ins pc I.2.1.1 ls st h
  | .ireturn => ax_rI I.2.1.1 st h
  | .lreturn => ax_rJ st h
  | .return_ => ax_rV st h
  | _ => none
def ax_run : Nat → Nat → Nat → ax_L → List Value → ax_H → Option ax_O
  | 0, _, _, _, _, _ => none
  | n + 1, mi, pc, ls, st, h => match ax_fet mi pc with
    | none => none
    | some I => match ax_stp I pc ls st h with
      | none => none
      | some (.inl q) => ax_run n mi q.1 q.2.1 q.2.2.1 q.2.2.2
      | some (.inr (.inl o)) => some o
      | some (.inr (.inr q)) => match ax_run n q.1 0 q.2.1 [] q.2.2.2.2.2 with
        | none => none
        | some o => ax_run n mi q.2.2.1 q.2.2.2.1 (o.1.toList ++ q.2.2.2.2.1) o.2
theorem ax_run_s {n mi pc : Nat} {ls : ax_L} {st : List Value} {h : ax_H} {o : ax_O} : ax_run n mi pc ls st h = some o → ax_run (n + 1) mi pc ls st h = some o := by
  induction n generalizing mi pc ls st h o with
  | zero => intro h; simp [ax_run] at h
  | succ n ih =>
    intro hr
    rw [ax_run] at hr ⊢
    cases hf : ax_fet mi pc with
    | none => rw [hf] at hr; simp at hr
    | some I =>
      rw [hf] at hr
      simp only at hr ⊢
      cases hs : ax_stp I pc ls st h with
      | none => rw [hs] at hr; simp at hr
      | some q =>
        rw [hs] at hr
        match q, hr with
        | .inl q, hr => exact ih hr
        | .inr (.inl o'), hr => exact hr
        | .inr (.inr q), hr =>
          simp only at hr ⊢
          cases hc : ax_run n q.1 0 q.2.1 [] q.2.2.2.2.2 with
          | none => rw [hc] at hr; simp at hr
          | some o2 =>
            rw [hc] at hr
            rw [ih hc]
            exact ih hr
theorem ax_run_le {n k mi pc : Nat} {ls : ax_L} {st : List Value} {h : ax_H} {o : ax_O} (hr : ax_run n mi pc ls st h = some o) (hk : n ≤ k) : ax_run k mi pc ls st h = some o := by
  induction hk with
  | refl => exact hr
  | step _ ih => exact ax_run_s ih
theorem ax_run_u {n k mi pc : Nat} {ls : ax_L} {st : List Value} {h : ax_H} {o o' : ax_O} (hr : ax_run n mi pc ls st h = some o) (hr' : ax_run k mi pc ls st h = some o') : o = o' := by
  have h1 := ax_run_le hr (Nat.le_max_left n k)
  have h2 := ax_run_le hr' (Nat.le_max_right n k)
  exact Option.some.inj (h1.symm.trans h2)
/-- what comes of it: an answer and the picture behind it, or nothing -/
noncomputable def ax_res (mi pc : Nat) (ls : ax_L) (st : List Value) (h : ax_H) : Option ax_O :=
  @dite (Option ax_O) (∃ o n, ax_run n mi pc ls st h = some o) (Classical.propDecidable _) (fun hx => some (Classical.choose hx)) (fun _ => none)
theorem ax_res_iff {mi pc : Nat} {ls : ax_L} {st : List Value} {h : ax_H} {o : ax_O} : ax_res mi pc ls st h = some o ↔ ∃ n, ax_run n mi pc ls st h = some o := by
  unfold ax_res
  by_cases hx : ∃ o n, ax_run n mi pc ls st h = some o
  · rw [dif_pos hx]
    obtain ⟨n, hn⟩ := Classical.choose_spec hx
    constructor
    · intro h; cases h; exact ⟨n, hn⟩
    · rintro ⟨k, hk⟩; rw [ax_run_u hn hk]
  · rw [dif_neg hx]
    constructor
    · intro h; cases h
    · rintro ⟨k, hk⟩; exact absurd ⟨o, k, hk⟩ hx
theorem ax_ext {a b : Option ax_O} (h : ∀ o, a = some o ↔ b = some o) : a = b := by
  cases a with
  | none => cases b with
    | none => rfl
    | some o => exact ((h o).mpr rfl)
  | some o => exact ((h o).mp rfl).symm
theorem ax_res_0 {mi pc : Nat} {ls : ax_L} {st : List Value} {h : ax_H} {I : ax_I} (hf : ax_fet mi pc = some I) (hs : ax_stp I pc ls st h = none) : ax_res mi pc ls st h = none := by
  refine ax_ext (fun o => ⟨fun hx => ?_, fun hx => by cases hx⟩)
  obtain ⟨n, hn⟩ := ax_res_iff.mp hx
  cases n with
  | zero => simp [ax_run] at hn
  | succ n => rw [ax_run, hf] at hn; simp only [hs] at hn; cases hn
theorem ax_res_n {mi pc : Nat} {ls : ax_L} {st : List Value} {h : ax_H} {I : ax_I} {q : ax_N} (hf : ax_fet mi pc = some I) (hs : ax_stp I pc ls st h = some (.inl q)) : ax_res mi pc ls st h = ax_res mi q.1 q.2.1 q.2.2.1 q.2.2.2 := by
  refine ax_ext (fun o => ?_)
  rw [ax_res_iff, ax_res_iff]
  constructor
  · rintro ⟨n, hn⟩
    cases n with
    | zero => simp [ax_run] at hn
    | succ n => rw [ax_run, hf] at hn; simp only [hs] at hn; exact ⟨n, hn⟩
  · rintro ⟨n, hn⟩
    refine ⟨n + 1, ?_⟩
    rw [ax_run, hf]; simp only [hs]; exact hn
theorem ax_res_r {mi pc : Nat} {ls : ax_L} {st : List Value} {h : ax_H} {I : ax_I} {o : ax_O} (hf : ax_fet mi pc = some I) (hs : ax_stp I pc ls st h = some (.inr (.inl o))) : ax_res mi pc ls st h = some o := by
  rw [ax_res_iff]
  refine ⟨1, ?_⟩
  rw [ax_run, hf]; simp only [hs]
/-- what goes on behind a value, a heap, a call -/
noncomputable def ax_bV (v : Option Value) (mi pc : Nat) (ls : ax_L) (st : List Value) (h : ax_H) : Option ax_O := match v with
  | some v => ax_res mi pc ls (v :: st) h
  | none => none
noncomputable def ax_bI (v : Option Int32) (mi pc : Nat) (ls : ax_L) (st : List Value) (h : ax_H) : Option ax_O := match v with
  | some v => ax_res mi pc ls (.int v :: st) h
  | none => none
noncomputable def ax_bJ (v : Option Int64) (mi pc : Nat) (ls : ax_L) (st : List Value) (h : ax_H) : Option ax_O := match v with
  | some v => ax_res mi pc ls (.long v :: st) h
  | none => none
noncomputable def ax_bA (v : Option Nat) (mi pc : Nat) (ls : ax_L) (st : List Value) (h : ax_H) : Option ax_O := match v with
  | some v => ax_res mi pc ls (.ref v :: st) h
  | none => none
noncomputable def ax_bH (h : Option ax_H) (mi pc : Nat) (ls : ax_L) (st : List Value) : Option ax_O := match h with
  | some h => ax_res mi pc ls st h
  | none => none
noncomputable def ax_bR (o : Option ax_O) (mi pc : Nat) (ls : ax_L) (st : List Value) : Option ax_O := match o with
  | some o => ax_res mi pc ls (o.1.toList ++ st) o.2
  | none => none
theorem ax_res_c {mi pc : Nat} {ls : ax_L} {st : List Value} {h : ax_H} {I : ax_I} {q : Nat × ax_L × ax_N} (hf : ax_fet mi pc = some I) (hs : ax_stp I pc ls st h = some (.inr (.inr q))) :
    ax_res mi pc ls st h = ax_bR (ax_res q.1 0 q.2.1 [] q.2.2.2.2.2) mi q.2.2.1 q.2.2.2.1 q.2.2.2.2.1 := by
  refine ax_ext (fun o => ?_)
  rw [ax_res_iff]
  constructor
  · rintro ⟨n, hn⟩
    cases n with
    | zero => simp [ax_run] at hn
    | succ n =>
      rw [ax_run, hf] at hn; simp only [hs] at hn
      cases hc : ax_run n q.1 0 q.2.1 [] q.2.2.2.2.2 with
      | none => rw [hc] at hn; simp at hn
      | some o2 =>
        rw [hc] at hn
        rw [ax_res_iff.mpr ⟨n, hc⟩]
        exact ax_res_iff.mpr ⟨n, hn⟩
  · intro hx
    cases hc : ax_res q.1 0 q.2.1 [] q.2.2.2.2.2 with
    | none => rw [hc] at hx; simp [ax_bR] at hx
    | some o2 =>
      rw [hc] at hx
      obtain ⟨n1, h1⟩ := ax_res_iff.mp hc
      obtain ⟨n2, h2⟩ := ax_res_iff.mp (show ax_res mi q.2.2.1 q.2.2.2.1 (o2.1.toList ++ q.2.2.2.2.1) o2.2 = some o from hx)
      refine ⟨max n1 n2 + 1, ?_⟩
      rw [ax_run, hf]; simp only [hs]
      rw [ax_run_le h1 (Nat.le_max_left n1 n2)]
      exact ax_run_le h2 (Nat.le_max_right n1 n2)
