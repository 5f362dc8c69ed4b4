/-! ===== the constructors' machine, and that the machine follows it ===== -/
def bx_dec (y pc : Nat) (I : Instr × Nat) : Bool := match decode (bx_b y) pc with
  | .ok q => decide (q = I)
  | .error _ => false
theorem bx_dec_i {y pc : Nat} {I : Instr × Nat} (h : bx_dec y pc I = true) : decode (bx_b y) pc = .ok I := by
  unfold bx_dec at h
  cases hd : decode (bx_b y) pc with
  | error _ => rw [hd] at h; cases h
  | ok q => rw [hd] at h; rw [of_decide_eq_true h]
def bx_def (c : Nat) : List Value := (List.range (ax_nf c)).map (fun j => defaultValue (ax_tyl.getD c tyX0 j))
def bx_room (y k n dk dn : Nat) : Bool := Nat.ble (k + dk) (bx_mc y) && Nat.ble (n + dn) (bx_ms y)
theorem bx_room_i {y k n dk dn : Nat} (h : bx_room y k n dk dn = true) : k + dk ≤ bx_mc y ∧ n + dn ≤ bx_ms y := by
  unfold bx_room at h
  rw [Bool.and_eq_true] at h
  exact ⟨Nat.le_of_ble_eq_true h.1, Nat.le_of_ble_eq_true h.2⟩
def bx_fit (ty : FieldType) (v : Value) : Bool := match v with
  | .int x => decide (ty = .int) || (decide (ty = .boolean) && decide (x = 0))
  | .ref _ => fits ty (.ref 0)
  | _ => false
def bx_n0 (v : Int32) : Bool := decide (0 ≤ v) && Nat.ble v.toNatClampNeg 1000
theorem bx_n0_i {v : Int32} (h : bx_n0 v = true) : ¬ v < 0 ∧ v.toNatClampNeg ≤ 1000 := by
  unfold bx_n0 at h
  rw [Bool.and_eq_true] at h
  exact ⟨Int32.not_lt.mpr (of_decide_eq_true h.1), Nat.le_of_ble_eq_true h.2⟩
def bx_tgt (pc t : Nat) (off : Int) : Bool := decide ((pc : Int) + off = (t : Int))
def bx_inr (i : Int32) (N : Nat) : Bool := decide (0 ≤ i) && Nat.ble (i.toNatClampNeg + 1) N
theorem bx_inr_i {i : Int32} {N : Nat} (h : bx_inr i N = true) : vp_in i N ∧ i.toNatClampNeg < N := by
  unfold bx_inr at h
  rw [Bool.and_eq_true] at h
  have h1 := Int32.not_lt.mpr (of_decide_eq_true h.1)
  have h2 : i.toNatClampNeg + 1 ≤ N := Nat.le_of_ble_eq_true h.2
  refine ⟨?_, h2⟩
  rintro (h3 | h3)
  · exact h1 h3
  · omega

abbrev bx_F : Type := Nat → Option bx_H
def bx_shv (a : Nat) : Value → Value
  | .ref k => .ref (a + k)
  | v => v
def bx_sh (a : Nat) (e : bx_E) : bx_E := (e.1, e.2.map (bx_shv a))
def bx_p0 (y : Nat) (o : bx_Op) (pc : Nat) (ls : ax_L) (st : List Value) (h : bx_H) (k n : Nat) : Option bx_S := (bif bx_dec y pc (.aload_n 0, 1) then (match (ls[0]? : Option (Option Value)) with | some (some (Value.ref a)) => some (pc + 1, ls, .ref a :: st, h, k, n) | _ => none) else none)
def bx_p1 (y : Nat) (o : bx_Op) (pc : Nat) (ls : ax_L) (st : List Value) (h : bx_H) (k n : Nat) : Option bx_S := (bif bx_dec y pc (.iconst o.2.2, 1) then some (pc + 1, ls, .int (Int32.ofInt o.2.2) :: st, h, k, n) else none)
def bx_p2 (y : Nat) (o : bx_Op) (pc : Nat) (ls : ax_L) (st : List Value) (h : bx_H) (k n : Nat) : Option bx_S := (bif bx_dec y pc (.bipush o.2.2, 2) then some (pc + 2, ls, .int (Int8.ofInt o.2.2).toInt32 :: st, h, k, n) else none)
def bx_p3 (y : Nat) (o : bx_Op) (pc : Nat) (ls : ax_L) (st : List Value) (h : bx_H) (k n : Nat) : Option bx_S := (bif bx_dec y pc (.sipush o.2.2, 3) then some (pc + 3, ls, .int (Int16.ofInt o.2.2).toInt32 :: st, h, k, n) else none)
def bx_p4 (y : Nat) (o : bx_Op) (pc : Nat) (ls : ax_L) (st : List Value) (h : bx_H) (k n : Nat) : Option bx_S := (bif bx_dec y pc (.dup, 1) then (match st with | .ref a :: st => some (pc + 1, ls, .ref a :: .ref a :: st, h, k, n) | _ => none) else none)
def bx_p5 (y : Nat) (o : bx_Op) (pc : Nat) (ls : ax_L) (st : List Value) (h : bx_H) (k n : Nat) : Option bx_S := (bif bx_dec y pc (.newarray .int, 2) then (match st with | .int v :: st => (bif bx_n0 v && bx_room y k n 1 v.toNatClampNeg then some (pc + 2, ls, .ref h.length :: st, h ++ [(10, List.replicate v.toNatClampNeg (.int 0))], k + 1, n + v.toNatClampNeg) else none) | _ => none) else none)
def bx_p6 (y : Nat) (o : bx_Op) (pc : Nat) (ls : ax_L) (st : List Value) (h : bx_H) (k n : Nat) : Option bx_S := (bif bx_dec y pc (.newarray .long, 2) then (match st with | .int v :: st => (bif bx_n0 v && bx_room y k n 1 v.toNatClampNeg then some (pc + 2, ls, .ref h.length :: st, h ++ [(11, List.replicate v.toNatClampNeg (.long 0))], k + 1, n + v.toNatClampNeg) else none) | _ => none) else none)
def bx_p7 (y : Nat) (o : bx_Op) (pc : Nat) (ls : ax_L) (st : List Value) (h : bx_H) (k n : Nat) : Option bx_S := (bif bx_dec y pc (.newarray .char, 2) then (match st with | .int v :: st => (bif bx_n0 v && bx_room y k n 1 v.toNatClampNeg then some (pc + 2, ls, .ref h.length :: st, h ++ [(12, List.replicate v.toNatClampNeg (.int 0))], k + 1, n + v.toNatClampNeg) else none) | _ => none) else none)
def bx_p8 (y : Nat) (o : bx_Op) (pc : Nat) (ls : ax_L) (st : List Value) (h : bx_H) (k n : Nat) : Option bx_S := (bif bx_dec y pc (.anewarray o.2.1, 3) && decide ((y, o.2.1, 2) ∈ bx_lC) then (match st with | .int v :: st => (bif bx_n0 v && bx_room y k n 1 v.toNatClampNeg then some (pc + 3, ls, .ref h.length :: st, h ++ [(13, List.replicate v.toNatClampNeg .null)], k + 1, n + v.toNatClampNeg) else none) | _ => none) else none)
def bx_p9 (y : Nat) (o : bx_Op) (pc : Nat) (ls : ax_L) (st : List Value) (h : bx_H) (k n : Nat) : Option bx_S := (bif bx_dec y pc (.anewarray o.2.1, 3) && decide ((y, o.2.1, 3) ∈ bx_lC) then (match st with | .int v :: st => (bif bx_n0 v && bx_room y k n 1 v.toNatClampNeg then some (pc + 3, ls, .ref h.length :: st, h ++ [(14, List.replicate v.toNatClampNeg .null)], k + 1, n + v.toNatClampNeg) else none) | _ => none) else none)
def bx_p10 (y : Nat) (o : bx_Op) (pc : Nat) (ls : ax_L) (st : List Value) (h : bx_H) (k n : Nat) : Option bx_S := (bif bx_dec y pc (.new o.2.1, 3) && (decide ((y, o.2.1, o.2.2.toNat) ∈ bx_lC) && bx_room y k n 1 (ax_nf o.2.2.toNat)) then some (pc + 3, ls, .ref h.length :: st, h ++ [(o.2.2.toNat, bx_def o.2.2.toNat)], k + 1, n + ax_nf o.2.2.toNat) else none)
def bx_p11 (y : Nat) (o : bx_Op) (pc : Nat) (ls : ax_L) (st : List Value) (h : bx_H) (k n : Nat) : Option bx_S := (bif bx_dec y pc (.invokespecial o.2.1, 3) && decide ((y, o.2.1) ∈ bx_lO) then (match st with | [.ref _] => some (pc + 3, ls, [], h, k, n) | _ => none) else none)
def bx_p12 (ef : bx_F) (y : Nat) (o : bx_Op) (pc : Nat) (ls : ax_L) (st : List Value) (h : bx_H) (k n : Nat) : Option bx_S := (bif bx_dec y pc (.invokespecial o.2.1, 3) && (decide ((y, o.2.1, o.2.2.toNat) ∈ bx_lN) && (bx_room y k n (bx_mc o.2.2.toNat) (bx_ms o.2.2.toNat) && (Nat.ble (bx_fr o.2.2.toNat + 1) (bx_fr y) && Nat.ble (8 + (bx_nL o.2.2.toNat + 11) + bx_lo o.2.2.toNat) (bx_lo y)))) then (match st with | .ref a :: st => (match ef o.2.2.toNat, h[a]? with | some r, some g => (bif (ax_small st && Nat.beq r.length (1 + bx_mc o.2.2.toNat)) && (Nat.beq (a + 1) h.length && (Nat.beq g.1 o.2.2.toNat && decide (g.2 = bx_def o.2.2.toNat))) then some (pc + 3, ls, st, h.take a ++ r.map (bx_sh a), k + bx_mc o.2.2.toNat, n + bx_ms o.2.2.toNat) else none) | _, _ => none) | _ => none) else none)
def bx_p13 (y : Nat) (o : bx_Op) (pc : Nat) (ls : ax_L) (st : List Value) (h : bx_H) (k n : Nat) : Option bx_S := (bif bx_dec y pc (.putfield o.2.1, 3) && (decide ((y, o.2.1, y, o.2.2.toNat) ∈ ax_lF) && Nat.ble (o.2.2.toNat + 1) (ax_nf y)) then (match st with | v :: .ref a :: st => (match h[a]? with | some (t, fs) => (bif Nat.beq t y && (Nat.ble (o.2.2.toNat + 1) fs.length && bx_fit (ax_tyl.getD y tyX0 o.2.2.toNat) v) then some (pc + 3, ls, st, h.set a (y, fs.set o.2.2.toNat v), k, n) else none) | none => none) | _ => none) else none)
def bx_p14 (y : Nat) (o : bx_Op) (pc : Nat) (ls : ax_L) (st : List Value) (h : bx_H) (k n : Nat) : Option bx_S := (bif bx_dec y pc (.getfield o.2.1, 3) && (decide ((y, o.2.1, y, o.2.2.toNat) ∈ ax_lF) && Nat.ble (o.2.2.toNat + 1) (ax_nf y)) then (match st with | .ref a :: st => (match h[a]? with | some (t, fs) => (bif Nat.beq t y then (match fs[o.2.2.toNat]? with | some v => some (pc + 3, ls, v :: st, h, k, n) | none => none) else none) | none => none) | _ => none) else none)
def bx_p15 (y : Nat) (o : bx_Op) (pc : Nat) (ls : ax_L) (st : List Value) (h : bx_H) (k n : Nat) : Option bx_S := (bif bx_dec y pc (.iastore, 1) then (match st with | .int x :: .int i :: .ref a :: st => (match h[a]? with | some (t, vs) => (bif Nat.beq t 10 && bx_inr i vs.length then some (pc + 1, ls, st, h.set a (10, vs.set i.toNatClampNeg (.int x)), k, n) else none) | none => none) | _ => none) else none)
def bx_p16 (y : Nat) (o : bx_Op) (pc : Nat) (ls : ax_L) (st : List Value) (h : bx_H) (k n : Nat) : Option bx_S := (bif bx_dec y pc (.aastore, 1) then (match st with | .ref v :: .int i :: .ref a :: st => (match h[a]?, h[v]? with | some (t, vs), some (u, fs) => (bif (Nat.beq t 13 && Nat.beq u 2) && bx_inr i vs.length then some (pc + 1, ls, st, h.set a (13, vs.set i.toNatClampNeg (.ref v)), k, n) else none) | _, _ => none) | _ => none) else none)
def bx_p17 (y : Nat) (o : bx_Op) (pc : Nat) (ls : ax_L) (st : List Value) (h : bx_H) (k n : Nat) : Option bx_S := (bif bx_dec y pc (.aastore, 1) then (match st with | .ref v :: .int i :: .ref a :: st => (match h[a]?, h[v]? with | some (t, vs), some (u, fs) => (bif (Nat.beq t 14 && Nat.beq u 3) && bx_inr i vs.length then some (pc + 1, ls, st, h.set a (14, vs.set i.toNatClampNeg (.ref v)), k, n) else none) | _, _ => none) | _ => none) else none)
def bx_p18 (y : Nat) (o : bx_Op) (pc : Nat) (ls : ax_L) (st : List Value) (h : bx_H) (k n : Nat) : Option bx_S := (bif bx_dec y pc (.istore_n 1, 1) then (match st with | .int x :: st => (match ax_st1 ls 1 (.int x) with | some ls1 => some (pc + 1, ls1, st, h, k, n) | none => none) | _ => none) else none)
def bx_p19 (y : Nat) (o : bx_Op) (pc : Nat) (ls : ax_L) (st : List Value) (h : bx_H) (k n : Nat) : Option bx_S := (bif bx_dec y pc (.iload_n 1, 1) then (match (ls[1]? : Option (Option Value)) with | some (some (Value.int x)) => some (pc + 1, ls, .int x :: st, h, k, n) | _ => none) else none)
def bx_p20 (y : Nat) (o : bx_Op) (pc : Nat) (ls : ax_L) (st : List Value) (h : bx_H) (k n : Nat) : Option bx_S := (bif bx_dec y pc (.if_icmp .ge o.2.2, 3) && bx_tgt pc o.2.1 o.2.2 then (match st with | .int b :: .int a :: st => some (bif decide (b ≤ a) then o.2.1 else pc + 3, ls, st, h, k, n) | _ => none) else none)
def bx_p21 (y : Nat) (o : bx_Op) (pc : Nat) (ls : ax_L) (st : List Value) (h : bx_H) (k n : Nat) : Option bx_S := (bif bx_dec y pc (.iinc 1 1, 3) then (match (ls[1]? : Option (Option Value)) with | some (some (Value.int x)) => (match ax_st1 ls 1 (.int (x + 1)) with | some ls1 => some (pc + 3, ls1, st, h, k, n) | none => none) | _ => none) else none)
def bx_p22 (y : Nat) (o : bx_Op) (pc : Nat) (ls : ax_L) (st : List Value) (h : bx_H) (k n : Nat) : Option bx_S := (bif bx_dec y pc (.goto o.2.2, 3) && bx_tgt pc o.2.1 o.2.2 then some (o.2.1, ls, st, h, k, n) else none)
def bx_op (ef : bx_F) (y : Nat) (o : bx_Op) (pc : Nat) (ls : ax_L) (st : List Value) (h : bx_H) (k n : Nat) : Option bx_S := match o.1 with
  | 0 => bx_p0 y o pc ls st h k n
  | 1 => bx_p1 y o pc ls st h k n
  | 2 => bx_p2 y o pc ls st h k n
  | 3 => bx_p3 y o pc ls st h k n
  | 4 => bx_p4 y o pc ls st h k n
  | 5 => bx_p5 y o pc ls st h k n
  | 6 => bx_p6 y o pc ls st h k n
  | 7 => bx_p7 y o pc ls st h k n
  | 8 => bx_p8 y o pc ls st h k n
  | 9 => bx_p9 y o pc ls st h k n
  | 10 => bx_p10 y o pc ls st h k n
  | 11 => bx_p11 y o pc ls st h k n
  | 12 => bx_p12 ef y o pc ls st h k n
  | 13 => bx_p13 y o pc ls st h k n
  | 14 => bx_p14 y o pc ls st h k n
  | 15 => bx_p15 y o pc ls st h k n
  | 16 => bx_p16 y o pc ls st h k n
  | 17 => bx_p17 y o pc ls st h k n
  | 18 => bx_p18 y o pc ls st h k n
  | 19 => bx_p19 y o pc ls st h k n
  | 20 => bx_p20 y o pc ls st h k n
  | 21 => bx_p21 y o pc ls st h k n
  | 22 => bx_p22 y o pc ls st h k n
  | _ => none
def bx_run (ef : bx_F) (y : Nat) : List bx_Op → Nat → ax_L → List Value → bx_H → Nat → Nat → Option bx_H
  | [], pc, _, st, h, k, n => (bif bx_dec y pc (.return_, 1) && bx_room y k n 0 0 then (match st with | [] => some h | _ => none) else none)
  | o :: t, pc, ls, st, h, k, n => (match bx_op ef y o pc ls st h k n with | some q => bx_run ef y t q.1 q.2.1 q.2.2.1 q.2.2.2.1 q.2.2.2.2.1 q.2.2.2.2.2 | none => none)
theorem bx_if {α : Type} {b : Bool} {x : Option α} {q : α} (h : (bif b then x else none) = some q) : b = true ∧ x = some q := by
  cases b
  · cases h
  · exact ⟨rfl, h⟩
theorem bx_c_o {y : Nat} (h : y < 7) (fs : List Value) : bx_c (y, fs) = .inr (y, fs) := by
  rcases (show y = 0 ∨ y = 1 ∨ y = 2 ∨ y = 3 ∨ y = 4 ∨ y = 5 ∨ y = 6 by omega) with rfl | rfl | rfl | rfl | rfl | rfl | rfl <;> rfl
theorem bx_fit_i {ty : FieldType} {v : Value} (γ : Nat → Nat) (h : bx_fit ty v = true) : narrow ty (ax_cv γ v) = ax_cv γ v ∧ fits ty (ax_cv γ v) = true := by
  cases v with
  | int x =>
    simp only [bx_fit, Bool.or_eq_true, Bool.and_eq_true, decide_eq_true_eq] at h
    rcases h with rfl | ⟨rfl, rfl⟩
    · exact ⟨rfl, rfl⟩
    · exact ax_nar_b (Or.inl rfl)
  | ref a =>
    have h : fits ty (.ref 0) = true := h
    cases ty <;> first | exact ⟨rfl, rfl⟩ | cases h
  | _ => cases h
theorem bx_lC_lt : ∀ q ∈ bx_lC, q.2.2 < 7 := by decide
theorem bx_lN_lt : ∀ q ∈ bx_lN, q.2.2 < 7 := by decide
theorem bx_decl : ∀ y, y < 7 → ∀ b, b < ax_nf y → (ax_T y b).1 = ax_cn y := by decide +kernel
theorem bx_lo_ok : ∀ y, y < 7 → 1 ≤ bx_fr y ∧ 12 ≤ bx_lo y := by decide
theorem bx_def_v {c : Nat} (j : Nat) (hj : j < ax_nf c) : defaultValue (ax_tyl.getD c tyX0 j) = vp_V (bx_def c) j := by
  unfold vp_V bx_def
  generalize ax_tyl.getD c tyX0 = f
  rw [List.getD_eq_getElem?_getD, List.getElem?_map, List.getElem?_range hj]
  rfl
theorem bx_def_m {c : Nat} (h : c < 7) (γ : Nat → Nat) : (bx_def c).map (ax_cv γ) = bx_def c := by
  rcases (show c = 0 ∨ c = 1 ∨ c = 2 ∨ c = 3 ∨ c = 4 ∨ c = 5 ∨ c = 6 by omega) with rfl | rfl | rfl | rfl | rfl | rfl | rfl <;> rfl
theorem bx_getD_set {vs : List Value} {i j : Nat} {x : Value} (hi : i < vs.length) : (vs.set i x).getD j .null = if j = i then x else vs.getD j .null := by
  rw [List.getD_eq_getElem?_getD, List.getD_eq_getElem?_getD, List.getElem?_set]
  by_cases h : i = j
  · subst h
    rw [if_pos rfl, if_pos hi, if_pos rfl]; rfl
  · rw [if_neg h, if_neg (fun e => h e.symm)]
theorem bx_size {p : Program} {l : Launch} {e : Env} {R : Room} {s : State} {m : MethodId} {args : Array Value} {below : List Frame} {meth : Method} {c : Code} {H : Heap} {locs : List Loc} {cells slots : Nat} {Q : State → Prop} {g : JFrame}
    (kk : H.size ≤ s.heap.size + cells → W p l e R s m args below meth c H locs cells slots Q g) : W p l e R s m args below meth c H locs cells slots Q g := fun T hT X => kk (by
      have h1 := X.same.2.2.1
      rw [← hT]
      exact h1) T hT X
def bx_Q (D : va_G) (tc : Nat → ClassId) (z : Nat) (h' : bx_H) : Array Value → State → Outcome → State → Prop := fun _ st oc t => oc = .returned none ∧ va_P D ax_cl (bx_w tc z h') t.heap ∧ va_F (fun q => z ≤ q) st t
def bx_Pc (D : va_G) (tc : Nat → ClassId) (z : Nat) (h : bx_H) (av : List Value) : Array Value → State → Prop :=
  va_Pc (av.map (ax_cv (bx_g z))) (fun U => U.heap.size = z + h.length ∧ va_P D ax_cl (bx_w tc z h) U.heap ∧ bx_Wo D tc U)
theorem bx_Pc_blind {D : va_G} {tc : Nat → ClassId} {z : Nat} {h : bx_H} {av : List Value} : FrameBlind (bx_Pc D tc z h av) := by
  intro a U g mk q
  obtain ⟨q0, q1, q2, q3⟩ := q
  exact ⟨q0, q1, q2, q3.same⟩
theorem bx_sh_g {vs : List Value} {a j : Nat} {β : Type} {f : Value → β} {f' : Value → β} (h : ∀ v, f (bx_shv a v) = f' v) (h0 : f .null = f' .null) : f ((vs.map (bx_shv a)).getD j .null) = f' (vs.getD j .null) := by
  rw [List.getD_eq_getElem?_getD, List.getD_eq_getElem?_getD, List.getElem?_map]
  cases vs[j]? with
  | none => exact h0
  | some v => exact h v
theorem bx_sh_ce {tc : Nat → ClassId} {z a : Nat} (e : bx_E) : ax_ce tc (bx_g z) (bx_c (bx_sh a e)) = ax_ce tc (bx_g (z + a)) (bx_c e) := by
  obtain ⟨t, vs⟩ := e
  have g1 : ∀ j, bx_vi ((vs.map (bx_shv a)).getD j .null) = bx_vi (vs.getD j .null) := fun j => bx_sh_g (fun v => by cases v <;> rfl) rfl
  have g2 : ∀ j, bx_vj ((vs.map (bx_shv a)).getD j .null) = bx_vj (vs.getD j .null) := fun j => bx_sh_g (fun v => by cases v <;> rfl) rfl
  have g3 : ∀ j, (bx_vr ((vs.map (bx_shv a)).getD j .null)).map (bx_g z) = (bx_vr (vs.getD j .null)).map (bx_g (z + a)) := fun j => bx_sh_g (f := fun v => (bx_vr v).map (bx_g z)) (f' := fun v => (bx_vr v).map (bx_g (z + a))) (fun v => by
    cases v with
    | ref k => show some (z + (a + k)) = some (z + a + k); rw [Nat.add_assoc]
    | _ => rfl) rfl
  unfold bx_c bx_sh
  dsimp only
  cases Nat.beq t 10 with
  | true => simp only [cond_true, ax_ce, List.length_map, g1]
  | false =>
    cases Nat.beq t 11 with
    | true => simp only [cond_true, cond_false, ax_ce, List.length_map, g2]
    | false =>
      cases Nat.beq t 12 with
      | true => simp only [cond_true, cond_false, ax_ce, List.length_map, g1]
      | false =>
        cases Nat.beq t 13 with
        | true => simp only [cond_true, cond_false, ax_ce, List.length_map, g3]
        | false =>
          cases Nat.beq t 14 with
          | true => simp only [cond_true, cond_false, ax_ce, List.length_map, g3]
          | false =>
            show (Sum.inr (t, (vs.map (bx_shv a)).map (ax_cv (bx_g z))) : va_E) = .inr (t, vs.map (ax_cv (bx_g (z + a))))
            rw [List.map_map]
            congr 3
            funext v
            cases v with
            | ref k => show Value.ref (z + (a + k)) = .ref (z + a + k); rw [Nat.add_assoc]
            | _ => rfl
theorem bx_glue {D : va_G} {tc : Nat → ClassId} {z a : Nat} {h r : bx_H} {H H1 : Heap} (hP : va_P D ax_cl (bx_w tc z h) H) (hP1 : va_P D ax_cl (bx_w tc (z + a) r) H1) (ha : a ≤ h.length) (hk : ∀ q, q < z + a → H1[q]? = H[q]?) : va_P D ax_cl (bx_w tc z (h.take a ++ r.map (bx_sh a))) H1 := by
  intro i q hq
  obtain ⟨e, he, rfl⟩ := bx_w_of hq
  have hlt : (h.take a).length = a := by rw [List.length_take]; omega
  by_cases hi : i < a
  · rw [List.getElem?_append_left (by rw [hlt]; exact hi), List.getElem?_take_of_lt hi] at he
    have h1 := hP _ _ (bx_w_at he)
    have h2 : va_P D ax_cl [(z + i, ax_ce tc (bx_g z) (bx_c e))] H := fun k q hq => by
      cases k with
      | zero => cases hq; exact h1
      | succ k => simp at hq
    have h3 := h2.kept (H1 := H1) (fun k x hx => by
      cases k with
      | zero => cases hx; exact hk _ (by show z + i < z + a; omega)
      | succ k => simp at hx)
    exact h3 0 _ rfl
  · rw [List.getElem?_append_right (by rw [hlt]; omega), hlt, List.getElem?_map] at he
    cases hr : r[i - a]? with
    | none => rw [hr] at he; cases he
    | some e0 =>
      rw [hr] at he
      cases he
      have h1 := hP1 _ _ (bx_w_at hr)
      rw [bx_sh_ce, show z + i = z + a + (i - a) by omega]
      exact h1
section BXS
variable {l : Launch} {D : va_G} {tc : Nat → ClassId} {z : Nat} {p : Program} {e : Env} {s : State} {m : MethodId} {args : Array Value} {below : List Frame} {meth : Method} {c : Code} {y : Nat} {h' : bx_H}
def bx_St (D : va_G) (tc : Nat → ClassId) (z : Nat) (p : Program) (s : State) (m : MethodId) (args : Array Value) (meth : Method) (c : Code) (y : Nat) : Prop :=
  (p.tables.exec = Jvm.exec ∧ c.code = bx_b y ∧ meth.sig.returnType = none ∧ c.maxLocals = bx_nL y ∧ s.vm.findClass (ax_cn y) = some m.cls ∧ (∀ w ∈ bx_ws y, w.before args s = true) ∧ meth.locks = false ∧ meth.name = "<init>") ∧ bx_Wo D tc s ∧ y < 7 ∧ z ≤ s.heap.size
def bx_G (l : Launch) (D : va_G) (tc : Nat → ClassId) (z : Nat) (p : Program) (e : Env) (s : State) (m : MethodId) (args : Array Value) (below : List Frame) (meth : Method) (c : Code) (y : Nat) (h' : bx_H) (q : bx_S) : Prop :=
  s.heap.size + q.2.2.2.2.1 = z + q.2.2.2.1.length → ∀ (H : Heap) (locs : List Loc) (la : Array Slot), va_P D ax_cl (bx_w tc z q.2.2.2.1) H → va_S (fun a => z ≤ a) s.heap H locs → ax_Ls (bx_g z) la (bx_nL y) q.2.1 → W p l e (bx_rm y) s m args below meth c H locs q.2.2.2.2.1 q.2.2.2.2.2 (MQ below (bx_Q D tc z h') args s (bx_mc y) (bx_ms y) (fun a => z ≤ a)) (F0 m q.1 la (q.2.2.1.map (ax_cv (bx_g z))))
variable {o : bx_Op} {pc : Nat} {ls : ax_L} {st : List Value} {h : bx_H} {k n : Nat} {q : bx_S}
theorem bx_hw (S : bx_St D tc z p s m args meth c y) {w : Cond} (hw : w ∈ ax_gw) : w.before args s = true := S.1.2.2.2.2.2.1 w (List.mem_cons_of_mem _ hw)
theorem bx_hA (S : bx_St D tc z p s m args meth c y) : ∀ q, s.heap.size ≤ q → z ≤ q := fun _ hq => Nat.le_trans S.2.2.2 hq

theorem bx_t0 (S : bx_St D tc z p s m args meth c y) (hs : bx_p0 y o pc ls st h k n = some q) (K : bx_G l D tc z p e s m args below meth c y h' q) : bx_G l D tc z p e s m args below meth c y h' (pc, ls, st, h, k, n) := by
  unfold bx_p0 at hs
  replace hs := bx_if hs
  obtain ⟨hd, hs⟩ := hs
  split at hs
  · rename_i a ha
    cases hs
    intro hI H locs la hP hS hL
    exact lv_aload_n S.1.1 S.1.2.1 (bx_dec_i hd) rfl (hL.2.2.2 0 _ ha).1 (K hI H locs la hP hS hL)
  · cases hs
theorem bx_t1 (S : bx_St D tc z p s m args meth c y) (hs : bx_p1 y o pc ls st h k n = some q) (K : bx_G l D tc z p e s m args below meth c y h' q) : bx_G l D tc z p e s m args below meth c y h' (pc, ls, st, h, k, n) := by
  unfold bx_p1 at hs
  replace hs := bx_if hs
  obtain ⟨hd, hs⟩ := hs
  cases hs
  intro hI H locs la hP hS hL
  exact lv_iconst (v := Int32.ofInt o.2.2) S.1.1 S.1.2.1 (bx_dec_i hd) rfl (K hI H locs la hP hS hL)
theorem bx_t2 (S : bx_St D tc z p s m args meth c y) (hs : bx_p2 y o pc ls st h k n = some q) (K : bx_G l D tc z p e s m args below meth c y h' q) : bx_G l D tc z p e s m args below meth c y h' (pc, ls, st, h, k, n) := by
  unfold bx_p2 at hs
  replace hs := bx_if hs
  obtain ⟨hd, hs⟩ := hs
  cases hs
  intro hI H locs la hP hS hL
  exact lv_bipush (v := (Int8.ofInt o.2.2).toInt32) S.1.1 S.1.2.1 (bx_dec_i hd) rfl (K hI H locs la hP hS hL)
theorem bx_t3 (S : bx_St D tc z p s m args meth c y) (hs : bx_p3 y o pc ls st h k n = some q) (K : bx_G l D tc z p e s m args below meth c y h' q) : bx_G l D tc z p e s m args below meth c y h' (pc, ls, st, h, k, n) := by
  unfold bx_p3 at hs
  replace hs := bx_if hs
  obtain ⟨hd, hs⟩ := hs
  cases hs
  intro hI H locs la hP hS hL
  exact lv_sipush (v := (Int16.ofInt o.2.2).toInt32) S.1.1 S.1.2.1 (bx_dec_i hd) rfl (K hI H locs la hP hS hL)
theorem bx_t4 (S : bx_St D tc z p s m args meth c y) (hs : bx_p4 y o pc ls st h k n = some q) (K : bx_G l D tc z p e s m args below meth c y h' q) : bx_G l D tc z p e s m args below meth c y h' (pc, ls, st, h, k, n) := by
  unfold bx_p4 at hs
  replace hs := bx_if hs
  obtain ⟨hd, hs⟩ := hs
  split at hs
  · cases hs
    intro hI H locs la hP hS hL
    exact lv_dup S.1.1 S.1.2.1 (bx_dec_i hd) rfl (K hI H locs la hP hS hL)
  · cases hs
theorem bx_t5 (S : bx_St D tc z p s m args meth c y) (hs : bx_p5 y o pc ls st h k n = some q) (K : bx_G l D tc z p e s m args below meth c y h' q) : bx_G l D tc z p e s m args below meth c y h' (pc, ls, st, h, k, n) := by
  unfold bx_p5 at hs
  replace hs := bx_if hs
  obtain ⟨hd, hs⟩ := hs
  split at hs
  · rename_i v st'
    replace hs := bx_if hs
    obtain ⟨hc, hs⟩ := hs
    rw [Bool.and_eq_true] at hc
    obtain ⟨hn0, hN⟩ := bx_n0_i hc.1
    obtain ⟨r1, r2⟩ := bx_room_i hc.2
    cases hs
    intro hI H locs la hP hS hL
    dsimp only at hI hP hL
    refine va_newa (atype := .int) (ty := .int) (a0 := (v.toNatClampNeg, .inl (fun _ => 0))) S.1.1 S.1.2.1 (bx_hw S bx_a0) rfl S.2.1.1 hP bx_D hS (bx_hA S) (fun _ => rfl) hn0 rfl (Nat.le_trans (Nat.mul_le_mul_right _ hN) (by decide)) r1 r2 (bx_dec_i hd) (fun q cA H1 hK1 hP1 hD1 hS1 => ?_)
    refine bx_size (fun hz => ?_)
    dsimp only at hz
    have e1 : q = z + h.length := bx_addr hP1 hD1 (by omega)
    have e2 : cA = tc 0 := Option.some.inj ((hK1.2 5 _ rfl).2.symm.trans (S.2.1.1.2 0 _ rfl).2)
    subst e1
    rw [e2] at hP1
    exact K (by dsimp only; rw [List.length_append]; simp only [List.length_cons, List.length_nil]; omega) H1 locs la (by dsimp only; rw [bx_w_push, bx_c10]; exact hP1) hS1 hL
  · cases hs
theorem bx_t6 (S : bx_St D tc z p s m args meth c y) (hs : bx_p6 y o pc ls st h k n = some q) (K : bx_G l D tc z p e s m args below meth c y h' q) : bx_G l D tc z p e s m args below meth c y h' (pc, ls, st, h, k, n) := by
  unfold bx_p6 at hs
  replace hs := bx_if hs
  obtain ⟨hd, hs⟩ := hs
  split at hs
  · rename_i v st'
    replace hs := bx_if hs
    obtain ⟨hc, hs⟩ := hs
    rw [Bool.and_eq_true] at hc
    obtain ⟨hn0, hN⟩ := bx_n0_i hc.1
    obtain ⟨r1, r2⟩ := bx_room_i hc.2
    cases hs
    intro hI H locs la hP hS hL
    dsimp only at hI hP hL
    refine va_newa (atype := .long) (ty := .long) (a0 := (v.toNatClampNeg, .inr (.inl (fun _ => 0)))) S.1.1 S.1.2.1 (bx_hw S bx_a1) rfl S.2.1.1 hP bx_D hS (bx_hA S) (fun _ => rfl) hn0 rfl (Nat.le_trans (Nat.mul_le_mul_right _ hN) (by decide)) r1 r2 (bx_dec_i hd) (fun q cA H1 hK1 hP1 hD1 hS1 => ?_)
    refine bx_size (fun hz => ?_)
    dsimp only at hz
    have e1 : q = z + h.length := bx_addr hP1 hD1 (by omega)
    have e2 : cA = tc 1 := Option.some.inj ((hK1.2 5 _ rfl).2.symm.trans (S.2.1.1.2 1 _ rfl).2)
    subst e1
    rw [e2] at hP1
    exact K (by dsimp only; rw [List.length_append]; simp only [List.length_cons, List.length_nil]; omega) H1 locs la (by dsimp only; rw [bx_w_push, bx_c11]; exact hP1) hS1 hL
  · cases hs
theorem bx_t7 (S : bx_St D tc z p s m args meth c y) (hs : bx_p7 y o pc ls st h k n = some q) (K : bx_G l D tc z p e s m args below meth c y h' q) : bx_G l D tc z p e s m args below meth c y h' (pc, ls, st, h, k, n) := by
  unfold bx_p7 at hs
  replace hs := bx_if hs
  obtain ⟨hd, hs⟩ := hs
  split at hs
  · rename_i v st'
    replace hs := bx_if hs
    obtain ⟨hc, hs⟩ := hs
    rw [Bool.and_eq_true] at hc
    obtain ⟨hn0, hN⟩ := bx_n0_i hc.1
    obtain ⟨r1, r2⟩ := bx_room_i hc.2
    cases hs
    intro hI H locs la hP hS hL
    dsimp only at hI hP hL
    refine va_newa (atype := .char) (ty := .char) (a0 := (v.toNatClampNeg, .inl (fun _ => 0))) S.1.1 S.1.2.1 (bx_hw S bx_a2) rfl S.2.1.1 hP bx_D hS (bx_hA S) (fun _ => rfl) hn0 rfl (Nat.le_trans (Nat.mul_le_mul_right _ hN) (by decide)) r1 r2 (bx_dec_i hd) (fun q cA H1 hK1 hP1 hD1 hS1 => ?_)
    refine bx_size (fun hz => ?_)
    dsimp only at hz
    have e1 : q = z + h.length := bx_addr hP1 hD1 (by omega)
    have e2 : cA = tc 2 := Option.some.inj ((hK1.2 5 _ rfl).2.symm.trans (S.2.1.1.2 2 _ rfl).2)
    subst e1
    rw [e2] at hP1
    exact K (by dsimp only; rw [List.length_append]; simp only [List.length_cons, List.length_nil]; omega) H1 locs la (by dsimp only; rw [bx_w_push, bx_c12]; exact hP1) hS1 hL
  · cases hs
theorem bx_t8 (S : bx_St D tc z p s m args meth c y) (hs : bx_p8 y o pc ls st h k n = some q) (K : bx_G l D tc z p e s m args below meth c y h' q) : bx_G l D tc z p e s m args below meth c y h' (pc, ls, st, h, k, n) := by
  unfold bx_p8 at hs
  replace hs := bx_if hs
  obtain ⟨hd, hs⟩ := hs
  rw [Bool.and_eq_true] at hd
  split at hs
  · rename_i v st'
    replace hs := bx_if hs
    obtain ⟨hc, hs⟩ := hs
    rw [Bool.and_eq_true] at hc
    obtain ⟨hn0, hN⟩ := bx_n0_i hc.1
    obtain ⟨r1, r2⟩ := bx_room_i hc.2
    cases hs
    intro hI H locs la hP hS hL
    dsimp only at hI hP hL
    refine va_newq (C := RX2) S.1.1 S.1.2.1 S.1.2.2.2.2.1 (bx_hw S (bx_lC_all _ (of_decide_eq_true hd.2))) S.2.1.2.2.1 S.2.1.1 hP bx_D hS (bx_hA S) hn0 rfl (Nat.le_trans (Nat.mul_le_mul_right _ hN) (by decide)) r1 r2 (bx_dec_i hd.1) (fun q cA H1 hK1 hP1 hD1 hS1 => ?_)
    refine bx_size (fun hz => ?_)
    dsimp only at hz
    have e1 : q = z + h.length := bx_addr hP1 hD1 (by omega)
    have e2 : cA = tc 3 := by
      obtain ⟨_, _, -, -, -, g1⟩ := (hK1.2 5 _ rfl).2
      obtain ⟨_, _, -, -, -, g2⟩ := (S.2.1.1.2 3 _ rfl).2
      exact Option.some.inj (g1.symm.trans g2)
    subst e1
    rw [e2] at hP1
    exact K (by dsimp only; rw [List.length_append]; simp only [List.length_cons, List.length_nil]; omega) H1 locs la (by dsimp only; rw [bx_w_push, bx_c13]; exact hP1) hS1 hL
  · cases hs
theorem bx_t9 (S : bx_St D tc z p s m args meth c y) (hs : bx_p9 y o pc ls st h k n = some q) (K : bx_G l D tc z p e s m args below meth c y h' q) : bx_G l D tc z p e s m args below meth c y h' (pc, ls, st, h, k, n) := by
  unfold bx_p9 at hs
  replace hs := bx_if hs
  obtain ⟨hd, hs⟩ := hs
  rw [Bool.and_eq_true] at hd
  split at hs
  · rename_i v st'
    replace hs := bx_if hs
    obtain ⟨hc, hs⟩ := hs
    rw [Bool.and_eq_true] at hc
    obtain ⟨hn0, hN⟩ := bx_n0_i hc.1
    obtain ⟨r1, r2⟩ := bx_room_i hc.2
    cases hs
    intro hI H locs la hP hS hL
    dsimp only at hI hP hL
    refine va_newq (C := RX3) S.1.1 S.1.2.1 S.1.2.2.2.2.1 (bx_hw S (bx_lC_all _ (of_decide_eq_true hd.2))) S.2.1.2.2.2 S.2.1.1 hP bx_D hS (bx_hA S) hn0 rfl (Nat.le_trans (Nat.mul_le_mul_right _ hN) (by decide)) r1 r2 (bx_dec_i hd.1) (fun q cA H1 hK1 hP1 hD1 hS1 => ?_)
    refine bx_size (fun hz => ?_)
    dsimp only at hz
    have e1 : q = z + h.length := bx_addr hP1 hD1 (by omega)
    have e2 : cA = tc 4 := by
      obtain ⟨_, _, -, -, -, g1⟩ := (hK1.2 5 _ rfl).2
      obtain ⟨_, _, -, -, -, g2⟩ := (S.2.1.1.2 4 _ rfl).2
      exact Option.some.inj (g1.symm.trans g2)
    subst e1
    rw [e2] at hP1
    exact K (by dsimp only; rw [List.length_append]; simp only [List.length_cons, List.length_nil]; omega) H1 locs la (by dsimp only; rw [bx_w_push, bx_c14]; exact hP1) hS1 hL
  · cases hs
theorem bx_t10 (S : bx_St D tc z p s m args meth c y) (hs : bx_p10 y o pc ls st h k n = some q) (K : bx_G l D tc z p e s m args below meth c y h' q) : bx_G l D tc z p e s m args below meth c y h' (pc, ls, st, h, k, n) := by
  unfold bx_p10 at hs
  replace hs := bx_if hs
  obtain ⟨hd, hs⟩ := hs
  simp only [Bool.and_eq_true] at hd
  obtain ⟨hd, hm, hr⟩ := hd
  generalize o.2.2.toNat = cn at *
  have hm := of_decide_eq_true hm
  have hc7 := bx_lC_lt _ hm
  dsimp only at hc7
  obtain ⟨r1, r2⟩ := bx_room_i hr
  cases hs
  intro hI H locs la hP hS hL
  dsimp only at hI hP hL
  obtain ⟨C, hc, rfl, hu, hp, hn⟩ := ax_clp hc7
  refine va_new (ci := cn) (fs := bx_def cn) (T := ax_T cn) (N := ax_nf cn) S.1.1 S.1.2.1 S.1.2.2.2.2.2.1 (fun w hw => List.mem_cons_of_mem _ (hu w hw)) (ax_tyl.getD cn tyX0) hp S.1.2.2.2.2.1 (bx_hw S (bx_lC_all _ hm)) (bx_hw S (bx_yo hc7).2.2.1) (bx_hw S (ax_cn_ok (Nat.lt_trans hc7 (by decide))).1) S.2.1.1 hP bx_D hS (bx_hA S) hc bx_def_v r1 r2 (bx_dec_i hd) (fun q H1 hP1 hD1 hS1 => ?_)
  refine bx_size (fun hz => ?_)
  dsimp only at hz
  have e1 : q = z + h.length := bx_addr hP1 hD1 (by omega)
  subst e1
  exact K (by dsimp only; rw [List.length_append]; simp only [List.length_cons, List.length_nil]; omega) H1 locs la (by
    dsimp only
    rw [bx_w_push, bx_c_o hc7]
    have e2 : ax_ce tc (bx_g z) (.inr (cn, bx_def cn)) = .inr (cn, bx_def cn) := by
      show (Sum.inr (cn, (bx_def cn).map (ax_cv (bx_g z))) : va_E) = _
      rw [bx_def_m hc7]
    rw [e2]
    exact hP1) hS1 hL
theorem bx_t11 (S : bx_St D tc z p s m args meth c y) (hs : bx_p11 y o pc ls st h k n = some q) (K : bx_G l D tc z p e s m args below meth c y h' q) : bx_G l D tc z p e s m args below meth c y h' (pc, ls, st, h, k, n) := by
  unfold bx_p11 at hs
  replace hs := bx_if hs
  obtain ⟨hd, hs⟩ := hs
  rw [Bool.and_eq_true] at hd
  split at hs
  · rename_i a
    cases hs
    intro hI H locs la hP hS hL
    have hok := bx_lo_ok y S.2.2.1
    refine W.objInit (a := bx_g z a) (rest := []) S.1.1 S.1.2.1 S.1.2.2.2.2.1 (bx_hw S (bx_lO_all _ (of_decide_eq_true hd.2))) (bx_hw S bx_o1) (bx_hw S bx_o2) rfl (hL.2.1.trans S.1.2.2.2.1.symm) rfl (bx_dec_i hd.1) hok.1 hok.2 ?_
    exact K hI H locs la hP hS hL
  · cases hs
theorem bx_go {R : Room} {H : Heap} {locs : List Loc} {Q : State → Prop} {la : Array Slot} {st0 rest : List Value} {h1 : bx_H} {a : Array Value} {cells slots mc ms : Nat} {z1 : Nat} (hz1 : z ≤ z1) (hr : va_Run p l e R s m args below meth c H locs cells slots mc ms (F0 m pc la st0) rest (bx_Q D tc z1 h1 a) (fun q => z1 ≤ q)) (hS : va_S (fun q => z ≤ q) s.heap H locs)
    (kk : ∀ (H1 : Heap) (locs1 : List Loc), va_P D ax_cl (bx_w tc z1 h1) H1 → (∀ q, q < H.size → q < z1 → H1[q]? = H[q]?) → va_S (fun q => z ≤ q) s.heap H1 locs1 → W p l e R s m args below meth c H1 locs1 (cells + mc) (slots + ms) Q (F0 m (pc + 3) la rest)) : W p l e R s m args below meth c H locs cells slots Q (F0 m pc la st0) := by
  intro T hT X
  obtain ⟨v, st₀, t, T', L, h0, X', hL, e1, e2, ⟨hv, hp, hz, hk⟩, stp⟩ := hr T hT X
  cases hv
  rw [h0] at hz hk
  obtain ⟨t2, a1, b1⟩ := kk T'.heap (locs ++ L) (by rw [e1]; exact hp) (fun q h1 h2 => by rw [e1]; exact hk q h1 (Nat.not_le.mpr h2))
    ⟨Nat.le_trans hS.1 (by rw [e1]; exact hz), fun q h1 h2 => by rw [e1, hk q (Nat.lt_of_lt_of_le h1 hS.1) (fun z9 => h2 (Nat.le_trans hz1 z9))]; exact hS.2.1 q h1 h2, fun q hq => by
      rcases List.mem_append.mp hq with h | h
      · exact hS.2.2 q h
      · exact Nat.le_trans hz1 (hL q h)⟩ T' rfl X'
  exact ⟨t2, stp t2 a1, b1⟩
def bx_EF (l : Launch) (D : va_G) (tc : Nat → ClassId) (ef : bx_F) : Prop := ∀ (y : Nat) (r : bx_H), ef y = some r → y < 7 → ∀ z : Nat, Met l (bx_y y) (bx_ws y) (bx_rm y) (bx_Pc D tc z [(y, bx_def y)] [.ref 0]) (bx_Q D tc z r) (bx_mc y) (bx_ms y) (fun q => z ≤ q)
theorem bx_t12 {ef : bx_F} (hE : bx_EF l D tc ef) (S : bx_St D tc z p s m args meth c y) (hs : bx_p12 ef y o pc ls st h k n = some q) (K : bx_G l D tc z p e s m args below meth c y h' q) : bx_G l D tc z p e s m args below meth c y h' (pc, ls, st, h, k, n) := by
  unfold bx_p12 at hs
  replace hs := bx_if hs
  obtain ⟨hd, hs⟩ := hs
  simp only [Bool.and_eq_true] at hd
  obtain ⟨hd, hm, hr, hf, hlo⟩ := hd
  generalize o.2.2.toNat = cn at *
  have hm := of_decide_eq_true hm
  have hc7 := bx_lN_lt _ hm
  dsimp only at hc7
  obtain ⟨r1, r2⟩ := bx_room_i hr
  split at hs
  · rename_i a st'
    split at hs
    · rename_i r g hh ha
      replace hs := bx_if hs
      obtain ⟨hsm, hs⟩ := hs
      simp only [Bool.and_eq_true] at hsm
      obtain ⟨⟨hsm, hlen⟩, hal, hg1, hg2⟩ := hsm
      have hlen := Nat.eq_of_beq_eq_true hlen
      have hal := Nat.eq_of_beq_eq_true hal
      have hg1 := Nat.eq_of_beq_eq_true hg1
      have hg2 := of_decide_eq_true hg2
      have hg : g = (cn, bx_def cn) := Prod.ext hg1 hg2
      subst hg
      cases hs
      intro hI H locs la hP hS hL
      dsimp only at hI hP hL
      refine bx_size (fun hz => ?_)
      dsimp only at hz
      have hz2 := bx_lt hP (Nat.le_trans S.2.2.2 hS.1)
      have hzz : H.size = z + a + [(cn, bx_def cn)].length := by simp only [List.length_cons, List.length_nil]; omega
      have hyo := bx_yo hc7
      have hcn := ax_cn_ok (o := cn) (Nat.lt_trans hc7 (by decide))
      have hM := hE cn r hh hc7 (z + a)
      have hPc : va_P D ax_cl (bx_w tc (z + a) [(cn, bx_def cn)]) H := by
        intro i q hq
        obtain ⟨e9, h9, rfl⟩ := bx_w_of hq
        have hi : i = 0 := by
          have := (List.getElem?_eq_some_iff.mp h9).1
          simp only [List.length_cons, List.length_nil] at this
          omega
        subst hi
        cases h9
        have h8 := hP _ _ (bx_w_at ha)
        rw [bx_c_o hc7] at h8 ⊢
        have e2 : ∀ γ, ax_ce tc γ (.inr (cn, bx_def cn)) = .inr (cn, bx_def cn) := fun γ => by
          show (Sum.inr (cn, (bx_def cn).map (ax_cv γ)) : va_E) = _
          rw [bx_def_m hc7]
        rw [e2] at h8 ⊢
        exact h8
      have cw := va_cnB (R := bx_rm y) (rm := bx_rm cn) (bytes := bx_b cn) (maxL := bx_nL cn) (ret := none) (mc := bx_mc cn) (ms := bx_ms cn) (ws' := ax_gw) 0 S.1.2.2.2.2.2.1 (bx_good hc7 (ws := bx_ws y) (fun w hw => List.mem_cons_of_mem _ hw)) rfl rfl rfl (S.2.1.2.1 _ hm) (by rw [hyo.2.2.2.1]; exact bx_hw S hcn.1) (by rw [hyo.2.2.2.1]; exact ⟨hcn.2.2.1, hcn.2.2.2, hyo.2.2.2.2.2⟩) ⟨Nat.le_of_ble_eq_true hf, Nat.le_of_ble_eq_true hlo⟩
      have hrun := va_runIN (H := H) (p := p) (e := e) (below := below) (meth := meth) (locs := locs) (cells := k) (slots := n) (b := z + a) (As := []) (rest := st'.map (ax_cv (bx_g z))) (g := F0 m pc la ((.ref a :: st').map (ax_cv (bx_g z)))) ⟨S.1.1, S.1.2.1, S.1.2.2.2.1, S.1.2.2.2.2.1, S.1.2.2.2.2.2.1⟩ hM ⟨cw, hyo.2.2.2.2.1, bx_hw S hyo.2.1⟩ ⟨bx_Pc_blind, fun U hU hw => ⟨rfl, by rw [hU]; exact hzz, by rw [hU]; exact hPc, S.2.1.warm hw⟩⟩ rfl rfl hL.2.1 rfl (lv_room (ax_small_le _ hsm)) (bx_dec_i hd) ⟨r1, r2⟩
      refine bx_go (Nat.le_add_right z a) hrun hS (fun H1 locs1 hP1 hk1 hS1 => K ?_ H1 locs1 la ?_ hS1 hL)
      · dsimp only
        rw [List.length_append, List.length_map, List.length_take, hlen]
        omega
      · dsimp only
        exact bx_glue hP hP1 (by omega) (fun q hq => hk1 q (by omega) hq)
    · cases hs
  · cases hs
theorem bx_t13 (S : bx_St D tc z p s m args meth c y) (hs : bx_p13 y o pc ls st h k n = some q) (K : bx_G l D tc z p e s m args below meth c y h' q) : bx_G l D tc z p e s m args below meth c y h' (pc, ls, st, h, k, n) := by
  unfold bx_p13 at hs
  replace hs := bx_if hs
  obtain ⟨hd, hs⟩ := hs
  simp only [Bool.and_eq_true] at hd
  obtain ⟨hd, hm, hbl⟩ := hd
  generalize o.2.2.toNat = b at *
  have hm := ax_lF_all _ (of_decide_eq_true hm)
  have hbl : b < ax_nf y := Nat.le_of_ble_eq_true hbl
  split at hs
  · rename_i v a st'
    split at hs
    · rename_i t fs ha
      replace hs := bx_if hs
      obtain ⟨hc, hs⟩ := hs
      simp only [Bool.and_eq_true] at hc
      obtain ⟨h1, h2, h3⟩ := hc
      have h1 := Nat.eq_of_beq_eq_true h1
      subst h1
      have h2 : b < fs.length := Nat.le_of_ble_eq_true h2
      cases hs
      intro hI H locs la hP hS hL
      dsimp only at hI hP hL
      obtain ⟨C, hc, rfl, hu, hp, hn⟩ := ax_clp S.2.2.1
      obtain ⟨g1, g2⟩ := bx_fit_i (bx_g z) h3
      have he : (bx_w tc z h)[a]? = some (z + a, .inr (t, fs.map (ax_cv (bx_g z)))) := by rw [bx_w_at ha, bx_c_o S.2.2.1]; rfl
      have kk : ∀ (H1 : Heap) (locs1 : List Loc), va_P D ax_cl ((bx_w tc z h).set a (z + a, .inr (t, (fs.map (ax_cv (bx_g z))).set b (ax_cv (bx_g z) v)))) H1 → va_D (fun q => z ≤ q) ((bx_w tc z h).set a (z + a, .inr (t, (fs.map (ax_cv (bx_g z))).set b (ax_cv (bx_g z) v)))) → va_S (fun q => z ≤ q) s.heap H1 locs1 → W p l e (bx_rm t) s m args below meth c H1 locs1 k n (MQ below (bx_Q D tc z h') args s (bx_mc t) (bx_ms t) (fun a => z ≤ a)) (F0 m (pc + 3) la (st'.map (ax_cv (bx_g z)))) := by
        intro H1 locs1 hP1 _ hS1
        refine K (by dsimp only; rw [List.length_set]; exact hI) H1 locs1 la ?_ hS1 hL
        dsimp only
        rw [← bx_w_set ha, bx_c_o S.2.2.1]
        have e1 : ax_ce tc (bx_g z) (.inr (t, fs.set b v)) = .inr (t, (fs.map (ax_cv (bx_g z))).set b (ax_cv (bx_g z) v)) := by
          show (Sum.inr (t, (fs.set b v).map (ax_cv (bx_g z))) : va_E) = _
          rw [List.map_set]
        rw [e1]
        exact hP1
      cases hfin : (ax_T t b).2.2.2 with
      | false => exact va_put (D := D) (cl := ax_cl) (ci := t) (v := ax_cv (bx_g z) v) (ty := ax_tyl.getD t tyX0 b) (ref := (ax_T t b).1) (fs := fs.map (ax_cv (bx_g z))) S.1.1 S.1.2.1 S.1.2.2.2.2.2.1 (fun w hw => List.mem_cons_of_mem _ (hu w hw)) (ax_tyl.getD t tyX0) hp hn S.1.2.2.2.2.1 S.2.1.1 hP bx_D hS a he hc b hbl (bx_hw S hm) (fun _ h9 => h9) hfin (hp b hbl) g1 g2 (by rw [List.length_map]; exact h2) (bx_dec_i hd) kk
      | true => exact va_putF (D := D) (cl := ax_cl) (ci := t) (v := ax_cv (bx_g z) v) (ty := ax_tyl.getD t tyX0 b) (ref := (ax_T t b).1) (fs := fs.map (ax_cv (bx_g z))) S.1.1 S.1.2.1 S.1.2.2.2.2.2.1 (fun w hw => List.mem_cons_of_mem _ (hu w hw)) (ax_tyl.getD t tyX0) hp hn S.1.2.2.2.2.1 S.2.1.1 hP bx_D hS a he hc b hbl (bx_hw S hm) (fun _ h9 => h9) hfin S.1.2.2.2.2.2.2.2 (bx_decl _ S.2.2.1 b hbl) (hp b hbl) g1 g2 (by rw [List.length_map]; exact h2) (bx_dec_i hd) kk
    · cases hs
  · cases hs
theorem bx_t14 (S : bx_St D tc z p s m args meth c y) (hs : bx_p14 y o pc ls st h k n = some q) (K : bx_G l D tc z p e s m args below meth c y h' q) : bx_G l D tc z p e s m args below meth c y h' (pc, ls, st, h, k, n) := by
  unfold bx_p14 at hs
  replace hs := bx_if hs
  obtain ⟨hd, hs⟩ := hs
  simp only [Bool.and_eq_true] at hd
  obtain ⟨hd, hm, hbl⟩ := hd
  generalize o.2.2.toNat = b at *
  have hm := ax_lF_all _ (of_decide_eq_true hm)
  have hbl : b < ax_nf y := Nat.le_of_ble_eq_true hbl
  split at hs
  · rename_i a st'
    split at hs
    · rename_i t fs ha
      replace hs := bx_if hs
      obtain ⟨h1, hs⟩ := hs
      have h1 := Nat.eq_of_beq_eq_true h1
      subst h1
      split at hs
      · rename_i v hv
        cases hs
        intro hI H locs la hP hS hL
        dsimp only at hI hP hL
        obtain ⟨C, hc, rfl, hu, hp, hn⟩ := ax_clp S.2.2.1
        have he : (bx_w tc z h)[a]? = some (z + a, .inr (t, fs.map (ax_cv (bx_g z)))) := by rw [bx_w_at ha, bx_c_o S.2.2.1]; rfl
        exact va_get (D := D) (cl := ax_cl) (ci := t) (v := ax_cv (bx_g z) v) (ref := (ax_T t b).1) (fs := fs.map (ax_cv (bx_g z))) S.1.1 S.1.2.1 S.1.2.2.2.2.2.1 (fun w hw => List.mem_cons_of_mem _ (hu w hw)) S.1.2.2.2.2.1 S.2.1.1 hP a he hc b hbl (bx_hw S hm) (fun _ h9 => h9) (by rw [List.getElem?_map, hv]; rfl) (bx_dec_i hd) (K hI H locs la hP hS hL)
      · cases hs
    · cases hs
  · cases hs
theorem bx_t15 (S : bx_St D tc z p s m args meth c y) (hs : bx_p15 y o pc ls st h k n = some q) (K : bx_G l D tc z p e s m args below meth c y h' q) : bx_G l D tc z p e s m args below meth c y h' (pc, ls, st, h, k, n) := by
  unfold bx_p15 at hs
  replace hs := bx_if hs
  obtain ⟨hd, hs⟩ := hs
  split at hs
  · rename_i x i a st'
    split at hs
    · rename_i t vs ha
      replace hs := bx_if hs
      obtain ⟨hc, hs⟩ := hs
      rw [Bool.and_eq_true] at hc
      have h1 := Nat.eq_of_beq_eq_true hc.1
      subst h1
      obtain ⟨h2, h3⟩ := bx_inr_i hc.2
      cases hs
      intro hI H locs la hP hS hL
      dsimp only at hI hP hL
      refine va_iast (cA := tc 0) (n := vs.length) (f := fun j => bx_vi (vs.getD j .null)) S.1.1 S.1.2.1 S.2.1.1 hP bx_D hS a 0 (by rw [bx_w_at ha]; rfl) rfl h2 (bx_dec_i hd) (fun H1 locs1 hP1 _ hS1 => ?_)
      refine K (by dsimp only; rw [List.length_set]; exact hI) H1 locs1 la ?_ hS1 hL
      dsimp only
      rw [← bx_w_set ha]
      have e1 : ax_ce tc (bx_g z) (bx_c (10, vs.set i.toNatClampNeg (.int x))) = .inl (tc 0, vs.length, .inl (upd (fun j => bx_vi (vs.getD j .null)) i.toNatClampNeg x)) := by
        show (Sum.inl (tc 0, (vs.set i.toNatClampNeg (.int x)).length, .inl (fun j => bx_vi ((vs.set i.toNatClampNeg (.int x)).getD j .null))) : va_E) = _
        rw [List.length_set]
        congr 4
        funext j
        rw [bx_getD_set h3]
        unfold upd
        by_cases hj : j = i.toNatClampNeg
        · rw [if_pos hj, if_pos hj]; rfl
        · rw [if_neg hj, if_neg hj]
      rw [e1]
      exact hP1
    · cases hs
  · cases hs
theorem bx_t16 (S : bx_St D tc z p s m args meth c y) (hs : bx_p16 y o pc ls st h k n = some q) (K : bx_G l D tc z p e s m args below meth c y h' q) : bx_G l D tc z p e s m args below meth c y h' (pc, ls, st, h, k, n) := by
  unfold bx_p16 at hs
  replace hs := bx_if hs
  obtain ⟨hd, hs⟩ := hs
  split at hs
  · rename_i v i a st'
    split at hs
    · rename_i t vs u fs ha hv
      replace hs := bx_if hs
      obtain ⟨hc, hs⟩ := hs
      simp only [Bool.and_eq_true] at hc
      have h1 := Nat.eq_of_beq_eq_true hc.1.1
      subst h1
      have h1 := Nat.eq_of_beq_eq_true hc.1.2
      subst h1
      obtain ⟨h2, h3⟩ := bx_inr_i hc.2
      cases hs
      intro hI H locs la hP hS hL
      dsimp only at hI hP hL
      refine va_astq (r := (RX2, TX2, ax_nf 2)) (cA := tc 3) (n := vs.length) (v := bx_g z v) (vs := fs.map (ax_cv (bx_g z))) (f := fun j => (bx_vr (vs.getD j .null)).map (bx_g z)) S.1.1 S.1.2.1 S.2.1.1 hP bx_D hS a 3 v 2 (by rw [bx_w_at ha]; rfl) rfl (by rw [bx_w_at hv]; rfl) rfl h2 (bx_dec_i hd) (fun H1 locs1 hP1 _ hS1 => ?_)
      refine K (by dsimp only; rw [List.length_set]; exact hI) H1 locs1 la ?_ hS1 hL
      dsimp only
      rw [← bx_w_set ha]
      have e1 : ax_ce tc (bx_g z) (bx_c (13, vs.set i.toNatClampNeg (.ref v))) = .inl (tc 3, vs.length, .inr (.inr (.inr (.inr (va_up (fun j => (bx_vr (vs.getD j .null)).map (bx_g z)) i.toNatClampNeg (some (bx_g z v))))))) := by
        show (Sum.inl (tc 3, (vs.set i.toNatClampNeg (.ref v)).length, .inr (.inr (.inr (.inr (fun j => (bx_vr ((vs.set i.toNatClampNeg (.ref v)).getD j .null)).map (bx_g z)))))) : va_E) = _
        rw [List.length_set]
        congr 7
        funext j
        rw [bx_getD_set h3]
        unfold va_up
        by_cases hj : j = i.toNatClampNeg
        · rw [if_pos hj, if_pos hj]; rfl
        · rw [if_neg hj, if_neg hj]
      rw [e1]
      exact hP1
    · cases hs
  · cases hs
theorem bx_t17 (S : bx_St D tc z p s m args meth c y) (hs : bx_p17 y o pc ls st h k n = some q) (K : bx_G l D tc z p e s m args below meth c y h' q) : bx_G l D tc z p e s m args below meth c y h' (pc, ls, st, h, k, n) := by
  unfold bx_p17 at hs
  replace hs := bx_if hs
  obtain ⟨hd, hs⟩ := hs
  split at hs
  · rename_i v i a st'
    split at hs
    · rename_i t vs u fs ha hv
      replace hs := bx_if hs
      obtain ⟨hc, hs⟩ := hs
      simp only [Bool.and_eq_true] at hc
      have h1 := Nat.eq_of_beq_eq_true hc.1.1
      subst h1
      have h1 := Nat.eq_of_beq_eq_true hc.1.2
      subst h1
      obtain ⟨h2, h3⟩ := bx_inr_i hc.2
      cases hs
      intro hI H locs la hP hS hL
      dsimp only at hI hP hL
      refine va_astq (r := (RX3, TX3, ax_nf 3)) (cA := tc 4) (n := vs.length) (v := bx_g z v) (vs := fs.map (ax_cv (bx_g z))) (f := fun j => (bx_vr (vs.getD j .null)).map (bx_g z)) S.1.1 S.1.2.1 S.2.1.1 hP bx_D hS a 4 v 3 (by rw [bx_w_at ha]; rfl) rfl (by rw [bx_w_at hv]; rfl) rfl h2 (bx_dec_i hd) (fun H1 locs1 hP1 _ hS1 => ?_)
      refine K (by dsimp only; rw [List.length_set]; exact hI) H1 locs1 la ?_ hS1 hL
      dsimp only
      rw [← bx_w_set ha]
      have e1 : ax_ce tc (bx_g z) (bx_c (14, vs.set i.toNatClampNeg (.ref v))) = .inl (tc 4, vs.length, .inr (.inr (.inr (.inr (va_up (fun j => (bx_vr (vs.getD j .null)).map (bx_g z)) i.toNatClampNeg (some (bx_g z v))))))) := by
        show (Sum.inl (tc 4, (vs.set i.toNatClampNeg (.ref v)).length, .inr (.inr (.inr (.inr (fun j => (bx_vr ((vs.set i.toNatClampNeg (.ref v)).getD j .null)).map (bx_g z)))))) : va_E) = _
        rw [List.length_set]
        congr 7
        funext j
        rw [bx_getD_set h3]
        unfold va_up
        by_cases hj : j = i.toNatClampNeg
        · rw [if_pos hj, if_pos hj]; rfl
        · rw [if_neg hj, if_neg hj]
      rw [e1]
      exact hP1
    · cases hs
  · cases hs
theorem bx_t18 (S : bx_St D tc z p s m args meth c y) (hs : bx_p18 y o pc ls st h k n = some q) (K : bx_G l D tc z p e s m args below meth c y h' q) : bx_G l D tc z p e s m args below meth c y h' (pc, ls, st, h, k, n) := by
  unfold bx_p18 at hs
  replace hs := bx_if hs
  obtain ⟨hd, hs⟩ := hs
  split at hs
  · rename_i x st'
    split at hs
    · rename_i ls1 hl
      cases hs
      intro hI H locs la hP hS hL
      have hi : (1 : Fin 4).val < bx_nL y := by
        unfold ax_st1 at hl
        split at hl
        · rename_i h1; rw [hL.1] at h1; exact h1
        · cases hl
      exact lv_istore_n S.1.1 S.1.2.1 (bx_dec_i hd) rfl (ax_lv_has hL) hi rfl (fun la' hh => K hI H locs la' hP hS (ax_Ls_st1 hL (fun h => by cases h) hl hh))
    · cases hs
  · cases hs
theorem bx_t19 (S : bx_St D tc z p s m args meth c y) (hs : bx_p19 y o pc ls st h k n = some q) (K : bx_G l D tc z p e s m args below meth c y h' q) : bx_G l D tc z p e s m args below meth c y h' (pc, ls, st, h, k, n) := by
  unfold bx_p19 at hs
  replace hs := bx_if hs
  obtain ⟨hd, hs⟩ := hs
  split at hs
  · rename_i x ha
    cases hs
    intro hI H locs la hP hS hL
    exact lv_iload_n S.1.1 S.1.2.1 (bx_dec_i hd) rfl (hL.2.2.2 1 _ ha).1 (K hI H locs la hP hS hL)
  · cases hs
theorem bx_t20 (S : bx_St D tc z p s m args meth c y) (hs : bx_p20 y o pc ls st h k n = some q) (K : bx_G l D tc z p e s m args below meth c y h' q) : bx_G l D tc z p e s m args below meth c y h' (pc, ls, st, h, k, n) := by
  unfold bx_p20 at hs
  replace hs := bx_if hs
  obtain ⟨hd, hs⟩ := hs
  rw [Bool.and_eq_true] at hd
  split at hs
  · rename_i b a st'
    cases hs
    intro hI H locs la hP hS hL
    refine lv_icmp_ge (tgt := o.2.1) S.1.1 S.1.2.1 (bx_dec_i hd.1) (of_decide_eq_true hd.2) (fun hc => ?_) (fun hc => ?_)
    · rw [decide_eq_true hc] at K
      exact K hI H locs la hP hS hL
    · rw [decide_eq_false hc] at K
      exact K hI H locs la hP hS hL
  · cases hs
theorem bx_t21 (S : bx_St D tc z p s m args meth c y) (hs : bx_p21 y o pc ls st h k n = some q) (K : bx_G l D tc z p e s m args below meth c y h' q) : bx_G l D tc z p e s m args below meth c y h' (pc, ls, st, h, k, n) := by
  unfold bx_p21 at hs
  replace hs := bx_if hs
  obtain ⟨hd, hs⟩ := hs
  split at hs
  · rename_i x hx
    split at hs
    · rename_i ls1 hl
      cases hs
      intro hI H locs la hP hS hL
      have hi : 1 < bx_nL y := by
        unfold ax_st1 at hl
        split at hl
        · rename_i h1; rw [hL.1] at h1; exact h1
        · cases hl
      obtain ⟨j, hj⟩ := List.getElem?_of_mem (ax_lv_in (γ := bx_g z) hx)
      exact lv_iinc S.1.1 S.1.2.1 (bx_dec_i hd) (ax_lv_has hL) hj rfl hi rfl (fun la' hh => K hI H locs la' hP hS (ax_Ls_st1 hL (fun h => by cases h) hl hh))
    · cases hs
  · cases hs
theorem bx_t22 (S : bx_St D tc z p s m args meth c y) (hs : bx_p22 y o pc ls st h k n = some q) (K : bx_G l D tc z p e s m args below meth c y h' q) : bx_G l D tc z p e s m args below meth c y h' (pc, ls, st, h, k, n) := by
  unfold bx_p22 at hs
  replace hs := bx_if hs
  obtain ⟨hd, hs⟩ := hs
  rw [Bool.and_eq_true] at hd
  cases hs
  intro hI H locs la hP hS hL
  exact lv_goto S.1.1 S.1.2.1 (bx_dec_i hd.1) (of_decide_eq_true hd.2) (K hI H locs la hP hS hL)
theorem bx_step {ef : bx_F} (hE : bx_EF l D tc ef) (S : bx_St D tc z p s m args meth c y) (hs : bx_op ef y o pc ls st h k n = some q) (K : bx_G l D tc z p e s m args below meth c y h' q) : bx_G l D tc z p e s m args below meth c y h' (pc, ls, st, h, k, n) := by
  unfold bx_op at hs
  split at hs
  · exact bx_t0 S hs K
  · exact bx_t1 S hs K
  · exact bx_t2 S hs K
  · exact bx_t3 S hs K
  · exact bx_t4 S hs K
  · exact bx_t5 S hs K
  · exact bx_t6 S hs K
  · exact bx_t7 S hs K
  · exact bx_t8 S hs K
  · exact bx_t9 S hs K
  · exact bx_t10 S hs K
  · exact bx_t11 S hs K
  · exact bx_t12 hE S hs K
  · exact bx_t13 S hs K
  · exact bx_t14 S hs K
  · exact bx_t15 S hs K
  · exact bx_t16 S hs K
  · exact bx_t17 S hs K
  · exact bx_t18 S hs K
  · exact bx_t19 S hs K
  · exact bx_t20 S hs K
  · exact bx_t21 S hs K
  · exact bx_t22 S hs K
  · cases hs
theorem bx_sound {ef : bx_F} (hE : bx_EF l D tc ef) (S : bx_St D tc z p s m args meth c y) : ∀ (ops : List bx_Op) (pc : Nat) (ls : ax_L) (st : List Value) (h : bx_H) (k n : Nat), bx_run ef y ops pc ls st h k n = some h' → bx_G l D tc z p e s m args below meth c y h' (pc, ls, st, h, k, n) := by
  intro ops
  induction ops with
  | nil =>
    intro pc ls st h k n hr
    unfold bx_run at hr
    obtain ⟨hd, hr⟩ := bx_if hr
    rw [Bool.and_eq_true] at hd
    obtain ⟨r1, r2⟩ := bx_room_i hd.2
    split at hr
    · cases hr
      intro hI H locs la hP hS hL
      refine W.widen (k := bx_mc y) (n := bx_ms y) r1 r2 ?_
      exact W.vret S.1.1 S.1.2.1 S.1.2.2.1 (fun t ht _ => ⟨rfl, by rw [ht]; exact hP, hS.F ht⟩) hS.2.2 (bx_dec_i hd.1) S.1.2.2.2.2.2.2.1
    · cases hr
  | cons o t ih =>
    intro pc ls st h k n hr
    unfold bx_run at hr
    split at hr
    · rename_i q hq
      exact bx_step hE S hq (ih _ _ _ _ _ _ hr)
    · cases hr
theorem bx_met {ef : bx_F} (hE : bx_EF l D tc ef) {ops : List bx_Op} {a : Nat} (hy : y < 7) (hr : bx_run ef y ops 0 (ax_ent (bx_nL y) [.ref a]) [] h 0 0 = some h') :
    Met l (bx_y y) (bx_ws y) (bx_rm y) (bx_Pc D tc z h [.ref a]) (bx_Q D tc z h') (bx_mc y) (bx_ms y) (fun q => z ≤ q) := by
  have hyo := bx_yo hy
  have hpn : plainName (bx_y y).cls = true := by rw [hyo.2.2.2.1]; exact (ax_cn_ok (o := y) (Nat.lt_trans hy (by decide))).2.1
  have hlen : (ax_sl [Value.ref a]).length ≤ bx_nL y := by
    rcases (show y = 0 ∨ y = 1 ∨ y = 2 ∨ y = 3 ∨ y = 4 ∨ y = 5 ∨ y = 6 by omega) with rfl | rfl | rfl | rfl | rfl | rfl | rfl <;> exact Nat.le_of_ble_eq_true rfl
  refine Met.ofW (cc := bx_b y) (maxL := bx_nL y) (ret := none) (ws' := ax_gw) hpn rfl ?_
  intro p e s m args below meth c s₁ B hml hv
  obtain ⟨rfl, hsz, hP, hW⟩ := hv
  have hown : s.vm.findClass (ax_cn y) = some m.cls := by
    have h1 := findClass_of_methodNamed B.named
    rw [hyo.2.2.2.1] at h1
    exact h1
  have S : bx_St D tc z p s m (([Value.ref a] : List Value).map (ax_cv (bx_g z))).toArray meth c y := ⟨⟨B.exec, B.bytes, B.returns, hml, hown, atoms_spec (ws := bx_ws y) B.pre, B.notSynchronized, ((name_of_methodNamed B.named B.method).1).trans hyo.2.2.2.2.1⟩, hW, hy, by omega⟩
  have hl := lv_entry (([Value.ref a] : List Value).map (ax_cv (bx_g z))) (n := bx_nL y) (by rw [ax_sl_len]; exact hlen)
  rw [lg_entry_eq]
  refine bx_sound hE S ops 0 _ _ h 0 0 hr (by dsimp only; omega) s.heap [] _ hP va_S.rf ?_
  obtain ⟨q1, q2⟩ := ax_pad_at (bx_nL y) (ax_sl [Value.ref a]) hlen
  refine ⟨q1, hl.1, hl.2.1, fun i v hi => ?_⟩
  obtain ⟨a, b⟩ := ax_sl_at [Value.ref a] (bx_g z) 0 i v (q2 i v hi)
  rw [Nat.zero_add] at a
  exact ⟨hl.2.2 _ a, b⟩
end BXS
