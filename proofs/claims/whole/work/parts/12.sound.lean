/-! ===== the small machine tells what the machine does: all instructions, all methods ===== -/
/-- String.indexOf of the one String constant, in a walk -/
def ax_IX (l : Launch) : Prop := ∀ (p : Program) (e : Env) (R : Room) (s : State) (m : MethodId) (args : Array Value) (below : List Frame) (meth : Method) (c : Code) (H : Heap) (locs : List Loc) (Q : State → Prop) (A : Nat → Prop) (aK aV : Nat → Nat) (cc : ByteArray) (pc : Nat) (la : Array Slot) (rest : List Value) (own : String) (idx : Nat) (x : Int32),
  p.tables.exec = Jvm.exec → c.code = cc → c.maxLocals = la.size → s.vm.findClass own = some m.cls → (∀ w ∈ ax_gw, w.before args s = true) → (Cond.methodLink own idx ax_SI).before args s = true →
  ax_SZ aK aV A s s.heap → (∀ q, s.heap.size ≤ q → A q) → va_S A s.heap H locs → 5 ≤ R.frames → 130 ≤ R.locals → (rest.map fun v => v.category).sum ≤ 8 → decode cc pc = .ok (.invokevirtual idx, 3) →
  (∀ (H1 : Heap) (locs1 : List Loc), H1 = H → va_S A s.heap H1 locs1 → W p l e R s m args below meth c H1 locs1 0 0 Q (F0 m (pc + 3) la (.int (ax_idx x) :: rest))) → W p l e R s m args below meth c H locs 0 0 Q (F0 m pc la (.int x :: .ref (aK 0) :: rest))
section AXM
variable {l : Launch} {D : va_G} {tc : Nat → ClassId} {γ aK aV : Nat → Nat} {A : Nat → Prop} {p : Program} {e : Env} {s : State} {m : MethodId} {args : Array Value} {below : List Frame} {meth : Method} {c : Code} {mi : Nat}
variable {r : Option Value} {h' : ax_H} {pc : Nat} {ls : ax_L} {st : List Value} {h : ax_H} {q : ax_N}
theorem ax_lK_w {o i w : Nat} {k : Int32} (h : (match ax_lK[w]? with | some q => Nat.beq q.1 o && (Nat.beq q.2.1 i && decide (q.2.2 = k)) | none => false) = true) : Cond.constant (ax_cn o) i k ∈ ax_gw := by
  split at h
  · rename_i q hq
    simp only [Bool.and_eq_true, decide_eq_true_eq] at h
    obtain ⟨h1, h2, h3⟩ := h
    have h5 := ax_lK_all q (List.mem_of_getElem? hq)
    obtain ⟨q1, q2, q3⟩ := q
    rw [← Nat.eq_of_beq_eq_true h1, ← Nat.eq_of_beq_eq_true h2, ← h3]
    exact h5
  · cases h
theorem ax_lJ_w {o i w : Nat} {k : Int64} (h : (match ax_lJ[w]? with | some q => Nat.beq q.1 o && (Nat.beq q.2.1 i && decide (q.2.2 = k)) | none => false) = true) : Cond.constantLong (ax_cn o) i k ∈ ax_gw := by
  split at h
  · rename_i q hq
    simp only [Bool.and_eq_true, decide_eq_true_eq] at h
    obtain ⟨h1, h2, h3⟩ := h
    have h5 := ax_lJ_all q (List.mem_of_getElem? hq)
    obtain ⟨q1, q2, q3⟩ := q
    rw [← Nat.eq_of_beq_eq_true h1, ← Nat.eq_of_beq_eq_true h2, ← h3]
    exact h5
  · cases h
theorem ax_t_idx (hIX : ax_IX l) (S : ax_St D tc γ aK aV A p s m args meth c mi) {i w : Nat} (hd : decode (ax_m mi).2.1 pc = .ok (.invokevirtual i, 3)) (hw : ax_ckK (ax_m mi).2.2.2.2.1.2.2 i w 1001 = true) (hf : Nat.ble 5 (ax_m mi).2.2.2.2.2.1.1 = true) (hlo : Nat.ble 130 (ax_m mi).2.2.2.2.2.1.2 = true)
    (hs : ax_ix (pc + 3) ls st h = some (.inl q)) (K : ax_G l D tc γ A p e s m args below meth c mi r h' q.1 q.2.1 q.2.2.1 q.2.2.2) : ax_G l D tc γ A p e s m args below meth c mi r h' pc ls st h := by
  obtain ⟨x, st', rfl, hsm, e0⟩ := ax_ix_i hs
  cases e0
  intro H locs la hP hS hL
  obtain ⟨-, -, -, w4, w5, -, w7⟩ := S.2.1
  have e1 : ([Value.int x, Value.ref 999] ++ st').map (ax_cv γ) = .int x :: .ref (aK 0) :: st'.map (ax_cv γ) := by rw [← w7]; rfl
  have h9 := hIX p e (ax_rm mi) s m args below meth c H locs (MQ below (ax_Q D tc γ A r h') args s 0 0 A) A aK aV _ pc la (st'.map (ax_cv γ)) _ i x S.1.1 S.1.2.1 (S.1.2.2.2.1.trans hL.2.1.symm) (ax_own S) (fun w hw => ax_hw S hw) (ax_hw S (ax_ckK_w hw)) w5 w4 hS (Nat.le_of_ble_eq_true hf) (Nat.le_of_ble_eq_true hlo) (ax_small_le γ hsm) hd (fun H1 locs1 e1 hS1 => by subst e1; exact K _ _ la hP hS1 hL)
  rw [← e1] at h9
  exact h9
theorem ax_step (hIX : ax_IX l) {I : ax_I} (S : ax_St D tc γ aK aV A p s m args meth c mi) (hck : ax_ckI mi pc I = true) (hs : ax_stp I pc ls st h = some (.inl q)) (K : ax_G l D tc γ A p e s m args below meth c mi r h' q.1 q.2.1 q.2.2.1 q.2.2.2) : ax_G l D tc γ A p e s m args below meth c mi r h' pc ls st h := by
  have hd := ax_dec hck
  obtain ⟨⟨i, len⟩, ⟨a, b, w⟩, k32, k64⟩ := I
  unfold ax_ckI at hck
  rw [Bool.and_eq_true] at hck
  obtain ⟨-, hck⟩ := hck
  cases i
  case iconst n =>
    replace hck : (len == 1 && decide (Int32.ofInt n = k32)) = true := hck
    rw [Bool.and_eq_true] at hck; obtain ⟨hl, hck⟩ := hck; have hl := beq_iff_eq.mp hl; subst hl
    exact ax_t_iconst S hd (of_decide_eq_true hck) hs K
  case bipush n =>
    replace hck : (len == 2 && decide ((Int8.ofInt n).toInt32 = k32)) = true := hck
    rw [Bool.and_eq_true] at hck; obtain ⟨hl, hck⟩ := hck; have hl := beq_iff_eq.mp hl; subst hl
    exact ax_t_bipush S hd (of_decide_eq_true hck) hs K
  case sipush n =>
    replace hck : (len == 3 && decide ((Int16.ofInt n).toInt32 = k32)) = true := hck
    rw [Bool.and_eq_true] at hck; obtain ⟨hl, hck⟩ := hck; have hl := beq_iff_eq.mp hl; subst hl
    exact ax_t_sipush S hd (of_decide_eq_true hck) hs K
  case lconst n =>
    replace hck : (len == 1 && decide (Int64.ofNat (n : Nat) = k64)) = true := hck
    rw [Bool.and_eq_true] at hck; obtain ⟨hl, hck⟩ := hck; have hl := beq_iff_eq.mp hl; subst hl
    exact ax_t_lconst S hd (of_decide_eq_true hck) hs K
  case ldc i =>
    replace hck : (len == 2 && (bif a == 1 then Nat.beq (ax_m mi).2.2.2.2.1.2.2 4 && i == 42 else (match ax_lK[w]? with | some q => Nat.beq q.1 (ax_m mi).2.2.2.2.1.2.2 && (Nat.beq q.2.1 i && decide (q.2.2 = k32)) | none => false))) = true := hck
    rw [Bool.and_eq_true] at hck; obtain ⟨hl, hck⟩ := hck; have hl := beq_iff_eq.mp hl; subst hl
    cases ha : (a == 1) with
    | true =>
      rw [ha] at hck
      rw [cond_true, Bool.and_eq_true] at hck
      have hi := beq_iff_eq.mp hck.2
      subst hi
      replace hs : (bif a == 1 then ax_nx (pc + 2) ls (.ref 999 :: st) h else ax_nx (pc + 2) ls (.int k32 :: st) h) = some (.inl q) := hs
      rw [ha] at hs
      exact ax_t_ldcS S hd (Nat.eq_of_beq_eq_true hck.1) hs K
    | false =>
      rw [ha] at hck
      replace hs : (bif a == 1 then ax_nx (pc + 2) ls (.ref 999 :: st) h else ax_nx (pc + 2) ls (.int k32 :: st) h) = some (.inl q) := hs
      rw [ha] at hs
      exact ax_t_ldc S hd (ax_lK_w hck) hs K
  case ldc_w i =>
    replace hck : (len == 3 && (match ax_lK[w]? with | some q => Nat.beq q.1 (ax_m mi).2.2.2.2.1.2.2 && (Nat.beq q.2.1 i && decide (q.2.2 = k32)) | none => false)) = true := hck
    rw [Bool.and_eq_true] at hck; obtain ⟨hl, hck⟩ := hck; have hl := beq_iff_eq.mp hl; subst hl
    exact ax_t_ldcw S hd (ax_lK_w hck) hs K
  case ldc2_w i =>
    replace hck : (len == 3 && (match ax_lJ[w]? with | some q => Nat.beq q.1 (ax_m mi).2.2.2.2.1.2.2 && (Nat.beq q.2.1 i && decide (q.2.2 = k64)) | none => false)) = true := hck
    rw [Bool.and_eq_true] at hck; obtain ⟨hl, hck⟩ := hck; have hl := beq_iff_eq.mp hl; subst hl
    exact ax_t_ldc2 S hd (ax_lJ_w hck) hs K
  case iload i =>
    replace hck : (len == 2) = true := hck
    have hl := beq_iff_eq.mp hck; subst hl
    exact ax_t_iload S hd hs K
  case iload_n i =>
    replace hck : (len == 1) = true := hck
    have hl := beq_iff_eq.mp hck; subst hl
    exact ax_t_iload_n S hd hs K
  case lload i =>
    replace hck : (len == 2) = true := hck
    have hl := beq_iff_eq.mp hck; subst hl
    exact ax_t_lload S hd hs K
  case lload_n i =>
    replace hck : (len == 1) = true := hck
    have hl := beq_iff_eq.mp hck; subst hl
    exact ax_t_lload_n S hd hs K
  case aload i =>
    replace hck : (len == 2) = true := hck
    have hl := beq_iff_eq.mp hck; subst hl
    exact ax_t_aload S hd hs K
  case aload_n i =>
    replace hck : (len == 1) = true := hck
    have hl := beq_iff_eq.mp hck; subst hl
    exact ax_t_aload_n S hd hs K
  case istore i =>
    replace hck : (len == 2) = true := hck
    have hl := beq_iff_eq.mp hck; subst hl
    exact ax_t_istore S hd hs K
  case istore_n i =>
    replace hck : (len == 1) = true := hck
    have hl := beq_iff_eq.mp hck; subst hl
    exact ax_t_istore_n S hd hs K
  case lstore i =>
    replace hck : (len == 2) = true := hck
    have hl := beq_iff_eq.mp hck; subst hl
    exact ax_t_lstore S hd hs K
  case lstore_n i =>
    replace hck : (len == 1) = true := hck
    have hl := beq_iff_eq.mp hck; subst hl
    exact ax_t_lstore_n S hd hs K
  case astore i =>
    replace hck : (len == 2) = true := hck
    have hl := beq_iff_eq.mp hck; subst hl
    exact ax_t_astore S hd hs K
  case astore_n i =>
    replace hck : (len == 1) = true := hck
    have hl := beq_iff_eq.mp hck; subst hl
    exact ax_t_astore_n S hd hs K
  case iinc i n =>
    replace hck : (len == 3) = true := hck
    have hl := beq_iff_eq.mp hck; subst hl
    exact ax_t_iinc S hd hs K
  case iadd =>
    replace hck : (len == 1) = true := hck
    have hl := beq_iff_eq.mp hck; subst hl
    exact ax_t_iadd S hd hs K
  case isub =>
    replace hck : (len == 1) = true := hck
    have hl := beq_iff_eq.mp hck; subst hl
    exact ax_t_isub S hd hs K
  case imul =>
    replace hck : (len == 1) = true := hck
    have hl := beq_iff_eq.mp hck; subst hl
    exact ax_t_imul S hd hs K
  case idiv =>
    replace hck : (len == 1) = true := hck
    have hl := beq_iff_eq.mp hck; subst hl
    exact ax_t_idiv S hd hs K
  case irem =>
    replace hck : (len == 1) = true := hck
    have hl := beq_iff_eq.mp hck; subst hl
    exact ax_t_irem S hd hs K
  case iand =>
    replace hck : (len == 1) = true := hck
    have hl := beq_iff_eq.mp hck; subst hl
    exact ax_t_iand S hd hs K
  case ior =>
    replace hck : (len == 1) = true := hck
    have hl := beq_iff_eq.mp hck; subst hl
    exact ax_t_ior S hd hs K
  case ixor =>
    replace hck : (len == 1) = true := hck
    have hl := beq_iff_eq.mp hck; subst hl
    exact ax_t_ixor S hd hs K
  case ishl =>
    replace hck : (len == 1) = true := hck
    have hl := beq_iff_eq.mp hck; subst hl
    exact ax_t_ishl S hd hs K
  case ishr =>
    replace hck : (len == 1) = true := hck
    have hl := beq_iff_eq.mp hck; subst hl
    exact ax_t_ishr S hd hs K
  case iushr =>
    replace hck : (len == 1) = true := hck
    have hl := beq_iff_eq.mp hck; subst hl
    exact ax_t_iushr S hd hs K
  case ladd =>
    replace hck : (len == 1) = true := hck
    have hl := beq_iff_eq.mp hck; subst hl
    exact ax_t_ladd S hd hs K
  case lsub =>
    replace hck : (len == 1) = true := hck
    have hl := beq_iff_eq.mp hck; subst hl
    exact ax_t_lsub S hd hs K
  case lmul =>
    replace hck : (len == 1) = true := hck
    have hl := beq_iff_eq.mp hck; subst hl
    exact ax_t_lmul S hd hs K
  case land =>
    replace hck : (len == 1) = true := hck
    have hl := beq_iff_eq.mp hck; subst hl
    exact ax_t_land S hd hs K
  case ldiv =>
    replace hck : (len == 1) = true := hck
    have hl := beq_iff_eq.mp hck; subst hl
    exact ax_t_ldiv S hd hs K
  case lrem =>
    replace hck : (len == 1) = true := hck
    have hl := beq_iff_eq.mp hck; subst hl
    exact ax_t_lrem S hd hs K
  case lcmp =>
    replace hck : (len == 1) = true := hck
    have hl := beq_iff_eq.mp hck; subst hl
    exact ax_t_lcmp S hd hs K
  case ineg =>
    replace hck : (len == 1) = true := hck
    have hl := beq_iff_eq.mp hck; subst hl
    exact ax_t_ineg S hd hs K
  case i2l =>
    replace hck : (len == 1) = true := hck
    have hl := beq_iff_eq.mp hck; subst hl
    exact ax_t_i2l S hd hs K
  case i2b =>
    replace hck : (len == 1) = true := hck
    have hl := beq_iff_eq.mp hck; subst hl
    exact ax_t_i2b S hd hs K
  case i2s =>
    replace hck : (len == 1) = true := hck
    have hl := beq_iff_eq.mp hck; subst hl
    exact ax_t_i2s S hd hs K
  case i2c =>
    replace hck : (len == 1) = true := hck
    have hl := beq_iff_eq.mp hck; subst hl
    exact ax_t_i2c S hd hs K
  case l2i =>
    replace hck : (len == 1) = true := hck
    have hl := beq_iff_eq.mp hck; subst hl
    exact ax_t_l2i S hd hs K
  case dup =>
    replace hck : (len == 1) = true := hck
    have hl := beq_iff_eq.mp hck; subst hl
    exact ax_t_dup S hd hs K
  case dup2 =>
    replace hck : (len == 1) = true := hck
    have hl := beq_iff_eq.mp hck; subst hl
    exact ax_t_dup2 S hd hs K
  case pop =>
    replace hck : (len == 1) = true := hck
    have hl := beq_iff_eq.mp hck; subst hl
    exact ax_t_pop S hd hs K
  case iaload =>
    replace hck : (len == 1) = true := hck
    have hl := beq_iff_eq.mp hck; subst hl
    exact ax_t_iaload S hd hs K
  case caload =>
    replace hck : (len == 1) = true := hck
    have hl := beq_iff_eq.mp hck; subst hl
    exact ax_t_caload S hd hs K
  case laload =>
    replace hck : (len == 1) = true := hck
    have hl := beq_iff_eq.mp hck; subst hl
    exact ax_t_laload S hd hs K
  case aaload =>
    replace hck : (len == 1) = true := hck
    have hl := beq_iff_eq.mp hck; subst hl
    exact ax_t_aaload S hd hs K
  case iastore =>
    replace hck : (len == 1) = true := hck
    have hl := beq_iff_eq.mp hck; subst hl
    exact ax_t_iastore S hd hs K
  case castore =>
    replace hck : (len == 1) = true := hck
    have hl := beq_iff_eq.mp hck; subst hl
    exact ax_t_castore S hd hs K
  case lastore =>
    replace hck : (len == 1) = true := hck
    have hl := beq_iff_eq.mp hck; subst hl
    exact ax_t_lastore S hd hs K
  case arraylength =>
    replace hck : (len == 1) = true := hck
    have hl := beq_iff_eq.mp hck; subst hl
    exact ax_t_arraylength S hd hs K
  case goto off =>
    replace hck : (len == 3 && decide ((pc : Int) + off = (a : Int))) = true := hck
    rw [Bool.and_eq_true] at hck; obtain ⟨hl, hck⟩ := hck; have hl := beq_iff_eq.mp hl; subst hl
    exact ax_t_goto S hd (of_decide_eq_true hck) hs K
  case ifCond cd off =>
    replace hck : (len == 3 && decide ((pc : Int) + off = (a : Int))) = true := hck
    rw [Bool.and_eq_true] at hck; obtain ⟨hl, hck⟩ := hck; have hl := beq_iff_eq.mp hl; subst hl
    exact ax_t_if S hd (of_decide_eq_true hck) hs K
  case if_icmp cd off =>
    replace hck : (len == 3 && decide ((pc : Int) + off = (a : Int))) = true := hck
    rw [Bool.and_eq_true] at hck; obtain ⟨hl, hck⟩ := hck; have hl := beq_iff_eq.mp hl; subst hl
    exact ax_t_icmp S hd (of_decide_eq_true hck) hs K
  case tableswitch d lo hi offs =>
    replace hck : (decide (0 ≤ (pc : Int) + d) && offs.toList.all (fun o => decide (0 ≤ (pc : Int) + o))) = true := hck
    rw [Bool.and_eq_true] at hck
    exact ax_t_tab S hd (of_decide_eq_true hck.1) (fun o ho => of_decide_eq_true (List.all_eq_true.mp hck.2 o ho)) hs K
  case getfield i =>
    replace hck : (len == 3 && (Nat.ble (a + 1) 7 && (Nat.ble (b + 1) (ax_nf a) && ax_ckF (ax_m mi).2.2.2.2.1.2.2 i a b w))) = true := hck
    rw [Bool.and_eq_true] at hck; obtain ⟨hl, hck⟩ := hck; have hl := beq_iff_eq.mp hl; subst hl
    simp only [Bool.and_eq_true] at hck
    exact ax_t_getfield S hd (Nat.le_of_ble_eq_true hck.1) (Nat.le_of_ble_eq_true hck.2.1) hck.2.2 hs K
  case putfield i =>
    replace hck : (len == 3 && ((Nat.ble (a + 1) 7 && (Nat.ble (b + 1) (ax_nf a) && ax_ckF (ax_m mi).2.2.2.2.1.2.2 i a b w)) && ((ax_T a b).2.2.2 == false && decide (ax_tyl.getD a tyX0 b = (bif k32 == 0 then .int else .boolean))))) = true := hck
    rw [Bool.and_eq_true] at hck; obtain ⟨hl, hck⟩ := hck; have hl := beq_iff_eq.mp hl; subst hl
    simp only [Bool.and_eq_true] at hck
    exact ax_t_putfield S hd (Nat.le_of_ble_eq_true hck.1.1) (Nat.le_of_ble_eq_true hck.1.2.1) hck.1.2.2 (beq_iff_eq.mp hck.2.1) (of_decide_eq_true hck.2.2) hs K
  case invokevirtual i =>
    replace hck : (len == 3 && (bif b == 3 then ax_ckK (ax_m mi).2.2.2.2.1.2.2 i w 1001 && (Nat.ble 5 (ax_m mi).2.2.2.2.2.1.1 && Nat.ble 130 (ax_m mi).2.2.2.2.2.1.2) else ax_ckK (ax_m mi).2.2.2.2.1.2.2 i w a && ((ax_m a).2.2.2.2.1.1 == false && ax_ckC mi a))) = true := hck
    rw [Bool.and_eq_true] at hck; obtain ⟨hl, hck⟩ := hck; have hl := beq_iff_eq.mp hl; subst hl
    replace hs : (bif b == 3 then ax_ix (pc + 3) ls st h else ax_inv pc a ls st h) = some (.inl q) := hs
    cases hb : (b == 3) with
    | true =>
      rw [hb] at hck hs
      simp only [cond_true, Bool.and_eq_true] at hck
      exact ax_t_idx hIX S hd hck.1 hck.2.1 hck.2.2 hs K
    | false =>
      rw [hb] at hs
      rw [cond_false] at hs
      unfold ax_inv at hs
      split at hs
      · rename_i x rest hx
        cases hz : (ax_small rest && (ax_isO h x (ax_m a).2.2.2.2.1.2.2 && ((st.take (ax_m a).2.2.2.2.1.2.1).length == (ax_m a).2.2.2.2.1.2.1 && Nat.ble (ax_sl (.ref x :: (st.take (ax_m a).2.2.2.2.1.2.1).reverse)).length (ax_m a).2.2.1))) with
        | true => rw [hz, cond_true] at hs; cases hs
        | false => rw [hz, cond_false] at hs; cases hs
      · cases hs
  case invokestatic i =>
    replace hck : (len == 3 && (bif b == 1 || b == 2 then ax_ckK (ax_m mi).2.2.2.2.1.2.2 i w 1000 && ax_ckA mi else bif b == 4 then ax_ckK (ax_m mi).2.2.2.2.1.2.2 i w 1002 && ax_ckA mi else bif b == 5 then ax_ckK (ax_m mi).2.2.2.2.1.2.2 i w 1003 && ax_ckA mi else ax_ckK (ax_m mi).2.2.2.2.1.2.2 i w a && ((ax_m a).2.2.2.2.1.1 == true && ax_ckC mi a))) = true := hck
    rw [Bool.and_eq_true] at hck; obtain ⟨hl, hck⟩ := hck; have hl := beq_iff_eq.mp hl; subst hl
    replace hs : (bif b == 1 then ax_cp (pc + 3) ls st h ax_cpyI else bif b == 2 then ax_cp (pc + 3) ls st h ax_cpyJ else bif b == 4 then ax_mm (pc + 3) ls st h ax_min else bif b == 5 then ax_mm (pc + 3) ls st h ax_max else ax_ins pc a ls st h) = some (.inl q) := hs
    by_cases h1 : b = 1
    · subst h1
      replace hck : (ax_ckK (ax_m mi).2.2.2.2.1.2.2 i w 1000 && ax_ckA mi) = true := hck
      rw [Bool.and_eq_true] at hck
      exact ax_t_cpyI S hd hck.1 hck.2 hs K
    by_cases h2 : b = 2
    · subst h2
      replace hck : (ax_ckK (ax_m mi).2.2.2.2.1.2.2 i w 1000 && ax_ckA mi) = true := hck
      rw [Bool.and_eq_true] at hck
      exact ax_t_cpyJ S hd hck.1 hck.2 hs K
    by_cases h4 : b = 4
    · subst h4
      replace hck : (ax_ckK (ax_m mi).2.2.2.2.1.2.2 i w 1002 && ax_ckA mi) = true := hck
      rw [Bool.and_eq_true] at hck
      exact ax_t_min S hd hck.1 hck.2 hs K
    by_cases h5 : b = 5
    · subst h5
      replace hck : (ax_ckK (ax_m mi).2.2.2.2.1.2.2 i w 1003 && ax_ckA mi) = true := hck
      rw [Bool.and_eq_true] at hck
      exact ax_t_max S hd hck.1 hck.2 hs K
    rw [beq_eq_false_iff_ne.mpr h1, beq_eq_false_iff_ne.mpr h2, beq_eq_false_iff_ne.mpr h4, beq_eq_false_iff_ne.mpr h5] at hs
    simp only [cond_false] at hs
    unfold ax_ins at hs
    cases hz : (ax_small (st.drop (ax_m a).2.2.2.2.1.2.1) && ((st.take (ax_m a).2.2.2.2.1.2.1).length == (ax_m a).2.2.2.2.1.2.1 && Nat.ble (ax_sl (st.take (ax_m a).2.2.2.2.1.2.1).reverse).length (ax_m a).2.2.1)) with
    | true => rw [hz, cond_true] at hs; cases hs
    | false => rw [hz, cond_false] at hs; cases hs
  case ireturn =>
    obtain ⟨x, -, -, e0⟩ := ax_rI_i hs
    cases e0
  case lreturn =>
    obtain ⟨x, -, e0⟩ := ax_rJ_i hs
    cases e0
  case return_ =>
    obtain ⟨-, e0⟩ := ax_rV_i hs
    cases e0
  all_goals exact absurd (show (none : ax_R) = some (.inl q) from hs) (by simp)
theorem ax_stepR {I : ax_I} {r0 : ax_O} (S : ax_St D tc γ aK aV A p s m args meth c mi) (hck : ax_ckI mi pc I = true) (hs : ax_stp I pc ls st h = some (.inr (.inl r0))) : ax_G l D tc γ A p e s m args below meth c mi r0.1 r0.2 pc ls st h := by
  have hd := ax_dec hck
  obtain ⟨⟨i, len⟩, ⟨a, b, w⟩, k32, k64⟩ := I
  unfold ax_ckI at hck
  rw [Bool.and_eq_true] at hck
  obtain ⟨-, hck⟩ := hck
  have nxn : ∀ {pc : Nat} {ls : ax_L} {st : List Value} {h : ax_H}, ax_nx pc ls st h = some (.inr (.inl r0)) → False := by
    intro pc ls st h hx; unfold ax_nx at hx; cases hx
  cases i
  case ireturn =>
    replace hck : (len == 1 && decide ((ax_m mi).2.2.2.1 = some (match (generalizing := false) a with | 0 => .int | 1 => .boolean | _ => .char))) = true := hck
    rw [Bool.and_eq_true] at hck; obtain ⟨hl, hck⟩ := hck; have hl := beq_iff_eq.mp hl; subst hl
    replace hck := of_decide_eq_true hck
    obtain ⟨x, rfl, hf, e0⟩ := ax_rI_i hs
    cases e0
    rcases ax_fitR_i hf with ⟨rfl, hn⟩ | ⟨rfl, hn⟩ | ⟨rfl, hn⟩
    · exact ax_t_ireturn S hd hck hn
    · exact ax_t_ireturn S hd hck hn
    · exact ax_t_ireturn S hd hck hn
  case lreturn =>
    replace hck : (len == 1 && decide ((ax_m mi).2.2.2.1 = some .long)) = true := hck
    rw [Bool.and_eq_true] at hck; obtain ⟨hl, hck⟩ := hck; have hl := beq_iff_eq.mp hl; subst hl
    obtain ⟨x, rfl, e0⟩ := ax_rJ_i hs
    cases e0
    exact ax_t_lreturn S hd (of_decide_eq_true hck)
  case return_ =>
    replace hck : (len == 1 && decide ((ax_m mi).2.2.2.1 = none)) = true := hck
    rw [Bool.and_eq_true] at hck; obtain ⟨hl, hck⟩ := hck; have hl := beq_iff_eq.mp hl; subst hl
    obtain ⟨rfl, e0⟩ := ax_rV_i hs
    cases e0
    exact ax_t_return S hd (of_decide_eq_true hck)
  all_goals exfalso
  all_goals first
    | exact absurd (show (none : ax_R) = some (.inr (.inl r0)) from hs) (by simp)
    | exact nxn hs
    | (simp only [ax_stp, ax_nx, ax_ldI, ax_ldJ, ax_ldA, ax_sI, ax_sJ, ax_sA, ax_inc, ax_b2, ax_b2L, ax_u1, ax_br1, ax_br2, ax_cp, ax_mm, ax_ix, ax_inv, ax_ins, cond_eq_ite] at hs
       repeat' (split at hs)
       all_goals first | (cases hs; done) | contradiction | (simp at hs; done))
theorem ax_stepC {I : ax_I} {y : Nat} {el : ax_L} {q : ax_N} (hck : ax_ckI mi pc I = true) (hs : ax_stp I pc ls st h = some (.inr (.inr (y, el, q)))) :
    ∃ i w av rest, el = ax_ent (ax_m y).2.2.1 av ∧ q = (pc + 3, ls, rest, h) ∧ ax_small rest = true ∧ (ax_sl av).length ≤ (ax_m y).2.2.1 ∧ ax_ckK (ax_m mi).2.2.2.2.1.2.2 i w y = true ∧ ax_ckC mi y = true ∧
      ((decode (ax_m mi).2.1 pc = .ok (.invokestatic i, 3) ∧ (ax_m y).2.2.2.2.1.1 = true ∧ av.length = (ax_m y).2.2.2.2.1.2.1 ∧ st = av.reverse ++ rest) ∨
       (decode (ax_m mi).2.1 pc = .ok (.invokevirtual i, 3) ∧ (ax_m y).2.2.2.2.1.1 = false ∧ ∃ a av', av = .ref a :: av' ∧ av'.length = (ax_m y).2.2.2.2.1.2.1 ∧ st = av'.reverse ++ .ref a :: rest ∧ ax_isO h a (ax_m y).2.2.2.2.1.2.2 = true)) := by
  have hd := ax_dec hck
  obtain ⟨⟨i, len⟩, ⟨a, b, w⟩, k32, k64⟩ := I
  unfold ax_ckI at hck
  rw [Bool.and_eq_true] at hck
  obtain ⟨-, hck⟩ := hck
  have nxn : ∀ {pc : Nat} {ls : ax_L} {st : List Value} {h : ax_H}, ax_nx pc ls st h = some (.inr (.inr (y, el, q))) → False := by
    intro pc ls st h hx; unfold ax_nx at hx; cases hx
  cases i
  case invokevirtual i =>
    replace hck : (len == 3 && (bif b == 3 then ax_ckK (ax_m mi).2.2.2.2.1.2.2 i w 1001 && (Nat.ble 5 (ax_m mi).2.2.2.2.2.1.1 && Nat.ble 130 (ax_m mi).2.2.2.2.2.1.2) else ax_ckK (ax_m mi).2.2.2.2.1.2.2 i w a && ((ax_m a).2.2.2.2.1.1 == false && ax_ckC mi a))) = true := hck
    rw [Bool.and_eq_true] at hck; obtain ⟨hl, hck⟩ := hck; have hl := beq_iff_eq.mp hl; subst hl
    replace hs : (bif b == 3 then ax_ix (pc + 3) ls st h else ax_inv pc a ls st h) = some (.inr (.inr (y, el, q))) := hs
    cases hb : (b == 3) with
    | true =>
      exfalso
      rw [hb, cond_true] at hs
      obtain ⟨x, st', -, -, e0⟩ := ax_ix_i hs
      cases e0
    | false =>
      rw [hb, cond_false] at hs hck
      simp only [Bool.and_eq_true] at hck
      unfold ax_inv at hs
      split at hs
      · rename_i x rest hx
        cases hz : (ax_small rest && (ax_isO h x (ax_m a).2.2.2.2.1.2.2 && ((st.take (ax_m a).2.2.2.2.1.2.1).length == (ax_m a).2.2.2.2.1.2.1 && Nat.ble (ax_sl (.ref x :: (st.take (ax_m a).2.2.2.2.1.2.1).reverse)).length (ax_m a).2.2.1))) with
        | true =>
          rw [hz, cond_true] at hs
          cases hs
          simp only [Bool.and_eq_true] at hz
          refine ⟨i, w, _, rest, rfl, rfl, hz.1, Nat.le_of_ble_eq_true hz.2.2.2, hck.1, hck.2.2, Or.inr ⟨hd, beq_iff_eq.mp hck.2.1, x, _, rfl, ?_, ?_, hz.2.1⟩⟩
          · rw [List.length_reverse]; exact beq_iff_eq.mp hz.2.2.1
          · rw [List.reverse_reverse, ← hx, List.take_append_drop]
        | false => rw [hz, cond_false] at hs; cases hs
      · cases hs
  case invokestatic i =>
    replace hck : (len == 3 && (bif b == 1 || b == 2 then ax_ckK (ax_m mi).2.2.2.2.1.2.2 i w 1000 && ax_ckA mi else bif b == 4 then ax_ckK (ax_m mi).2.2.2.2.1.2.2 i w 1002 && ax_ckA mi else bif b == 5 then ax_ckK (ax_m mi).2.2.2.2.1.2.2 i w 1003 && ax_ckA mi else ax_ckK (ax_m mi).2.2.2.2.1.2.2 i w a && ((ax_m a).2.2.2.2.1.1 == true && ax_ckC mi a))) = true := hck
    rw [Bool.and_eq_true] at hck; obtain ⟨hl, hck⟩ := hck; have hl := beq_iff_eq.mp hl; subst hl
    replace hs : (bif b == 1 then ax_cp (pc + 3) ls st h ax_cpyI else bif b == 2 then ax_cp (pc + 3) ls st h ax_cpyJ else bif b == 4 then ax_mm (pc + 3) ls st h ax_min else bif b == 5 then ax_mm (pc + 3) ls st h ax_max else ax_ins pc a ls st h) = some (.inr (.inr (y, el, q))) := hs
    have cpn : ∀ {f : ax_H → Nat → Nat → Int32 → Int32 → Int32 → Option ax_H}, ax_cp (pc + 3) ls st h f = some (.inr (.inr (y, el, q))) → False := by
      intro f hx
      unfold ax_cp at hx
      split at hx
      · split at hx
        · exact nxn hx
        · cases hx
      · cases hx
    have mmn : ∀ {f : Int32 → Int32 → Int32}, ax_mm (pc + 3) ls st h f = some (.inr (.inr (y, el, q))) → False := by
      intro f hx
      unfold ax_mm at hx
      split at hx
      · rename_i y' x' st'
        cases hz : ax_small st' with
        | true => rw [hz] at hx; exact nxn hx
        | false => rw [hz] at hx; cases hx
      · cases hx
    by_cases h1 : b = 1
    · subst h1; exact (cpn hs).elim
    by_cases h2 : b = 2
    · subst h2; exact (cpn hs).elim
    by_cases h4 : b = 4
    · subst h4; exact (mmn hs).elim
    by_cases h5 : b = 5
    · subst h5; exact (mmn hs).elim
    rw [beq_eq_false_iff_ne.mpr h1, beq_eq_false_iff_ne.mpr h2, beq_eq_false_iff_ne.mpr h4, beq_eq_false_iff_ne.mpr h5] at hs hck
    simp only [cond_false, Bool.or_false, Bool.and_eq_true] at hs hck
    unfold ax_ins at hs
    cases hz : (ax_small (st.drop (ax_m a).2.2.2.2.1.2.1) && ((st.take (ax_m a).2.2.2.2.1.2.1).length == (ax_m a).2.2.2.2.1.2.1 && Nat.ble (ax_sl (st.take (ax_m a).2.2.2.2.1.2.1).reverse).length (ax_m a).2.2.1)) with
    | true =>
      rw [hz, cond_true] at hs
      cases hs
      simp only [Bool.and_eq_true] at hz
      refine ⟨i, w, _, _, rfl, rfl, hz.1, Nat.le_of_ble_eq_true hz.2.2, hck.1, hck.2.2, Or.inl ⟨hd, beq_iff_eq.mp hck.2.1, ?_, ?_⟩⟩
      · rw [List.length_reverse]; exact beq_iff_eq.mp hz.2.1
      · rw [List.reverse_reverse, List.take_append_drop]
    | false => rw [hz, cond_false] at hs; cases hs
  all_goals exfalso
  all_goals first
    | exact absurd (show (none : ax_R) = some (.inr (.inr (y, el, q))) from hs) (by simp)
    | exact nxn hs
    | (simp only [ax_stp, ax_nx, ax_ldI, ax_ldJ, ax_ldA, ax_sI, ax_sJ, ax_sA, ax_inc, ax_b2, ax_b2L, ax_u1, ax_br1, ax_br2, ax_rI, ax_rJ, ax_rV, cond_eq_ite] at hs
       repeat' (split at hs)
       all_goals first | (cases hs; done) | contradiction | (simp at hs; done))
end AXM
theorem ax_sound {l : Launch} (hIX : ax_IX l) {D : va_G} {tc : Nat → ClassId} {γ aK aV : Nat → Nat} (n : Nat) : ∀ {mi pc : Nat} {ls : ax_L} {st : List Value} {h h' : ax_H} {r : Option Value}, ax_run n mi pc ls st h = some (r, h') →
    ∀ (A : Nat → Prop) (p : Program) (e : Env) (s : State) (m : MethodId) (args : Array Value) (below : List Frame) (meth : Method) (c : Code), ax_St D tc γ aK aV A p s m args meth c mi → ax_G l D tc γ A p e s m args below meth c mi r h' pc ls st h := by
  induction n with
  | zero => intro mi pc ls st h h' r hr; simp [ax_run] at hr
  | succ n ih =>
    intro mi pc ls st h h' r hr A p e s m args below meth c S
    rw [ax_run] at hr
    cases hf : ax_fet mi pc with
    | none => rw [hf] at hr; simp at hr
    | some I =>
      rw [hf] at hr
      replace hck := ax_ckI_at S.2.2 hf
      simp only at hr
      cases hs : ax_stp I pc ls st h with
      | none => rw [hs] at hr; simp at hr
      | some q =>
        rw [hs] at hr
        match q, hs, hr with
        | .inl q, hs, hr => exact ax_step hIX S hck hs (ih hr A p e s m args below meth c S)
        | .inr (.inl o), hs, hr => cases hr; exact ax_stepR S hck hs
        | .inr (.inr (y, el, q)), hs, hr =>
          obtain ⟨i, w, av, rest, rfl, rfl, hsm, hlen, hk, hC, hx⟩ := ax_stepC hck hs
          simp only at hr
          cases hc : ax_run n y 0 (ax_ent (ax_m y).2.2.1 av) [] h with
          | none => rw [hc] at hr; simp at hr
          | some o =>
            obtain ⟨r1, h1⟩ := o
            rw [hc] at hr
            rcases hx with ⟨hd, hst, hn, hstk⟩ | ⟨hd, hst, a, av', rfl, hn, hstk, hO⟩
            · exact ax_callS S hd hk hst hC hn hstk hsm hlen (fun A p e s m args below meth c S2 => ih hc A p e s m args below meth c S2) (ih hr A p e s m args below meth c S)
            · exact ax_callV S hd hk hst hC hn hstk hsm hO hlen (fun A p e s m args below meth c S2 => ih hc A p e s m args below meth c S2) (ih hr A p e s m args below meth c S)
/-- a method's contract out of what the small machine says -/
theorem ax_met {l : Launch} (hIX : ax_IX l) {D : va_G} {tc : Nat → ClassId} {γ aK aV : Nat → Nat} {y sz : Nat} {av : List Value} {h h1 : ax_H} {r1 : Option Value} (hy : y < ax_NM) (hlen : (ax_sl av).length ≤ (ax_m y).2.2.1) (hr : ax_res y 0 (ax_ent (ax_m y).2.2.1 av) [] h = some (r1, h1)) :
    Met l (ax_m y).1 (ax_ws y) (ax_rm y) (ax_Pc D tc γ aK aV h sz av) (ax_Q D tc γ (ax_A γ sz) r1 h1) 0 0 (ax_A γ sz) := by
  obtain ⟨n, hn⟩ := ax_res_iff.mp hr
  exact ax_met_of hy hlen (fun A p e s m args below meth c S => ax_sound hIX n hn A p e s m args below meth c S)
