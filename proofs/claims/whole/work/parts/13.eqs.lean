/-! ===== equations of the small machine, one for each kind of instruction ===== -/
theorem ax_nq {mi pc pc2 : Nat} {ls ls2 : ax_L} {st st2 : List Value} {h h2 : ax_H} {I : ax_I} (hf : ax_fet mi pc = some I) (hs : ax_stp I pc ls st h = some (.inl (pc2, ls2, st2, h2))) : ax_res mi pc ls st h = ax_res mi pc2 ls2 st2 h2 := ax_res_n hf hs
theorem ax_cq {mi pc pc2 y : Nat} {ls ls2 el : ax_L} {st st2 : List Value} {h h2 : ax_H} {I : ax_I} (hf : ax_fet mi pc = some I) (hs : ax_stp I pc ls st h = some (.inr (.inr (y, el, (pc2, ls2, st2, h2))))) : ax_res mi pc ls st h = ax_bR (ax_res y 0 el [] h2) mi pc2 ls2 st2 := ax_res_c hf hs
section AXE
variable {mi pc : Nat} {ls ls' : ax_L} {st : List Value} {h : ax_H} {n a b w i : Nat} {k1 : Int32} {k2 : Int64}
theorem ax_e_iconst {k : Int} (hf : ax_fet mi pc = some ((.iconst k, n), (a, b, w), (k1, k2))) : ax_res mi pc ls (st) h = ax_res mi (pc + 1) ls (.int k1 :: st) h := ax_nq hf rfl
theorem ax_e_bipush {k : Int} (hf : ax_fet mi pc = some ((.bipush k, n), (a, b, w), (k1, k2))) : ax_res mi pc ls (st) h = ax_res mi (pc + 2) ls (.int k1 :: st) h := ax_nq hf rfl
theorem ax_e_sipush {k : Int} (hf : ax_fet mi pc = some ((.sipush k, n), (a, b, w), (k1, k2))) : ax_res mi pc ls (st) h = ax_res mi (pc + 3) ls (.int k1 :: st) h := ax_nq hf rfl
theorem ax_e_ldc_w (hf : ax_fet mi pc = some ((.ldc_w i, n), (a, b, w), (k1, k2))) : ax_res mi pc ls (st) h = ax_res mi (pc + 3) ls (.int k1 :: st) h := ax_nq hf rfl
theorem ax_e_ldc (hf : ax_fet mi pc = some ((.ldc i, n), (0, b, w), (k1, k2))) : ax_res mi pc ls st h = ax_res mi (pc + 2) ls (.int k1 :: st) h := ax_nq hf rfl
theorem ax_e_ldcS (hf : ax_fet mi pc = some ((.ldc i, n), (1, b, w), (k1, k2))) : ax_res mi pc ls st h = ax_res mi (pc + 2) ls (.ref 999 :: st) h := ax_nq hf rfl
theorem ax_e_lconst {k : Fin 2} (hf : ax_fet mi pc = some ((.lconst k, n), (a, b, w), (k1, k2))) : ax_res mi pc ls (st) h = ax_res mi (pc + 1) ls (.long k2 :: st) h := ax_nq hf rfl
theorem ax_e_ldc2_w (hf : ax_fet mi pc = some ((.ldc2_w i, n), (a, b, w), (k1, k2))) : ax_res mi pc ls (st) h = ax_res mi (pc + 3) ls (.long k2 :: st) h := ax_nq hf rfl
theorem ax_e_iload {x : Int32} (hf : ax_fet mi pc = some ((.iload i, n), (a, b, w), (k1, k2))) (hl : ls[i]? = some (some (.int x))) : ax_res mi pc ls (st) h = ax_res mi (pc + 2) ls (.int x :: st) h := ax_nq hf (by simp only [ax_stp, ax_ldI, hl, ax_nx])
theorem ax_e_iload_n {x : Int32} {f : Fin 4} (hf : ax_fet mi pc = some ((.iload_n f, n), (a, b, w), (k1, k2))) (hl : ls[f.val]? = some (some (.int x))) : ax_res mi pc ls (st) h = ax_res mi (pc + 1) ls (.int x :: st) h := ax_nq hf (by simp only [ax_stp, ax_ldI, hl, ax_nx])
theorem ax_e_lload {x : Int64} (hf : ax_fet mi pc = some ((.lload i, n), (a, b, w), (k1, k2))) (hl : ls[i]? = some (some (.long x))) : ax_res mi pc ls (st) h = ax_res mi (pc + 2) ls (.long x :: st) h := ax_nq hf (by simp only [ax_stp, ax_ldJ, hl, ax_nx])
theorem ax_e_lload_n {x : Int64} {f : Fin 4} (hf : ax_fet mi pc = some ((.lload_n f, n), (a, b, w), (k1, k2))) (hl : ls[f.val]? = some (some (.long x))) : ax_res mi pc ls (st) h = ax_res mi (pc + 1) ls (.long x :: st) h := ax_nq hf (by simp only [ax_stp, ax_ldJ, hl, ax_nx])
theorem ax_e_aload {x : Nat} (hf : ax_fet mi pc = some ((.aload i, n), (a, b, w), (k1, k2))) (hl : ls[i]? = some (some (.ref x))) : ax_res mi pc ls (st) h = ax_res mi (pc + 2) ls (.ref x :: st) h := ax_nq hf (by simp only [ax_stp, ax_ldA, hl, ax_nx])
theorem ax_e_aload_n {x : Nat} {f : Fin 4} (hf : ax_fet mi pc = some ((.aload_n f, n), (a, b, w), (k1, k2))) (hl : ls[f.val]? = some (some (.ref x))) : ax_res mi pc ls (st) h = ax_res mi (pc + 1) ls (.ref x :: st) h := ax_nq hf (by simp only [ax_stp, ax_ldA, hl, ax_nx])
theorem ax_e_istore {x : Int32} (hf : ax_fet mi pc = some ((.istore i, n), (a, b, w), (k1, k2))) (hl : ax_st1 ls i (.int x) = some ls') : ax_res mi pc ls (.int x :: st) h = ax_res mi (pc + 2) ls' st h := ax_nq hf (by simp only [ax_stp, ax_sI, hl, ax_nx])
theorem ax_e_istore_n {x : Int32} {f : Fin 4} (hf : ax_fet mi pc = some ((.istore_n f, n), (a, b, w), (k1, k2))) (hl : ax_st1 ls f.val (.int x) = some ls') : ax_res mi pc ls (.int x :: st) h = ax_res mi (pc + 1) ls' st h := ax_nq hf (by simp only [ax_stp, ax_sI, hl, ax_nx])
theorem ax_e_lstore {x : Int64} (hf : ax_fet mi pc = some ((.lstore i, n), (a, b, w), (k1, k2))) (hl : ax_st2 ls i (.long x) = some ls') : ax_res mi pc ls (.long x :: st) h = ax_res mi (pc + 2) ls' st h := ax_nq hf (by simp only [ax_stp, ax_sJ, hl, ax_nx])
theorem ax_e_lstore_n {x : Int64} {f : Fin 4} (hf : ax_fet mi pc = some ((.lstore_n f, n), (a, b, w), (k1, k2))) (hl : ax_st2 ls f.val (.long x) = some ls') : ax_res mi pc ls (.long x :: st) h = ax_res mi (pc + 1) ls' st h := ax_nq hf (by simp only [ax_stp, ax_sJ, hl, ax_nx])
theorem ax_e_astore {x : Nat} (hf : ax_fet mi pc = some ((.astore i, n), (a, b, w), (k1, k2))) (hl : ax_st1 ls i (.ref x) = some ls') : ax_res mi pc ls (.ref x :: st) h = ax_res mi (pc + 2) ls' st h := ax_nq hf (by simp only [ax_stp, ax_sA, hl, ax_nx])
theorem ax_e_astore_n {x : Nat} {f : Fin 4} (hf : ax_fet mi pc = some ((.astore_n f, n), (a, b, w), (k1, k2))) (hl : ax_st1 ls f.val (.ref x) = some ls') : ax_res mi pc ls (.ref x :: st) h = ax_res mi (pc + 1) ls' st h := ax_nq hf (by simp only [ax_stp, ax_sA, hl, ax_nx])
theorem ax_e_iinc {x v : Int32} {k : Int} (hf : ax_fet mi pc = some ((.iinc i k, n), (a, b, w), (k1, k2))) (hx : ls[i]? = some (some (.int x))) (hk : Int32.ofInt k = v) (hl : ax_st1 ls i (.int (x + v)) = some ls') : ax_res mi pc ls (st) h = ax_res mi (pc + 3) ls' st h := ax_nq hf (by simp only [ax_stp, ax_inc, hx, hk, hl, ax_nx])
theorem ax_e_iadd {x y : Int32} (hf : ax_fet mi pc = some ((.iadd, n), (a, b, w), (k1, k2))) : ax_res mi pc ls (.int y :: .int x :: st) h = ax_res mi (pc + 1) ls (.int (x + y) :: st) h := ax_nq hf rfl
theorem ax_e_isub {x y : Int32} (hf : ax_fet mi pc = some ((.isub, n), (a, b, w), (k1, k2))) : ax_res mi pc ls (.int y :: .int x :: st) h = ax_res mi (pc + 1) ls (.int (x - y) :: st) h := ax_nq hf rfl
theorem ax_e_imul {x y : Int32} (hf : ax_fet mi pc = some ((.imul, n), (a, b, w), (k1, k2))) : ax_res mi pc ls (.int y :: .int x :: st) h = ax_res mi (pc + 1) ls (.int (x * y) :: st) h := ax_nq hf rfl
theorem ax_e_iand {x y : Int32} (hf : ax_fet mi pc = some ((.iand, n), (a, b, w), (k1, k2))) : ax_res mi pc ls (.int y :: .int x :: st) h = ax_res mi (pc + 1) ls (.int (x &&& y) :: st) h := ax_nq hf rfl
theorem ax_e_ior {x y : Int32} (hf : ax_fet mi pc = some ((.ior, n), (a, b, w), (k1, k2))) : ax_res mi pc ls (.int y :: .int x :: st) h = ax_res mi (pc + 1) ls (.int (x ||| y) :: st) h := ax_nq hf rfl
theorem ax_e_ixor {x y : Int32} (hf : ax_fet mi pc = some ((.ixor, n), (a, b, w), (k1, k2))) : ax_res mi pc ls (.int y :: .int x :: st) h = ax_res mi (pc + 1) ls (.int (x ^^^ y) :: st) h := ax_nq hf rfl
theorem ax_e_ishl {x y : Int32} (hf : ax_fet mi pc = some ((.ishl, n), (a, b, w), (k1, k2))) : ax_res mi pc ls (.int y :: .int x :: st) h = ax_res mi (pc + 1) ls (.int (x <<< (y &&& 31)) :: st) h := ax_nq hf rfl
theorem ax_e_ishr {x y : Int32} (hf : ax_fet mi pc = some ((.ishr, n), (a, b, w), (k1, k2))) : ax_res mi pc ls (.int y :: .int x :: st) h = ax_res mi (pc + 1) ls (.int (x >>> (y &&& 31)) :: st) h := ax_nq hf rfl
theorem ax_e_iushr {x y : Int32} (hf : ax_fet mi pc = some ((.iushr, n), (a, b, w), (k1, k2))) : ax_res mi pc ls (.int y :: .int x :: st) h = ax_res mi (pc + 1) ls (.int ((x.toUInt32 >>> (y.toUInt32 &&& Int32.toUInt32 31)).toInt32) :: st) h := ax_nq hf rfl
theorem ax_e_ladd {x y : Int64} (hf : ax_fet mi pc = some ((.ladd, n), (a, b, w), (k1, k2))) : ax_res mi pc ls (.long y :: .long x :: st) h = ax_res mi (pc + 1) ls (.long (x + y) :: st) h := ax_nq hf rfl
theorem ax_e_lsub {x y : Int64} (hf : ax_fet mi pc = some ((.lsub, n), (a, b, w), (k1, k2))) : ax_res mi pc ls (.long y :: .long x :: st) h = ax_res mi (pc + 1) ls (.long (x - y) :: st) h := ax_nq hf rfl
theorem ax_e_lmul {x y : Int64} (hf : ax_fet mi pc = some ((.lmul, n), (a, b, w), (k1, k2))) : ax_res mi pc ls (.long y :: .long x :: st) h = ax_res mi (pc + 1) ls (.long (x * y) :: st) h := ax_nq hf rfl
theorem ax_e_land {x y : Int64} (hf : ax_fet mi pc = some ((.land, n), (a, b, w), (k1, k2))) : ax_res mi pc ls (.long y :: .long x :: st) h = ax_res mi (pc + 1) ls (.long (x &&& y) :: st) h := ax_nq hf rfl
theorem ax_e_idiv {x y : Int32} (hf : ax_fet mi pc = some ((.idiv, n), (a, b, w), (k1, k2))) (hy : ¬ y = 0) : ax_res mi pc ls (.int y :: .int x :: st) h = ax_res mi (pc + 1) ls (.int (x / y) :: st) h := ax_nq hf (by simp only [ax_stp, ax_b2, beq_eq_false_iff_ne.mpr hy, cond_false, ax_nx])
theorem ax_e_irem {x y : Int32} (hf : ax_fet mi pc = some ((.irem, n), (a, b, w), (k1, k2))) (hy : ¬ y = 0) : ax_res mi pc ls (.int y :: .int x :: st) h = ax_res mi (pc + 1) ls (.int (x - x / y * y) :: st) h := ax_nq hf (by simp only [ax_stp, ax_b2, beq_eq_false_iff_ne.mpr hy, cond_false, ax_nx])
theorem ax_e_ldiv {x y : Int64} (hf : ax_fet mi pc = some ((.ldiv, n), (a, b, w), (k1, k2))) (hy : ¬ y = 0) : ax_res mi pc ls (.long y :: .long x :: st) h = ax_res mi (pc + 1) ls (.long (x / y) :: st) h := ax_nq hf (by simp only [ax_stp, ax_b2L, beq_eq_false_iff_ne.mpr hy, cond_false, ax_nx])
theorem ax_e_lrem {x y : Int64} (hf : ax_fet mi pc = some ((.lrem, n), (a, b, w), (k1, k2))) (hy : ¬ y = 0) : ax_res mi pc ls (.long y :: .long x :: st) h = ax_res mi (pc + 1) ls (.long (x - x / y * y) :: st) h := ax_nq hf (by simp only [ax_stp, ax_b2L, beq_eq_false_iff_ne.mpr hy, cond_false, ax_nx])
theorem ax_e_lcmp {x y : Int64} (hf : ax_fet mi pc = some ((.lcmp, n), (a, b, w), (k1, k2))) : ax_res mi pc ls (.long y :: .long x :: st) h = ax_res mi (pc + 1) ls (.int (lg_cmp x y) :: st) h := ax_nq hf rfl
theorem ax_e_ineg {x : Int32} (hf : ax_fet mi pc = some ((.ineg, n), (a, b, w), (k1, k2))) : ax_res mi pc ls (.int x :: st) h = ax_res mi (pc + 1) ls (.int (-x) :: st) h := ax_nq hf rfl
theorem ax_e_i2l {x : Int32} (hf : ax_fet mi pc = some ((.i2l, n), (a, b, w), (k1, k2))) : ax_res mi pc ls (.int x :: st) h = ax_res mi (pc + 1) ls (.long x.toInt64 :: st) h := ax_nq hf rfl
theorem ax_e_i2b {x : Int32} (hf : ax_fet mi pc = some ((.i2b, n), (a, b, w), (k1, k2))) : ax_res mi pc ls (.int x :: st) h = ax_res mi (pc + 1) ls (.int x.toInt8.toInt32 :: st) h := ax_nq hf rfl
theorem ax_e_i2s {x : Int32} (hf : ax_fet mi pc = some ((.i2s, n), (a, b, w), (k1, k2))) : ax_res mi pc ls (.int x :: st) h = ax_res mi (pc + 1) ls (.int x.toInt16.toInt32 :: st) h := ax_nq hf rfl
theorem ax_e_i2c {x : Int32} (hf : ax_fet mi pc = some ((.i2c, n), (a, b, w), (k1, k2))) : ax_res mi pc ls (.int x :: st) h = ax_res mi (pc + 1) ls (.int (x.toUInt32 % 65536).toInt32 :: st) h := ax_nq hf rfl
theorem ax_e_l2i {x : Int64} (hf : ax_fet mi pc = some ((.l2i, n), (a, b, w), (k1, k2))) : ax_res mi pc ls (.long x :: st) h = ax_res mi (pc + 1) ls (.int x.toInt32 :: st) h := ax_nq hf rfl
theorem ax_e_dup_int {x : Int32} (hf : ax_fet mi pc = some ((.dup, n), (a, b, w), (k1, k2))) : ax_res mi pc ls (.int x :: st) h = ax_res mi (pc + 1) ls (.int x :: .int x :: st) h := ax_nq hf rfl
theorem ax_e_pop_int {x : Int32} (hf : ax_fet mi pc = some ((.pop, n), (a, b, w), (k1, k2))) : ax_res mi pc ls (.int x :: st) h = ax_res mi (pc + 1) ls st h := ax_nq hf rfl
theorem ax_e_dup_ref {x : Nat} (hf : ax_fet mi pc = some ((.dup, n), (a, b, w), (k1, k2))) : ax_res mi pc ls (.ref x :: st) h = ax_res mi (pc + 1) ls (.ref x :: .ref x :: st) h := ax_nq hf rfl
theorem ax_e_pop_ref {x : Nat} (hf : ax_fet mi pc = some ((.pop, n), (a, b, w), (k1, k2))) : ax_res mi pc ls (.ref x :: st) h = ax_res mi (pc + 1) ls st h := ax_nq hf rfl
theorem ax_e_dup2 {x : Int32} {y : Nat} (hf : ax_fet mi pc = some ((.dup2, n), (a, b, w), (k1, k2))) : ax_res mi pc ls (.int x :: .ref y :: st) h = ax_res mi (pc + 1) ls (.int x :: .ref y :: .int x :: .ref y :: st) h := ax_nq hf rfl
theorem ax_e_goto {k : Int} (hf : ax_fet mi pc = some ((.goto k, n), (a, b, w), (k1, k2))) (hl : ax_keep b ls = ls') : ax_res mi pc ls (st) h = ax_res mi a ls' st h := ax_nq hf (by rw [← hl]; rfl)
theorem ax_e_if_eq {x : Int32} {k : Int} (hf : ax_fet mi pc = some ((.ifCond .eq k, n), (a, b, w), (k1, k2))) : ax_res mi pc ls (.int x :: st) h = if x = 0 then ax_res mi a ls st h else ax_res mi (pc + 3) ls st h := by
  by_cases hc : x = 0
  · rw [if_pos hc]; exact ax_nq hf (by simp [ax_stp, ax_br1, ax_cond, hc, ax_nx])
  · rw [if_neg hc]; exact ax_nq hf (by simp only [ax_stp, ax_br1, ax_cond, hc, ax_nx, decide_false, not_false_eq_true, decide_true, cond_true, cond_false])
theorem ax_e_icmp_eq {x y : Int32} {k : Int} (hf : ax_fet mi pc = some ((.if_icmp .eq k, n), (a, b, w), (k1, k2))) : ax_res mi pc ls (.int y :: .int x :: st) h = if x = y then ax_res mi a ls st h else ax_res mi (pc + 3) ls st h := by
  by_cases hc : x = y
  · rw [if_pos hc]; exact ax_nq hf (by simp [ax_stp, ax_br2, ax_cond, hc, ax_nx])
  · rw [if_neg hc]; exact ax_nq hf (by simp only [ax_stp, ax_br2, ax_cond, hc, ax_nx, decide_false, not_false_eq_true, decide_true, cond_true, cond_false])
theorem ax_e_if_ne {x : Int32} {k : Int} (hf : ax_fet mi pc = some ((.ifCond .ne k, n), (a, b, w), (k1, k2))) : ax_res mi pc ls (.int x :: st) h = if x = 0 then ax_res mi (pc + 3) ls st h else ax_res mi a ls st h := by
  by_cases hc : x = 0
  · rw [if_pos hc]; exact ax_nq hf (by simp [ax_stp, ax_br1, ax_cond, hc, ax_nx])
  · rw [if_neg hc]; exact ax_nq hf (by simp only [ax_stp, ax_br1, ax_cond, hc, ax_nx, decide_false, not_false_eq_true, decide_true, cond_true, cond_false])
theorem ax_e_icmp_ne {x y : Int32} {k : Int} (hf : ax_fet mi pc = some ((.if_icmp .ne k, n), (a, b, w), (k1, k2))) : ax_res mi pc ls (.int y :: .int x :: st) h = if x = y then ax_res mi (pc + 3) ls st h else ax_res mi a ls st h := by
  by_cases hc : x = y
  · rw [if_pos hc]; exact ax_nq hf (by simp [ax_stp, ax_br2, ax_cond, hc, ax_nx])
  · rw [if_neg hc]; exact ax_nq hf (by simp only [ax_stp, ax_br2, ax_cond, hc, ax_nx, decide_false, not_false_eq_true, decide_true, cond_true, cond_false])
theorem ax_e_if_lt {x : Int32} {k : Int} (hf : ax_fet mi pc = some ((.ifCond .lt k, n), (a, b, w), (k1, k2))) : ax_res mi pc ls (.int x :: st) h = if x < 0 then ax_res mi a ls st h else ax_res mi (pc + 3) ls st h := by
  by_cases hc : x < 0
  · rw [if_pos hc]; exact ax_nq hf (by simp [ax_stp, ax_br1, ax_cond, hc, ax_nx])
  · rw [if_neg hc]; exact ax_nq hf (by simp only [ax_stp, ax_br1, ax_cond, hc, ax_nx, decide_false, not_false_eq_true, decide_true, cond_true, cond_false])
theorem ax_e_icmp_lt {x y : Int32} {k : Int} (hf : ax_fet mi pc = some ((.if_icmp .lt k, n), (a, b, w), (k1, k2))) : ax_res mi pc ls (.int y :: .int x :: st) h = if x < y then ax_res mi a ls st h else ax_res mi (pc + 3) ls st h := by
  by_cases hc : x < y
  · rw [if_pos hc]; exact ax_nq hf (by simp [ax_stp, ax_br2, ax_cond, hc, ax_nx])
  · rw [if_neg hc]; exact ax_nq hf (by simp only [ax_stp, ax_br2, ax_cond, hc, ax_nx, decide_false, not_false_eq_true, decide_true, cond_true, cond_false])
theorem ax_e_if_ge {x : Int32} {k : Int} (hf : ax_fet mi pc = some ((.ifCond .ge k, n), (a, b, w), (k1, k2))) : ax_res mi pc ls (.int x :: st) h = if 0 ≤ x then ax_res mi a ls st h else ax_res mi (pc + 3) ls st h := by
  by_cases hc : 0 ≤ x
  · rw [if_pos hc]; exact ax_nq hf (by simp [ax_stp, ax_br1, ax_cond, hc, ax_nx])
  · rw [if_neg hc]; exact ax_nq hf (by simp only [ax_stp, ax_br1, ax_cond, hc, ax_nx, decide_false, not_false_eq_true, decide_true, cond_true, cond_false])
theorem ax_e_icmp_ge {x y : Int32} {k : Int} (hf : ax_fet mi pc = some ((.if_icmp .ge k, n), (a, b, w), (k1, k2))) : ax_res mi pc ls (.int y :: .int x :: st) h = if y ≤ x then ax_res mi a ls st h else ax_res mi (pc + 3) ls st h := by
  by_cases hc : y ≤ x
  · rw [if_pos hc]; exact ax_nq hf (by simp [ax_stp, ax_br2, ax_cond, hc, ax_nx])
  · rw [if_neg hc]; exact ax_nq hf (by simp only [ax_stp, ax_br2, ax_cond, hc, ax_nx, decide_false, not_false_eq_true, decide_true, cond_true, cond_false])
theorem ax_e_if_gt {x : Int32} {k : Int} (hf : ax_fet mi pc = some ((.ifCond .gt k, n), (a, b, w), (k1, k2))) : ax_res mi pc ls (.int x :: st) h = if 0 < x then ax_res mi a ls st h else ax_res mi (pc + 3) ls st h := by
  by_cases hc : 0 < x
  · rw [if_pos hc]; exact ax_nq hf (by simp [ax_stp, ax_br1, ax_cond, hc, ax_nx])
  · rw [if_neg hc]; exact ax_nq hf (by simp only [ax_stp, ax_br1, ax_cond, hc, ax_nx, decide_false, not_false_eq_true, decide_true, cond_true, cond_false])
theorem ax_e_icmp_gt {x y : Int32} {k : Int} (hf : ax_fet mi pc = some ((.if_icmp .gt k, n), (a, b, w), (k1, k2))) : ax_res mi pc ls (.int y :: .int x :: st) h = if y < x then ax_res mi a ls st h else ax_res mi (pc + 3) ls st h := by
  by_cases hc : y < x
  · rw [if_pos hc]; exact ax_nq hf (by simp [ax_stp, ax_br2, ax_cond, hc, ax_nx])
  · rw [if_neg hc]; exact ax_nq hf (by simp only [ax_stp, ax_br2, ax_cond, hc, ax_nx, decide_false, not_false_eq_true, decide_true, cond_true, cond_false])
theorem ax_e_if_le {x : Int32} {k : Int} (hf : ax_fet mi pc = some ((.ifCond .le k, n), (a, b, w), (k1, k2))) : ax_res mi pc ls (.int x :: st) h = if x ≤ 0 then ax_res mi a ls st h else ax_res mi (pc + 3) ls st h := by
  by_cases hc : x ≤ 0
  · rw [if_pos hc]; exact ax_nq hf (by simp [ax_stp, ax_br1, ax_cond, hc, ax_nx])
  · rw [if_neg hc]; exact ax_nq hf (by simp only [ax_stp, ax_br1, ax_cond, hc, ax_nx, decide_false, not_false_eq_true, decide_true, cond_true, cond_false])
theorem ax_e_icmp_le {x y : Int32} {k : Int} (hf : ax_fet mi pc = some ((.if_icmp .le k, n), (a, b, w), (k1, k2))) : ax_res mi pc ls (.int y :: .int x :: st) h = if x ≤ y then ax_res mi a ls st h else ax_res mi (pc + 3) ls st h := by
  by_cases hc : x ≤ y
  · rw [if_pos hc]; exact ax_nq hf (by simp [ax_stp, ax_br2, ax_cond, hc, ax_nx])
  · rw [if_neg hc]; exact ax_nq hf (by simp only [ax_stp, ax_br2, ax_cond, hc, ax_nx, decide_false, not_false_eq_true, decide_true, cond_true, cond_false])
theorem ax_e_tabIn {d lo hi : Int} {offs : Array Int} {x : Int32} {t : Nat} {o : Int} (hf : ax_fet mi pc = some ((.tableswitch d lo hi offs, n), (a, b, w), (k1, k2))) (h1 : (decide (x.toInt < lo) || decide (hi < x.toInt)) = false) (h2 : offs[(x.toInt - lo).toNat]? = some o) (h3 : ((pc : Int) + o).toNat = t) : ax_res mi pc ls (.int x :: st) h = ax_res mi t ls st h := ax_nq hf (by simp only [ax_stp, h1, cond_false, h2, h3, ax_nx])
theorem ax_e_tabOut {d lo hi : Int} {offs : Array Int} {x : Int32} {t : Nat} (hf : ax_fet mi pc = some ((.tableswitch d lo hi offs, n), (a, b, w), (k1, k2))) (h1 : x.toInt < lo ∨ hi < x.toInt) (h3 : ((pc : Int) + d).toNat = t) : ax_res mi pc ls (.int x :: st) h = ax_res mi t ls st h := ax_nq hf (by simp only [ax_stp, show (decide (x.toInt < lo) || decide (hi < x.toInt)) = true from by simpa using h1, cond_true, h3, ax_nx])
theorem ax_e_getfield {x : Nat} (hf : ax_fet mi pc = some ((.getfield i, n), (a, b, w), (k1, k2))) : ax_res mi pc ls (.ref x :: st) h = ax_bV (ax_getF h x a b) mi (pc + 3) ls st h := by
  cases hv : ax_getF h x a b with
  | none => exact ax_res_0 hf (by simp only [ax_stp, hv])
  | some v => exact ax_nq hf (by simp only [ax_stp, hv, ax_nx])
theorem ax_e_iaload {x : Nat} {k : Int32} (hf : ax_fet mi pc = some ((.iaload, n), (a, b, w), (k1, k2))) : ax_res mi pc ls (.int k :: .ref x :: st) h = ax_bI (ax_getI h x 0 k) mi (pc + 1) ls st h := by
  cases hv : ax_getI h x 0 k with
  | none => exact ax_res_0 hf (by simp only [ax_stp, hv])
  | some v => exact ax_nq hf (by simp only [ax_stp, hv, ax_nx])
theorem ax_e_caload {x : Nat} {k : Int32} (hf : ax_fet mi pc = some ((.caload, n), (a, b, w), (k1, k2))) : ax_res mi pc ls (.int k :: .ref x :: st) h = ax_bI (ax_getI h x 2 k) mi (pc + 1) ls st h := by
  cases hv : ax_getI h x 2 k with
  | none => exact ax_res_0 hf (by simp only [ax_stp, hv])
  | some v => exact ax_nq hf (by simp only [ax_stp, hv, ax_nx])
theorem ax_e_laload {x : Nat} {k : Int32} (hf : ax_fet mi pc = some ((.laload, n), (a, b, w), (k1, k2))) : ax_res mi pc ls (.int k :: .ref x :: st) h = ax_bJ (ax_getJ h x k) mi (pc + 1) ls st h := by
  cases hv : ax_getJ h x k with
  | none => exact ax_res_0 hf (by simp only [ax_stp, hv])
  | some v => exact ax_nq hf (by simp only [ax_stp, hv, ax_nx])
theorem ax_e_aaload {x : Nat} {k : Int32} (hf : ax_fet mi pc = some ((.aaload, n), (a, b, w), (k1, k2))) : ax_res mi pc ls (.int k :: .ref x :: st) h = ax_bA (ax_getA h x k) mi (pc + 1) ls st h := by
  cases hv : ax_getA h x k with
  | none => exact ax_res_0 hf (by simp only [ax_stp, hv])
  | some v => exact ax_nq hf (by simp only [ax_stp, hv, ax_nx])
theorem ax_e_arraylength {x : Nat} (hf : ax_fet mi pc = some ((.arraylength, n), (a, b, w), (k1, k2))) : ax_res mi pc ls (.ref x :: st) h = ax_bI (ax_lenA h x) mi (pc + 1) ls st h := by
  cases hv : ax_lenA h x with
  | none => exact ax_res_0 hf (by simp only [ax_stp, hv])
  | some v => exact ax_nq hf (by simp only [ax_stp, hv, ax_nx])
theorem ax_e_iastore {x : Nat} {k v0 : Int32} (hf : ax_fet mi pc = some ((.iastore, n), (a, b, w), (k1, k2))) : ax_res mi pc ls (.int v0 :: .int k :: .ref x :: st) h = ax_bH (ax_putI h x k v0) mi (pc + 1) ls st := by
  cases hv : ax_putI h x k v0 with
  | none => exact ax_res_0 hf (by simp only [ax_stp, hv])
  | some v => exact ax_nq hf (by simp only [ax_stp, hv, ax_nx])
theorem ax_e_castore {x : Nat} {k v0 : Int32} (hf : ax_fet mi pc = some ((.castore, n), (a, b, w), (k1, k2))) : ax_res mi pc ls (.int v0 :: .int k :: .ref x :: st) h = ax_bH (ax_putC h x k v0) mi (pc + 1) ls st := by
  cases hv : ax_putC h x k v0 with
  | none => exact ax_res_0 hf (by simp only [ax_stp, hv])
  | some v => exact ax_nq hf (by simp only [ax_stp, hv, ax_nx])
theorem ax_e_lastore {x : Nat} {k : Int32} {v0 : Int64} (hf : ax_fet mi pc = some ((.lastore, n), (a, b, w), (k1, k2))) : ax_res mi pc ls (.long v0 :: .int k :: .ref x :: st) h = ax_bH (ax_putJ h x k v0) mi (pc + 1) ls st := by
  cases hv : ax_putJ h x k v0 with
  | none => exact ax_res_0 hf (by simp only [ax_stp, hv])
  | some v => exact ax_nq hf (by simp only [ax_stp, hv, ax_nx])
theorem ax_e_putfield {x : Nat} {v0 : Value} (hf : ax_fet mi pc = some ((.putfield i, n), (a, b, w), (k1, k2))) (hv : ax_fitF k1 v0 = true) : ax_res mi pc ls (v0 :: .ref x :: st) h = ax_bH (ax_putF h x a b v0) mi (pc + 3) ls st := by
  cases hp : ax_putF h x a b v0 with
  | none => exact ax_res_0 hf (by simp only [ax_stp, hv, cond_true, hp])
  | some v => exact ax_nq hf (by simp only [ax_stp, hv, cond_true, hp, ax_nx])
theorem ax_e_idx {x : Int32} (hf : ax_fet mi pc = some ((.invokevirtual i, n), (a, 3, w), (k1, k2))) (hs : ax_small st = true) : ax_res mi pc ls (.int x :: .ref 999 :: st) h = ax_res mi (pc + 3) ls (.int (ax_idx x) :: st) h := ax_nq hf (by simp only [ax_stp, ax_ix, hs, BEq.rfl, cond_true, Bool.and_true, ax_nx])
theorem ax_e_cpyI {x y : Nat} {sp dp k : Int32} (hf : ax_fet mi pc = some ((.invokestatic i, n), (a, 1, w), (k1, k2))) (hs : ax_small st = true) : ax_res mi pc ls (.int k :: .int dp :: .ref y :: .int sp :: .ref x :: st) h = ax_bH (ax_cpyI h x y sp dp k) mi (pc + 3) ls st := by
  cases hv : ax_cpyI h x y sp dp k with
  | none => exact ax_res_0 hf (by simp [ax_stp, ax_cp, hs, hv])
  | some v => exact ax_nq hf (by simp [ax_stp, ax_cp, hs, hv, ax_nx])
theorem ax_e_cpyJ {x y : Nat} {sp dp k : Int32} (hf : ax_fet mi pc = some ((.invokestatic i, n), (a, 2, w), (k1, k2))) (hs : ax_small st = true) : ax_res mi pc ls (.int k :: .int dp :: .ref y :: .int sp :: .ref x :: st) h = ax_bH (ax_cpyJ h x y sp dp k) mi (pc + 3) ls st := by
  cases hv : ax_cpyJ h x y sp dp k with
  | none => exact ax_res_0 hf (by simp [ax_stp, ax_cp, hs, hv])
  | some v => exact ax_nq hf (by simp [ax_stp, ax_cp, hs, hv, ax_nx])
theorem ax_e_min {x y : Int32} (hf : ax_fet mi pc = some ((.invokestatic i, n), (a, 4, w), (k1, k2))) (hs : ax_small st = true) : ax_res mi pc ls (.int y :: .int x :: st) h = ax_res mi (pc + 3) ls (.int (ax_min x y) :: st) h := ax_nq hf (by simp [ax_stp, ax_mm, hs, ax_nx])
theorem ax_e_max {x y : Int32} (hf : ax_fet mi pc = some ((.invokestatic i, n), (a, 5, w), (k1, k2))) (hs : ax_small st = true) : ax_res mi pc ls (.int y :: .int x :: st) h = ax_res mi (pc + 3) ls (.int (ax_max x y) :: st) h := ax_nq hf (by simp [ax_stp, ax_mm, hs, ax_nx])
theorem ax_e_inv {x ci np nl : Nat} {av rest : List Value} {el : ax_L} (hf : ax_fet mi pc = some ((.invokevirtual i, n), (a, 0, w), (k1, k2))) (hm : (ax_m a).2.2.2.2.1.2.1 = np ∧ (ax_m a).2.2.2.2.1.2.2 = ci ∧ (ax_m a).2.2.1 = nl) (h1 : st.drop np = .ref x :: rest) (h2 : st.take np = av) (h3 : av.length = np) (hs : ax_small rest = true) (h4 : Nat.ble (ax_sl (.ref x :: av.reverse)).length nl = true) (h5 : ax_ent nl (.ref x :: av.reverse) = el) (hO : ax_isO h x ci = true) : ax_res mi pc ls st h = ax_bR (ax_res a 0 el [] h) mi (pc + 3) ls rest := by
  obtain ⟨rfl, rfl, rfl⟩ := hm
  subst h2; subst h5
  exact ax_cq hf (by simp only [ax_stp, ax_inv, h1, hs, hO, h3, h4, BEq.rfl, Bool.and_self, cond_true]; rfl)
theorem ax_e_ins {np nl : Nat} {av rest : List Value} {el : ax_L} (hf : ax_fet mi pc = some ((.invokestatic i, n), (a, 0, w), (k1, k2))) (hm : (ax_m a).2.2.2.2.1.2.1 = np ∧ (ax_m a).2.2.1 = nl) (h1 : st.drop np = rest) (h2 : st.take np = av) (h3 : av.length = np) (hs : ax_small rest = true) (h4 : Nat.ble (ax_sl av.reverse).length nl = true) (h5 : ax_ent nl av.reverse = el) : ax_res mi pc ls st h = ax_bR (ax_res a 0 el [] h) mi (pc + 3) ls rest := by
  obtain ⟨rfl, rfl⟩ := hm
  subst h2; subst h5; subst h1
  exact ax_cq hf (by simp only [ax_stp, ax_ins, hs, h3, h4, BEq.rfl, Bool.and_self, cond_true]; rfl)
theorem ax_e_ireturn {x : Int32} (hf : ax_fet mi pc = some ((.ireturn, n), (a, b, w), (k1, k2))) (hv : ax_fitR a x = true) : ax_res mi pc ls [.int x] h = some (some (.int x), h) := ax_res_r hf (by simp only [ax_stp, ax_rI, hv, cond_true])
theorem ax_e_lreturn {x : Int64} (hf : ax_fet mi pc = some ((.lreturn, n), (a, b, w), (k1, k2))) : ax_res mi pc ls [.long x] h = some (some (.long x), h) := ax_res_r hf rfl
theorem ax_e_return (hf : ax_fet mi pc = some ((.return_, n), (a, b, w), (k1, k2))) : ax_res mi pc ls [] h = some (none, h) := ax_res_r hf rfl
end AXE
theorem ax_bV_s {v : Value} {mi pc : Nat} {ls : ax_L} {st : List Value} {h : ax_H} : ax_bV (some v) mi pc ls st h = ax_res mi pc ls (v :: st) h := rfl
theorem ax_bI_s {v : Int32} {mi pc : Nat} {ls : ax_L} {st : List Value} {h : ax_H} : ax_bI (some v) mi pc ls st h = ax_res mi pc ls (.int v :: st) h := rfl
theorem ax_bJ_s {v : Int64} {mi pc : Nat} {ls : ax_L} {st : List Value} {h : ax_H} : ax_bJ (some v) mi pc ls st h = ax_res mi pc ls (.long v :: st) h := rfl
theorem ax_bA_s {v : Nat} {mi pc : Nat} {ls : ax_L} {st : List Value} {h : ax_H} : ax_bA (some v) mi pc ls st h = ax_res mi pc ls (.ref v :: st) h := rfl
theorem ax_bH_s {mi pc : Nat} {ls : ax_L} {st : List Value} {h : ax_H} : ax_bH (some h) mi pc ls st = ax_res mi pc ls st h := rfl
theorem ax_bR_s {v : Value} {mi pc : Nat} {ls : ax_L} {st : List Value} {h : ax_H} : ax_bR (some (some v, h)) mi pc ls st = ax_res mi pc ls (v :: st) h := rfl
theorem ax_bR_n {mi pc : Nat} {ls : ax_L} {st : List Value} {h : ax_H} : ax_bR (some (none, h)) mi pc ls st = ax_res mi pc ls st h := rfl
theorem ax_fit0 (x : Int32) : ax_fitF (nI 0) (.int x) = true := by unfold ax_fitF; rw [show (nI 0 == 0) = true from by decide]; rfl
theorem ax_fit1_0 : ax_fitR 1 (nI 0) = true := by decide
theorem ax_fit1_1 : ax_fitR 1 (nI 1) = true := by decide
theorem ax_fitb : ax_fitF (nI 1) (.int (nI 1)) = true := by decide
