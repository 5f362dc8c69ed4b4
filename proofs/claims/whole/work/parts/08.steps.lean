/-! ===== one instruction of the small machine is one of the machine ===== -/
theorem ax_nx_i {pc : Nat} {ls : ax_L} {st : List Value} {h : ax_H} {q : ax_N} (hs : ax_nx pc ls st h = some (.inl q)) : q = (pc, ls, st, h) := by
  unfold ax_nx at hs; cases hs; rfl
theorem ax_ldI_i {pc i : Nat} {ls : ax_L} {st : List Value} {h : ax_H} {q : ax_N} (hs : ax_ldI pc ls st h i = some (.inl q)) : ∃ x, ls[i]? = some (some (.int x)) ∧ q = (pc, ls, .int x :: st, h) := by
  unfold ax_ldI at hs
  split at hs
  · rename_i x hx
    exact ⟨x, hx, ax_nx_i hs⟩
  · cases hs
theorem ax_ldJ_i {pc i : Nat} {ls : ax_L} {st : List Value} {h : ax_H} {q : ax_N} (hs : ax_ldJ pc ls st h i = some (.inl q)) : ∃ x, ls[i]? = some (some (.long x)) ∧ q = (pc, ls, .long x :: st, h) := by
  unfold ax_ldJ at hs
  split at hs
  · rename_i x hx
    exact ⟨x, hx, ax_nx_i hs⟩
  · cases hs
theorem ax_ldA_i {pc i : Nat} {ls : ax_L} {st : List Value} {h : ax_H} {q : ax_N} (hs : ax_ldA pc ls st h i = some (.inl q)) : ∃ x, ls[i]? = some (some (.ref x)) ∧ q = (pc, ls, .ref x :: st, h) := by
  unfold ax_ldA at hs
  split at hs
  · rename_i x hx
    exact ⟨x, hx, ax_nx_i hs⟩
  · cases hs
theorem ax_sI_i {pc i : Nat} {ls : ax_L} {st : List Value} {h : ax_H} {q : ax_N} (hs : ax_sI pc ls st h i = some (.inl q)) : ∃ x st' ls', st = .int x :: st' ∧ ax_st1 ls i (.int x) = some ls' ∧ q = (pc, ls', st', h) := by
  unfold ax_sI at hs
  split at hs
  · rename_i x st'
    split at hs
    · rename_i ls' hl
      exact ⟨x, st', ls', rfl, hl, ax_nx_i hs⟩
    · cases hs
  · cases hs
theorem ax_sJ_i {pc i : Nat} {ls : ax_L} {st : List Value} {h : ax_H} {q : ax_N} (hs : ax_sJ pc ls st h i = some (.inl q)) : ∃ x st' ls', st = .long x :: st' ∧ ax_st2 ls i (.long x) = some ls' ∧ q = (pc, ls', st', h) := by
  unfold ax_sJ at hs
  split at hs
  · rename_i x st'
    split at hs
    · rename_i ls' hl
      exact ⟨x, st', ls', rfl, hl, ax_nx_i hs⟩
    · cases hs
  · cases hs
theorem ax_sA_i {pc i : Nat} {ls : ax_L} {st : List Value} {h : ax_H} {q : ax_N} (hs : ax_sA pc ls st h i = some (.inl q)) : ∃ x st' ls', st = .ref x :: st' ∧ ax_st1 ls i (.ref x) = some ls' ∧ q = (pc, ls', st', h) := by
  unfold ax_sA at hs
  split at hs
  · rename_i x st'
    split at hs
    · rename_i ls' hl
      exact ⟨x, st', ls', rfl, hl, ax_nx_i hs⟩
    · cases hs
  · cases hs
theorem ax_inc_i {pc i : Nat} {k : Int32} {ls : ax_L} {st : List Value} {h : ax_H} {q : ax_N} (hs : ax_inc pc ls st h i k = some (.inl q)) : ∃ x ls', ls[i]? = some (some (.int x)) ∧ ax_st1 ls i (.int (x + k)) = some ls' ∧ q = (pc, ls', st, h) := by
  unfold ax_inc at hs
  split at hs
  · rename_i x hx
    split at hs
    · rename_i ls' hl
      exact ⟨x, ls', hx, hl, ax_nx_i hs⟩
    · cases hs
  · cases hs
theorem ax_b2_i {pc : Nat} {ls : ax_L} {st : List Value} {h : ax_H} {f : Int32 → Int32 → Option Int32} {q : ax_N} (hs : ax_b2 pc ls st h f = some (.inl q)) : ∃ x y z st', st = .int y :: .int x :: st' ∧ f x y = some z ∧ q = (pc, ls, .int z :: st', h) := by
  unfold ax_b2 at hs
  split at hs
  · rename_i y x st'
    split at hs
    · rename_i z hz
      exact ⟨x, y, z, st', rfl, hz, ax_nx_i hs⟩
    · cases hs
  · cases hs
theorem ax_b2L_i {pc : Nat} {ls : ax_L} {st : List Value} {h : ax_H} {f : Int64 → Int64 → Option Int64} {q : ax_N} (hs : ax_b2L pc ls st h f = some (.inl q)) : ∃ x y z st', st = .long y :: .long x :: st' ∧ f x y = some z ∧ q = (pc, ls, .long z :: st', h) := by
  unfold ax_b2L at hs
  split at hs
  · rename_i y x st'
    split at hs
    · rename_i z hz
      exact ⟨x, y, z, st', rfl, hz, ax_nx_i hs⟩
    · cases hs
  · cases hs
theorem ax_u1_i {pc : Nat} {ls : ax_L} {st : List Value} {h : ax_H} {f : Int32 → Value} {q : ax_N} (hs : ax_u1 pc ls st h f = some (.inl q)) : ∃ x st', st = .int x :: st' ∧ q = (pc, ls, f x :: st', h) := by
  unfold ax_u1 at hs
  split at hs
  · rename_i x st'
    exact ⟨x, st', rfl, ax_nx_i hs⟩
  · cases hs
theorem ax_br1_i {pc t : Nat} {ls : ax_L} {st : List Value} {h : ax_H} {f : Int32 → Bool} {q : ax_N} (hs : ax_br1 pc t ls st h f = some (.inl q)) : ∃ x st', st = .int x :: st' ∧ ((f x = true ∧ q = (t, ls, st', h)) ∨ (f x = false ∧ q = (pc + 3, ls, st', h))) := by
  unfold ax_br1 at hs
  split at hs
  · rename_i x st'
    refine ⟨x, st', rfl, ?_⟩
    cases hf : f x with
    | true => rw [hf] at hs; exact Or.inl ⟨rfl, ax_nx_i hs⟩
    | false => rw [hf] at hs; exact Or.inr ⟨rfl, ax_nx_i hs⟩
  · cases hs
theorem ax_br2_i {pc t : Nat} {ls : ax_L} {st : List Value} {h : ax_H} {f : Int32 → Int32 → Bool} {q : ax_N} (hs : ax_br2 pc t ls st h f = some (.inl q)) : ∃ x y st', st = .int y :: .int x :: st' ∧ ((f x y = true ∧ q = (t, ls, st', h)) ∨ (f x y = false ∧ q = (pc + 3, ls, st', h))) := by
  unfold ax_br2 at hs
  split at hs
  · rename_i y x st'
    refine ⟨x, y, st', rfl, ?_⟩
    cases hf : f x y with
    | true => rw [hf] at hs; exact Or.inl ⟨rfl, ax_nx_i hs⟩
    | false => rw [hf] at hs; exact Or.inr ⟨rfl, ax_nx_i hs⟩
  · cases hs
theorem ax_cpyI_i {h h' : ax_H} {a0 a1 : Nat} {sp dp n : Int32} (hs : ax_cpyI h a0 a1 sp dp n = some h') : ∃ n0 f n1 g, h a0 = .inl (0, n0, .inl f) ∧ h a1 = .inl (0, n1, .inl g) ∧ a0 < ax_NC ∧ a1 < ax_NC ∧ ¬ sp < 0 ∧ ¬ dp < 0 ∧ ¬ n < 0 ∧ sp.toNatClampNeg + n.toNatClampNeg ≤ n0 ∧ dp.toNatClampNeg + n.toNatClampNeg ≤ n1 ∧
    h' = ax_up h a1 (.inl (0, n1, .inl (va_cpy f g sp.toNatClampNeg dp.toNatClampNeg n.toNatClampNeg))) := by
  unfold ax_cpyI at hs
  split at hs
  · rename_i t0 n0 f t1 n1 g e0 e1
    split at hs
    · rename_i hc
      obtain ⟨c1, c2, rfl, rfl, c5, c6, c7, c8, c9⟩ := hc
      cases hs
      exact ⟨n0, f, n1, g, e0, e1, c1, c2, c5, c6, c7, c8, c9, rfl⟩
    · cases hs
  · cases hs
theorem ax_cpyJ_i {h h' : ax_H} {a0 a1 : Nat} {sp dp n : Int32} (hs : ax_cpyJ h a0 a1 sp dp n = some h') : ∃ n0 f n1 g, h a0 = .inl (1, n0, .inr (.inl f)) ∧ h a1 = .inl (1, n1, .inr (.inl g)) ∧ a0 < ax_NC ∧ a1 < ax_NC ∧ ¬ sp < 0 ∧ ¬ dp < 0 ∧ ¬ n < 0 ∧ sp.toNatClampNeg + n.toNatClampNeg ≤ n0 ∧ dp.toNatClampNeg + n.toNatClampNeg ≤ n1 ∧
    h' = ax_up h a1 (.inl (1, n1, .inr (.inl (va_cpy f g sp.toNatClampNeg dp.toNatClampNeg n.toNatClampNeg)))) := by
  unfold ax_cpyJ at hs
  split at hs
  · rename_i t0 n0 f t1 n1 g e0 e1
    split at hs
    · rename_i hc
      obtain ⟨c1, c2, rfl, rfl, c5, c6, c7, c8, c9⟩ := hc
      cases hs
      exact ⟨n0, f, n1, g, e0, e1, c1, c2, c5, c6, c7, c8, c9, rfl⟩
    · cases hs
  · cases hs
theorem ax_cp_i {pc : Nat} {ls : ax_L} {st : List Value} {h : ax_H} {f : ax_H → Nat → Nat → Int32 → Int32 → Int32 → Option ax_H} {q : ax_N} (hs : ax_cp pc ls st h f = some (.inl q)) : ∃ n dp a1 sp a0 st' h', st = .int n :: .int dp :: .ref a1 :: .int sp :: .ref a0 :: st' ∧ ax_small st' = true ∧ f h a0 a1 sp dp n = some h' ∧ q = (pc, ls, st', h') := by
  unfold ax_cp at hs
  split at hs
  · rename_i n dp a1 sp a0 st'
    cases hb : ax_small st' with
    | false => rw [hb] at hs; cases hs
    | true =>
      rw [hb] at hs
      dsimp only [cond_true] at hs
      split at hs
      · rename_i h' hf
        exact ⟨n, dp, a1, sp, a0, st', h', rfl, hb, hf, ax_nx_i hs⟩
      · cases hs
  · cases hs
theorem ax_mm_i {pc : Nat} {ls : ax_L} {st : List Value} {h : ax_H} {f : Int32 → Int32 → Int32} {q : ax_N} (hs : ax_mm pc ls st h f = some (.inl q)) : ∃ x y st', st = .int y :: .int x :: st' ∧ ax_small st' = true ∧ q = (pc, ls, .int (f x y) :: st', h) := by
  unfold ax_mm at hs
  split at hs
  · rename_i y x st'
    cases hb : ax_small st' with
    | false => rw [hb] at hs; cases hs
    | true => rw [hb] at hs; exact ⟨x, y, st', rfl, hb, ax_nx_i hs⟩
  · cases hs
theorem ax_getF_i {h : ax_H} {a ci k : Nat} {v : Value} (hs : ax_getF h a ci k = some v) : ∃ fs, h a = .inr (ci, fs) ∧ a < ax_NC ∧ fs[k]? = some v := by
  unfold ax_getF at hs
  split at hs
  · rename_i c fs e
    split at hs
    · rename_i hc
      obtain ⟨h1, rfl⟩ := hc
      exact ⟨fs, e, h1, hs⟩
    · cases hs
  · cases hs
theorem ax_putF_i {h h' : ax_H} {a ci k : Nat} {v : Value} (hs : ax_putF h a ci k v = some h') : ∃ fs, h a = .inr (ci, fs) ∧ a < ax_NC ∧ k < fs.length ∧ h' = ax_up h a (.inr (ci, fs.set k v)) := by
  unfold ax_putF at hs
  split at hs
  · rename_i c fs e
    split at hs
    · rename_i hc
      obtain ⟨h1, rfl, h2⟩ := hc
      cases hs
      exact ⟨fs, e, h1, h2, rfl⟩
    · cases hs
  · cases hs
theorem ax_getI_i {h : ax_H} {a t : Nat} {i v : Int32} (hs : ax_getI h a t i = some v) : ∃ n f, h a = .inl (t, n, .inl f) ∧ a < ax_NC ∧ vp_in i n ∧ v = f i.toNatClampNeg := by
  unfold ax_getI at hs
  split at hs
  · rename_i t' n f e
    split at hs
    · rename_i hc
      obtain ⟨h1, rfl, h2⟩ := hc
      cases hs
      exact ⟨n, f, e, h1, h2, rfl⟩
    · cases hs
  · cases hs
theorem ax_putI_i {h h' : ax_H} {a : Nat} {i v : Int32} (hs : ax_putI h a i v = some h') : ∃ n f, h a = .inl (0, n, .inl f) ∧ a < ax_NC ∧ vp_in i n ∧ h' = ax_up h a (.inl (0, n, .inl (upd f i.toNatClampNeg v))) := by
  unfold ax_putI at hs
  split at hs
  · rename_i t' n f e
    split at hs
    · rename_i hc
      obtain ⟨h1, rfl, h2⟩ := hc
      cases hs
      exact ⟨n, f, e, h1, h2, rfl⟩
    · cases hs
  · cases hs
theorem ax_putC_i {h h' : ax_H} {a : Nat} {i v : Int32} (hs : ax_putC h a i v = some h') : ∃ n f, h a = .inl (2, n, .inl f) ∧ a < ax_NC ∧ vp_in i n ∧ h' = ax_up h a (.inl (2, n, .inl (upd f i.toNatClampNeg (vp_nar .char v)))) := by
  unfold ax_putC at hs
  split at hs
  · rename_i t' n f e
    split at hs
    · rename_i hc
      obtain ⟨h1, rfl, h2⟩ := hc
      cases hs
      exact ⟨n, f, e, h1, h2, rfl⟩
    · cases hs
  · cases hs
theorem ax_getJ_i {h : ax_H} {a : Nat} {i : Int32} {v : Int64} (hs : ax_getJ h a i = some v) : ∃ n f, h a = .inl (1, n, .inr (.inl f)) ∧ a < ax_NC ∧ vp_in i n ∧ v = f i.toNatClampNeg := by
  unfold ax_getJ at hs
  split at hs
  · rename_i t' n f e
    split at hs
    · rename_i hc
      obtain ⟨h1, rfl, h2⟩ := hc
      cases hs
      exact ⟨n, f, e, h1, h2, rfl⟩
    · cases hs
  · cases hs
theorem ax_putJ_i {h h' : ax_H} {a : Nat} {i : Int32} {v : Int64} (hs : ax_putJ h a i v = some h') : ∃ n f, h a = .inl (1, n, .inr (.inl f)) ∧ a < ax_NC ∧ vp_in i n ∧ h' = ax_up h a (.inl (1, n, .inr (.inl (vp_updL f i.toNatClampNeg v)))) := by
  unfold ax_putJ at hs
  split at hs
  · rename_i t' n f e
    split at hs
    · rename_i hc
      obtain ⟨h1, rfl, h2⟩ := hc
      cases hs
      exact ⟨n, f, e, h1, h2, rfl⟩
    · cases hs
  · cases hs
theorem ax_getA_i {h : ax_H} {a : Nat} {i : Int32} {v : Nat} (hs : ax_getA h a i = some v) : ∃ t n f, h a = .inl (t, n, .inr (.inr (.inr (.inr f)))) ∧ (t = 3 ∨ t = 4) ∧ a < ax_NC ∧ vp_in i n ∧ f i.toNatClampNeg = some v := by
  unfold ax_getA at hs
  split at hs
  · rename_i t' n f e
    split at hs
    · rename_i hc
      obtain ⟨h1, h3, h2⟩ := hc
      exact ⟨t', n, f, e, h3, h1, h2, hs⟩
    · cases hs
  · cases hs
theorem ax_lenA_i {h : ax_H} {a : Nat} {v : Int32} (hs : ax_lenA h a = some v) : ∃ t x, h a = .inl (t, x) ∧ t < 5 ∧ a < ax_NC ∧ v = Int32.ofNat x.1 := by
  unfold ax_lenA at hs
  split at hs
  · rename_i t' n y e
    split at hs
    · rename_i hc
      cases hs
      exact ⟨t', (n, y), e, hc.2, hc.1, rfl⟩
    · cases hs
  · cases hs
theorem ax_ix_i {pc : Nat} {ls : ax_L} {st : List Value} {h : ax_H} {o : ax_N ⊕ (ax_O ⊕ (Nat × ax_L × ax_N))} (hs : ax_ix pc ls st h = some o) : ∃ x st', st = .int x :: .ref 999 :: st' ∧ ax_small st' = true ∧ o = .inl (pc, ls, .int (ax_idx x) :: st', h) := by
  unfold ax_ix at hs
  split at hs
  · rename_i x a st'
    cases hb : (a == 999 && ax_small st') with
    | false => rw [hb] at hs; cases hs
    | true =>
      rw [hb] at hs
      rw [Bool.and_eq_true] at hb
      have ha := beq_iff_eq.mp hb.1
      subst ha
      cases hs
      exact ⟨x, st', rfl, hb.2, rfl⟩
  · cases hs
theorem ax_rI_i {a : Nat} {st : List Value} {h : ax_H} {o : ax_N ⊕ (ax_O ⊕ (Nat × ax_L × ax_N))} (hs : ax_rI a st h = some o) : ∃ x, st = [.int x] ∧ ax_fitR a x = true ∧ o = .inr (.inl (some (.int x), h)) := by
  unfold ax_rI at hs
  split at hs
  · rename_i x
    cases hb : ax_fitR a x with
    | false => rw [hb] at hs; cases hs
    | true => rw [hb] at hs; cases hs; exact ⟨x, rfl, hb, rfl⟩
  · cases hs
theorem ax_rJ_i {st : List Value} {h : ax_H} {o : ax_N ⊕ (ax_O ⊕ (Nat × ax_L × ax_N))} (hs : ax_rJ st h = some o) : ∃ x, st = [.long x] ∧ o = .inr (.inl (some (.long x), h)) := by
  unfold ax_rJ at hs
  split at hs
  · rename_i x; cases hs; exact ⟨x, rfl, rfl⟩
  · cases hs
theorem ax_rV_i {st : List Value} {h : ax_H} {o : ax_N ⊕ (ax_O ⊕ (Nat × ax_L × ax_N))} (hs : ax_rV st h = some o) : st = [] ∧ o = .inr (.inl (none, h)) := by
  unfold ax_rV at hs
  split at hs
  · cases hs; exact ⟨rfl, rfl⟩
  · cases hs
