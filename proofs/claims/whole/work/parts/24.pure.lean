/-! ===== a house by itself: N 0, MINUTE 1, SITTER 2 (6: nobody), SAT 3, HERE 4, DRAW 5, TRICKS 6.., SEEN 12.., PLACE 18.., KIND 24.., PAID 30.. ===== -/
def ctr (c : Nat) : Nat := c / 2 + c % 2 * 16
/-- the tricks among a that c does not counter -/
def fr (a c : Nat) : Nat := a &&& (31 ^^^ ctr c)
def low (f : Nat) : Nat := f &&& (32 - f)
/-- a without the least of f -/
def clr (a f : Nat) : Nat := a &&& (31 ^^^ low f)
theorem fr_lt : ∀ a, a < 32 → ∀ c, c < 32 → fr a c < 32 := by decide +kernel
theorem clr_lt : ∀ a, a < 32 → ∀ f, f < 32 → clr a f < 32 := by decide +kernel
theorem clr_0 : ∀ a, a < 32 → clr a 0 = a := by decide +kernel
def oust (x : Nat → Nat) (b s sat : Nat) : Bool :=
  if x (24 + b) = 0 then decide (¬ fr (x (6 + b)) (x (6 + s)) = 0)
  else if x (24 + b) = 1 then decide (¬ fr (x (6 + b)) (x (6 + s)) = 0) || decide (x 1 % 5 = 0)
  else if x (24 + b) = 2 then decide (¬ fr (x (6 + b)) (x (6 + s)) = 0) && decide (4 ≤ sat)
  else if x (24 + b) = 3 then decide (¬ fr (x (6 + b)) (x (6 + s)) = 0) || decide (x 1 % 5 = 0) || decide (x (30 + s) < x (30 + b))
  else decide (¬ fr (x (6 + b)) (x (6 + s)) = 0) && decide (4 ≤ sat) || decide (x (6 + s) = 0)
def may (x : Nat → Nat) (b : Nat) : Bool := (x 4).testBit b && (decide (¬ b = x 2) && (decide (¬ x 2 < 6) || oust x b (x 2) (x 3)))
def sit (x : Nat → Nat) (b : Nat) : Nat → Nat := up1 (up1 (if x 2 < 6 then up1 x (6 + b) (clr (x (6 + b)) (fr (x (6 + b)) (x (6 + x 2)))) else x) 2 b) 3 0
/-- the minute itself, behind who sits down -/
def tick (x : Nat → Nat) : Nat → Nat := up1 (if x 2 < 6 then up1 (up1 x (12 + x 2) (x (12 + x 2) + 1)) 3 (x 3 + 1) else x) 1 (x 1 + 1)
def pas (x : Nat → Nat) (missed : Bool) : Nat → Nat := tick (if !missed && (decide (trn x < 6) && may x (trn x)) then sit x (trn x) else x)
def pasN : Nat → (Nat → Nat) → Nat → Nat
  | 0, x => x
  | n + 1, x => pasN n (pas x false)
/-- what holds of a house always -/
def Inv (x : Nat → Nat) : Prop := x 0 ≤ 6 ∧ (x 2 < x 0 ∨ x 2 = 6) ∧ x 3 ≤ x 1 ∧ x 4 < 2 ^ x 0 ∧ x 5 < 2 ^ 31 ∧ ∀ b, b < x 0 → x (6 + b) < 32 ∧ x (12 + b) ≤ x 1 ∧ x (18 + b) < x 0 ∧ x (24 + b) ≤ 4 ∧ x (30 + b) ≤ 99
theorem Inv.h4 {x : Nat → Nat} (h : Inv x) : x 4 < 64 := by
  have h1 := h.2.2.2.1
  have h2 : 2 ^ x 0 ≤ 2 ^ 6 := Nat.pow_le_pow_right (by decide) h.1
  omega
theorem Inv.s6 {x : Nat → Nat} (h : Inv x) (hs : x 2 < 6) : x 2 < x 0 := by
  rcases h.2.1 with h1 | h1 <;> omega
theorem Inv.tr {x : Nat → Nat} (h : Inv x) (ht : trn x < 6) : trn x < x 0 := by
  unfold trn at ht ⊢
  by_cases h0 : x 0 = 0
  · rw [if_pos h0] at ht; omega
  · rw [if_neg h0] at ht ⊢
    exact (h.2.2.2.2.2 _ (Nat.mod_lt _ (by omega))).2.2.1
theorem sit_at {x : Nat → Nat} {b i : Nat} : sit x b i = if i = 3 then 0 else if i = 2 then b else if i = 6 + b ∧ x 2 < 6 then clr (x (6 + b)) (fr (x (6 + b)) (x (6 + x 2))) else x i := by
  unfold sit up1
  by_cases h2 : x 2 < 6
  · simp only [h2, and_true, if_true]
  · simp only [if_neg h2, h2, and_false, if_false]
theorem tick_at {x : Nat → Nat} {i : Nat} : tick x i = if i = 1 then x 1 + 1 else if i = 3 ∧ x 2 < 6 then x 3 + 1 else if i = 12 + x 2 ∧ x 2 < 6 then x (12 + x 2) + 1 else x i := by
  unfold tick up1
  by_cases h2 : x 2 < 6
  · simp only [h2, and_true, if_true]
  · simp only [if_neg h2, h2, and_false, if_false]
theorem inv_sit {x : Nat → Nat} {b : Nat} (h : Inv x) (hb : b < x 0) : Inv (sit x b) ∧ sit x b 0 = x 0 ∧ sit x b 1 = x 1 := by
  obtain ⟨h0, h1, h2, h3, h4, h5⟩ := id h
  have e : ∀ i, ¬ i = 3 → ¬ i = 2 → ¬ i = 6 + b → sit x b i = x i := fun i a1 a2 a3 => by
    rw [sit_at, if_neg a1, if_neg a2, if_neg (fun q => a3 q.1)]
  have e0 := e 0 (by omega) (by omega) (by omega)
  have e1 := e 1 (by omega) (by omega) (by omega)
  refine ⟨⟨by omega, Or.inl ?_, ?_, ?_, ?_, fun c hc => ?_⟩, e0, e1⟩
  · rw [e0, sit_at]; exact hb
  · rw [sit_at, e1]; simp
  · rw [e0, e 4 (by omega) (by omega) (by omega)]; exact h3
  · rw [e 5 (by omega) (by omega) (by omega)]; exact h4
  · rw [e0] at hc
    obtain ⟨a1, a2, a3, a4, a5⟩ := h5 c hc
    rw [e0, e1, e (12 + c) (by omega) (by omega) (by omega), e (18 + c) (by omega) (by omega) (by omega), e (24 + c) (by omega) (by omega) (by omega), e (30 + c) (by omega) (by omega) (by omega)]
    refine ⟨?_, a2, a3, a4, a5⟩
    rw [sit_at, if_neg (by omega), if_neg (by omega)]
    split
    · rename_i hq
      have hs := h.s6 hq.2
      exact clr_lt _ (h5 b hb).1 _ (fr_lt _ (h5 b hb).1 _ (h5 _ hs).1)
    · exact a1
theorem inv_tick {x : Nat → Nat} (h : Inv x) : Inv (tick x) ∧ tick x 0 = x 0 ∧ tick x 1 = x 1 + 1 := by
  obtain ⟨h0, h1, h2, h3, h4, h5⟩ := id h
  have e : ∀ i, ¬ i = 1 → ¬ i = 3 → (x 2 < 6 → ¬ i = 12 + x 2) → tick x i = x i := fun i a1 a2 a3 => by
    rw [tick_at, if_neg a1, if_neg (fun q => a2 q.1), if_neg (fun q => a3 q.2 q.1)]
  have e0 := e 0 (by omega) (by omega) (by omega)
  have e1 : tick x 1 = x 1 + 1 := by rw [tick_at, if_pos rfl]
  have e2 := e 2 (by omega) (by omega) (by omega)
  refine ⟨⟨by omega, by rw [e2, e0]; exact h1, ?_, ?_, ?_, fun c hc => ?_⟩, e0, e1⟩
  · rw [e1, tick_at, if_neg (by omega)]
    split
    · omega
    · rw [if_neg (by omega)]; omega
  · rw [e0, e 4 (by omega) (by omega) (by omega)]; exact h3
  · rw [e 5 (by omega) (by omega) (by omega)]; exact h4
  · rw [e0] at hc
    obtain ⟨a1, a2, a3, a4, a5⟩ := h5 c hc
    rw [e0, e1, e (6 + c) (by omega) (by omega) (by omega), e (18 + c) (by omega) (by omega) (by omega), e (24 + c) (by omega) (by omega) (by omega), e (30 + c) (by omega) (by omega) (by omega)]
    refine ⟨a1, ?_, a3, a4, a5⟩
    rw [tick_at, if_neg (by omega), if_neg (by omega)]
    split
    · rename_i hq
      rw [← hq.1]; omega
    · omega
theorem inv_pas {x : Nat → Nat} {m : Bool} (h : Inv x) : Inv (pas x m) ∧ pas x m 0 = x 0 ∧ pas x m 1 = x 1 + 1 := by
  unfold pas
  split
  · rename_i hc
    simp only [Bool.and_eq_true, decide_eq_true_eq] at hc
    obtain ⟨g1, g2, g3⟩ := inv_sit h (h.tr hc.2.1)
    obtain ⟨k1, k2, k3⟩ := inv_tick g1
    exact ⟨k1, k2.trans g2, by rw [k3, g3]⟩
  · exact inv_tick h
theorem inv_pasN (n : Nat) : ∀ {x : Nat → Nat}, Inv x → Inv (pasN n x) ∧ pasN n x 0 = x 0 ∧ pasN n x 1 = x 1 + n := by
  induction n with
  | zero => intro x h; exact ⟨h, rfl, rfl⟩
  | succ n ih =>
    intro x h
    obtain ⟨g1, g2, g3⟩ := inv_pas (m := false) h
    obtain ⟨k1, k2, k3⟩ := ih g1
    exact ⟨k1, k2.trans g2, by show pasN n (pas x false) 1 = _; rw [k3, g3]; omega⟩
