/-! ===== what holds of a house always is kept ===== -/
theorem inv_same {x y : Nat → Nat} (h : Inv x) (h0 : y 0 = x 0) (h1 : y 1 = x 1) (h2 : y 2 < x 0 ∨ y 2 = 6) (h3 : y 3 ≤ x 1) (h4 : y 4 < 2 ^ x 0) (h5 : y 5 < 2 ^ 31) (hb : ∀ b, b < x 0 → y (6 + b) < 32 ∧ y (12 + b) ≤ x 1 ∧ y (18 + b) < x 0 ∧ y (24 + b) ≤ 4 ∧ y (30 + b) ≤ 99) : Inv y := by
  unfold Inv
  rw [h0, h1]
  exact ⟨h.1, h2, h3, h4, h5, hb⟩
theorem inv_tea {x : Nat → Nat} {b k : Nat} (h : Inv x) (hb : b < x 0) (hk : k < 5) : Inv (tea x b k) ∧ tea x b k 0 = x 0 ∧ tea x b k 1 = x 1 := by
  have h0 := h.1
  have e : ∀ i, ¬ i = 6 + b → tea x b k i = x i := fun i hi => up1_n hi
  have e0 := e 0 (by omega)
  have e1 := e 1 (by omega)
  refine ⟨inv_same h e0 e1 ?_ ?_ ?_ ?_ (fun c hc => ?_), e0, e1⟩
  · rw [e 2 (by omega)]; exact h.2.1
  · rw [e 3 (by omega)]; exact h.2.2.1
  · rw [e 4 (by omega)]; exact h.2.2.2.1
  · rw [e 5 (by omega)]; exact h.2.2.2.2.1
  · obtain ⟨a1, a2, a3, a4, a5⟩ := h.2.2.2.2.2 c hc
    rw [e (12 + c) (by omega), e (18 + c) (by omega), e (24 + c) (by omega), e (30 + c) (by omega)]
    refine ⟨?_, a2, a3, a4, a5⟩
    by_cases hcb : c = b
    · subst hcb
      rw [tea, up1_s]
      exact or_lt5 _ a1 _ hk
    · rw [e (6 + c) (by omega)]; exact a1
theorem inv_emp {x : Nat → Nat} (h : Inv x) : Inv (emp x) ∧ emp x 0 = x 0 ∧ emp x 1 = x 1 := by
  have e : ∀ i, ¬ i = 2 → ¬ i = 3 → emp x i = x i := fun i h2 h3 => by unfold emp; rw [up1_n h3, up1_n h2]
  have e0 := e 0 (by omega) (by omega)
  have e1 := e 1 (by omega) (by omega)
  refine ⟨inv_same h e0 e1 (Or.inr ?_) ?_ ?_ ?_ (fun c hc => ?_), e0, e1⟩
  · unfold emp; rw [up1_n (by omega), up1_s]
  · unfold emp; rw [up1_s]; omega
  · rw [e 4 (by omega) (by omega)]; exact h.2.2.2.1
  · rw [e 5 (by omega) (by omega)]; exact h.2.2.2.2.1
  · rw [e (6 + c) (by omega) (by omega), e (12 + c) (by omega) (by omega), e (18 + c) (by omega) (by omega), e (24 + c) (by omega) (by omega), e (30 + c) (by omega) (by omega)]
    exact h.2.2.2.2.2 c hc
theorem inv_up4 {x : Nat → Nat} {v : Nat} (h : Inv x) (hv : v < 2 ^ x 0) : Inv (up1 x 4 v) := by
  refine inv_same h (up1_n (by omega)) (up1_n (by omega)) ?_ ?_ ?_ ?_ (fun c hc => ?_)
  · rw [up1_n (by omega)]; exact h.2.1
  · rw [up1_n (by omega)]; exact h.2.2.1
  · rw [up1_s]; exact hv
  · rw [up1_n (by omega)]; exact h.2.2.2.2.1
  · rw [up1_n (by omega), up1_n (by omega), up1_n (by omega), up1_n (by omega), up1_n (by omega)]; exact h.2.2.2.2.2 c hc
theorem inv_up5 {x : Nat → Nat} {v : Nat} (h : Inv x) (hv : v < 2 ^ 31) : Inv (up1 x 5 v) := by
  refine inv_same h (up1_n (by omega)) (up1_n (by omega)) ?_ ?_ ?_ ?_ (fun c hc => ?_)
  · rw [up1_n (by omega)]; exact h.2.1
  · rw [up1_n (by omega)]; exact h.2.2.1
  · rw [up1_n (by omega)]; exact h.2.2.2.1
  · rw [up1_s]; exact hv
  · rw [up1_n (by omega), up1_n (by omega), up1_n (by omega), up1_n (by omega), up1_n (by omega)]; exact h.2.2.2.2.2 c hc
theorem inv_snd {x : Nat → Nat} {b : Nat} (h : Inv x) (hb : b < 6) : Inv (snd x b) ∧ snd x b 0 = x 0 ∧ snd x b 1 = x 1 := by
  have h4 := inv_up4 h (hom_lt _ h.1 _ h.2.2.2.1 b hb)
  unfold snd
  split
  · obtain ⟨a1, a2, a3⟩ := inv_emp h4
    exact ⟨a1, a2.trans (up1_n (by omega)), a3.trans (up1_n (by omega))⟩
  · exact ⟨h4, up1_n (by omega), up1_n (by omega)⟩
theorem rumd_lt (d : Nat) : rumd d < 2 ^ 31 := by unfold rumd; omega
theorem inv_rum {x : Nat → Nat} (h : Inv x) : Inv (rum x) ∧ rum x 0 = x 0 ∧ rum x 1 = x 1 := by
  have h5 := inv_up5 h (rumd_lt (x 5))
  unfold rum
  split
  · exact ⟨h5, up1_n (by omega), up1_n (by omega)⟩
  · rename_i h0
    split
    · obtain ⟨a1, a2, a3⟩ := inv_tea (k := rumd (x 5) / 128 % 5) h5 (b := rumd (x 5) / 65536 % x 0) (by rw [up1_n (by omega)]; exact Nat.mod_lt _ (by omega)) (Nat.mod_lt _ (by decide))
      exact ⟨a1, a2.trans (up1_n (by omega)), a3.trans (up1_n (by omega))⟩
    · exact ⟨h5, up1_n (by omega), up1_n (by omega)⟩
theorem addb_at {x : Nat → Nat} {k p t i : Nat} (h0 : x 0 < 6) : addb x k p t i = if i = 0 then x 0 + 1 else if i = 4 then x 4 ||| 2 ^ x 0 else if i = 18 + x 0 then x 0 else if i = 12 + x 0 then 0 else if i = 6 + x 0 then t else if i = 30 + x 0 then p else if i = 24 + x 0 then k else x i := by
  unfold addb up1
  rfl
theorem inv_addb {x : Nat → Nat} {k p t : Nat} (h : Inv x) (h0 : x 0 < 6) (hk : k ≤ 4) (hp : p ≤ 99) (ht : t ≤ 31) : Inv (addb x k p t) := by
  have e : ∀ i, ¬ i = 0 → ¬ i = 4 → ¬ i = 18 + x 0 → ¬ i = 12 + x 0 → ¬ i = 6 + x 0 → ¬ i = 30 + x 0 → ¬ i = 24 + x 0 → addb x k p t i = x i := fun i a b c d e f g => by rw [addb_at h0, if_neg a, if_neg b, if_neg c, if_neg d, if_neg e, if_neg f, if_neg g]
  have e0 : addb x k p t 0 = x 0 + 1 := by rw [addb_at h0, if_pos rfl]
  have e1 := e 1 (by omega) (by omega) (by omega) (by omega) (by omega) (by omega) (by omega)
  unfold Inv
  rw [e0, e1, e 2 (by omega) (by omega) (by omega) (by omega) (by omega) (by omega) (by omega), e 3 (by omega) (by omega) (by omega) (by omega) (by omega) (by omega) (by omega), e 5 (by omega) (by omega) (by omega) (by omega) (by omega) (by omega) (by omega), show addb x k p t 4 = x 4 ||| 2 ^ x 0 by rw [addb_at h0, if_neg (by omega), if_pos rfl]]
  refine ⟨by omega, by have := h.2.1; omega, h.2.2.1, or_lt1 _ h0 _ h.2.2.2.1, h.2.2.2.2.1, fun c hc => ?_⟩
  by_cases hcn : c = x 0
  · subst hcn
    simp only [addb_at h0]
    refine ⟨?_, ?_, ?_, ?_, ?_⟩
    · rw [if_neg (by omega), if_neg (by omega), if_neg (by omega), if_neg (by omega), if_pos trivial]; omega
    · rw [if_neg (by omega), if_neg (by omega), if_neg (by omega), if_pos trivial]; omega
    · rw [if_neg (by omega), if_neg (by omega), if_pos trivial]; omega
    · rw [if_neg (by omega), if_neg (by omega), if_neg (by omega), if_neg (by omega), if_neg (by omega), if_neg (by omega), if_pos trivial]; exact hk
    · rw [if_neg (by omega), if_neg (by omega), if_neg (by omega), if_neg (by omega), if_neg (by omega), if_pos trivial]; exact hp
  · obtain ⟨a1, a2, a3, a4, a5⟩ := h.2.2.2.2.2 c (by omega)
    rw [e (6 + c) (by omega) (by omega) (by omega) (by omega) (by omega) (by omega) (by omega), e (12 + c) (by omega) (by omega) (by omega) (by omega) (by omega) (by omega) (by omega), e (18 + c) (by omega) (by omega) (by omega) (by omega) (by omega) (by omega) (by omega), e (24 + c) (by omega) (by omega) (by omega) (by omega) (by omega) (by omega) (by omega), e (30 + c) (by omega) (by omega) (by omega) (by omega) (by omega) (by omega) (by omega)]
    exact ⟨a1, a2, by omega, a4, a5⟩
theorem inv_chg {x : Nat → Nat} {a b : Nat} (h : Inv x) (ha : a < x 0) (hb : b < x 0) : Inv (chg x a b) ∧ chg x a b 0 = x 0 ∧ chg x a b 1 = x 1 := by
  have h0 := h.1
  have e : ∀ i, ¬ i = 18 + a → ¬ i = 18 + b → chg x a b i = x i := fun i h1 h2 => by unfold chg; rw [up1_n h1, up1_n h2]
  have e0 := e 0 (by omega) (by omega)
  have e1 := e 1 (by omega) (by omega)
  refine ⟨inv_same h e0 e1 ?_ ?_ ?_ ?_ (fun c hc => ?_), e0, e1⟩
  · rw [e 2 (by omega) (by omega)]; exact h.2.1
  · rw [e 3 (by omega) (by omega)]; exact h.2.2.1
  · rw [e 4 (by omega) (by omega)]; exact h.2.2.2.1
  · rw [e 5 (by omega) (by omega)]; exact h.2.2.2.2.1
  · obtain ⟨a1, a2, a3, a4, a5⟩ := h.2.2.2.2.2 c hc
    rw [e (6 + c) (by omega) (by omega), e (12 + c) (by omega) (by omega), e (24 + c) (by omega) (by omega), e (30 + c) (by omega) (by omega)]
    refine ⟨a1, a2, ?_, a4, a5⟩
    unfold chg up1
    split
    · exact (h.2.2.2.2.2 b hb).2.2.1
    · split
      · exact (h.2.2.2.2.2 a ha).2.2.1
      · exact a3
/-- two houses alike, but for what is behind the buyers -/
def Ag (x y : Nat → Nat) : Prop := ∀ i, i < 36 → (i < 6 ∨ i % 6 < x 0) → x i = y i
theorem Ag.lo {x y : Nat → Nat} (h : Ag x y) {i : Nat} (hi : i < 6) : x i = y i := h i (by omega) (Or.inl hi)
theorem Ag.b {x y : Nat → Nat} (h : Ag x y) {c b : Nat} (hc : c % 6 = 0) (hc2 : c ≤ 30) (h0 : x 0 ≤ 6) (hb : b < x 0) : x (c + b) = y (c + b) := h (c + b) (by omega) (Or.inr (by omega))
theorem Ag.rfl' (x : Nat → Nat) : Ag x x := fun _ _ _ => rfl
theorem Ag.inv {x y : Nat → Nat} (h : Ag x y) (hI : Inv x) : Inv y := by
  have h0 := hI.1
  unfold Inv
  rw [← h.lo (show 0 < 6 by decide), ← h.lo (show 1 < 6 by decide), ← h.lo (show 2 < 6 by decide), ← h.lo (show 3 < 6 by decide), ← h.lo (show 4 < 6 by decide), ← h.lo (show 5 < 6 by decide)]
  refine ⟨h0, hI.2.1, hI.2.2.1, hI.2.2.2.1, hI.2.2.2.2.1, fun b hb => ?_⟩
  rw [← h.b (by decide) (by decide) h0 hb, ← h.b (by decide) (by decide) h0 hb, ← h.b (by decide) (by decide) h0 hb, ← h.b (by decide) (by decide) h0 hb, ← h.b (by decide) (by decide) h0 hb]
  exact hI.2.2.2.2.2 b hb
theorem ag_oust {x y : Nat → Nat} (h : Ag x y) (h0 : x 0 ≤ 6) {b s t : Nat} (hb : b < x 0) (hs : s < x 0) : oust x b s t = oust y b s t := by
  unfold oust
  rw [h.b (c := 24) (by decide) (by decide) h0 hb, h.b (c := 6) (by decide) (by decide) h0 hb, h.b (c := 6) (by decide) (by decide) h0 hs, h.lo (show 1 < 6 by decide), h.b (c := 30) (by decide) (by decide) h0 hb, h.b (c := 30) (by decide) (by decide) h0 hs]
theorem ag_may {x y : Nat → Nat} (h : Ag x y) (hI : Inv x) {b : Nat} (hb : b < x 0) : may x b = may y b := by
  unfold may
  by_cases c : x 2 < 6
  · rw [ag_oust h hI.1 hb (hI.s6 c), h.lo (show 4 < 6 by decide), h.lo (show 2 < 6 by decide), h.lo (show 3 < 6 by decide)]
  · have c' : ¬ y 2 < 6 := by rw [← h.lo (show 2 < 6 by decide)]; exact c
    rw [h.lo (show 4 < 6 by decide), h.lo (show 2 < 6 by decide)]
    simp [c']
theorem ag_trn {x y : Nat → Nat} (h : Ag x y) (hI : Inv x) : trn x = trn y := by
  unfold trn
  rw [← h.lo (show 0 < 6 by decide), ← h.lo (show 1 < 6 by decide)]
  by_cases c : x 0 = 0
  · rw [if_pos c, if_pos c]
  · rw [if_neg c, if_neg c, h.b (c := 18) (by decide) (by decide) hI.1 (Nat.mod_lt _ (by omega))]
/-- the same place of both is changed alike -/
theorem ag_up {x y : Nat → Nat} (h : Ag x y) {i v : Nat} (hi : ¬ i = 0) : Ag (up1 x i v) (up1 y i v) := by
  intro k hk hk2
  unfold up1 at hk2 ⊢
  rw [if_neg (fun e => hi e.symm)] at hk2
  by_cases c : k = i
  · rw [if_pos c, if_pos c]
  · rw [if_neg c, if_neg c]; exact h k hk hk2
theorem ag_sit {x y : Nat → Nat} (h : Ag x y) (hI : Inv x) {b : Nat} (hb : b < x 0) : Ag (sit x b) (sit y b) := by
  unfold sit
  rw [← h.lo (show 2 < 6 by decide), ← h.b (c := 6) (by decide) (by decide) hI.1 hb]
  by_cases c : x 2 < 6
  · rw [if_pos c, if_pos c, ← h.b (c := 6) (by decide) (by decide) hI.1 (hI.s6 c)]
    exact ag_up (ag_up (ag_up h (by omega)) (by omega)) (by omega)
  · rw [if_neg c, if_neg c]
    exact ag_up (ag_up h (by omega)) (by omega)
theorem ag_tick {x y : Nat → Nat} (h : Ag x y) (hI : Inv x) : Ag (tick x) (tick y) := by
  unfold tick
  rw [← h.lo (show 2 < 6 by decide), ← h.lo (show 1 < 6 by decide), ← h.lo (show 3 < 6 by decide)]
  by_cases c : x 2 < 6
  · rw [if_pos c, if_pos c, ← h.b (c := 12) (by decide) (by decide) hI.1 (hI.s6 c)]
    exact ag_up (ag_up (ag_up h (by omega)) (by omega)) (by omega)
  · rw [if_neg c, if_neg c]
    exact ag_up h (by omega)
theorem ag_pas {x y : Nat → Nat} (h : Ag x y) (hI : Inv x) (m : Bool) : Ag (pas x m) (pas y m) := by
  unfold pas
  rw [← ag_trn h hI]
  by_cases c : trn x < 6
  · rw [← ag_may h hI (hI.tr c)]
    split
    · exact ag_tick (ag_sit h hI (hI.tr c)) (inv_sit hI (hI.tr c)).1
    · exact ag_tick h hI
  · rw [if_neg (by simp [c]), if_neg (by simp [c])]
    exact ag_tick h hI
theorem ag_pasN (n : Nat) : ∀ {x y : Nat → Nat}, Ag x y → Inv x → Ag (pasN n x) (pasN n y) := by
  induction n with
  | zero => intro x y h hI; exact h
  | succ n ih => intro x y h hI; exact ih (ag_pas h hI false) (inv_pas hI).1
theorem ag_ones {x y : Nat → Nat} (h : Ag x y) (h0 : x 0 ≤ 6) (n : Nat) : ∀ i, i + n ≤ x 0 → ones_ x i n = ones_ y i n := by
  induction n with
  | zero => intro i _; rfl
  | succ n ih => intro i hi; unfold ones_; rw [ih (i + 1) (by omega), h.b (c := 6) (by decide) (by decide) h0 (by omega)]
theorem ag_plc {x y : Nat → Nat} (h : Ag x y) (h0 : x 0 ≤ 6) (b n : Nat) : ∀ i, i + n ≤ x 0 → plc x b i n = plc y b i n := by
  induction n with
  | zero => intro i _; rfl
  | succ n ih => intro i hi; unfold plc; rw [ih (i + 1) (by omega), h.b (c := 18) (by decide) (by decide) h0 (by omega)]
theorem ag_ous {x y : Nat → Nat} (h : Ag x y) (hI : Inv x) {b : Nat} (hb : b < x 0) (n : Nat) : ∀ i acc, i + n ≤ x 0 → ous x b i n acc = ous y b i n acc := by
  induction n with
  | zero => intro i acc _; rfl
  | succ n ih => intro i acc hi; unfold ous; rw [ag_oust h hI.1 hb (by omega), h.lo (show 4 < 6 by decide), h.lo (show 3 < 6 by decide), ih (i + 1) _ (by omega)]
theorem ag_tea {x y : Nat → Nat} (h : Ag x y) (h0 : x 0 ≤ 6) {b k : Nat} (hb : b < x 0) : Ag (tea x b k) (tea y b k) := by
  unfold tea
  rw [← h.b (c := 6) (by decide) (by decide) h0 hb]
  exact ag_up h (by omega)
theorem ag_emp {x y : Nat → Nat} (h : Ag x y) : Ag (emp x) (emp y) := ag_up (ag_up h (by omega)) (by omega)
theorem ag_snd {x y : Nat → Nat} (h : Ag x y) {b : Nat} : Ag (snd x b) (snd y b) := by
  unfold snd
  rw [← h.lo (show 2 < 6 by decide), ← h.lo (show 4 < 6 by decide)]
  split
  · exact ag_emp (ag_up h (by omega))
  · exact ag_up h (by omega)
theorem ag_rum {x y : Nat → Nat} (h : Ag x y) (hI : Inv x) : Ag (rum x) (rum y) := by
  unfold rum
  rw [← h.lo (show 0 < 6 by decide), ← h.lo (show 4 < 6 by decide), ← h.lo (show 5 < 6 by decide)]
  have h5 := ag_up (i := 5) (v := rumd (x 5)) h (by omega)
  split
  · exact h5
  · split
    · exact ag_tea h5 (by rw [up1_n (by omega)]; exact hI.1) (by rw [up1_n (by omega)]; exact Nat.mod_lt _ (by omega))
    · exact h5
theorem ag_chg {x y : Nat → Nat} (h : Ag x y) (h0 : x 0 ≤ 6) {a b : Nat} (ha : a < x 0) (hb : b < x 0) : Ag (chg x a b) (chg y a b) := by
  unfold chg
  rw [← h.b (c := 18) (by decide) (by decide) h0 ha, ← h.b (c := 18) (by decide) (by decide) h0 hb]
  exact ag_up (ag_up h (by omega)) (by omega)
theorem ag_addb {x y : Nat → Nat} (h : Ag x y) (h0 : x 0 < 6) {k p t : Nat} : Ag (addb x k p t) (addb y k p t) := by
  have e0 := h.lo (show 0 < 6 by decide)
  have e4 := h.lo (show 4 < 6 by decide)
  intro i hi hi2
  rw [addb_at h0] at hi2 ⊢
  rw [addb_at (by omega), ← e0, ← e4]
  rw [if_pos rfl] at hi2
  by_cases c1 : i = 0
  · rw [if_pos c1, if_pos c1]
  by_cases c2 : i = 4
  · rw [if_neg c1, if_neg c1, if_pos c2, if_pos c2]
  by_cases c3 : i = 18 + x 0
  · rw [if_neg c1, if_neg c1, if_neg c2, if_neg c2, if_pos c3, if_pos c3]
  by_cases c4 : i = 12 + x 0
  · rw [if_neg c1, if_neg c1, if_neg c2, if_neg c2, if_neg c3, if_neg c3, if_pos c4, if_pos c4]
  by_cases c5 : i = 6 + x 0
  · rw [if_neg c1, if_neg c1, if_neg c2, if_neg c2, if_neg c3, if_neg c3, if_neg c4, if_neg c4, if_pos c5, if_pos c5]
  by_cases c6 : i = 30 + x 0
  · rw [if_neg c1, if_neg c1, if_neg c2, if_neg c2, if_neg c3, if_neg c3, if_neg c4, if_neg c4, if_neg c5, if_neg c5, if_pos c6, if_pos c6]
  by_cases c7 : i = 24 + x 0
  · rw [if_neg c1, if_neg c1, if_neg c2, if_neg c2, if_neg c3, if_neg c3, if_neg c4, if_neg c4, if_neg c5, if_neg c5, if_neg c6, if_neg c6, if_pos c7, if_pos c7]
  rw [if_neg c1, if_neg c1, if_neg c2, if_neg c2, if_neg c3, if_neg c3, if_neg c4, if_neg c4, if_neg c5, if_neg c5, if_neg c6, if_neg c6, if_neg c7, if_neg c7]
  exact h i hi (by omega)
