/-! ===== the class's state and the model's are alike ===== -/
theorem upS_at {sc : Nat → Nat → Int32} {a k b q : Nat} {v : Int32} : upS sc a k v b q = if b = a ∧ q = k then v else sc b q := by
  unfold upS
  by_cases h1 : b = a
  · subst h1
    by_cases h2 : q = k <;> simp [h2]
  · simp [h1]
def Hs (x y : Nat → Nat) : Prop := Inv x ∧ x 1 ≤ 9999 ∧ Ag x y
theorem Hs.i2 {x y : Nat → Nat} (h : Hs x y) : Inv y := h.2.2.inv h.1
theorem Hs.m2 {x y : Nat → Nat} (h : Hs x y) : y 1 ≤ 9999 := by rw [← h.2.2.lo (show 1 < 6 by decide)]; exact h.2.1
theorem Hs.n {x y : Nat → Nat} (h : Hs x y) : y 0 = x 0 := (h.2.2.lo (show 0 < 6 by decide)).symm
/-- what may be undone, in a ring and in a row -/
def HP (X Y : Nat → Nat → Nat) (xb yb nx u : Nat) : Prop := nx < 8 ∧ u ≤ 8 ∧ ∀ i, i < u → Hs (X (xb + (nx + 8 - u + i) % 8)) (Y (yb + i))
theorem HP.fr {X Y X' Y' : Nat → Nat → Nat} {xb yb nx u : Nat} (h : HP X Y xb yb nx u) (hX : ∀ k, k < 8 → X' (xb + k) = X (xb + k)) (hY : ∀ k, k < 8 → Y' (yb + k) = Y (yb + k)) : HP X' Y' xb yb nx u :=
  ⟨h.1, h.2.1, fun i hi => by rw [hX _ (Nat.mod_lt _ (by decide)), hY i (by have := h.2.1; omega)]; exact h.2.2 i hi⟩
/-- one more is kept -/
theorem HP.push {X Y : Nat → Nat → Nat} {nx u : Nat} (h : HP X Y 3 2 nx u) (hH : Hs (X 0) (Y 0)) (x' y' : Nat → Nat) : HP (upX (upX X (3 + nx) (X 0)) 0 x') (upX (mnd Y u) 0 y') 3 2 ((nx + 1) % 8) (min (u + 1) 8) := by
  obtain ⟨h1, h2, h3⟩ := h
  refine ⟨by omega, by omega, fun i hi => ?_⟩
  rw [upX_n (show ¬ 3 + ((nx + 1) % 8 + 8 - min (u + 1) 8 + i) % 8 = 0 by omega), upX_n (show ¬ 2 + i = 0 by omega)]
  unfold mnd
  by_cases c : u = 8
  · subst c
    rw [if_pos rfl]
    by_cases c2 : i = 7
    · subst c2
      rw [show ((nx + 1) % 8 + 8 - min (8 + 1) 8 + 7) % 8 = nx by omega, upX_s, show 2 + 7 = 9 from rfl, upX_s]
      exact hH
    · rw [upX_n (show ¬ 3 + ((nx + 1) % 8 + 8 - min (8 + 1) 8 + i) % 8 = 3 + nx by omega), upX_n (show ¬ 2 + i = 9 by omega)]
      have := h3 (i + 1) (by omega)
      rw [show (nx + 8 - 8 + (i + 1)) % 8 = ((nx + 1) % 8 + 8 - min (8 + 1) 8 + i) % 8 by omega] at this
      unfold shf
      rw [if_pos (by omega), show 2 + i + 1 = 2 + (i + 1) by omega]
      exact this
  · rw [if_neg c]
    by_cases c2 : i = u
    · subst c2
      rw [show ((nx + 1) % 8 + 8 - min (i + 1) 8 + i) % 8 = nx by omega, upX_s, upX_s]
      exact hH
    · rw [upX_n (show ¬ 3 + ((nx + 1) % 8 + 8 - min (u + 1) 8 + i) % 8 = 3 + nx by omega), upX_n (show ¬ 2 + i = 2 + u by omega)]
      have := h3 i (by omega)
      rw [show (nx + 8 - u + i) % 8 = ((nx + 1) % 8 + 8 - min (u + 1) 8 + i) % 8 by omega] at this
      exact this
/-- the last is taken back -/
theorem HP.pop {X Y : Nat → Nat → Nat} {nx u : Nat} (h : HP X Y 3 2 nx u) (hu : 0 < u) : Hs (X (3 + (nx + 7) % 8)) (Y (2 + (u - 1))) ∧ HP (upX X 0 (X (3 + (nx + 7) % 8))) (upX Y 0 (Y (2 + (u - 1)))) 3 2 ((nx + 7) % 8) (u - 1) := by
  obtain ⟨h1, h2, h3⟩ := h
  have a := h3 (u - 1) (by omega)
  rw [show (nx + 8 - u + (u - 1)) % 8 = (nx + 7) % 8 by omega] at a
  refine ⟨a, by omega, by omega, fun i hi => ?_⟩
  rw [upX_n (show ¬ 3 + ((nx + 7) % 8 + 8 - (u - 1) + i) % 8 = 0 by omega), upX_n (show ¬ 2 + i = 0 by omega)]
  have b := h3 i (by omega)
  rw [show (nx + 8 - u + i) % 8 = ((nx + 7) % 8 + 8 - (u - 1) + i) % 8 by omega] at b
  exact b
def Img (X Y : Nat → Nat → Nat) (sc : Nat → Nat → Int32) : Prop := (sc 114 5 = nI 0 ∧ sc 134 2 = nI 0) ∨ (sc 114 5 = nI 1 ∧ sc 134 2 = nI 1 ∧ Hs (X 2) (Y 10) ∧ ∃ nx u, HP X Y 11 12 nx u ∧ sc 117 1 = nI nx ∧ sc 117 2 = nI u ∧ sc 134 3 = nI u)
def Tp (sc ai : Nat → Nat → Int32) : Prop := ∃ (z : Nat) (l : Nat → Nat), z ≤ 70 ∧ sc 119 1 = nI z ∧ sc 134 5 = nI z ∧ (∀ k, k < z → ai 120 k = nI (l k) ∧ l k < 127) ∧ ∀ k, k < z → ai 136 k = nI (l k) ∧ l k < 127
def ShL (sc ai : Nat → Nat → Int32) (s : Nat) : Prop := (sc (sh s) 0 = -1 ∧ sc (sh s) 1 = nI 0 ∧ ai 138 s = -1) ∨ ∃ l z, l < 4 ∧ z ≤ 24 ∧ sc (sh s) 0 = nI l ∧ sc (sh s) 1 = nI z ∧ ai 138 s = nI z ∧ ai 139 s = nI l
def Sht (sc ai : Nat → Nat → Int32) (aj : Nat → Nat → Int64) : Prop := ∀ s, s < 4 → ShL sc ai s ∧ ∀ k, k < 24 → aj (si s) k = aj 137 (24 * s + k)
def Und (X Y : Nat → Nat → Nat) (sc : Nat → Nat → Int32) : Prop := ∃ nx u, HP X Y 3 2 nx u ∧ sc 115 1 = nI nx ∧ sc 115 2 = nI u ∧ sc 134 1 = nI u
def R (X Y : Nat → Nat → Nat) (sc ai : Nat → Nat → Int32) (aj : Nat → Nat → Int64) : Prop := Hs (X 0) (Y 0) ∧ Und X Y sc ∧ Img X Y sc ∧ Tp sc ai ∧ Sht sc ai aj
section FR
variable {X Y X' Y' : Nat → Nat → Nat} {sc ai sc' ai' : Nat → Nat → Int32} {aj aj' : Nat → Nat → Int64}
theorem Und.fr (h : Und X Y sc) (hX : ∀ k, 3 ≤ k → k < 11 → X' k = X k) (hY : ∀ k, 2 ≤ k → k < 10 → Y' k = Y k) (h1 : sc' 115 1 = sc 115 1) (h2 : sc' 115 2 = sc 115 2) (h3 : sc' 134 1 = sc 134 1) : Und X' Y' sc' := by
  obtain ⟨nx, u, hh, e1, e2, e3⟩ := h
  exact ⟨nx, u, hh.fr (fun k hk => hX _ (by omega) (by omega)) (fun k hk => hY _ (by omega) (by omega)), h1.trans e1, h2.trans e2, h3.trans e3⟩
theorem Img.fr (h : Img X Y sc) (hX : ∀ k, k = 2 ∨ 11 ≤ k → X' k = X k) (hY : ∀ k, 10 ≤ k → Y' k = Y k) (h1 : sc' 114 5 = sc 114 5) (h2 : sc' 134 2 = sc 134 2) (h3 : sc' 117 1 = sc 117 1) (h4 : sc' 117 2 = sc 117 2) (h5 : sc' 134 3 = sc 134 3) : Img X' Y' sc' := by
  rcases h with ⟨a, b⟩ | ⟨a, b, c, nx, u, hh, e1, e2, e3⟩
  · exact Or.inl ⟨h1.trans a, h2.trans b⟩
  · refine Or.inr ⟨h1.trans a, h2.trans b, by rw [hX 2 (by omega), hY 10 (by omega)]; exact c, nx, u, hh.fr (fun k hk => hX _ (by omega)) (fun k hk => hY _ (by omega)), h3.trans e1, h4.trans e2, h5.trans e3⟩
theorem Tp.fr (h : Tp sc ai) (h1 : sc' 119 1 = sc 119 1) (h2 : sc' 134 5 = sc 134 5) (h3 : ai' 120 = ai 120) (h4 : ai' 136 = ai 136) : Tp sc' ai' := by
  obtain ⟨z, l, hz, e1, e2, e3, e4⟩ := h
  exact ⟨z, l, hz, h1.trans e1, h2.trans e2, by rw [h3]; exact e3, by rw [h4]; exact e4⟩
theorem ShL.fr {s : Nat} (h : ShL sc ai s) (h1 : sc' (sh s) 0 = sc (sh s) 0) (h2 : sc' (sh s) 1 = sc (sh s) 1) (h3 : ai' 138 s = ai 138 s) (h4 : ai' 139 s = ai 139 s) : ShL sc' ai' s := by
  unfold ShL
  rw [h1, h2, h3, h4]
  exact h
theorem Sht.fr (h : Sht sc ai aj) (h1 : ∀ s, s < 4 → sc' (sh s) 0 = sc (sh s) 0) (h2 : ∀ s, s < 4 → sc' (sh s) 1 = sc (sh s) 1) (h3 : ai' 138 = ai 138) (h4 : ai' 139 = ai 139) (h5 : ∀ s, s < 4 → aj' (si s) = aj (si s)) (h6 : aj' 137 = aj 137) : Sht sc' ai' aj' := by
  intro s hs
  refine ⟨(h s hs).1.fr (h1 s hs) (h2 s hs) (by rw [h3]) (by rw [h4]), fun k hk => ?_⟩
  rw [h5 s hs, h6]; exact (h s hs).2 k hk
/-- nothing that counts is changed -/
theorem R.fr (h : R X Y sc ai aj) (hX : ∀ k, ¬ k = 1 → X' k = X k) (hY : ∀ k, ¬ k = 1 → Y' k = Y k) (hs : ∀ a q, ¬ (a = 119 ∧ q = 2) → ¬ a = 130 → ¬ (a = 134 ∧ q = 9) → sc' a q = sc a q) (ha : ∀ a, a = 120 ∨ a = 136 ∨ a = 138 ∨ a = 139 → ai' a = ai a) (hj : ∀ a, ¬ a = 133 → ¬ a = 143 → ¬ a = 146 → aj' a = aj a) : R X' Y' sc' ai' aj' := by
  obtain ⟨a, b, c, d, e⟩ := h
  refine ⟨by rw [hX 0 (by decide), hY 0 (by decide)]; exact a, b.fr (fun k h1 h2 => hX k (by omega)) (fun k h1 h2 => hY k (by omega)) (hs _ _ (by decide) (by decide) (by decide)) (hs _ _ (by decide) (by decide) (by decide)) (hs _ _ (by decide) (by decide) (by decide)), c.fr (fun k h1 => hX k (by omega)) (fun k h1 => hY k (by omega)) (hs _ _ (by decide) (by decide) (by decide)) (hs _ _ (by decide) (by decide) (by decide)) (hs _ _ (by decide) (by decide) (by decide)) (hs _ _ (by decide) (by decide) (by decide)) (hs _ _ (by decide) (by decide) (by decide)), d.fr (hs _ _ (by decide) (by decide) (by decide)) (hs _ _ (by decide) (by decide) (by decide)) (ha _ (by decide)) (ha _ (by decide)), e.fr (fun s hs4 => hs _ _ (by unfold sh; omega) (by unfold sh; omega) (by unfold sh; omega)) (fun s hs4 => hs _ _ (by unfold sh; omega) (by unfold sh; omega) (by unfold sh; omega)) (ha _ (by decide)) (ha _ (by decide)) (fun s hs4 => hj _ (by unfold si; omega) (by unfold si; omega) (by unfold si; omega)) (hj _ (by decide) (by decide) (by decide))⟩
theorem R.fX (h : R X Y sc ai aj) (x1 y1 : Nat → Nat) : R (upX X 1 x1) (upX Y 1 y1) sc ai aj := h.fr (fun k hk => upX_n hk) (fun k hk => upX_n hk) (fun a q _ _ _ => rfl) (fun a _ => rfl) (fun a _ _ _ => rfl)
end FR
/-- a picture in which both are alike -/
def RR (h : ax_H) : Prop := ∃ X Y sc ai aj, h = hp X Y sc ai aj ∧ R X Y sc ai aj
theorem R.rr {X Y : Nat → Nat → Nat} {sc ai : Nat → Nat → Int32} {aj : Nat → Nat → Int64} (h : R X Y sc ai aj) : RR (hp X Y sc ai aj) := ⟨X, Y, sc, ai, aj, rfl, h⟩
def ax_vk (mc : Nat) (v : Value) : Bool := bif Nat.beq mc 78 then (match v with | .long _ => true | _ => false) else (match v with | .int _ => true | _ => false)
/-- a call: the class answers, the model answers the same, both are alike behind it -/
def St (mc mm : Nat) (lc lm : ax_L) : Prop := ∀ X Y sc ai aj, R X Y sc ai aj → ∃ v h1 h2, ax_res mc 0 lc [] (hp X Y sc ai aj) = some (some v, h1) ∧ ax_res mm 0 lm [] h1 = some (some v, h2) ∧ RR h2 ∧ ax_isO h1 134 6 = true ∧ ax_vk mc v = true
