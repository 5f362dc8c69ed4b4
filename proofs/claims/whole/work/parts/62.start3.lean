/-! ===== the start, as the pictures have it ===== -/
theorem bx_arrV {cI : ClassId} {n : Nat} {f g : Nat → Value} (h : ∀ j, j < n → f j = g j) : arrV cI n f = arrV cI n g := by
  unfold arrV
  have e : (fun j : Fin n => f j.val) = fun j : Fin n => g j.val := by
    funext j
    exact h j.val j.isLt
  rw [e]
section BXV
variable {D : va_G} {tc : Nat → ClassId} {z : Nat} {γ : Nat → Nat}
theorem bx_ev_i (hγ : ∀ k, k < 147 → γ k = z + plN k) {v w : Value} (h : bx_ev v w = true) : ax_cv (bx_g z) v = ax_cv γ w := by
  unfold bx_ev at h
  split at h
  · rename_i a k
    rw [Bool.and_eq_true] at h
    have h1 : k < 147 := Nat.le_of_ble_eq_true h.1
    have h2 := Nat.eq_of_beq_eq_true h.2
    show Value.ref (z + a) = .ref (γ k)
    rw [hγ k h1, h2]
  · rw [of_decide_eq_true h]; rfl
  · rw [of_decide_eq_true h]; rfl
  · rfl
  · cases h
theorem bx_evl_i (hγ : ∀ k, k < 147 → γ k = z + plN k) : ∀ (vs ws : List Value), bx_evl vs ws = true → vs.map (ax_cv (bx_g z)) = ws.map (ax_cv γ) := by
  intro vs
  induction vs with
  | nil => intro ws h; cases ws with
    | nil => rfl
    | cons w ws => cases h
  | cons v vs ih => intro ws h; cases ws with
    | nil => cases h
    | cons w ws =>
      simp only [bx_evl, Bool.and_eq_true] at h
      rw [List.map_cons, List.map_cons, bx_ev_i hγ h.1, ih ws h.2]
theorem bx_rf_i (hγ : ∀ k, k < 147 → γ k = z + plN k) {v : Value} {o : Option Nat} (h : bx_rf v o = true) : (bx_vr v).map (bx_g z) = o.map γ := by
  unfold bx_rf at h
  split at h
  · rename_i a k
    rw [Bool.and_eq_true] at h
    have h1 : k < 147 := Nat.le_of_ble_eq_true h.1
    have h2 := Nat.eq_of_beq_eq_true h.2
    show some (z + a) = some (γ k)
    rw [hγ k h1, h2]
  · rfl
  · cases h
theorem bx_all {n : Nat} {f : Nat → Bool} (h : (List.range n).all f = true) : ∀ j, j < n → f j = true := fun j hj => List.all_eq_true.mp h j (List.mem_range.mpr hj)
theorem bx_eqv_i (hγ : ∀ k, k < 147 → γ k = z + plN k) {e : bx_E} {c : ax_C} {a : Nat} {H : Heap} (h : bx_eqv e c = true) (hv : va_at D ax_cl (a, ax_ce tc (bx_g z) (bx_c e)) H) : va_at D ax_cl (a, ax_ce tc γ c) H := by
  obtain ⟨t, vs⟩ := e
  match c, h with
  | .inr (ci, gs), h =>
    simp only [bx_eqv, Bool.and_eq_true] at h
    obtain ⟨h1, h2, h3⟩ := h
    have h1 : ci < 7 := Nat.le_of_ble_eq_true h1
    have h2 := Nat.eq_of_beq_eq_true h2
    subst h2
    rw [bx_c_o h1] at hv
    have e1 : ax_ce tc (bx_g z) (.inr (t, vs)) = ax_ce tc γ (.inr (t, gs)) := by
      show (Sum.inr (t, vs.map (ax_cv (bx_g z))) : va_E) = .inr (t, gs.map (ax_cv γ))
      rw [bx_evl_i hγ vs gs h3]
    rw [← e1]
    exact hv
  | .inl (t0, n, .inl f), h =>
    simp only [bx_eqv, Bool.and_eq_true, Bool.or_eq_true] at h
    obtain ⟨h1, h2, h3⟩ := h
    have h2 := Nat.eq_of_beq_eq_true h2
    have h3 := bx_all h3
    have key : H[a]? = some (arrV (tc t0) vs.length (fun j => .int (bx_vi (vs.getD j .null)))) := by
      rcases h1 with ⟨g1, g2⟩ | ⟨g1, g2⟩
      · have g1 := Nat.eq_of_beq_eq_true g1
        have g2 := Nat.eq_of_beq_eq_true g2
        subst g1; subst g2; exact hv
      · have g1 := Nat.eq_of_beq_eq_true g1
        have g2 := Nat.eq_of_beq_eq_true g2
        subst g1; subst g2; exact hv
    show H[a]? = some (arrV (tc t0) n (fun j => .int (f j)))
    rw [key, h2]
    congr 1
    exact bx_arrV (fun j hj => by rw [of_decide_eq_true (h3 j hj)])
  | .inl (t0, n, .inr (.inl f)), h =>
    simp only [bx_eqv, Bool.and_eq_true] at h
    obtain ⟨⟨g1, g2⟩, h2, h3⟩ := h
    have h2 := Nat.eq_of_beq_eq_true h2
    have h3 := bx_all h3
    have g1 := Nat.eq_of_beq_eq_true g1
    have g2 := Nat.eq_of_beq_eq_true g2
    subst g1; subst g2
    have key : H[a]? = some (arrV (tc 1) vs.length (fun j => .long (bx_vj (vs.getD j .null)))) := hv
    show H[a]? = some (arrV (tc 1) n (fun j => .long (f j)))
    rw [key, h2]
    congr 1
    exact bx_arrV (fun j hj => by rw [of_decide_eq_true (h3 j hj)])
  | .inl (t0, n, .inr (.inr (.inr (.inr f)))), h =>
    simp only [bx_eqv, Bool.and_eq_true, Bool.or_eq_true] at h
    obtain ⟨h1, h2, h3⟩ := h
    have h2 := Nat.eq_of_beq_eq_true h2
    have h3 := bx_all h3
    have key : H[a]? = some (arrV (tc t0) vs.length (fun j => va_rf ((bx_vr (vs.getD j .null)).map (bx_g z)))) := by
      rcases h1 with ⟨g1, g2⟩ | ⟨g1, g2⟩
      · have g1 := Nat.eq_of_beq_eq_true g1
        have g2 := Nat.eq_of_beq_eq_true g2
        subst g1; subst g2; exact hv
      · have g1 := Nat.eq_of_beq_eq_true g1
        have g2 := Nat.eq_of_beq_eq_true g2
        subst g1; subst g2; exact hv
    show H[a]? = some (arrV (tc t0) n (fun j => va_rf ((f j).map γ)))
    rw [key, h2]
    congr 1
    exact bx_arrV (fun j hj => by rw [bx_rf_i hγ (h3 j hj)])
  | .inl (_, _, .inr (.inr (.inl _))), h => cases h
  | .inl (_, _, .inr (.inr (.inr (.inl _)))), h => cases h
end BXV
