/-! ===== the start, and the relation at the start ===== -/
section BXV
variable {D : va_G} {tc : Nat → ClassId} {z : Nat} {γ : Nat → Nat}
theorem bx_getD {h : bx_H} {i : Nat} (hl : i < h.length) : h[i]? = some (h.getD i (0, [])) := by
  rw [List.getD_eq_getElem?_getD, List.getElem?_eq_getElem hl]; rfl
theorem start_P (hγ : ∀ k, k < 147 → γ k = z + plN k) {H : Heap} (hP : va_P D ax_cl (bx_w tc z bx_h2) H) : va_P D ax_cl (ax_w tc γ h0) H := by
  intro k q hq
  obtain ⟨hk, rfl⟩ := ax_w_of hq
  have hk : k < 147 := hk
  have hl : plN k < bx_h2.length := by rw [bx_h2_n]; exact plN_lt k hk
  have he := bx_getD hl
  have h1 := hP _ _ (bx_w_at he)
  have h2 := bx_all bx_eqv_all k hk
  rw [hγ k hk]
  exact bx_eqv_i hγ h2 h1
end BXV
theorem start_Hs : Hs x0 x0 := by
  refine ⟨⟨by decide, Or.inr rfl, by decide, by decide, by decide, fun b hb => absurd hb (show ¬ b < 0 from Nat.not_lt_zero b)⟩, by decide, Ag.rfl' _⟩
theorem start_R : R X0 Y0 sc0 ai0 aj0 := by
  refine ⟨start_Hs, ⟨0, 0, ⟨by decide, by decide, fun i hi => absurd hi (by omega)⟩, rfl, rfl, rfl⟩, Or.inl ⟨rfl, rfl⟩, ⟨0, fun _ => 0, by decide, rfl, rfl, fun k hk => absurd hk (by omega), fun k hk => absurd hk (by omega)⟩, ?_⟩
  intro s hs
  refine ⟨Or.inl ?_, fun k hk => rfl⟩
  rcases (show s = 0 ∨ s = 1 ∨ s = 2 ∨ s = 3 by omega) with rfl | rfl | rfl | rfl <;> exact ⟨rfl, rfl, rfl⟩
theorem start_RR : RR h0 := ⟨X0, Y0, sc0, ai0, aj0, rfl, start_R⟩
