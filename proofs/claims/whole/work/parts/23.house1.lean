/-! ===== the class's House: small methods ===== -/
section H1
variable {X Y : Nat → Nat → Nat} {sc : Nat → Nat → Int32} {ai : Nat → Nat → Int32} {aj : Nat → Nat → Int64} {j : Nat}
/-- isHere -/
theorem r13 {b : Nat} (hj : j < 19) (hb : b < 6) (h4 : X j 4 < 64) : ax_res 13 0 [some (.ref (ha j 0)), some (.int (nI b))] [] (hp X Y sc ai aj) = some (some (.int (nI (bt (X j 4) b))), hp X Y sc ai aj) := by
  have h4' : X j 4 < 2 ^ 31 := by omega
  have hb' : b < 32 := by omega
  simp only [q13_0, q13_1, q13_4, q13_5, q13_6, q13_7, q13_8, q13_9, q13_12, q13_13, q13_16, q13_17, ↓reduceIte, ax_bV_s, ax_bI_s, ax_bJ_s, ax_bA_s, ax_bH_s, ax_bR_s, ax_bR_n, gh_people, gh_here, gh_sat, gh_minute, gh_draw, gh_sitter, gh_kinds, gh_prices, gh_known, gh_sights, gh_places, ga_kinds, ga_prices, ga_known, ga_sights, ga_places, oh, ax_fit1_0, ax_fit1_1, ax_fitb, hj, n_bit h4' hb', n_bt1]
  unfold bt
  split <;> simp [*]
/-- knows -/
theorem r14 {b k : Nat} (hj : j < 19) (hb : b < 6) (hk : k < 32) (h6 : X j (6 + b) < 32) : ax_res 14 0 [some (.ref (ha j 0)), some (.int (nI b)), some (.int (nI k))] [] (hp X Y sc ai aj) = some (some (.int (nI (bt (X j (6 + b)) k))), hp X Y sc ai aj) := by
  have h6' : X j (6 + b) < 2 ^ 31 := by omega
  simp only [q14_0, q14_1, q14_4, q14_5, q14_6, q14_7, q14_8, q14_9, q14_10, q14_11, q14_14, q14_15, q14_18, q14_19, ↓reduceIte, ax_bV_s, ax_bI_s, ax_bJ_s, ax_bA_s, ax_bH_s, ax_bR_s, ax_bR_n, gh_people, gh_here, gh_sat, gh_minute, gh_draw, gh_sitter, gh_kinds, gh_prices, gh_known, gh_sights, gh_places, ga_kinds, ga_prices, ga_known, ga_sights, ga_places, oh, ax_fit1_0, ax_fit1_1, ax_fitb, hj, hb, n_bit h6' hk, n_bt1]
  unfold bt
  split <;> simp [*]
/-- standUp -/
theorem r24 (hj : j < 19) : ax_res 24 0 [some (.ref (ha j 0))] [] (hp X Y sc ai aj) = some (none, hp (upX X j (up1 (up1 (X j) 2 6) 3 0)) Y sc ai aj) := by
  simp only [q24_0, q24_1, q24_3, q24_6, q24_7, q24_8, q24_11, ↓reduceIte, ax_bV_s, ax_bI_s, ax_bJ_s, ax_bA_s, ax_bH_s, ax_bR_s, ax_bR_n, gh_people, gh_here, gh_sat, gh_minute, gh_draw, gh_sitter, gh_kinds, gh_prices, gh_known, gh_sights, gh_places, ga_kinds, ga_prices, ga_known, ga_sights, ga_places, oh, ph_people, ph_here, ph_sat, ph_minute, ph_draw, ph_sitter, ph_nobody, pa_kinds, pa_prices, pa_known, pa_sights, pa_places, upX_s, upX_u, hj]
/-- whoseTurn -/
def trn (x : Nat → Nat) : Nat := if x 0 = 0 then 6 else x (18 + x 1 % x 0)
theorem r18 (hj : j < 19) (h0 : X j 0 ≤ 6) (h1 : X j 1 < 20000) (hp5 : ∀ b, b < X j 0 → X j (18 + b) < X j 0) : ax_res 18 0 [some (.ref (ha j 0))] [] (hp X Y sc ai aj) = some (some (.int (sv (trn (X j)))), hp X Y sc ai aj) := by
  unfold trn
  by_cases h : X j 0 = 0
  · have h0' : X j 0 < 2 ^ 31 := by omega
    simp only [q18_0, q18_1, q18_4, q18_7, q18_8, q18_11, q18_12, q18_15, q18_16, q18_19, q18_20, q18_24, q18_26, ↓reduceIte, ax_bV_s, ax_bI_s, ax_bJ_s, ax_bA_s, ax_bH_s, ax_bR_s, ax_bR_n, gh_people, gh_here, gh_sat, gh_minute, gh_draw, gh_sitter, gh_kinds, gh_prices, gh_known, gh_sights, gh_places, ga_kinds, ga_prices, ga_known, ga_sights, ga_places, oh, hj, n_le0 h0', if_pos h]
    rfl
  · have h0' : X j 0 < 2 ^ 31 := by omega
    have h1' : X j 1 < 2 ^ 31 := by omega
    have hpos : 0 < X j 0 := by omega
    have hm : X j 1 % X j 0 < X j 0 := Nat.mod_lt _ hpos
    have hm6 : X j 1 % X j 0 < 6 := by omega
    have hq := hp5 _ hm
    simp only [q18_0, q18_1, q18_4, q18_7, q18_8, q18_11, q18_12, q18_15, q18_16, q18_19, q18_20, q18_21, q18_24, q18_26, ↓reduceIte, ax_bV_s, ax_bI_s, ax_bJ_s, ax_bA_s, ax_bH_s, ax_bR_s, ax_bR_n, gh_people, gh_here, gh_sat, gh_minute, gh_draw, gh_sitter, gh_kinds, gh_prices, gh_known, gh_sights, gh_places, ga_kinds, ga_prices, ga_known, ga_sights, ga_places, oh, hj, n_le0 h0', n_ne0 hpos h0', n_rem h1' hpos h0', hm6, if_neg h, sv_of (show X j (18 + X j 1 % X j 0) < 6 by omega), not_false_eq_true]
end H1
