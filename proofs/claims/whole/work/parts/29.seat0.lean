/-! ===== the class: history, and what the calls share ===== -/
/-- a number of a buyer (or place) among N -/
def isB (b : Int32) (N : Nat) : Bool := decide (0 ≤ b.toInt ∧ b.toInt < N)
theorem isB_of {b : Int32} {N : Nat} (hN : N < 2 ^ 31) (h : isB b N = true) : ∃ k, k < N ∧ b = nI k := by
  unfold isB at h
  have h := of_decide_eq_true h
  obtain ⟨k, hk, e⟩ := nI_of (x := b) (fun h1 => by have := Int32.lt_iff_toInt_lt.mp h1; simp at this; omega)
  refine ⟨k, ?_, e⟩
  rw [e, nI_toInt hk] at h
  omega
theorem isB_nI {k N : Nat} (hk : k < 2 ^ 31) : isB (nI k) N = decide (k < N) := by
  unfold isB
  rw [nI_toInt hk]
  congr 1
  simp
theorem out_isB {b : Int32} {N : Nat} (hN : N ≤ 1000) : decide (b < nI 0 ∨ nI N - nI 1 < b) = !isB b N := by
  have e1 : (nI N - nI 1).toInt = (N : Int) - 1 := pk_sub_toInt (by omega) (by omega)
  unfold isB
  have g1 : (b < nI 0) ↔ b.toInt < 0 := by rw [Int32.lt_iff_toInt_lt, nI_toInt (by decide)]; rfl
  have g2 : (nI N - nI 1 < b) ↔ (N : Int) - 1 < b.toInt := by rw [Int32.lt_iff_toInt_lt, e1]
  by_cases h : 0 ≤ b.toInt ∧ b.toInt < N
  · rw [decide_eq_false (by rw [g1, g2]; omega), decide_eq_true h]; rfl
  · rw [decide_eq_true (by rw [g1, g2]; omega), decide_eq_false h]; rfl
/-- a number from lo to hi -/
def isI (v : Int32) (lo hi : Nat) : Bool := decide ((lo : Int) ≤ v.toInt ∧ v.toInt ≤ hi)
theorem isI_of {v : Int32} {lo hi : Nat} (hN : hi < 2 ^ 31) (h : isI v lo hi = true) : ∃ k, lo ≤ k ∧ k ≤ hi ∧ v = nI k := by
  unfold isI at h
  have h := of_decide_eq_true h
  obtain ⟨k, hk, e⟩ := nI_of (x := v) (fun h1 => by have := Int32.lt_iff_toInt_lt.mp h1; simp at this; omega)
  refine ⟨k, ?_, ?_, e⟩ <;> (rw [e, nI_toInt hk] at h; omega)
theorem out_isI {v : Int32} {lo hi : Nat} (h1 : lo < 2 ^ 31) (h2 : hi < 2 ^ 31) : decide (v < nI lo ∨ nI hi < v) = !isI v lo hi := by
  unfold isI
  have g1 : (v < nI lo) ↔ v.toInt < lo := by rw [Int32.lt_iff_toInt_lt, nI_toInt h1]
  have g2 : (nI hi < v) ↔ (hi : Int) < v.toInt := by rw [Int32.lt_iff_toInt_lt, nI_toInt h2]
  by_cases h : (lo : Int) ≤ v.toInt ∧ v.toInt ≤ hi
  · rw [decide_eq_false (by rw [g1, g2]; omega), decide_eq_true h]; rfl
  · rw [decide_eq_true (by rw [g1, g2]; omega), decide_eq_false h]; rfl
section S0
variable {X Y : Nat → Nat → Nat} {sc : Nat → Nat → Int32} {ai : Nat → Nat → Int32} {aj : Nat → Nat → Int64}
/-- outside -/
theorem r84 (v lo hi : Int32) (h : ax_H) : ax_res 84 0 [some (.int v), some (.int lo), some (.int hi)] [] h = some (some (.int (nI (bn (decide (v < lo ∨ hi < v))))), h) := by
  by_cases h1 : v < lo
  · simp only [q84_0, q84_1, q84_2, q84_10, q84_11, q84_15, ↓reduceIte, ax_bV_s, ax_bI_s, ax_bJ_s, ax_bA_s, ax_bH_s, ax_bR_s, ax_bR_n, ax_fit1_0, ax_fit1_1, ax_fitb, h1]
    simp [bn]
  · by_cases h2 : v ≤ hi
    · simp only [q84_0, q84_1, q84_2, q84_5, q84_6, q84_7, q84_10, q84_11, q84_14, q84_15, ↓reduceIte, ax_bV_s, ax_bI_s, ax_bJ_s, ax_bA_s, ax_bH_s, ax_bR_s, ax_bR_n, ax_fit1_0, ax_fit1_1, ax_fitb, h1, h2]
      simp [bn, Int32.not_lt.mpr h2]
    · simp only [q84_0, q84_1, q84_2, q84_5, q84_6, q84_7, q84_10, q84_11, q84_14, q84_15, ↓reduceIte, ax_bV_s, ax_bI_s, ax_bJ_s, ax_bA_s, ax_bH_s, ax_bR_s, ax_bR_n, ax_fit1_0, ax_fit1_1, ax_fitb, h1, h2]
      simp [bn, Int32.not_le.mp h2]
theorem r84I {v : Int32} {lo hi : Nat} (h1 : lo < 2 ^ 31) (h2 : hi < 2 ^ 31) (h : ax_H) : ax_res 84 0 [some (.int v), some (.int (nI lo)), some (.int (nI hi))] [] h = some (some (.int (nI (bn (!isI v lo hi)))), h) := by
  rw [r84, out_isI h1 h2]
/-- noBuyer -/
theorem r85 {b : Int32} (h0 : X 0 0 ≤ 6) : ax_res 85 0 [some (.ref 114), some (.int b)] [] (hp X Y sc ai aj) = some (some (.int (nI (bn (!isB b (X 0 0))))), hp X Y sc ai aj) := by
  simp only [q85_0, q85_1, q85_2, q85_3, q85_6, q85_9, q85_10, q85_11, q85_14, ↓reduceIte, ax_bV_s, ax_bI_s, ax_bJ_s, ax_bA_s, ax_bH_s, ax_bR_s, ax_bR_n, gh_people, gh_here, gh_sat, gh_minute, gh_draw, gh_sitter, gh_kinds, gh_prices, gh_known, gh_sights, gh_places, ga_kinds, ga_prices, ga_known, ga_sights, ga_places, oh, oo_114, gf114_0, gf114_1, gf114_2, gf114_3, gf114_4, gf114_5, pf114_5, gf114_6, gf114_7, gf114_8, gf114_9, oo_119, gf119_0, gf119_1, pf119_1, gf119_2, pf119_2, oo_130, gf130_0, gf130_1, gf130_2, pf130_2, oo_134, gf134_0, gf134_1, pf134_1, gf134_2, pf134_2, gf134_3, pf134_3, gf134_4, gf134_5, pf134_5, gf134_6, gf134_7, gf134_8, gf134_9, pf134_9, gf134_10, gf134_11, gf134_12, gf134_13, gf134_14, gf134_15, gf134_16, gi120, pi120, li120, gi131, pi131, li131, gi132, pi132, li132, gi136, pi136, li136, gi138, pi138, li138, gi139, pi139, li139, gi140, pi140, li140, gi141, pi141, li141, gi142, pi142, li142, gi144, pi144, li144, gi145, pi145, li145, gj133, pj133, lj133, gj137, pj137, lj137, gj143, pj143, lj143, gj146, pj146, lj146, gA121, gAq, oo_s, gfs_0, gfs_1, gfs_2, pfs_0, pfs_1, gjs, ljs, pjs, oo_h, gfh_0, gfh_1, gfh_2, pfh_1, pfh_2, ax_fit1_0, ax_fit1_1, ax_fitb, show (0 : Nat) < 19 by decide, r84, out_isB (show X 0 0 ≤ 1000 by omega), bn_fit]
/-- noSheet -/
theorem r86 {s : Int32} (h : ax_H) : ax_res 86 0 [some (.int s)] [] h = some (some (.int (nI (bn (!isI s 0 3)))), h) := by
  simp only [q86_0, q86_1, q86_2, q86_3, q86_6, ↓reduceIte, ax_bV_s, ax_bI_s, ax_bJ_s, ax_bA_s, ax_bH_s, ax_bR_s, ax_bR_n, ax_fit1_0, ax_fit1_1, ax_fitb, r84I (show 0 < 2 ^ 31 by decide) (show 3 < 2 ^ 31 by decide), bn_fit]
/-- noRow -/
theorem r87 {s l : Int32} (h : ax_H) : ax_res 87 0 [some (.int s), some (.int l)] [] h = some (some (.int (nI (bn (!(isI s 0 3 && isI l 0 3))))), h) := by
  simp only [q87_0, q87_1, q87_4, q87_7, q87_8, q87_9, q87_10, q87_13, q87_16, q87_17, q87_20, q87_21, ↓reduceIte, ax_bV_s, ax_bI_s, ax_bJ_s, ax_bA_s, ax_bH_s, ax_bR_s, ax_bR_n, ax_fit1_0, ax_fit1_1, ax_fitb, r86, r84I (show 0 < 2 ^ 31 by decide) (show 3 < 2 ^ 31 by decide), n_bn0]
  cases isI s 0 3 <;> cases isI l 0 3 <;> simp [bn]
/-- startTrial -/
theorem r89 : ax_res 89 0 [some (.ref 114)] [] (hp X Y sc ai aj) = some (none, hp (upX X 1 (X 0)) Y sc ai aj) := by
  simp only [q89_0, q89_1, q89_4, q89_5, q89_8, q89_11, ↓reduceIte, ax_bV_s, ax_bI_s, ax_bJ_s, ax_bA_s, ax_bH_s, ax_bR_s, ax_bR_n, gh_people, gh_here, gh_sat, gh_minute, gh_draw, gh_sitter, gh_kinds, gh_prices, gh_known, gh_sights, gh_places, ga_kinds, ga_prices, ga_known, ga_sights, ga_places, oh, oo_114, gf114_0, gf114_1, gf114_2, gf114_3, gf114_4, gf114_5, pf114_5, gf114_6, gf114_7, gf114_8, gf114_9, oo_119, gf119_0, gf119_1, pf119_1, gf119_2, pf119_2, oo_130, gf130_0, gf130_1, gf130_2, pf130_2, oo_134, gf134_0, gf134_1, pf134_1, gf134_2, pf134_2, gf134_3, pf134_3, gf134_4, gf134_5, pf134_5, gf134_6, gf134_7, gf134_8, gf134_9, pf134_9, gf134_10, gf134_11, gf134_12, gf134_13, gf134_14, gf134_15, gf134_16, gi120, pi120, li120, gi131, pi131, li131, gi132, pi132, li132, gi136, pi136, li136, gi138, pi138, li138, gi139, pi139, li139, gi140, pi140, li140, gi141, pi141, li141, gi142, pi142, li142, gi144, pi144, li144, gi145, pi145, li145, gj133, pj133, lj133, gj137, pj137, lj137, gj143, pj143, lj143, gj146, pj146, lj146, gA121, gAq, oo_s, gfs_0, gfs_1, gfs_2, pfs_0, pfs_1, gjs, ljs, pjs, oo_h, gfh_0, gfh_1, gfh_2, pfh_1, pfh_2, show (0 : Nat) < 19 by decide, show (1 : Nat) < 19 by decide, r9 (show 1 < 19 by decide) (show 0 < 19 by decide) (show ¬ 0 = 1 by decide)]
/-- History.remember -/
theorem r5 {t o nx sz : Nat} (ht : t < 2) (ho : o < 3) (h1 : sc (hi_ t) 1 = nI nx) (h2 : sc (hi_ t) 2 = nI sz) (hnx : nx < 8) (hsz : sz ≤ 8) : ax_res 5 0 [some (.ref (hi_ t)), some (.ref (ha o 0))] [] (hp X Y sc ai aj) = some (none, hp (upX X (3 + 8 * t + nx) (X o)) Y (upS (upS sc (hi_ t) 1 (nI ((nx + 1) % 8))) (hi_ t) 2 (nI (min (sz + 1) 8))) ai aj) := by
  have z8 : ¬ nI 8 = 0 := by decide
  simp only [q5_0, q5_1, q5_4, q5_5, q5_8, q5_9, q5_10, q5_13, q5_14, q5_15, q5_18, q5_19, q5_20, q5_22, q5_23, q5_26, q5_27, q5_28, q5_31, q5_32, q5_33, q5_35, q5_38, q5_41, ↓reduceIte, ax_bV_s, ax_bI_s, ax_bJ_s, ax_bA_s, ax_bH_s, ax_bR_s, ax_bR_n, gh_people, gh_here, gh_sat, gh_minute, gh_draw, gh_sitter, gh_kinds, gh_prices, gh_known, gh_sights, gh_places, ga_kinds, ga_prices, ga_known, ga_sights, ga_places, oh, oo_114, gf114_0, gf114_1, gf114_2, gf114_3, gf114_4, gf114_5, pf114_5, gf114_6, gf114_7, gf114_8, gf114_9, oo_119, gf119_0, gf119_1, pf119_1, gf119_2, pf119_2, oo_130, gf130_0, gf130_1, gf130_2, pf130_2, oo_134, gf134_0, gf134_1, pf134_1, gf134_2, pf134_2, gf134_3, pf134_3, gf134_4, gf134_5, pf134_5, gf134_6, gf134_7, gf134_8, gf134_9, pf134_9, gf134_10, gf134_11, gf134_12, gf134_13, gf134_14, gf134_15, gf134_16, gi120, pi120, li120, gi131, pi131, li131, gi132, pi132, li132, gi136, pi136, li136, gi138, pi138, li138, gi139, pi139, li139, gi140, pi140, li140, gi141, pi141, li141, gi142, pi142, li142, gi144, pi144, li144, gi145, pi145, li145, gj133, pj133, lj133, gj137, pj137, lj137, gj143, pj143, lj143, gj146, pj146, lj146, gA121, gAq, oo_s, gfs_0, gfs_1, gfs_2, pfs_0, pfs_1, gjs, ljs, pjs, oo_h, gfh_0, gfh_1, gfh_2, pfh_1, pfh_2, ht, h1, h2, hnx, oh (show 3 + 8 * t + nx < 19 by omega), r9 (show 3 + 8 * t + nx < 19 by omega) (show o < 19 by omega) (show ¬ o = 3 + 8 * t + nx by omega), nI_add, z8, not_false_eq_true, n_rem (show nx + 1 < 2 ^ 31 by omega) (show 0 < 8 by decide) (by decide), upS_k (show ¬ 2 = 1 by decide), n_min (show sz + 1 < 2 ^ 31 by omega) (show 8 < 2 ^ 31 by decide)]
/-- History.takeBack -/
theorem r6 {t o nx sz : Nat} (ht : t < 2) (ho : o < 3) (h1 : sc (hi_ t) 1 = nI nx) (h2 : sc (hi_ t) 2 = nI sz) (hnx : nx < 8) (hsz : sz ≤ 8) (hpos : 0 < sz) : ax_res 6 0 [some (.ref (hi_ t)), some (.ref (ha o 0))] [] (hp X Y sc ai aj) = some (none, hp (upX X o (X (3 + 8 * t + (nx + 7) % 8))) Y (upS (upS sc (hi_ t) 1 (nI ((nx + 7) % 8))) (hi_ t) 2 (nI (sz - 1))) ai aj) := by
  have z8 : ¬ nI 8 = 0 := by decide
  have e1 : (nx + 8 - 1) % 8 = (nx + 7) % 8 := by omega
  simp only [q6_0, q6_1, q6_4, q6_7, q6_8, q6_9, q6_10, q6_13, q6_15, q6_16, q6_17, q6_18, q6_20, q6_21, q6_24, q6_25, q6_26, q6_29, q6_30, q6_31, q6_34, q6_35, q6_36, q6_39, q6_40, q6_43, q6_44, q6_47, ↓reduceIte, ax_bV_s, ax_bI_s, ax_bJ_s, ax_bA_s, ax_bH_s, ax_bR_s, ax_bR_n, gh_people, gh_here, gh_sat, gh_minute, gh_draw, gh_sitter, gh_kinds, gh_prices, gh_known, gh_sights, gh_places, ga_kinds, ga_prices, ga_known, ga_sights, ga_places, oh, oo_114, gf114_0, gf114_1, gf114_2, gf114_3, gf114_4, gf114_5, pf114_5, gf114_6, gf114_7, gf114_8, gf114_9, oo_119, gf119_0, gf119_1, pf119_1, gf119_2, pf119_2, oo_130, gf130_0, gf130_1, gf130_2, pf130_2, oo_134, gf134_0, gf134_1, pf134_1, gf134_2, pf134_2, gf134_3, pf134_3, gf134_4, gf134_5, pf134_5, gf134_6, gf134_7, gf134_8, gf134_9, pf134_9, gf134_10, gf134_11, gf134_12, gf134_13, gf134_14, gf134_15, gf134_16, gi120, pi120, li120, gi131, pi131, li131, gi132, pi132, li132, gi136, pi136, li136, gi138, pi138, li138, gi139, pi139, li139, gi140, pi140, li140, gi141, pi141, li141, gi142, pi142, li142, gi144, pi144, li144, gi145, pi145, li145, gj133, pj133, lj133, gj137, pj137, lj137, gj143, pj143, lj143, gj146, pj146, lj146, gA121, gAq, oo_s, gfs_0, gfs_1, gfs_2, pfs_0, pfs_1, gjs, ljs, pjs, oo_h, gfh_0, gfh_1, gfh_2, pfh_1, pfh_2, ht, h1, h2, n_eq0 (show sz < 2 ^ 31 by omega), show ¬ sz = 0 by omega, nI_add, n_sub (show 1 ≤ nx + 8 by omega), n_sub (show 1 ≤ sz by omega), z8, not_false_eq_true, n_rem (show nx + 8 - 1 < 2 ^ 31 by omega) (show 0 < 8 by decide) (by decide), e1, upS_s, upS_k (show ¬ 2 = 1 by decide), upS_k (show ¬ 1 = 2 by decide), show (nx + 7) % 8 < 8 by omega, oh (show o < 19 by omega), r9 (show o < 19 by omega) (show 3 + 8 * t + (nx + 7) % 8 < 19 by omega) (show ¬ 3 + 8 * t + (nx + 7) % 8 = o by omega)]
/-- History.forget -/
theorem r7 {t : Nat} (ht : t < 2) : ax_res 7 0 [some (.ref (hi_ t))] [] (hp X Y sc ai aj) = some (none, hp X Y (upS sc (hi_ t) 2 (nI 0)) ai aj) := by
  simp only [q7_0, q7_1, q7_2, q7_5, ↓reduceIte, ax_bV_s, ax_bI_s, ax_bJ_s, ax_bA_s, ax_bH_s, ax_bR_s, ax_bR_n, oo_114, gf114_0, gf114_1, gf114_2, gf114_3, gf114_4, gf114_5, pf114_5, gf114_6, gf114_7, gf114_8, gf114_9, oo_119, gf119_0, gf119_1, pf119_1, gf119_2, pf119_2, oo_130, gf130_0, gf130_1, gf130_2, pf130_2, oo_134, gf134_0, gf134_1, pf134_1, gf134_2, pf134_2, gf134_3, pf134_3, gf134_4, gf134_5, pf134_5, gf134_6, gf134_7, gf134_8, gf134_9, pf134_9, gf134_10, gf134_11, gf134_12, gf134_13, gf134_14, gf134_15, gf134_16, gi120, pi120, li120, gi131, pi131, li131, gi132, pi132, li132, gi136, pi136, li136, gi138, pi138, li138, gi139, pi139, li139, gi140, pi140, li140, gi141, pi141, li141, gi142, pi142, li142, gi144, pi144, li144, gi145, pi145, li145, gj133, pj133, lj133, gj137, pj137, lj137, gj143, pj143, lj143, gj146, pj146, lj146, gA121, gAq, oo_s, gfs_0, gfs_1, gfs_2, pfs_0, pfs_1, gjs, ljs, pjs, oo_h, gfh_0, gfh_1, gfh_2, pfh_1, pfh_2, ht]
/-- History.takeFrom -/
def cpH (X : Nat → Nat → Nat) (t o : Nat) : Nat → Nat → Nat := fun k => if 3 + 8 * t ≤ k ∧ k < 3 + 8 * t + 8 then X (k + 8 * o - 8 * t) else X k
theorem r8_l (n : Nat) : ∀ (X : Nat → Nat → Nat) (i t o : Nat), i + n = 8 → t < 2 → o < 2 → ¬ t = o → ax_res 8 2 [some (.ref (hi_ t)), some (.ref (hi_ o)), some (.int (nI i))] [] (hp X Y sc ai aj) = some (none, hp (fun k => if 3 + 8 * t + i ≤ k ∧ k < 3 + 8 * t + 8 then X (k + 8 * o - 8 * t) else X k) Y (upS (upS sc (hi_ t) 1 (sc (hi_ o) 1)) (hi_ t) 2 (sc (hi_ o) 2)) ai aj) := by
  induction n with
  | zero =>
    intro X i t o hi ht ho hne
    have e : hi_ o ≠ hi_ t := by unfold hi_; omega
    simp only [q8_0, q8_1, q8_2, q8_3, q8_5, q8_8, q8_9, q8_12, q8_13, q8_14, q8_15, q8_18, q8_19, q8_20, q8_23, q8_26, q8_29, q8_30, q8_31, q8_34, q8_37, q8_38, q8_39, q8_42, q8_45, ↓reduceIte, ax_bV_s, ax_bI_s, ax_bJ_s, ax_bA_s, ax_bH_s, ax_bR_s, ax_bR_n, oo_114, gf114_0, gf114_1, gf114_2, gf114_3, gf114_4, gf114_5, pf114_5, gf114_6, gf114_7, gf114_8, gf114_9, oo_119, gf119_0, gf119_1, pf119_1, gf119_2, pf119_2, oo_130, gf130_0, gf130_1, gf130_2, pf130_2, oo_134, gf134_0, gf134_1, pf134_1, gf134_2, pf134_2, gf134_3, pf134_3, gf134_4, gf134_5, pf134_5, gf134_6, gf134_7, gf134_8, gf134_9, pf134_9, gf134_10, gf134_11, gf134_12, gf134_13, gf134_14, gf134_15, gf134_16, gi120, pi120, li120, gi131, pi131, li131, gi132, pi132, li132, gi136, pi136, li136, gi138, pi138, li138, gi139, pi139, li139, gi140, pi140, li140, gi141, pi141, li141, gi142, pi142, li142, gi144, pi144, li144, gi145, pi145, li145, gj133, pj133, lj133, gj137, pj137, lj137, gj143, pj143, lj143, gj146, pj146, lj146, gA121, gAq, oo_s, gfs_0, gfs_1, gfs_2, pfs_0, pfs_1, gjs, ljs, pjs, oo_h, gfh_0, gfh_1, gfh_2, pfh_1, pfh_2, ht, ho, n_le (show 8 < 2 ^ 31 by decide) (show i < 2 ^ 31 by omega), show 8 ≤ i by omega, upS_n e]
    congr 3
    funext k
    rw [if_neg (by omega)]
  | succ n ih =>
    intro X i t o hi ht ho hne
    have e := ih (upX X (3 + 8 * t + i) (X (3 + 8 * o + i))) (i + 1) t o (by omega) ht ho hne
    rw [q8_2]
    simp only [q8_0, q8_1, q8_3, q8_5, q8_8, q8_9, q8_12, q8_13, q8_14, q8_15, q8_18, q8_19, q8_20, q8_23, q8_26, q8_29, q8_30, q8_31, q8_34, q8_37, q8_38, q8_39, q8_42, q8_45, ↓reduceIte, ax_bV_s, ax_bI_s, ax_bJ_s, ax_bA_s, ax_bH_s, ax_bR_s, ax_bR_n, gh_people, gh_here, gh_sat, gh_minute, gh_draw, gh_sitter, gh_kinds, gh_prices, gh_known, gh_sights, gh_places, ga_kinds, ga_prices, ga_known, ga_sights, ga_places, oh, oo_114, gf114_0, gf114_1, gf114_2, gf114_3, gf114_4, gf114_5, pf114_5, gf114_6, gf114_7, gf114_8, gf114_9, oo_119, gf119_0, gf119_1, pf119_1, gf119_2, pf119_2, oo_130, gf130_0, gf130_1, gf130_2, pf130_2, oo_134, gf134_0, gf134_1, pf134_1, gf134_2, pf134_2, gf134_3, pf134_3, gf134_4, gf134_5, pf134_5, gf134_6, gf134_7, gf134_8, gf134_9, pf134_9, gf134_10, gf134_11, gf134_12, gf134_13, gf134_14, gf134_15, gf134_16, gi120, pi120, li120, gi131, pi131, li131, gi132, pi132, li132, gi136, pi136, li136, gi138, pi138, li138, gi139, pi139, li139, gi140, pi140, li140, gi141, pi141, li141, gi142, pi142, li142, gi144, pi144, li144, gi145, pi145, li145, gj133, pj133, lj133, gj137, pj137, lj137, gj143, pj143, lj143, gj146, pj146, lj146, gA121, gAq, oo_s, gfs_0, gfs_1, gfs_2, pfs_0, pfs_1, gjs, ljs, pjs, oo_h, gfh_0, gfh_1, gfh_2, pfh_1, pfh_2, ht, ho, n_le (show 8 < 2 ^ 31 by decide) (show i < 2 ^ 31 by omega), show ¬ 8 ≤ i by omega, show i < 8 by omega, oh (show 3 + 8 * t + i < 19 by omega), r9 (show 3 + 8 * t + i < 19 by omega) (show 3 + 8 * o + i < 19 by omega) (show ¬ 3 + 8 * o + i = 3 + 8 * t + i by omega), nI_add, e]
    congr 3
    funext k
    by_cases h1 : k = 3 + 8 * t + i
    · subst h1
      rw [if_neg (by omega), if_pos (by omega), upX_s]
      congr 1; omega
    · by_cases h2 : 3 + 8 * t + i ≤ k ∧ k < 3 + 8 * t + 8
      · rw [if_pos (by omega), if_pos h2, upX_n (by omega)]
      · rw [if_neg (by omega), if_neg h2, upX_n h1]
theorem r8 {t o : Nat} (ht : t < 2) (ho : o < 2) (hne : ¬ t = o) : ax_res 8 0 [some (.ref (hi_ t)), some (.ref (hi_ o)), none] [] (hp X Y sc ai aj) = some (none, hp (cpH X t o) Y (upS (upS sc (hi_ t) 1 (sc (hi_ o) 1)) (hi_ t) 2 (sc (hi_ o) 2)) ai aj) := by
  have e := r8_l (Y := Y) (sc := sc) (ai := ai) (aj := aj) 8 X 0 t o (by omega) ht ho hne
  simp only [q8_0, q8_1, e]
  rfl
end S0
