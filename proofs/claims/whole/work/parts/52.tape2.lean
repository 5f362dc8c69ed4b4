/-! ===== theatres as texts: the model ===== -/
theorem isI_dec {c lo hi : Nat} (hc : c < 2 ^ 31) : isI (nI c) lo hi = decide (lo ≤ c ∧ c ≤ hi) := by
  unfold isI
  rw [nI_toInt hc]
  congr 1
  simp only [eq_iff_iff]
  omega
theorem isI_n4 {lo hi : Nat} : isI (-4) lo hi = false := by
  unfold isI
  have : (-4 : Int32).toInt = -4 := by decide
  rw [this]
  exact decide_eq_false (by omega)
def hR (l : Nat → Nat) (z q : Nat) : Int32 := if q < z then nI (l q) else -4
theorem hR_isI {l : Nat → Nat} {z q lo hi : Nat} (hl : q < z → l q < 127) : isI (hR l z q) lo hi = decide (q < z ∧ lo ≤ l q ∧ l q ≤ hi) := by
  unfold hR
  by_cases c : q < z
  · rw [if_pos c, isI_dec (by have := hl c; omega)]
    congr 1
    simp [c]
  · rw [if_neg c, isI_n4]
    exact (decide_eq_false (fun h => c h.1)).symm
def kdI (v : Int32) : Int32 := if v = nI 112 then nI 0 else if v = nI 102 then nI 1 else if v = nI 109 then nI 2 else if v = nI 100 then nI 3 else if v = nI 103 then nI 4 else -4
theorem kdI_k : ∀ c, c < 127 → kdI (nI c) = if kdN c < 5 then nI (kdN c) else -4 := by decide +kernel
theorem rtF_nz {l : Nat → Nat} {z : Nat} (m : Nat) : ∀ p la acc, ¬ acc = 0 → ¬ (rtF l z m p la acc).2 = 0 := by
  induction m with
  | zero => intro p la acc h; rw [rtF_0]; exact h
  | succ m ih =>
    intro p la acc h
    by_cases c : sk l z p < z ∧ 48 + la ≤ l (sk l z p) ∧ l (sk l z p) ≤ 52
    · rw [rtF_y c]
      exact ih _ _ _ (by have := Nat.left_le_or (n := acc) (m := 2 ^ (l (sk l z p) - 48)); omega)
    · rw [rtF_n c]; exact h
theorem rtF_fz {l : Nat → Nat} {z m p la : Nat} (h : (rtF l z (m + 1) p la 0).2 = 0) : sk l z (rtF l z (m + 1) p la 0).1 = (rtF l z (m + 1) p la 0).1 := by
  by_cases c : sk l z p < z ∧ 48 + la ≤ l (sk l z p) ∧ l (sk l z p) ≤ 52
  · rw [rtF_y c] at h
    exact absurd h (rtF_nz m _ _ _ (by rw [Nat.zero_or]; have := Nat.pow_pos (n := l (sk l z p) - 48) (show 0 < 2 by decide); omega))
  · rw [rtF_n c, sk_sk]
def clr0 (k : Nat) (y : Nat → Nat) : Nat → Nat := fun i => if i < k then 0 else y i
theorem clr0_s {k : Nat} {y : Nat → Nat} : up1 (clr0 k y) k 0 = clr0 (k + 1) y := by
  funext i
  unfold up1 clr0
  by_cases h : i = k
  · rw [if_pos h, if_pos (by omega)]
  · rw [if_neg h]
    by_cases h2 : i < k
    · rw [if_pos h2, if_pos (by omega)]
    · rw [if_neg h2, if_neg (by omega)]
/-- the buyers read, from b on, in three rows -/
def hol (f g h : Nat → Int32) : Nat → List (Nat × Nat × Nat) → Prop
  | _, [] => True
  | b, (k, p, t) :: bs => (f b = nI k ∧ g b = nI p ∧ h b = nI t) ∧ hol f g h (b + 1) bs
theorem hol_c {f g h : Nat → Int32} {b k p t : Nat} {bs : List (Nat × Nat × Nat)} : hol f g h b ((k, p, t) :: bs) ↔ (f b = nI k ∧ g b = nI p ∧ h b = nI t) ∧ hol f g h (b + 1) bs := by rw [hol]
theorem hol_n {f g h : Nat → Int32} {b : Nat} : hol f g h b [] := by rw [hol]; trivial
section TM
variable {X Y : Nat → Nat → Nat} {sc : Nat → Nat → Int32} {ai : Nat → Nat → Int32} {aj : Nat → Nat → Int64} {l : Nat → Nat} {z : Nat}
/-- the three rows of what is read -/
def a3 (ai : Nat → Nat → Int32) (f g h : Nat → Int32) : Nat → Nat → Int32 := upA (upA (upA ai 140 f) 141 g) 142 h
theorem a3_i : a3 ai (ai 140) (ai 141) (ai 142) = ai := by
  unfold a3; rw [upA_i, upA_i, upA_i]
theorem a3_0 {f g h : Nat → Int32} : a3 ai f g h 140 = f := by unfold a3; rw [upA_n (by decide), upA_n (by decide), upA_s]
theorem a3_1 {f g h : Nat → Int32} : a3 ai f g h 141 = g := by unfold a3; rw [upA_n (by decide), upA_s]
theorem a3_2 {f g h : Nat → Int32} : a3 ai f g h 142 = h := by unfold a3; rw [upA_s]
theorem a3_t {f g h : Nat → Int32} {k : Nat} (h0 : ¬ k = 140) (h1 : ¬ k = 141) (h2 : ¬ k = 142) : a3 ai f g h k = ai k := by unfold a3; rw [upA_n h2, upA_n h1, upA_n h0]
theorem a3_u0 {f g h f' : Nat → Int32} : upA (a3 ai f g h) 140 f' = a3 ai f' g h := by
  unfold a3; rw [upA_c (by decide), upA_c (a := 141) (by decide), upA_u]
theorem a3_u1 {f g h g' : Nat → Int32} : upA (a3 ai f g h) 141 g' = a3 ai f g' h := by
  unfold a3; rw [upA_c (by decide), upA_u]
theorem a3_u2 {f g h h' : Nat → Int32} : upA (a3 ai f g h) 142 h' = a3 ai f g h' := by
  unfold a3; rw [upA_u]
theorem a3_a {f g h f' g' h' : Nat → Int32} : a3 (a3 ai f g h) f' g' h' = a3 ai f' g' h' := by
  show upA (upA (upA (a3 ai f g h) 140 f') 141 g') 142 h' = _
  rw [a3_u0, a3_u1, a3_u2]
theorem r120_l (m : Nat) : ∀ (sc : Nat → Nat → Int32) (p : Nat), p + m = z → z ≤ 70 → (∀ k, k < z → ai 136 k = nI (l k) ∧ l k < 127) → sc 134 5 = nI z → sc 134 9 = nI p → ax_res 120 0 [some (.ref 134)] [] (hp X Y sc ai aj) = some (some (.int (hR l z (sk l z p))), hp X Y (upS sc 134 9 (nI (sk l z p))) ai aj) := by
  induction m with
  | zero =>
    intro sc p hm hz hl h1 h2
    unfold hR
    rw [sk_id (by omega), upS_i h2, if_neg (by omega)]
    simp only [q120_0, q120_1, q120_4, q120_5, q120_8, q120_38, q120_39, q120_42, q120_43, q120_46, q120_61, q120_63, ↓reduceIte, ax_bV_s, ax_bI_s, ax_bJ_s, ax_bA_s, ax_bH_s, ax_bR_s, ax_bR_n, oo_114, gf114_0, gf114_1, gf114_2, gf114_3, gf114_4, gf114_5, pf114_5, gf114_6, gf114_7, gf114_8, gf114_9, oo_119, gf119_0, gf119_1, pf119_1, gf119_2, pf119_2, oo_130, gf130_0, gf130_1, gf130_2, pf130_2, oo_134, gf134_0, gf134_1, pf134_1, gf134_2, pf134_2, gf134_3, pf134_3, gf134_4, gf134_5, pf134_5, gf134_6, gf134_7, gf134_8, gf134_9, pf134_9, gf134_10, gf134_11, gf134_12, gf134_13, gf134_14, gf134_15, gf134_16, gi120, pi120, li120, gi131, pi131, li131, gi132, pi132, li132, gi136, pi136, li136, gi138, pi138, li138, gi139, pi139, li139, gi140, pi140, li140, gi141, pi141, li141, gi142, pi142, li142, gi144, pi144, li144, gi145, pi145, li145, gj133, pj133, lj133, gj137, pj137, lj137, gj143, pj143, lj143, gj146, pj146, lj146, gA121, gAq, oo_s, gfs_0, gfs_1, gfs_2, pfs_0, pfs_1, gjs, ljs, pjs, oo_h, gfh_0, gfh_1, gfh_2, pfh_1, pfh_2, h1, h2, n_le (show z < 2 ^ 31 by omega) (show p < 2 ^ 31 by omega), show z ≤ p by omega]
  | succ m ih =>
    intro sc p hm hz hl h1 h2
    have hk := hl p (by omega)
    by_cases c : l p = 32
    · have e := ih (upS sc 134 9 (nI (p + 1))) (p + 1) (by omega) hz hl (by rw [upS_k (by decide)]; exact h1) (by rw [upS_s])
      rw [upS_u] at e
      rw [sk_st ⟨by omega, c⟩, ← e, q120_0]
      simp only [q120_1, q120_4, q120_5, q120_8, q120_11, q120_12, q120_15, q120_16, q120_19, q120_20, q120_22, q120_25, q120_26, q120_27, q120_30, q120_31, q120_32, q120_35, ↓reduceIte, ax_bV_s, ax_bI_s, ax_bJ_s, ax_bA_s, ax_bH_s, ax_bR_s, ax_bR_n, oo_114, gf114_0, gf114_1, gf114_2, gf114_3, gf114_4, gf114_5, pf114_5, gf114_6, gf114_7, gf114_8, gf114_9, oo_119, gf119_0, gf119_1, pf119_1, gf119_2, pf119_2, oo_130, gf130_0, gf130_1, gf130_2, pf130_2, oo_134, gf134_0, gf134_1, pf134_1, gf134_2, pf134_2, gf134_3, pf134_3, gf134_4, gf134_5, pf134_5, gf134_6, gf134_7, gf134_8, gf134_9, pf134_9, gf134_10, gf134_11, gf134_12, gf134_13, gf134_14, gf134_15, gf134_16, gi120, pi120, li120, gi131, pi131, li131, gi132, pi132, li132, gi136, pi136, li136, gi138, pi138, li138, gi139, pi139, li139, gi140, pi140, li140, gi141, pi141, li141, gi142, pi142, li142, gi144, pi144, li144, gi145, pi145, li145, gj133, pj133, lj133, gj137, pj137, lj137, gj143, pj143, lj143, gj146, pj146, lj146, gA121, gAq, oo_s, gfs_0, gfs_1, gfs_2, pfs_0, pfs_1, gjs, ljs, pjs, oo_h, gfh_0, gfh_1, gfh_2, pfh_1, pfh_2, h1, h2, n_le (show z < 2 ^ 31 by omega) (show p < 2 ^ 31 by omega), show ¬ z ≤ p by omega, show p < 70 by omega, hk.1, c, nI_add]
    · have c' : ¬ nI (l p) = nI 32 := by rw [n_eq (by omega) (by decide)]; exact c
      unfold hR
      rw [sk_id (fun h => c h.2), upS_i h2, if_pos (by omega)]
      simp only [q120_0, q120_1, q120_4, q120_5, q120_8, q120_11, q120_12, q120_15, q120_16, q120_19, q120_20, q120_22, q120_25, q120_26, q120_27, q120_30, q120_31, q120_32, q120_35, q120_38, q120_39, q120_42, q120_43, q120_46, q120_49, q120_50, q120_53, q120_54, q120_57, q120_58, q120_61, q120_63, ↓reduceIte, ax_bV_s, ax_bI_s, ax_bJ_s, ax_bA_s, ax_bH_s, ax_bR_s, ax_bR_n, oo_114, gf114_0, gf114_1, gf114_2, gf114_3, gf114_4, gf114_5, pf114_5, gf114_6, gf114_7, gf114_8, gf114_9, oo_119, gf119_0, gf119_1, pf119_1, gf119_2, pf119_2, oo_130, gf130_0, gf130_1, gf130_2, pf130_2, oo_134, gf134_0, gf134_1, pf134_1, gf134_2, pf134_2, gf134_3, pf134_3, gf134_4, gf134_5, pf134_5, gf134_6, gf134_7, gf134_8, gf134_9, pf134_9, gf134_10, gf134_11, gf134_12, gf134_13, gf134_14, gf134_15, gf134_16, gi120, pi120, li120, gi131, pi131, li131, gi132, pi132, li132, gi136, pi136, li136, gi138, pi138, li138, gi139, pi139, li139, gi140, pi140, li140, gi141, pi141, li141, gi142, pi142, li142, gi144, pi144, li144, gi145, pi145, li145, gj133, pj133, lj133, gj137, pj137, lj137, gj143, pj143, lj143, gj146, pj146, lj146, gA121, gAq, oo_s, gfs_0, gfs_1, gfs_2, pfs_0, pfs_1, gjs, ljs, pjs, oo_h, gfh_0, gfh_1, gfh_2, pfh_1, pfh_2, h1, h2, n_le (show z < 2 ^ 31 by omega) (show p < 2 ^ 31 by omega), show ¬ z ≤ p by omega, show p < 70 by omega, hk.1, c']
/-- here -/
theorem r120 {p : Nat} (hpz : p ≤ z) (hz : z ≤ 70) (hl : ∀ k, k < z → ai 136 k = nI (l k) ∧ l k < 127) (h1 : sc 134 5 = nI z) (h2 : sc 134 9 = nI p) : ax_res 120 0 [some (.ref 134)] [] (hp X Y sc ai aj) = some (some (.int (hR l z (sk l z p))), hp X Y (upS sc 134 9 (nI (sk l z p))) ai aj) := r120_l (z - p) sc p (by omega) hz hl h1 h2
/-- kindOf -/
theorem r121 {v : Int32} (h : ax_H) : ax_res 121 0 [some (.int v)] [] h = some (some (.int (kdI v)), h) := by
  simp only [q121_0, q121_1, q121_3, q121_6, q121_7, q121_10, q121_11, q121_13, q121_16, q121_17, q121_20, q121_21, q121_23, q121_26, q121_27, q121_30, q121_31, q121_33, q121_36, q121_37, q121_40, q121_41, q121_43, q121_46, q121_47, q121_50, q121_52, kdI]
  by_cases c1 : v = nI 112
  · rw [if_pos c1, if_pos c1]
  rw [if_neg c1, if_neg c1]
  by_cases c2 : v = nI 102
  · rw [if_pos c2, if_pos c2]
  rw [if_neg c2, if_neg c2]
  by_cases c3 : v = nI 109
  · rw [if_pos c3, if_pos c3]
  rw [if_neg c3, if_neg c3]
  by_cases c4 : v = nI 100
  · rw [if_pos c4, if_pos c4]
  rw [if_neg c4, if_neg c4]
  by_cases c5 : v = nI 103
  · rw [if_pos c5, if_pos c5]
  rw [if_neg c5, if_neg c5]
/-- readsPaid -/
theorem r122 {p b : Nat} (hb : b < 6) (hpz : p ≤ z) (hz : z ≤ 70) (hl : ∀ k, k < z → ai 136 k = nI (l k) ∧ l k < 127) (h1 : sc 134 5 = nI z) (h2 : sc 134 9 = nI p) : ∃ g, ax_res 122 0 [some (.ref 134), some (.int (nI b)), none] [] (hp X Y sc ai aj) = some (some (.int (nI (bn (rnF l z p).2.isSome))), hp X Y (upS sc 134 9 (nI (rnF l z p).1)) (upA ai 141 g) aj) ∧ (∀ j, ¬ j = b → g j = ai 141 j) ∧ ∀ v, (rnF l z p).2 = some v → g b = nI v := by
  have hbd := sk_bd (l := l) hpz
  have h20 := r120 (X := X) (Y := Y) (aj := aj) hpz hz hl h1 h2
  have hi := hR_isI (l := l) (z := z) (q := sk l z p) (lo := 48) (hi := 57) (fun h => (hl _ h).2)
  unfold rnF
  by_cases c1 : dgq l z (sk l z p) = true
  · have d1 := of_decide_eq_true c1
    have hk1 := hl _ d1.1
    rw [decide_eq_true d1] at hi
    rw [if_pos c1]
    have ehR : hR l z (sk l z p) = nI (l (sk l z p)) := if_pos d1.1
    rw [ehR] at h20 hi
    have hs1 : ∀ v, upS sc 134 9 v 134 5 = nI z := fun v => by rw [upS_k (by decide)]; exact h1
    by_cases c2 : dgq l z (sk l z p + 1) = true
    · have d2 := of_decide_eq_true c2
      have hk2 := hl _ d2.1
      rw [if_pos c2]
      refine ⟨upd (upd (ai 141) b (nI (l (sk l z p) - 48))) b (nI ((l (sk l z p) - 48) * 10 + (l (sk l z p + 1) - 48))), ?_, fun j hj => by unfold upd; rw [if_neg hj, if_neg hj], fun v hv => by cases hv; unfold upd; rw [if_pos rfl]⟩
      simp only [q122_0, q122_1, q122_4, q122_5, q122_6, q122_7, q122_10, q122_13, q122_16, q122_19, q122_20, q122_21, q122_22, q122_25, q122_26, q122_27, q122_29, q122_30, q122_31, q122_32, q122_33, q122_36, q122_37, q122_38, q122_41, q122_42, q122_45, q122_46, q122_49, q122_52, q122_53, q122_56, q122_57, q122_60, q122_61, q122_62, q122_65, q122_68, q122_71, q122_74, q122_75, q122_78, q122_79, q122_81, q122_82, q122_85, q122_86, q122_87, q122_88, q122_89, q122_92, q122_93, q122_96, q122_97, q122_98, q122_100, q122_101, q122_102, q122_103, q122_104, q122_107, q122_108, q122_109, q122_112, q122_113, ↓reduceIte, ax_bV_s, ax_bI_s, ax_bJ_s, ax_bA_s, ax_bH_s, ax_bR_s, ax_bR_n, oo_114, gf114_0, gf114_1, gf114_2, gf114_3, gf114_4, gf114_5, pf114_5, gf114_6, gf114_7, gf114_8, gf114_9, oo_119, gf119_0, gf119_1, pf119_1, gf119_2, pf119_2, oo_130, gf130_0, gf130_1, gf130_2, pf130_2, oo_134, gf134_0, gf134_1, pf134_1, gf134_2, pf134_2, gf134_3, pf134_3, gf134_4, gf134_5, pf134_5, gf134_6, gf134_7, gf134_8, gf134_9, pf134_9, gf134_10, gf134_11, gf134_12, gf134_13, gf134_14, gf134_15, gf134_16, gi120, pi120, li120, gi131, pi131, li131, gi132, pi132, li132, gi136, pi136, li136, gi138, pi138, li138, gi139, pi139, li139, gi140, pi140, li140, gi141, pi141, li141, gi142, pi142, li142, gi144, pi144, li144, gi145, pi145, li145, gj133, pj133, lj133, gj137, pj137, lj137, gj143, pj143, lj143, gj146, pj146, lj146, gA121, gAq, oo_s, gfs_0, gfs_1, gfs_2, pfs_0, pfs_1, gjs, ljs, pjs, oo_h, gfh_0, gfh_1, gfh_2, pfh_1, pfh_2, ax_fit1_0, ax_fit1_1, ax_fitb, h20, r104I (show 48 < 2 ^ 31 by decide) (show 57 < 2 ^ 31 by decide), hi, n_bn0, Bool.true_eq_false, hb, n_sub (show 48 ≤ l (sk l z p) by omega), upS_s, upS_u, nI_add, hs1, n_le (show z < 2 ^ 31 by omega) (show sk l z p + 1 < 2 ^ 31 by omega), show ¬ z ≤ sk l z p + 1 by omega, upA_n (show ¬ 136 = 141 by decide), show sk l z p + 1 < 70 by omega, hk2.1, isI_nI (show l (sk l z p + 1) < 2 ^ 31 by omega) d2.2.1 d2.2.2, upA_s, show upd (ai 141) b (nI (l (sk l z p) - 48)) b = nI (l (sk l z p) - 48) from if_pos rfl, pk_mul, n_sub (show 48 ≤ 10 * (l (sk l z p) - 48) + l (sk l z p + 1) by omega), show 10 * (l (sk l z p) - 48) + l (sk l z p + 1) - 48 = (l (sk l z p) - 48) * 10 + (l (sk l z p + 1) - 48) by omega, upA_u]
      rfl
    · have d2 : ¬ (sk l z p + 1 < z ∧ 48 ≤ l (sk l z p + 1) ∧ l (sk l z p + 1) ≤ 57) := fun h => c2 (decide_eq_true h)
      rw [if_neg c2]
      refine ⟨upd (ai 141) b (nI (l (sk l z p) - 48)), ?_, fun j hj => by unfold upd; rw [if_neg hj], fun v hv => by cases hv; unfold upd; rw [if_pos rfl]⟩
      by_cases c3 : sk l z p + 1 < z
      · have hk2 := hl _ c3
        have hi2 : isI (nI (l (sk l z p + 1))) 48 57 = false := by rw [isI_dec (by omega)]; exact decide_eq_false (fun h => d2 ⟨c3, h⟩)
        simp only [q122_0, q122_1, q122_4, q122_5, q122_6, q122_7, q122_10, q122_13, q122_16, q122_19, q122_20, q122_21, q122_22, q122_25, q122_26, q122_27, q122_29, q122_30, q122_31, q122_32, q122_33, q122_36, q122_37, q122_38, q122_41, q122_42, q122_45, q122_46, q122_49, q122_52, q122_53, q122_56, q122_57, q122_60, q122_61, q122_62, q122_65, q122_68, q122_71, q122_74, q122_75, q122_78, q122_79, q122_81, q122_82, q122_85, q122_86, q122_87, q122_88, q122_89, q122_92, q122_93, q122_96, q122_97, q122_98, q122_100, q122_101, q122_102, q122_103, q122_104, q122_107, q122_108, q122_109, q122_112, q122_113, ↓reduceIte, ax_bV_s, ax_bI_s, ax_bJ_s, ax_bA_s, ax_bH_s, ax_bR_s, ax_bR_n, oo_114, gf114_0, gf114_1, gf114_2, gf114_3, gf114_4, gf114_5, pf114_5, gf114_6, gf114_7, gf114_8, gf114_9, oo_119, gf119_0, gf119_1, pf119_1, gf119_2, pf119_2, oo_130, gf130_0, gf130_1, gf130_2, pf130_2, oo_134, gf134_0, gf134_1, pf134_1, gf134_2, pf134_2, gf134_3, pf134_3, gf134_4, gf134_5, pf134_5, gf134_6, gf134_7, gf134_8, gf134_9, pf134_9, gf134_10, gf134_11, gf134_12, gf134_13, gf134_14, gf134_15, gf134_16, gi120, pi120, li120, gi131, pi131, li131, gi132, pi132, li132, gi136, pi136, li136, gi138, pi138, li138, gi139, pi139, li139, gi140, pi140, li140, gi141, pi141, li141, gi142, pi142, li142, gi144, pi144, li144, gi145, pi145, li145, gj133, pj133, lj133, gj137, pj137, lj137, gj143, pj143, lj143, gj146, pj146, lj146, gA121, gAq, oo_s, gfs_0, gfs_1, gfs_2, pfs_0, pfs_1, gjs, ljs, pjs, oo_h, gfh_0, gfh_1, gfh_2, pfh_1, pfh_2, ax_fit1_0, ax_fit1_1, ax_fitb, h20, r104I (show 48 < 2 ^ 31 by decide) (show 57 < 2 ^ 31 by decide), hi, n_bn0, Bool.true_eq_false, hb, n_sub (show 48 ≤ l (sk l z p) by omega), upS_s, upS_u, nI_add, hs1, n_le (show z < 2 ^ 31 by omega) (show sk l z p + 1 < 2 ^ 31 by omega), show ¬ z ≤ sk l z p + 1 by omega, upA_n (show ¬ 136 = 141 by decide), show sk l z p + 1 < 70 by omega, hk2.1, hi2]
        rfl
      · simp only [q122_0, q122_1, q122_4, q122_5, q122_6, q122_7, q122_10, q122_13, q122_16, q122_21, q122_22, q122_25, q122_26, q122_27, q122_29, q122_30, q122_31, q122_32, q122_33, q122_36, q122_37, q122_38, q122_41, q122_42, q122_45, q122_46, q122_49, q122_112, q122_113, ↓reduceIte, ax_bV_s, ax_bI_s, ax_bJ_s, ax_bA_s, ax_bH_s, ax_bR_s, ax_bR_n, oo_114, gf114_0, gf114_1, gf114_2, gf114_3, gf114_4, gf114_5, pf114_5, gf114_6, gf114_7, gf114_8, gf114_9, oo_119, gf119_0, gf119_1, pf119_1, gf119_2, pf119_2, oo_130, gf130_0, gf130_1, gf130_2, pf130_2, oo_134, gf134_0, gf134_1, pf134_1, gf134_2, pf134_2, gf134_3, pf134_3, gf134_4, gf134_5, pf134_5, gf134_6, gf134_7, gf134_8, gf134_9, pf134_9, gf134_10, gf134_11, gf134_12, gf134_13, gf134_14, gf134_15, gf134_16, gi120, pi120, li120, gi131, pi131, li131, gi132, pi132, li132, gi136, pi136, li136, gi138, pi138, li138, gi139, pi139, li139, gi140, pi140, li140, gi141, pi141, li141, gi142, pi142, li142, gi144, pi144, li144, gi145, pi145, li145, gj133, pj133, lj133, gj137, pj137, lj137, gj143, pj143, lj143, gj146, pj146, lj146, gA121, gAq, oo_s, gfs_0, gfs_1, gfs_2, pfs_0, pfs_1, gjs, ljs, pjs, oo_h, gfh_0, gfh_1, gfh_2, pfh_1, pfh_2, ax_fit1_0, ax_fit1_1, ax_fitb, h20, r104I (show 48 < 2 ^ 31 by decide) (show 57 < 2 ^ 31 by decide), hi, n_bn0, Bool.true_eq_false, hb, n_sub (show 48 ≤ l (sk l z p) by omega), upS_s, upS_u, nI_add, hs1, n_le (show z < 2 ^ 31 by omega) (show sk l z p + 1 < 2 ^ 31 by omega), show z ≤ sk l z p + 1 by omega]
        rfl
  · have d1 : ¬ (sk l z p < z ∧ 48 ≤ l (sk l z p) ∧ l (sk l z p) ≤ 57) := fun h => c1 (decide_eq_true h)
    rw [decide_eq_false d1] at hi
    rw [if_neg c1]
    refine ⟨ai 141, ?_, fun j _ => rfl, fun v hv => by cases hv⟩
    rw [upA_i]
    simp only [q122_0, q122_1, q122_4, q122_5, q122_6, q122_7, q122_10, q122_13, q122_16, q122_19, q122_20, ↓reduceIte, ax_bV_s, ax_bI_s, ax_bJ_s, ax_bA_s, ax_bH_s, ax_bR_s, ax_bR_n, oo_114, gf114_0, gf114_1, gf114_2, gf114_3, gf114_4, gf114_5, pf114_5, gf114_6, gf114_7, gf114_8, gf114_9, oo_119, gf119_0, gf119_1, pf119_1, gf119_2, pf119_2, oo_130, gf130_0, gf130_1, gf130_2, pf130_2, oo_134, gf134_0, gf134_1, pf134_1, gf134_2, pf134_2, gf134_3, pf134_3, gf134_4, gf134_5, pf134_5, gf134_6, gf134_7, gf134_8, gf134_9, pf134_9, gf134_10, gf134_11, gf134_12, gf134_13, gf134_14, gf134_15, gf134_16, gi120, pi120, li120, gi131, pi131, li131, gi132, pi132, li132, gi136, pi136, li136, gi138, pi138, li138, gi139, pi139, li139, gi140, pi140, li140, gi141, pi141, li141, gi142, pi142, li142, gi144, pi144, li144, gi145, pi145, li145, gj133, pj133, lj133, gj137, pj137, lj137, gj143, pj143, lj143, gj146, pj146, lj146, gA121, gAq, oo_s, gfs_0, gfs_1, gfs_2, pfs_0, pfs_1, gjs, ljs, pjs, oo_h, gfh_0, gfh_1, gfh_2, pfh_1, pfh_2, ax_fit1_0, ax_fit1_1, ax_fitb, h20, r104I (show 48 < 2 ^ 31 by decide) (show 57 < 2 ^ 31 by decide), hi, n_bn0]
    rfl
theorem r123_l (m : Nat) : ∀ (sc : Nat → Nat → Int32) (ai : Nat → Nat → Int32) (p la acc n b : Nat), 5 ≤ la + m → la ≤ 5 → b < 6 → p ≤ z → z ≤ 70 → n ≤ 10 → n + m ≤ 9 → acc < 32 → (n = 0 ∧ acc = 0 ∨ 0 < n ∧ ¬ acc = 0) → (∀ k, k < z → ai 136 k = nI (l k) ∧ l k < 127) → sc 134 5 = nI z → sc 134 9 = nI p → ai 142 b = nI acc → ∃ g, ax_res 123 5 [some (.ref 134), some (.int (nI b)), some (.int (nI (48 + la))), some (.int (nI n))] [] (hp X Y sc ai aj) = some (some (.int (nI (bn (decide (¬ (rtF l z (m + 1) p la acc).2 = 0))))), hp X Y (upS sc 134 9 (nI (rtF l z (m + 1) p la acc).1)) (upA ai 142 g) aj) ∧ (∀ j, ¬ j = b → g j = ai 142 j) ∧ g b = nI (rtF l z (m + 1) p la acc).2 := by
  induction m with
  | zero =>
    intro sc ai p la acc n b h5 hla hb hpz hz hn hnm ha hinv hl h1 h2 h3
    have hbd := sk_bd (l := l) hpz
    have h20 := r120 (X := X) (Y := Y) (aj := aj) hpz hz hl h1 h2
    have hi := hR_isI (l := l) (z := z) (q := sk l z p) (lo := 48 + la) (hi := 52) (fun h => (hl _ h).2)
    rw [decide_eq_false (by omega)] at hi
    rw [rtF_n (by omega)]
    refine ⟨ai 142, ?_, fun j _ => rfl, h3⟩
    rw [upA_i]
    rcases hinv with ⟨rfl, rfl⟩ | ⟨q1, q2⟩
    · simp only [q123_5, q123_6, q123_9, q123_10, q123_11, q123_12, q123_15, q123_18, q123_72, q123_73, q123_76, q123_77, q123_80, q123_81, ↓reduceIte, ax_bV_s, ax_bI_s, ax_bJ_s, ax_bA_s, ax_bH_s, ax_bR_s, ax_bR_n, oo_114, gf114_0, gf114_1, gf114_2, gf114_3, gf114_4, gf114_5, pf114_5, gf114_6, gf114_7, gf114_8, gf114_9, oo_119, gf119_0, gf119_1, pf119_1, gf119_2, pf119_2, oo_130, gf130_0, gf130_1, gf130_2, pf130_2, oo_134, gf134_0, gf134_1, pf134_1, gf134_2, pf134_2, gf134_3, pf134_3, gf134_4, gf134_5, pf134_5, gf134_6, gf134_7, gf134_8, gf134_9, pf134_9, gf134_10, gf134_11, gf134_12, gf134_13, gf134_14, gf134_15, gf134_16, gi120, pi120, li120, gi131, pi131, li131, gi132, pi132, li132, gi136, pi136, li136, gi138, pi138, li138, gi139, pi139, li139, gi140, pi140, li140, gi141, pi141, li141, gi142, pi142, li142, gi144, pi144, li144, gi145, pi145, li145, gj133, pj133, lj133, gj137, pj137, lj137, gj143, pj143, lj143, gj146, pj146, lj146, gA121, gAq, oo_s, gfs_0, gfs_1, gfs_2, pfs_0, pfs_1, gjs, ljs, pjs, oo_h, gfh_0, gfh_1, gfh_2, pfh_1, pfh_2, ax_fit1_0, ax_fit1_1, ax_fitb, h20, nI_l (show 48 + la < 2 ^ 31 by omega), r104I (show 48 + la < 2 ^ 31 by omega) (show 52 < 2 ^ 31 by decide), hi, n_bn0, n_le0 (show 0 < 2 ^ 31 by decide)]
      rfl
    · simp only [q123_5, q123_6, q123_9, q123_10, q123_11, q123_12, q123_15, q123_18, q123_72, q123_73, q123_76, q123_77, q123_80, q123_81, ↓reduceIte, ax_bV_s, ax_bI_s, ax_bJ_s, ax_bA_s, ax_bH_s, ax_bR_s, ax_bR_n, oo_114, gf114_0, gf114_1, gf114_2, gf114_3, gf114_4, gf114_5, pf114_5, gf114_6, gf114_7, gf114_8, gf114_9, oo_119, gf119_0, gf119_1, pf119_1, gf119_2, pf119_2, oo_130, gf130_0, gf130_1, gf130_2, pf130_2, oo_134, gf134_0, gf134_1, pf134_1, gf134_2, pf134_2, gf134_3, pf134_3, gf134_4, gf134_5, pf134_5, gf134_6, gf134_7, gf134_8, gf134_9, pf134_9, gf134_10, gf134_11, gf134_12, gf134_13, gf134_14, gf134_15, gf134_16, gi120, pi120, li120, gi131, pi131, li131, gi132, pi132, li132, gi136, pi136, li136, gi138, pi138, li138, gi139, pi139, li139, gi140, pi140, li140, gi141, pi141, li141, gi142, pi142, li142, gi144, pi144, li144, gi145, pi145, li145, gj133, pj133, lj133, gj137, pj137, lj137, gj143, pj143, lj143, gj146, pj146, lj146, gA121, gAq, oo_s, gfs_0, gfs_1, gfs_2, pfs_0, pfs_1, gjs, ljs, pjs, oo_h, gfh_0, gfh_1, gfh_2, pfh_1, pfh_2, ax_fit1_0, ax_fit1_1, ax_fitb, h20, nI_l (show 48 + la < 2 ^ 31 by omega), r104I (show 48 + la < 2 ^ 31 by omega) (show 52 < 2 ^ 31 by decide), hi, n_bn0, n_le0 (show n < 2 ^ 31 by omega), show ¬ n = 0 by omega, q2, not_false_eq_true, decide_true]
      rfl
  | succ m ih =>
    intro sc ai p la acc n b h5 hla hb hpz hz hn hnm ha hinv hl h1 h2 h3
    have hbd := sk_bd (l := l) hpz
    have h20 := r120 (X := X) (Y := Y) (aj := aj) hpz hz hl h1 h2
    have hi := hR_isI (l := l) (z := z) (q := sk l z p) (lo := 48 + la) (hi := 52) (fun h => (hl _ h).2)
    by_cases c : sk l z p < z ∧ 48 + la ≤ l (sk l z p) ∧ l (sk l z p) ≤ 52
    · rw [decide_eq_true c] at hi
      have hk := hl _ c.1
      have hle := Nat.left_le_or (n := acc) (m := 2 ^ (l (sk l z p) - 48))
      have hle2 := Nat.right_le_or (n := acc) (m := 2 ^ (l (sk l z p) - 48))
      have hpp := Nat.pow_pos (n := l (sk l z p) - 48) (show 0 < 2 by decide)
      obtain ⟨g, e, hg1, hg2⟩ := ih (upS sc 134 9 (nI (sk l z p + 1))) (upA ai 142 (upd (ai 142) b (nI (acc ||| 2 ^ (l (sk l z p) - 48))))) (sk l z p + 1) (l (sk l z p) - 48 + 1) (acc ||| 2 ^ (l (sk l z p) - 48)) (n + 1) b (by omega) (by omega) hb (by omega) hz (by omega) (by omega) (or_lt5 _ ha _ (by omega)) (Or.inr ⟨by omega, by omega⟩) (fun k hk => by rw [upA_n (by decide)]; exact hl k hk) (by rw [upS_k (by decide)]; exact h1) (by rw [upS_s]) (by rw [upA_s]; exact if_pos rfl)
      rw [upS_u, upA_u] at e
      rw [upA_s] at hg1
      rw [rtF_y c]
      refine ⟨g, ?_, fun j hj => by rw [hg1 j hj]; unfold upd; rw [if_neg hj], hg2⟩
      rw [← e, q123_5]
      simp only [q123_6, q123_9, q123_10, q123_11, q123_12, q123_15, q123_18, q123_21, q123_22, q123_25, q123_26, q123_27, q123_28, q123_29, q123_30, q123_33, q123_34, q123_37, q123_38, q123_40, q123_41, q123_42, q123_43, q123_44, q123_45, q123_48, q123_49, q123_52, q123_53, q123_54, q123_55, q123_56, q123_57, q123_58, q123_61, q123_62, q123_63, q123_66, q123_69, ↓reduceIte, ax_bV_s, ax_bI_s, ax_bJ_s, ax_bA_s, ax_bH_s, ax_bR_s, ax_bR_n, oo_114, gf114_0, gf114_1, gf114_2, gf114_3, gf114_4, gf114_5, pf114_5, gf114_6, gf114_7, gf114_8, gf114_9, oo_119, gf119_0, gf119_1, pf119_1, gf119_2, pf119_2, oo_130, gf130_0, gf130_1, gf130_2, pf130_2, oo_134, gf134_0, gf134_1, pf134_1, gf134_2, pf134_2, gf134_3, pf134_3, gf134_4, gf134_5, pf134_5, gf134_6, gf134_7, gf134_8, gf134_9, pf134_9, gf134_10, gf134_11, gf134_12, gf134_13, gf134_14, gf134_15, gf134_16, gi120, pi120, li120, gi131, pi131, li131, gi132, pi132, li132, gi136, pi136, li136, gi138, pi138, li138, gi139, pi139, li139, gi140, pi140, li140, gi141, pi141, li141, gi142, pi142, li142, gi144, pi144, li144, gi145, pi145, li145, gj133, pj133, lj133, gj137, pj137, lj137, gj143, pj143, lj143, gj146, pj146, lj146, gA121, gAq, oo_s, gfs_0, gfs_1, gfs_2, pfs_0, pfs_1, gjs, ljs, pjs, oo_h, gfh_0, gfh_1, gfh_2, pfh_1, pfh_2, ax_fit1_0, ax_fit1_1, ax_fitb, h20, nI_l (show 48 + la < 2 ^ 31 by omega), r104I (show 48 + la < 2 ^ 31 by omega) (show 52 < 2 ^ 31 by decide), hi, n_bn0, Bool.true_eq_false, hb, h3, upS_s, upS_u, show sk l z p < 70 by omega, hk.1, n_sub (show 48 ≤ l (sk l z p) by omega), n_1shl _ (show l (sk l z p) - 48 < 31 by omega), n_or, upA_n (show ¬ 136 = 142 by decide), nI_add, show 48 + (l (sk l z p) - 48 + 1) = l (sk l z p) + 1 by omega]
    · rw [decide_eq_false c] at hi
      rw [rtF_n c]
      refine ⟨ai 142, ?_, fun j _ => rfl, h3⟩
      rw [upA_i]
      rcases hinv with ⟨rfl, rfl⟩ | ⟨q1, q2⟩
      · simp only [q123_5, q123_6, q123_9, q123_10, q123_11, q123_12, q123_15, q123_18, q123_72, q123_73, q123_76, q123_77, q123_80, q123_81, ↓reduceIte, ax_bV_s, ax_bI_s, ax_bJ_s, ax_bA_s, ax_bH_s, ax_bR_s, ax_bR_n, oo_114, gf114_0, gf114_1, gf114_2, gf114_3, gf114_4, gf114_5, pf114_5, gf114_6, gf114_7, gf114_8, gf114_9, oo_119, gf119_0, gf119_1, pf119_1, gf119_2, pf119_2, oo_130, gf130_0, gf130_1, gf130_2, pf130_2, oo_134, gf134_0, gf134_1, pf134_1, gf134_2, pf134_2, gf134_3, pf134_3, gf134_4, gf134_5, pf134_5, gf134_6, gf134_7, gf134_8, gf134_9, pf134_9, gf134_10, gf134_11, gf134_12, gf134_13, gf134_14, gf134_15, gf134_16, gi120, pi120, li120, gi131, pi131, li131, gi132, pi132, li132, gi136, pi136, li136, gi138, pi138, li138, gi139, pi139, li139, gi140, pi140, li140, gi141, pi141, li141, gi142, pi142, li142, gi144, pi144, li144, gi145, pi145, li145, gj133, pj133, lj133, gj137, pj137, lj137, gj143, pj143, lj143, gj146, pj146, lj146, gA121, gAq, oo_s, gfs_0, gfs_1, gfs_2, pfs_0, pfs_1, gjs, ljs, pjs, oo_h, gfh_0, gfh_1, gfh_2, pfh_1, pfh_2, ax_fit1_0, ax_fit1_1, ax_fitb, h20, nI_l (show 48 + la < 2 ^ 31 by omega), r104I (show 48 + la < 2 ^ 31 by omega) (show 52 < 2 ^ 31 by decide), hi, n_bn0, n_le0 (show 0 < 2 ^ 31 by decide)]
        rfl
      · simp only [q123_5, q123_6, q123_9, q123_10, q123_11, q123_12, q123_15, q123_18, q123_72, q123_73, q123_76, q123_77, q123_80, q123_81, ↓reduceIte, ax_bV_s, ax_bI_s, ax_bJ_s, ax_bA_s, ax_bH_s, ax_bR_s, ax_bR_n, oo_114, gf114_0, gf114_1, gf114_2, gf114_3, gf114_4, gf114_5, pf114_5, gf114_6, gf114_7, gf114_8, gf114_9, oo_119, gf119_0, gf119_1, pf119_1, gf119_2, pf119_2, oo_130, gf130_0, gf130_1, gf130_2, pf130_2, oo_134, gf134_0, gf134_1, pf134_1, gf134_2, pf134_2, gf134_3, pf134_3, gf134_4, gf134_5, pf134_5, gf134_6, gf134_7, gf134_8, gf134_9, pf134_9, gf134_10, gf134_11, gf134_12, gf134_13, gf134_14, gf134_15, gf134_16, gi120, pi120, li120, gi131, pi131, li131, gi132, pi132, li132, gi136, pi136, li136, gi138, pi138, li138, gi139, pi139, li139, gi140, pi140, li140, gi141, pi141, li141, gi142, pi142, li142, gi144, pi144, li144, gi145, pi145, li145, gj133, pj133, lj133, gj137, pj137, lj137, gj143, pj143, lj143, gj146, pj146, lj146, gA121, gAq, oo_s, gfs_0, gfs_1, gfs_2, pfs_0, pfs_1, gjs, ljs, pjs, oo_h, gfh_0, gfh_1, gfh_2, pfh_1, pfh_2, ax_fit1_0, ax_fit1_1, ax_fitb, h20, nI_l (show 48 + la < 2 ^ 31 by omega), r104I (show 48 + la < 2 ^ 31 by omega) (show 52 < 2 ^ 31 by decide), hi, n_bn0, n_le0 (show n < 2 ^ 31 by omega), show ¬ n = 0 by omega, q2, not_false_eq_true, decide_true]
        rfl
/-- readsTricks -/
theorem r123 {p b : Nat} (hb : b < 6) (hpz : p ≤ z) (hz : z ≤ 70) (hl : ∀ k, k < z → ai 136 k = nI (l k) ∧ l k < 127) (h1 : sc 134 5 = nI z) (h2 : sc 134 9 = nI p) (h3 : ai 142 b = nI 0) : ∃ g, ax_res 123 0 [some (.ref 134), some (.int (nI b)), none, none] [] (hp X Y sc ai aj) = some (some (.int (nI (bn (decide (¬ (rtF l z 5 p 0 0).2 = 0))))), hp X Y (upS sc 134 9 (nI (sk l z (rtF l z 5 p 0 0).1))) (upA ai 142 g) aj) ∧ (∀ j, ¬ j = b → g j = ai 142 j) ∧ g b = nI (rtF l z 5 p 0 0).2 := by
  obtain ⟨g, e, hg⟩ := r123_l (X := X) (Y := Y) (aj := aj) (l := l) (z := z) 5 sc ai p 0 0 0 b (by omega) (by omega) hb hpz hz (by omega) (by omega) (by omega) (Or.inl ⟨rfl, rfl⟩) hl h1 h2 h3
  rw [rtF_more 5 p 0 0 (by omega)] at e hg
  refine ⟨g, ?_, hg⟩
  simp only [q123_0, q123_2, q123_3, q123_4, e]
/-- readsBuyer -/
theorem r124 {p b : Nat} (hb : b < 6) (hpz : p ≤ z) (hz : z ≤ 70) (hl : ∀ k, k < z → ai 136 k = nI (l k) ∧ l k < 127) (h1 : sc 134 5 = nI z) (h2 : sc 134 9 = nI p) : ∃ f g h, ((∀ j, ¬ j = b → f j = ai 140 j) ∧ (∀ j, ¬ j = b → g j = ai 141 j) ∧ ∀ j, ¬ j = b → h j = ai 142 j) ∧ match rbF l z p with
    | .inl q => ax_res 124 0 [some (.ref 134), some (.int (nI b)), none] [] (hp X Y sc ai aj) = some (some (.int (nI 0)), hp X Y (upS sc 134 9 (nI q)) (a3 ai f g h) aj)
    | .inr (q, k, pr, t) => (f b = nI k ∧ g b = nI pr ∧ h b = nI t) ∧ ∃ p', p' ≤ z ∧ sk l z p' = q ∧ ax_res 124 0 [some (.ref 134), some (.int (nI b)), none] [] (hp X Y sc ai aj) = some (some (.int (nI 1)), hp X Y (upS sc 134 9 (nI p')) (a3 ai f g h) aj) := by
  have hbd := sk_bd (l := l) hpz
  have h20 := r120 (X := X) (Y := Y) (aj := aj) hpz hz hl h1 h2
  unfold rbF
  by_cases c1 : sk l z p < z ∧ kdN (l (sk l z p)) < 5
  · rw [if_pos c1]
    have hk := hl _ c1.1
    have hix := kdI_k _ hk.2
    rw [if_pos c1.2] at hix
    have ehR : hR l z (sk l z p) = nI (l (sk l z p)) := if_pos c1.1
    rw [ehR] at h20
    have n4 : ¬ nI (kdN (l (sk l z p))) = -4 := by rw [← sv_of (show kdN (l (sk l z p)) < 6 by omega), sv_n4]; omega
    have hn := rnF_bd (l := l) (z := z) (p := sk l z p + 1) (by omega)
    obtain ⟨g, e22, hg1, hg2⟩ := r122 (X := X) (Y := Y) (aj := aj) (l := l) (z := z) (sc := upS sc 134 9 (nI (sk l z p + 1))) (ai := upA (upA ai 140 (upd (ai 140) b (nI (kdN (l (sk l z p)))))) 142 (upd (ai 142) b (nI 0))) (p := sk l z p + 1) (b := b) hb (by omega) hz (fun k hk => by rw [upA_n (by decide), upA_n (by decide)]; exact hl k hk) (by rw [upS_k (by decide)]; exact h1) (by rw [upS_s])
    rw [upS_u] at e22
    rw [upA_n (show ¬ 141 = 142 by decide), upA_n (show ¬ 141 = 140 by decide)] at hg1
    have ea : upA (upA (upA ai 140 (upd (ai 140) b (nI (kdN (l (sk l z p)))))) 142 (upd (ai 142) b (nI 0))) 141 g = a3 ai (upd (ai 140) b (nI (kdN (l (sk l z p))))) g (upd (ai 142) b (nI 0)) := by
      unfold a3; rw [upA_c (by decide)]
    rw [ea] at e22
    have f1 : ∀ j, ¬ j = b → upd (ai 140) b (nI (kdN (l (sk l z p)))) j = ai 140 j := fun j hj => if_neg hj
    have f2 : upd (ai 140) b (nI (kdN (l (sk l z p)))) b = nI (kdN (l (sk l z p))) := if_pos rfl
    have t1 : ∀ j, ¬ j = b → upd (ai 142) b (nI 0) j = ai 142 j := fun j hj => if_neg hj
    have t2 : upd (ai 142) b (nI 0) b = nI 0 := if_pos rfl
    unfold rb2
    generalize hr : rnF l z (sk l z p + 1) = r at hn e22 hg2
    obtain ⟨q2, o⟩ := r
    cases o with
    | none =>
      refine ⟨_, g, _, ⟨f1, hg1, t1⟩, ?_⟩
      simp only [Option.isSome_none] at e22 ⊢
      simp only [q124_0, q124_1, q124_4, q124_7, q124_8, q124_9, q124_11, q124_16, q124_17, q124_20, q124_21, q124_22, q124_23, q124_24, q124_27, q124_28, q124_29, q124_30, q124_31, q124_32, q124_35, q124_36, q124_37, q124_40, q124_41, q124_42, q124_45, q124_48, q124_49, ↓reduceIte, ax_bV_s, ax_bI_s, ax_bJ_s, ax_bA_s, ax_bH_s, ax_bR_s, ax_bR_n, oo_114, gf114_0, gf114_1, gf114_2, gf114_3, gf114_4, gf114_5, pf114_5, gf114_6, gf114_7, gf114_8, gf114_9, oo_119, gf119_0, gf119_1, pf119_1, gf119_2, pf119_2, oo_130, gf130_0, gf130_1, gf130_2, pf130_2, oo_134, gf134_0, gf134_1, pf134_1, gf134_2, pf134_2, gf134_3, pf134_3, gf134_4, gf134_5, pf134_5, gf134_6, gf134_7, gf134_8, gf134_9, pf134_9, gf134_10, gf134_11, gf134_12, gf134_13, gf134_14, gf134_15, gf134_16, gi120, pi120, li120, gi131, pi131, li131, gi132, pi132, li132, gi136, pi136, li136, gi138, pi138, li138, gi139, pi139, li139, gi140, pi140, li140, gi141, pi141, li141, gi142, pi142, li142, gi144, pi144, li144, gi145, pi145, li145, gj133, pj133, lj133, gj137, pj137, lj137, gj143, pj143, lj143, gj146, pj146, lj146, gA121, gAq, oo_s, gfs_0, gfs_1, gfs_2, pfs_0, pfs_1, gjs, ljs, pjs, oo_h, gfh_0, gfh_1, gfh_2, pfh_1, pfh_2, ax_fit1_0, ax_fit1_1, ax_fitb, h20, r121, hix, n4, hb, upA_n (show ¬ 142 = 140 by decide), upS_s, upS_u, nI_add, e22, n_bn0]
    | some pr =>
      have hpr := hn.2 pr rfl
      have hn1 : q2 ≤ z := hn.1
      have hgb := hg2 pr rfl
      simp only [Option.isSome_some] at e22 ⊢
      have hb2 := sk_bd (l := l) hn1
      have hl3 : ∀ k, k < z → a3 ai (upd (ai 140) b (nI (kdN (l (sk l z p))))) g (upd (ai 142) b (nI 0)) 136 k = nI (l k) ∧ l k < 127 := fun k hk => by rw [a3_t (by decide) (by decide) (by decide)]; exact hl k hk
      have h20b := r120 (X := X) (Y := Y) (aj := aj) (l := l) (z := z) (ai := a3 ai (upd (ai 140) b (nI (kdN (l (sk l z p))))) g (upd (ai 142) b (nI 0))) (sc := upS sc 134 9 (nI q2)) (p := q2) hn1 hz hl3 (by rw [upS_k (by decide)]; exact h1) (by rw [upS_s])
      rw [upS_u] at h20b
      unfold rb3
      by_cases c2 : sk l z q2 < z ∧ l (sk l z q2) = 58
      · rw [if_pos c2]
        have ehR2 : hR l z (sk l z q2) = nI 58 := by unfold hR; rw [if_pos c2.1, c2.2]
        rw [ehR2] at h20b
        have ht := rtF_bd (l := l) (z := z) 5 (sk l z q2 + 1) 0 0 (by omega) (by decide)
        obtain ⟨h, e23, hh1, hh2⟩ := r123 (X := X) (Y := Y) (aj := aj) (l := l) (z := z) (ai := a3 ai (upd (ai 140) b (nI (kdN (l (sk l z p))))) g (upd (ai 142) b (nI 0))) (sc := upS sc 134 9 (nI (sk l z q2 + 1))) (p := sk l z q2 + 1) (b := b) hb (by omega) hz hl3 (by rw [upS_k (by decide)]; exact h1) (by rw [upS_s]) (by rw [a3_2]; exact t2)
        rw [upS_u, a3_u2] at e23
        rw [a3_2] at hh1
        refine ⟨_, g, h, ⟨f1, hg1, fun j hj => by rw [hh1 j hj, t1 j hj]⟩, ?_⟩
        by_cases c3 : (rtF l z 5 (sk l z q2 + 1) 0 0).2 = 0
        · rw [if_pos c3]
          rw [rtF_fz c3, decide_eq_false (by rw [c3]; simp)] at e23
          simp only [q124_0, q124_1, q124_4, q124_7, q124_8, q124_9, q124_11, q124_16, q124_17, q124_20, q124_21, q124_22, q124_23, q124_24, q124_27, q124_28, q124_29, q124_30, q124_31, q124_32, q124_35, q124_36, q124_37, q124_40, q124_41, q124_42, q124_45, q124_50, q124_51, q124_54, q124_56, q124_59, q124_60, q124_61, q124_64, q124_65, q124_66, q124_69, q124_70, q124_71, q124_74, ↓reduceIte, ax_bV_s, ax_bI_s, ax_bJ_s, ax_bA_s, ax_bH_s, ax_bR_s, ax_bR_n, oo_114, gf114_0, gf114_1, gf114_2, gf114_3, gf114_4, gf114_5, pf114_5, gf114_6, gf114_7, gf114_8, gf114_9, oo_119, gf119_0, gf119_1, pf119_1, gf119_2, pf119_2, oo_130, gf130_0, gf130_1, gf130_2, pf130_2, oo_134, gf134_0, gf134_1, pf134_1, gf134_2, pf134_2, gf134_3, pf134_3, gf134_4, gf134_5, pf134_5, gf134_6, gf134_7, gf134_8, gf134_9, pf134_9, gf134_10, gf134_11, gf134_12, gf134_13, gf134_14, gf134_15, gf134_16, gi120, pi120, li120, gi131, pi131, li131, gi132, pi132, li132, gi136, pi136, li136, gi138, pi138, li138, gi139, pi139, li139, gi140, pi140, li140, gi141, pi141, li141, gi142, pi142, li142, gi144, pi144, li144, gi145, pi145, li145, gj133, pj133, lj133, gj137, pj137, lj137, gj143, pj143, lj143, gj146, pj146, lj146, gA121, gAq, oo_s, gfs_0, gfs_1, gfs_2, pfs_0, pfs_1, gjs, ljs, pjs, oo_h, gfh_0, gfh_1, gfh_2, pfh_1, pfh_2, ax_fit1_0, ax_fit1_1, ax_fitb, h20, r121, hix, n4, hb, upA_n (show ¬ 142 = 140 by decide), upS_s, upS_u, nI_add, e22, n_bn0, Bool.true_eq_false, h20b, e23, bn_fit]
          rfl
        · rw [if_neg c3]
          rw [decide_eq_true c3] at e23
          refine ⟨⟨f2, hgb, hh2⟩, sk l z (rtF l z 5 (sk l z q2 + 1) 0 0).1, (sk_bd ht.1).2, sk_sk, ?_⟩
          simp only [q124_0, q124_1, q124_4, q124_7, q124_8, q124_9, q124_11, q124_16, q124_17, q124_20, q124_21, q124_22, q124_23, q124_24, q124_27, q124_28, q124_29, q124_30, q124_31, q124_32, q124_35, q124_36, q124_37, q124_40, q124_41, q124_42, q124_45, q124_50, q124_51, q124_54, q124_56, q124_59, q124_60, q124_61, q124_64, q124_65, q124_66, q124_69, q124_70, q124_71, q124_74, ↓reduceIte, ax_bV_s, ax_bI_s, ax_bJ_s, ax_bA_s, ax_bH_s, ax_bR_s, ax_bR_n, oo_114, gf114_0, gf114_1, gf114_2, gf114_3, gf114_4, gf114_5, pf114_5, gf114_6, gf114_7, gf114_8, gf114_9, oo_119, gf119_0, gf119_1, pf119_1, gf119_2, pf119_2, oo_130, gf130_0, gf130_1, gf130_2, pf130_2, oo_134, gf134_0, gf134_1, pf134_1, gf134_2, pf134_2, gf134_3, pf134_3, gf134_4, gf134_5, pf134_5, gf134_6, gf134_7, gf134_8, gf134_9, pf134_9, gf134_10, gf134_11, gf134_12, gf134_13, gf134_14, gf134_15, gf134_16, gi120, pi120, li120, gi131, pi131, li131, gi132, pi132, li132, gi136, pi136, li136, gi138, pi138, li138, gi139, pi139, li139, gi140, pi140, li140, gi141, pi141, li141, gi142, pi142, li142, gi144, pi144, li144, gi145, pi145, li145, gj133, pj133, lj133, gj137, pj137, lj137, gj143, pj143, lj143, gj146, pj146, lj146, gA121, gAq, oo_s, gfs_0, gfs_1, gfs_2, pfs_0, pfs_1, gjs, ljs, pjs, oo_h, gfh_0, gfh_1, gfh_2, pfh_1, pfh_2, ax_fit1_0, ax_fit1_1, ax_fitb, h20, r121, hix, n4, hb, upA_n (show ¬ 142 = 140 by decide), upS_s, upS_u, nI_add, e22, n_bn0, Bool.true_eq_false, h20b, e23, bn_fit]
          rfl
      · rw [if_neg c2]
        have h58 : ¬ hR l z (sk l z q2) = nI 58 := by
          unfold hR
          by_cases c4 : sk l z q2 < z
          · have := (hl _ c4).2
            rw [if_pos c4, n_eq (by omega) (by decide)]; exact fun e => c2 ⟨c4, e⟩
          · rw [if_neg c4]; decide
        refine ⟨_, g, _, ⟨f1, hg1, t1⟩, ⟨f2, hgb, t2⟩, sk l z q2, hb2.2, sk_sk, ?_⟩
        simp only [q124_0, q124_1, q124_4, q124_7, q124_8, q124_9, q124_11, q124_16, q124_17, q124_20, q124_21, q124_22, q124_23, q124_24, q124_27, q124_28, q124_29, q124_30, q124_31, q124_32, q124_35, q124_36, q124_37, q124_40, q124_41, q124_42, q124_45, q124_50, q124_51, q124_54, q124_56, q124_75, q124_76, ↓reduceIte, ax_bV_s, ax_bI_s, ax_bJ_s, ax_bA_s, ax_bH_s, ax_bR_s, ax_bR_n, oo_114, gf114_0, gf114_1, gf114_2, gf114_3, gf114_4, gf114_5, pf114_5, gf114_6, gf114_7, gf114_8, gf114_9, oo_119, gf119_0, gf119_1, pf119_1, gf119_2, pf119_2, oo_130, gf130_0, gf130_1, gf130_2, pf130_2, oo_134, gf134_0, gf134_1, pf134_1, gf134_2, pf134_2, gf134_3, pf134_3, gf134_4, gf134_5, pf134_5, gf134_6, gf134_7, gf134_8, gf134_9, pf134_9, gf134_10, gf134_11, gf134_12, gf134_13, gf134_14, gf134_15, gf134_16, gi120, pi120, li120, gi131, pi131, li131, gi132, pi132, li132, gi136, pi136, li136, gi138, pi138, li138, gi139, pi139, li139, gi140, pi140, li140, gi141, pi141, li141, gi142, pi142, li142, gi144, pi144, li144, gi145, pi145, li145, gj133, pj133, lj133, gj137, pj137, lj137, gj143, pj143, lj143, gj146, pj146, lj146, gA121, gAq, oo_s, gfs_0, gfs_1, gfs_2, pfs_0, pfs_1, gjs, ljs, pjs, oo_h, gfh_0, gfh_1, gfh_2, pfh_1, pfh_2, ax_fit1_0, ax_fit1_1, ax_fitb, h20, r121, hix, n4, hb, upA_n (show ¬ 142 = 140 by decide), upS_s, upS_u, nI_add, e22, n_bn0, Bool.true_eq_false, h20b, h58]
  · rw [if_neg c1]
    refine ⟨ai 140, ai 141, ai 142, ⟨fun j _ => rfl, fun j _ => rfl, fun j _ => rfl⟩, ?_⟩
    have hix : kdI (hR l z (sk l z p)) = -4 := by
      unfold hR
      by_cases c4 : sk l z p < z
      · rw [if_pos c4, kdI_k _ (hl _ c4).2, if_neg (fun h => c1 ⟨c4, h⟩)]
      · rw [if_neg c4]; decide
    show ax_res 124 0 _ [] _ = some (some (.int (nI 0)), hp X Y (upS sc 134 9 (nI (sk l z p))) (a3 ai (ai 140) (ai 141) (ai 142)) aj)
    rw [a3_i]
    simp only [q124_0, q124_1, q124_4, q124_7, q124_8, q124_9, q124_11, q124_14, q124_15, ↓reduceIte, ax_bV_s, ax_bI_s, ax_bJ_s, ax_bA_s, ax_bH_s, ax_bR_s, ax_bR_n, oo_114, gf114_0, gf114_1, gf114_2, gf114_3, gf114_4, gf114_5, pf114_5, gf114_6, gf114_7, gf114_8, gf114_9, oo_119, gf119_0, gf119_1, pf119_1, gf119_2, pf119_2, oo_130, gf130_0, gf130_1, gf130_2, pf130_2, oo_134, gf134_0, gf134_1, pf134_1, gf134_2, pf134_2, gf134_3, pf134_3, gf134_4, gf134_5, pf134_5, gf134_6, gf134_7, gf134_8, gf134_9, pf134_9, gf134_10, gf134_11, gf134_12, gf134_13, gf134_14, gf134_15, gf134_16, gi120, pi120, li120, gi131, pi131, li131, gi132, pi132, li132, gi136, pi136, li136, gi138, pi138, li138, gi139, pi139, li139, gi140, pi140, li140, gi141, pi141, li141, gi142, pi142, li142, gi144, pi144, li144, gi145, pi145, li145, gj133, pj133, lj133, gj137, pj137, lj137, gj143, pj143, lj143, gj146, pj146, lj146, gA121, gAq, oo_s, gfs_0, gfs_1, gfs_2, pfs_0, pfs_1, gjs, ljs, pjs, oo_h, gfh_0, gfh_1, gfh_2, pfh_1, pfh_2, ax_fit1_0, ax_fit1_1, ax_fitb, h20, r121, hix]
theorem m125_a (bs : List (Nat × Nat × Nat)) : ∀ (Y : Nat → Nat → Nat) (sc : Nat → Nat → Int32) (b n : Nat) (a1 a2 a3 a4 : Int32), b + bs.length = n → n ≤ 6 → Y 0 0 = b → hol (ai 140) (ai 141) (ai 142) b bs → ax_res 125 165 [some (.ref 134), some (.int (nI n)), some (.int a1), some (.int a2), some (.int a3), some (.int a4), some (.int (nI b))] [] (hp X Y sc ai aj) = some (some (.int (nI n)), hp X (upX Y 0 (addL (Y 0) bs)) (upS sc 134 1 (nI 0)) ai aj) := by
  induction bs with
  | nil =>
    intro Y sc b n a1 a2 a3 a4 hb hn hY hh
    simp only [List.length_nil] at hb
    rw [addL_n, upX_i]
    simp only [q125_165, q125_167, q125_168, q125_202, q125_203, q125_204, q125_207, q125_208, ↓reduceIte, ax_bV_s, ax_bI_s, ax_bJ_s, ax_bA_s, ax_bH_s, ax_bR_s, ax_bR_n, oo_114, gf114_0, gf114_1, gf114_2, gf114_3, gf114_4, gf114_5, pf114_5, gf114_6, gf114_7, gf114_8, gf114_9, oo_119, gf119_0, gf119_1, pf119_1, gf119_2, pf119_2, oo_130, gf130_0, gf130_1, gf130_2, pf130_2, oo_134, gf134_0, gf134_1, pf134_1, gf134_2, pf134_2, gf134_3, pf134_3, gf134_4, gf134_5, pf134_5, gf134_6, gf134_7, gf134_8, gf134_9, pf134_9, gf134_10, gf134_11, gf134_12, gf134_13, gf134_14, gf134_15, gf134_16, gi120, pi120, li120, gi131, pi131, li131, gi132, pi132, li132, gi136, pi136, li136, gi138, pi138, li138, gi139, pi139, li139, gi140, pi140, li140, gi141, pi141, li141, gi142, pi142, li142, gi144, pi144, li144, gi145, pi145, li145, gj133, pj133, lj133, gj137, pj137, lj137, gj143, pj143, lj143, gj146, pj146, lj146, gA121, gAq, oo_s, gfs_0, gfs_1, gfs_2, pfs_0, pfs_1, gjs, ljs, pjs, oo_h, gfh_0, gfh_1, gfh_2, pfh_1, pfh_2, n_le (show n < 2 ^ 31 by omega) (show b < 2 ^ 31 by omega), show n ≤ b by omega]
  | cons v bs ih =>
    intro Y sc b n a1 a2 a3 a4 hb hn hY hh
    obtain ⟨k, p, t⟩ := v
    rw [List.length_cons] at hb
    obtain ⟨⟨q1, q2, q3⟩, hh2⟩ := hol_c.mp hh
    have h109 := r109 (X := X) (Y := Y) (sc := sc) (ai := ai) (aj := aj) (k := k) (p := p) (t := t) (by omega)
    have e := ih (upX Y 0 (addb (Y 0) k p t)) (upS sc 134 1 (nI 0)) (b + 1) n a1 a2 a3 a4 (by omega) hn (by rw [upX_s, addb_0 (by omega), hY]) hh2
    rw [upX_s, upX_u, upS_u] at e
    rw [addL_c, ← e, q125_165]
    simp only [q125_167, q125_168, q125_171, q125_172, q125_173, q125_176, q125_178, q125_179, q125_180, q125_183, q125_185, q125_186, q125_187, q125_190, q125_192, q125_193, q125_196, q125_199, ↓reduceIte, ax_bV_s, ax_bI_s, ax_bJ_s, ax_bA_s, ax_bH_s, ax_bR_s, ax_bR_n, oo_114, gf114_0, gf114_1, gf114_2, gf114_3, gf114_4, gf114_5, pf114_5, gf114_6, gf114_7, gf114_8, gf114_9, oo_119, gf119_0, gf119_1, pf119_1, gf119_2, pf119_2, oo_130, gf130_0, gf130_1, gf130_2, pf130_2, oo_134, gf134_0, gf134_1, pf134_1, gf134_2, pf134_2, gf134_3, pf134_3, gf134_4, gf134_5, pf134_5, gf134_6, gf134_7, gf134_8, gf134_9, pf134_9, gf134_10, gf134_11, gf134_12, gf134_13, gf134_14, gf134_15, gf134_16, gi120, pi120, li120, gi131, pi131, li131, gi132, pi132, li132, gi136, pi136, li136, gi138, pi138, li138, gi139, pi139, li139, gi140, pi140, li140, gi141, pi141, li141, gi142, pi142, li142, gi144, pi144, li144, gi145, pi145, li145, gj133, pj133, lj133, gj137, pj137, lj137, gj143, pj143, lj143, gj146, pj146, lj146, gA121, gAq, oo_s, gfs_0, gfs_1, gfs_2, pfs_0, pfs_1, gjs, ljs, pjs, oo_h, gfh_0, gfh_1, gfh_2, pfh_1, pfh_2, n_le (show n < 2 ^ 31 by omega) (show b < 2 ^ 31 by omega), show ¬ n ≤ b by omega, show b < 6 by omega, q1, q2, q3, h109, nI_add]
theorem m125_c (m : Nat) : ∀ (Y : Nat → Nat → Nat) (k : Nat) (y : Nat → Nat) (a0 a1 a2 a3 a4 : Int32), k + m = 36 → Y 0 = clr0 k y → ax_res 125 125 [some (.ref 134), some (.int a0), some (.int a1), some (.int a2), some (.int a3), some (.int a4), some (.int (nI k))] [] (hp X Y sc ai aj) = ax_res 125 146 [some (.ref 134), some (.int a0), some (.int a1), some (.int a2), some (.int a3), some (.int a4), some (.int (nI 36))] [] (hp X (upX Y 0 (clr0 36 y)) sc ai aj) := by
  induction m with
  | zero =>
    intro Y k y a0 a1 a2 a3 a4 hk hY
    have e : k = 36 := by omega
    subst e
    rw [← hY, upX_i]
    simp only [q125_125, q125_127, q125_129, ↓reduceIte, ax_bV_s, ax_bI_s, ax_bJ_s, ax_bA_s, ax_bH_s, ax_bR_s, ax_bR_n, n_le (show 36 < 2 ^ 31 by decide) (show 36 < 2 ^ 31 by decide), Nat.le_refl]
  | succ m ih =>
    intro Y k y a0 a1 a2 a3 a4 hk hY
    have e := ih (upX Y 0 (clr0 (k + 1) y)) (k + 1) y a0 a1 a2 a3 a4 (by omega) (by rw [upX_s])
    rw [upX_u] at e
    have p6 := pw (X := X) (Y := Y) (sc := sc) (ai := ai) (aj := aj) (q := 0) (c := k) (n := k) (v := 0) (z := nI 0) (by decide) (by omega) (by omega) (by unfold hvc; split <;> rfl)
    rw [hY, clr0_s] at p6
    rw [← e, q125_125]
    simp only [q125_127, q125_129, q125_132, q125_133, q125_136, q125_138, q125_139, q125_140, q125_143, ↓reduceIte, ax_bV_s, ax_bI_s, ax_bJ_s, ax_bA_s, ax_bH_s, ax_bR_s, ax_bR_n, oo_114, gf114_0, gf114_1, gf114_2, gf114_3, gf114_4, gf114_5, pf114_5, gf114_6, gf114_7, gf114_8, gf114_9, oo_119, gf119_0, gf119_1, pf119_1, gf119_2, pf119_2, oo_130, gf130_0, gf130_1, gf130_2, pf130_2, oo_134, gf134_0, gf134_1, pf134_1, gf134_2, pf134_2, gf134_3, pf134_3, gf134_4, gf134_5, pf134_5, gf134_6, gf134_7, gf134_8, gf134_9, pf134_9, gf134_10, gf134_11, gf134_12, gf134_13, gf134_14, gf134_15, gf134_16, gi120, pi120, li120, gi131, pi131, li131, gi132, pi132, li132, gi136, pi136, li136, gi138, pi138, li138, gi139, pi139, li139, gi140, pi140, li140, gi141, pi141, li141, gi142, pi142, li142, gi144, pi144, li144, gi145, pi145, li145, gj133, pj133, lj133, gj137, pj137, lj137, gj143, pj143, lj143, gj146, pj146, lj146, gA121, gAq, oo_s, gfs_0, gfs_1, gfs_2, pfs_0, pfs_1, gjs, ljs, pjs, oo_h, gfh_0, gfh_1, gfh_2, pfh_1, pfh_2, n_le (show 36 < 2 ^ 31 by decide) (show k < 2 ^ 31 by omega), show ¬ 36 ≤ k by omega, p6, nI_add]
theorem m125_l (m : Nat) : ∀ (sc : Nat → Nat → Int32) (ai : Nat → Nat → Int32) (p b : Nat), b + m = 6 → b < 6 → p ≤ z → z ≤ 70 → (∀ k, k < z → ai 136 k = nI (l k) ∧ l k < 127) → sc 134 5 = nI z → sc 134 9 = nI p → ∃ f g h, ((∀ j, j < b → f j = ai 140 j) ∧ (∀ j, j < b → g j = ai 141 j) ∧ ∀ j, j < b → h j = ai 142 j) ∧ match thF l z m p b with
    | .inl q => ax_res 125 11 [some (.ref 134), some (.int (nI b)), some (.int (nI 1)), some (.int (nI 1)), none, none, none] [] (hp X Y sc ai aj) = some (some (.int (-20 - nI q)), hp X Y (upS (upS sc 134 9 (nI q)) 134 5 (nI 0)) (a3 ai f g h) aj)
    | .inr bs => hol f g h b bs ∧ ∃ p' w, ax_res 125 11 [some (.ref 134), some (.int (nI b)), some (.int (nI 1)), some (.int (nI 1)), none, none, none] [] (hp X Y sc ai aj) = ax_res 125 114 [some (.ref 134), some (.int (nI (b + bs.length))), some (.int (nI 1)), some (.int w), some (.int (nI p')), none, none] [] (hp X Y (upS (upS sc 134 9 (nI p')) 134 5 (nI 0)) (a3 ai f g h) aj) := by
  induction m with
  | zero => intro sc ai p b hb hb6; omega
  | succ m ih =>
    intro sc ai p b hb hb6 hpz hz hl h1 h2
    obtain ⟨f, g, h, ⟨u1, u2, u3⟩, h24⟩ := r124 (X := X) (Y := Y) (aj := aj) hb6 hpz hz hl h1 h2
    have hbd := rbF_bd (l := l) hpz
    have hl3 : ∀ k, k < z → a3 ai f g h 136 k = nI (l k) ∧ l k < 127 := fun k hk => by rw [a3_t (by decide) (by decide) (by decide)]; exact hl k hk
    cases hq : rbF l z p with
    | inl q =>
      rw [hq] at h24 hbd
      refine ⟨f, g, h, ⟨fun j hj => u1 j (by omega), fun j hj => u2 j (by omega), fun j hj => u3 j (by omega)⟩, ?_⟩
      rw [thF_f hq]
      simp only at h24 ⊢
      rw [q125_11]
      simp only [q125_12, q125_15, q125_16, q125_19, q125_20, q125_21, q125_24, q125_25, q125_28, q125_29, q125_51, q125_52, q125_53, q125_54, q125_55, q125_58, q125_59, q125_66, q125_67, q125_68, q125_71, ↓reduceIte, ax_bV_s, ax_bI_s, ax_bJ_s, ax_bA_s, ax_bH_s, ax_bR_s, ax_bR_n, oo_114, gf114_0, gf114_1, gf114_2, gf114_3, gf114_4, gf114_5, pf114_5, gf114_6, gf114_7, gf114_8, gf114_9, oo_119, gf119_0, gf119_1, pf119_1, gf119_2, pf119_2, oo_130, gf130_0, gf130_1, gf130_2, pf130_2, oo_134, gf134_0, gf134_1, pf134_1, gf134_2, pf134_2, gf134_3, pf134_3, gf134_4, gf134_5, pf134_5, gf134_6, gf134_7, gf134_8, gf134_9, pf134_9, gf134_10, gf134_11, gf134_12, gf134_13, gf134_14, gf134_15, gf134_16, gi120, pi120, li120, gi131, pi131, li131, gi132, pi132, li132, gi136, pi136, li136, gi138, pi138, li138, gi139, pi139, li139, gi140, pi140, li140, gi141, pi141, li141, gi142, pi142, li142, gi144, pi144, li144, gi145, pi145, li145, gj133, pj133, lj133, gj137, pj137, lj137, gj143, pj143, lj143, gj146, pj146, lj146, gA121, gAq, oo_s, gfs_0, gfs_1, gfs_2, pfs_0, pfs_1, gjs, ljs, pjs, oo_h, gfh_0, gfh_1, gfh_2, pfh_1, pfh_2, n_z1, h24, n_z0, nI_add, upS_s, upS_u, Nat.add_zero]
      rw [q125_11]
      simp only [q125_12, q125_74, q125_75, q125_91, q125_92, q125_93, q125_94, q125_97, q125_99, q125_100, q125_101, q125_104, q125_105, q125_108, q125_110, q125_112, q125_113, ↓reduceIte, ax_bV_s, ax_bI_s, ax_bJ_s, ax_bA_s, ax_bH_s, ax_bR_s, ax_bR_n, oo_114, gf114_0, gf114_1, gf114_2, gf114_3, gf114_4, gf114_5, pf114_5, gf114_6, gf114_7, gf114_8, gf114_9, oo_119, gf119_0, gf119_1, pf119_1, gf119_2, pf119_2, oo_130, gf130_0, gf130_1, gf130_2, pf130_2, oo_134, gf134_0, gf134_1, pf134_1, gf134_2, pf134_2, gf134_3, pf134_3, gf134_4, gf134_5, pf134_5, gf134_6, gf134_7, gf134_8, gf134_9, pf134_9, gf134_10, gf134_11, gf134_12, gf134_13, gf134_14, gf134_15, gf134_16, gi120, pi120, li120, gi131, pi131, li131, gi132, pi132, li132, gi136, pi136, li136, gi138, pi138, li138, gi139, pi139, li139, gi140, pi140, li140, gi141, pi141, li141, gi142, pi142, li142, gi144, pi144, li144, gi145, pi145, li145, gj133, pj133, lj133, gj137, pj137, lj137, gj143, pj143, lj143, gj146, pj146, lj146, gA121, gAq, oo_s, gfs_0, gfs_1, gfs_2, pfs_0, pfs_1, gjs, ljs, pjs, oo_h, gfh_0, gfh_1, gfh_2, pfh_1, pfh_2, n_z0, upS_s]
    | inr v =>
      obtain ⟨q, k, pr, t⟩ := v
      rw [hq] at h24 hbd
      obtain ⟨⟨v1, v2, v3⟩, p', hp', hsk, e24⟩ := h24
      simp only at hbd
      have h20 := r120 (X := X) (Y := Y) (aj := aj) (ai := a3 ai f g h) (sc := upS sc 134 9 (nI p')) (p := p') hp' hz hl3 (by rw [upS_k (by decide)]; exact h1) (by rw [upS_s])
      rw [hsk, upS_u] at h20
      have h20b := r120 (X := X) (Y := Y) (aj := aj) (ai := a3 ai f g h) (sc := upS sc 134 9 (nI q)) (p := q) hbd.1 hz hl3 (by rw [upS_k (by decide)]; exact h1) (by rw [upS_s])
      rw [hbd.2.2.2.2, upS_u] at h20b
      -- behind the loop
      have fin1 : ∀ (pp : Nat) (w : Int32), w = nI 0 → ax_res 120 0 [some (.ref 134)] [] (hp X Y (upS sc 134 9 (nI pp)) (a3 ai f g h) aj) = some (some (.int (hR l z q)), hp X Y (upS sc 134 9 (nI q)) (a3 ai f g h) aj) → z ≤ q → ax_res 125 11 [some (.ref 134), some (.int (nI (b + 1))), some (.int (nI 1)), some (.int w), none, none, none] [] (hp X Y (upS sc 134 9 (nI pp)) (a3 ai f g h) aj) = ax_res 125 114 [some (.ref 134), some (.int (nI (b + 1))), some (.int (nI 1)), some (.int w), some (.int (nI q)), none, none] [] (hp X Y (upS (upS sc 134 9 (nI q)) 134 5 (nI 0)) (a3 ai f g h) aj) := by
        intro pp w hw hh hzq
        subst hw
        have ehR : hR l z q = -4 := if_neg (by omega)
        rw [ehR] at hh
        simp only [q125_11, q125_12, q125_15, q125_16, q125_74, q125_75, q125_78, q125_79, q125_82, q125_84, q125_87, q125_88, q125_92, q125_93, q125_94, q125_97, q125_99, q125_100, q125_101, q125_104, q125_105, ↓reduceIte, ax_bV_s, ax_bI_s, ax_bJ_s, ax_bA_s, ax_bH_s, ax_bR_s, ax_bR_n, oo_114, gf114_0, gf114_1, gf114_2, gf114_3, gf114_4, gf114_5, pf114_5, gf114_6, gf114_7, gf114_8, gf114_9, oo_119, gf119_0, gf119_1, pf119_1, gf119_2, pf119_2, oo_130, gf130_0, gf130_1, gf130_2, pf130_2, oo_134, gf134_0, gf134_1, pf134_1, gf134_2, pf134_2, gf134_3, pf134_3, gf134_4, gf134_5, pf134_5, gf134_6, gf134_7, gf134_8, gf134_9, pf134_9, gf134_10, gf134_11, gf134_12, gf134_13, gf134_14, gf134_15, gf134_16, gi120, pi120, li120, gi131, pi131, li131, gi132, pi132, li132, gi136, pi136, li136, gi138, pi138, li138, gi139, pi139, li139, gi140, pi140, li140, gi141, pi141, li141, gi142, pi142, li142, gi144, pi144, li144, gi145, pi145, li145, gj133, pj133, lj133, gj137, pj137, lj137, gj143, pj143, lj143, gj146, pj146, lj146, gA121, gAq, oo_s, gfs_0, gfs_1, gfs_2, pfs_0, pfs_1, gjs, ljs, pjs, oo_h, gfh_0, gfh_1, gfh_2, pfh_1, pfh_2, n_z1, n_z0, hh, upS_s]
      have fin2 : ∀ (pp : Nat) (w : Int32), w = nI 0 → ax_res 120 0 [some (.ref 134)] [] (hp X Y (upS sc 134 9 (nI pp)) (a3 ai f g h) aj) = some (some (.int (hR l z q)), hp X Y (upS sc 134 9 (nI q)) (a3 ai f g h) aj) → ¬ z ≤ q → ax_res 125 11 [some (.ref 134), some (.int (nI (b + 1))), some (.int (nI 1)), some (.int w), none, none, none] [] (hp X Y (upS sc 134 9 (nI pp)) (a3 ai f g h) aj) = some (some (.int (-20 - nI q)), hp X Y (upS (upS sc 134 9 (nI q)) 134 5 (nI 0)) (a3 ai f g h) aj) := by
        intro pp w hw hh hzq
        subst hw
        have h7 := (hl q (by omega)).2
        have ehR : hR l z q = nI (l q) := if_pos (by omega)
        have n4 : ¬ nI (l q) = -4 := by intro e; have := (n_lt0 (a := l q) (by omega)).mp (by rw [e]; decide); exact this
        rw [ehR] at hh
        simp only [q125_11, q125_12, q125_15, q125_16, q125_74, q125_75, q125_78, q125_79, q125_82, q125_84, q125_91, q125_92, q125_93, q125_94, q125_97, q125_99, q125_100, q125_101, q125_104, q125_105, q125_108, q125_110, q125_112, q125_113, ↓reduceIte, ax_bV_s, ax_bI_s, ax_bJ_s, ax_bA_s, ax_bH_s, ax_bR_s, ax_bR_n, oo_114, gf114_0, gf114_1, gf114_2, gf114_3, gf114_4, gf114_5, pf114_5, gf114_6, gf114_7, gf114_8, gf114_9, oo_119, gf119_0, gf119_1, pf119_1, gf119_2, pf119_2, oo_130, gf130_0, gf130_1, gf130_2, pf130_2, oo_134, gf134_0, gf134_1, pf134_1, gf134_2, pf134_2, gf134_3, pf134_3, gf134_4, gf134_5, pf134_5, gf134_6, gf134_7, gf134_8, gf134_9, pf134_9, gf134_10, gf134_11, gf134_12, gf134_13, gf134_14, gf134_15, gf134_16, gi120, pi120, li120, gi131, pi131, li131, gi132, pi132, li132, gi136, pi136, li136, gi138, pi138, li138, gi139, pi139, li139, gi140, pi140, li140, gi141, pi141, li141, gi142, pi142, li142, gi144, pi144, li144, gi145, pi145, li145, gj133, pj133, lj133, gj137, pj137, lj137, gj143, pj143, lj143, gj146, pj146, lj146, gA121, gAq, oo_s, gfs_0, gfs_1, gfs_2, pfs_0, pfs_1, gjs, ljs, pjs, oo_h, gfh_0, gfh_1, gfh_2, pfh_1, pfh_2, n_z1, n_z0, hh, n4, upS_s]
      by_cases c3 : b + 1 < 6
      · by_cases c2 : q < z ∧ l q = 44
        · have ehR : hR l z q = nI 44 := by unfold hR; rw [if_pos c2.1, c2.2]
          rw [ehR] at h20
          have head : ax_res 125 11 [some (.ref 134), some (.int (nI b)), some (.int (nI 1)), some (.int (nI 1)), none, none, none] [] (hp X Y sc ai aj) = ax_res 125 11 [some (.ref 134), some (.int (nI (b + 1))), some (.int (nI 1)), some (.int (nI 1)), none, none, none] [] (hp X Y (upS sc 134 9 (nI (q + 1))) (a3 ai f g h) aj) := by
            rw [q125_11]
            simp only [q125_12, q125_15, q125_16, q125_19, q125_20, q125_21, q125_24, q125_25, q125_28, q125_29, q125_32, q125_33, q125_35, q125_38, q125_39, q125_42, q125_44, q125_47, q125_48, q125_52, q125_53, q125_54, q125_55, q125_58, q125_59, q125_62, q125_63, q125_67, q125_68, q125_71, ↓reduceIte, ax_bV_s, ax_bI_s, ax_bJ_s, ax_bA_s, ax_bH_s, ax_bR_s, ax_bR_n, oo_114, gf114_0, gf114_1, gf114_2, gf114_3, gf114_4, gf114_5, pf114_5, gf114_6, gf114_7, gf114_8, gf114_9, oo_119, gf119_0, gf119_1, pf119_1, gf119_2, pf119_2, oo_130, gf130_0, gf130_1, gf130_2, pf130_2, oo_134, gf134_0, gf134_1, pf134_1, gf134_2, pf134_2, gf134_3, pf134_3, gf134_4, gf134_5, pf134_5, gf134_6, gf134_7, gf134_8, gf134_9, pf134_9, gf134_10, gf134_11, gf134_12, gf134_13, gf134_14, gf134_15, gf134_16, gi120, pi120, li120, gi131, pi131, li131, gi132, pi132, li132, gi136, pi136, li136, gi138, pi138, li138, gi139, pi139, li139, gi140, pi140, li140, gi141, pi141, li141, gi142, pi142, li142, gi144, pi144, li144, gi145, pi145, li145, gj133, pj133, lj133, gj137, pj137, lj137, gj143, pj143, lj143, gj146, pj146, lj146, gA121, gAq, oo_s, gfs_0, gfs_1, gfs_2, pfs_0, pfs_1, gjs, ljs, pjs, oo_h, gfh_0, gfh_1, gfh_2, pfh_1, pfh_2, n_z1, e24, nI_add, n_le (show 6 < 2 ^ 31 by decide) (show b + 1 < 2 ^ 31 by omega), show ¬ 6 ≤ b + 1 by omega, h20, upS_s, upS_u]
          obtain ⟨f2, g2, h2', ⟨w1, w2, w3⟩, hi⟩ := ih (upS sc 134 9 (nI (q + 1))) (a3 ai f g h) (q + 1) (b + 1) (by omega) (by omega) (by omega) hz hl3 (by rw [upS_k (by decide)]; exact h1) (by rw [upS_s])
          rw [a3_0] at w1
          rw [a3_1] at w2
          rw [a3_2] at w3
          refine ⟨f2, g2, h2', ⟨fun j hj => by rw [w1 j (by omega), u1 j (by omega)], fun j hj => by rw [w2 j (by omega), u2 j (by omega)], fun j hj => by rw [w3 j (by omega), u3 j (by omega)]⟩, ?_⟩
          cases ht : thF l z m (q + 1) (b + 1) with
          | inl q' =>
            rw [ht] at hi
            rw [thF_l hq (by omega) ⟨c2.2, c3⟩ ht]
            simp only at hi ⊢
            rw [upS_u, a3_a] at hi
            rw [head, hi]
          | inr bs =>
            rw [ht] at hi
            rw [thF_r hq (by omega) ⟨c2.2, c3⟩ ht]
            obtain ⟨hh, p2, w, e⟩ := hi
            rw [upS_u, a3_a] at e
            refine ⟨hol_c.mpr ⟨⟨by rw [w1 b (by omega), v1], by rw [w2 b (by omega), v2], by rw [w3 b (by omega), v3]⟩, hh⟩, p2, w, ?_⟩
            rw [head, e, List.length_cons, show b + (bs.length + 1) = b + 1 + bs.length by omega]
        · have ehn : ¬ hR l z q = nI 44 := by
            unfold hR
            by_cases c4 : q < z
            · have := (hl _ c4).2
              rw [if_pos c4, n_eq (by omega) (by decide)]; exact fun e => c2 ⟨c4, e⟩
            · rw [if_neg c4]; decide
          have head : ax_res 125 11 [some (.ref 134), some (.int (nI b)), some (.int (nI 1)), some (.int (nI 1)), none, none, none] [] (hp X Y sc ai aj) = ax_res 125 11 [some (.ref 134), some (.int (nI (b + 1))), some (.int (nI 1)), some (.int (nI 0)), none, none, none] [] (hp X Y (upS sc 134 9 (nI q)) (a3 ai f g h) aj) := by
            rw [q125_11]
            simp only [q125_12, q125_15, q125_16, q125_19, q125_20, q125_21, q125_24, q125_25, q125_28, q125_29, q125_32, q125_33, q125_35, q125_38, q125_39, q125_42, q125_44, q125_51, q125_52, q125_53, q125_54, q125_55, q125_58, q125_59, q125_66, q125_67, q125_68, q125_71, ↓reduceIte, ax_bV_s, ax_bI_s, ax_bJ_s, ax_bA_s, ax_bH_s, ax_bR_s, ax_bR_n, oo_114, gf114_0, gf114_1, gf114_2, gf114_3, gf114_4, gf114_5, pf114_5, gf114_6, gf114_7, gf114_8, gf114_9, oo_119, gf119_0, gf119_1, pf119_1, gf119_2, pf119_2, oo_130, gf130_0, gf130_1, gf130_2, pf130_2, oo_134, gf134_0, gf134_1, pf134_1, gf134_2, pf134_2, gf134_3, pf134_3, gf134_4, gf134_5, pf134_5, gf134_6, gf134_7, gf134_8, gf134_9, pf134_9, gf134_10, gf134_11, gf134_12, gf134_13, gf134_14, gf134_15, gf134_16, gi120, pi120, li120, gi131, pi131, li131, gi132, pi132, li132, gi136, pi136, li136, gi138, pi138, li138, gi139, pi139, li139, gi140, pi140, li140, gi141, pi141, li141, gi142, pi142, li142, gi144, pi144, li144, gi145, pi145, li145, gj133, pj133, lj133, gj137, pj137, lj137, gj143, pj143, lj143, gj146, pj146, lj146, gA121, gAq, oo_s, gfs_0, gfs_1, gfs_2, pfs_0, pfs_1, gjs, ljs, pjs, oo_h, gfh_0, gfh_1, gfh_2, pfh_1, pfh_2, n_z1, n_z0, e24, nI_add, Nat.add_zero, n_le (show 6 < 2 ^ 31 by decide) (show b + 1 < 2 ^ 31 by omega), show ¬ 6 ≤ b + 1 by omega, h20, ehn, upS_s, upS_u]
          refine ⟨f, g, h, ⟨fun j hj => u1 j (by omega), fun j hj => u2 j (by omega), fun j hj => u3 j (by omega)⟩, ?_⟩
          by_cases c1 : z ≤ q
          · rw [thF_z hq c1]
            exact ⟨hol_c.mpr ⟨⟨v1, v2, v3⟩, hol_n⟩, q, nI 0, by rw [head, fin1 q (nI 0) rfl h20b c1]; rfl⟩
          · rw [thF_b hq c1 (fun hx => c2 ⟨by omega, hx.1⟩)]
            simp only
            rw [head, fin2 q (nI 0) rfl h20b c1]
      · have head : ax_res 125 11 [some (.ref 134), some (.int (nI b)), some (.int (nI 1)), some (.int (nI 1)), none, none, none] [] (hp X Y sc ai aj) = ax_res 125 11 [some (.ref 134), some (.int (nI (b + 1))), some (.int (nI 1)), some (.int (nI 0)), none, none, none] [] (hp X Y (upS sc 134 9 (nI p')) (a3 ai f g h) aj) := by
          rw [q125_11]
          simp only [q125_12, q125_15, q125_16, q125_19, q125_20, q125_21, q125_24, q125_25, q125_28, q125_29, q125_32, q125_33, q125_35, q125_51, q125_52, q125_53, q125_54, q125_55, q125_58, q125_59, q125_66, q125_67, q125_68, q125_71, ↓reduceIte, ax_bV_s, ax_bI_s, ax_bJ_s, ax_bA_s, ax_bH_s, ax_bR_s, ax_bR_n, oo_114, gf114_0, gf114_1, gf114_2, gf114_3, gf114_4, gf114_5, pf114_5, gf114_6, gf114_7, gf114_8, gf114_9, oo_119, gf119_0, gf119_1, pf119_1, gf119_2, pf119_2, oo_130, gf130_0, gf130_1, gf130_2, pf130_2, oo_134, gf134_0, gf134_1, pf134_1, gf134_2, pf134_2, gf134_3, pf134_3, gf134_4, gf134_5, pf134_5, gf134_6, gf134_7, gf134_8, gf134_9, pf134_9, gf134_10, gf134_11, gf134_12, gf134_13, gf134_14, gf134_15, gf134_16, gi120, pi120, li120, gi131, pi131, li131, gi132, pi132, li132, gi136, pi136, li136, gi138, pi138, li138, gi139, pi139, li139, gi140, pi140, li140, gi141, pi141, li141, gi142, pi142, li142, gi144, pi144, li144, gi145, pi145, li145, gj133, pj133, lj133, gj137, pj137, lj137, gj143, pj143, lj143, gj146, pj146, lj146, gA121, gAq, oo_s, gfs_0, gfs_1, gfs_2, pfs_0, pfs_1, gjs, ljs, pjs, oo_h, gfh_0, gfh_1, gfh_2, pfh_1, pfh_2, n_z1, n_z0, e24, nI_add, Nat.add_zero, n_le (show 6 < 2 ^ 31 by decide) (show b + 1 < 2 ^ 31 by omega), show 6 ≤ b + 1 by omega, upS_s, upS_u]
        refine ⟨f, g, h, ⟨fun j hj => u1 j (by omega), fun j hj => u2 j (by omega), fun j hj => u3 j (by omega)⟩, ?_⟩
        by_cases c1 : z ≤ q
        · rw [thF_z hq c1]
          exact ⟨hol_c.mpr ⟨⟨v1, v2, v3⟩, hol_n⟩, q, nI 0, by rw [head, fin1 p' (nI 0) rfl h20 c1]; rfl⟩
        · rw [thF_b hq c1 (fun hx => c3 hx.2)]
          simp only
          rw [head, fin2 p' (nI 0) rfl h20 c1]
/-- the model's empty house -/
def nobM (y : Nat → Nat) : Nat → Nat := up1 (up1 (clr0 36 y) 2 6) 5 (y 5)
theorem nobM_at {y : Nat → Nat} {i : Nat} : nobM y i = if i = 5 then y 5 else if i = 2 then 6 else if i < 36 then 0 else y i := by unfold nobM up1 clr0; rfl
theorem m125 (hz : z ≤ 70) (hl : ∀ k, k < z → ai 136 k = nI (l k) ∧ l k < 127) (h1 : sc 134 5 = nI z) : ∃ f g h, match thF l z 6 0 0 with
    | .inl q => ax_res 125 0 [some (.ref 134), none, none, none, none, none, none] [] (hp X Y sc ai aj) = some (some (.int (-20 - nI q)), hp X Y (upS (upS sc 134 9 (nI q)) 134 5 (nI 0)) (a3 ai f g h) aj)
    | .inr bs => ∃ p', ax_res 125 0 [some (.ref 134), none, none, none, none, none, none] [] (hp X Y sc ai aj) = some (some (.int (nI bs.length)), hp X (upX Y 0 (addL (nobM (Y 0)) bs)) (upS (upS (upS sc 134 9 (nI p')) 134 5 (nI 0)) 134 1 (nI 0)) (a3 ai f g h) aj) := by
  obtain ⟨f, g, h, -, hr⟩ := m125_l (X := X) (Y := Y) (aj := aj) (l := l) (z := z) 6 (upS sc 134 9 (nI 0)) ai 0 0 (by omega) (by omega) (by omega) hz hl (by rw [upS_k (by decide)]; exact h1) (by rw [upS_s])
  have hbd := thF_bd (l := l) (z := z) 6 0 0 (by omega) (by omega)
  refine ⟨f, g, h, ?_⟩
  cases ht : thF l z 6 0 0 with
  | inl q =>
    rw [ht] at hr
    simp only at hr ⊢
    rw [upS_u] at hr
    simp only [q125_0, q125_1, q125_2, q125_5, q125_6, q125_7, q125_8, q125_9, q125_10, ↓reduceIte, ax_bV_s, ax_bI_s, ax_bJ_s, ax_bA_s, ax_bH_s, ax_bR_s, ax_bR_n, oo_114, gf114_0, gf114_1, gf114_2, gf114_3, gf114_4, gf114_5, pf114_5, gf114_6, gf114_7, gf114_8, gf114_9, oo_119, gf119_0, gf119_1, pf119_1, gf119_2, pf119_2, oo_130, gf130_0, gf130_1, gf130_2, pf130_2, oo_134, gf134_0, gf134_1, pf134_1, gf134_2, pf134_2, gf134_3, pf134_3, gf134_4, gf134_5, pf134_5, gf134_6, gf134_7, gf134_8, gf134_9, pf134_9, gf134_10, gf134_11, gf134_12, gf134_13, gf134_14, gf134_15, gf134_16, gi120, pi120, li120, gi131, pi131, li131, gi132, pi132, li132, gi136, pi136, li136, gi138, pi138, li138, gi139, pi139, li139, gi140, pi140, li140, gi141, pi141, li141, gi142, pi142, li142, gi144, pi144, li144, gi145, pi145, li145, gj133, pj133, lj133, gj137, pj137, lj137, gj143, pj143, lj143, gj146, pj146, lj146, gA121, gAq, oo_s, gfs_0, gfs_1, gfs_2, pfs_0, pfs_1, gjs, ljs, pjs, oo_h, gfh_0, gfh_1, gfh_2, pfh_1, pfh_2, hr]
  | inr bs =>
    rw [ht] at hr hbd
    obtain ⟨hh, p', w, e⟩ := hr
    simp only at hbd
    rw [upS_u, Nat.zero_add] at e
    refine ⟨p', ?_⟩
    have ec := m125_c (X := X) (sc := upS (upS sc 134 9 (nI p')) 134 5 (nI 0)) (ai := a3 ai f g h) (aj := aj) 36 Y 0 (Y 0) (nI bs.length) (nI 1) w (nI p') (nI (Y 0 5)) (by omega) (by funext i; unfold clr0; rw [if_neg (by omega)])
    have ea := m125_a (X := X) (ai := a3 ai f g h) (aj := aj) bs (upX Y 0 (nobM (Y 0))) (upS (upS sc 134 9 (nI p')) 134 5 (nI 0)) 0 bs.length (nI 1) w (nI p') (nI (Y 0 5)) (by omega) (by omega) (by rw [upX_s, nobM_at]; rfl) (by rw [a3_0, a3_1, a3_2]; exact hh)
    rw [upX_s, upX_u] at ea
    simp only [q125_0, q125_1, q125_2, q125_5, q125_6, q125_7, q125_8, q125_9, q125_10, ↓reduceIte, ax_bV_s, ax_bI_s, ax_bJ_s, ax_bA_s, ax_bH_s, ax_bR_s, ax_bR_n, oo_114, gf114_0, gf114_1, gf114_2, gf114_3, gf114_4, gf114_5, pf114_5, gf114_6, gf114_7, gf114_8, gf114_9, oo_119, gf119_0, gf119_1, pf119_1, gf119_2, pf119_2, oo_130, gf130_0, gf130_1, gf130_2, pf130_2, oo_134, gf134_0, gf134_1, pf134_1, gf134_2, pf134_2, gf134_3, pf134_3, gf134_4, gf134_5, pf134_5, gf134_6, gf134_7, gf134_8, gf134_9, pf134_9, gf134_10, gf134_11, gf134_12, gf134_13, gf134_14, gf134_15, gf134_16, gi120, pi120, li120, gi131, pi131, li131, gi132, pi132, li132, gi136, pi136, li136, gi138, pi138, li138, gi139, pi139, li139, gi140, pi140, li140, gi141, pi141, li141, gi142, pi142, li142, gi144, pi144, li144, gi145, pi145, li145, gj133, pj133, lj133, gj137, pj137, lj137, gj143, pj143, lj143, gj146, pj146, lj146, gA121, gAq, oo_s, gfs_0, gfs_1, gfs_2, pfs_0, pfs_1, gjs, ljs, pjs, oo_h, gfh_0, gfh_1, gfh_2, pfh_1, pfh_2, e]
    simp only [q125_114, q125_115, q125_118, q125_119, q125_120, q125_122, q125_123, ↓reduceIte, ax_bV_s, ax_bI_s, ax_bJ_s, ax_bA_s, ax_bH_s, ax_bR_s, ax_bR_n, gwq_0, gwq_1, gwq_2, gwq_3, gwq_4, gwq_5, gwqT, gwqS, gwqP, gwqK, gwqZ, gw0_0, gw0_1, gw0_2, gw0_3, gw0_4, gw0_5, gw0T, gw0S, gw0P, gw0K, gw0Z, gw1_0, gw1_1, gw1_2, gw1_3, gw1_4, gw1_5, gw1T, gw1S, gw1P, gw1K, gw1Z, oo_114, gf114_0, gf114_1, gf114_2, gf114_3, gf114_4, gf114_5, pf114_5, gf114_6, gf114_7, gf114_8, gf114_9, oo_119, gf119_0, gf119_1, pf119_1, gf119_2, pf119_2, oo_130, gf130_0, gf130_1, gf130_2, pf130_2, oo_134, gf134_0, gf134_1, pf134_1, gf134_2, pf134_2, gf134_3, pf134_3, gf134_4, gf134_5, pf134_5, gf134_6, gf134_7, gf134_8, gf134_9, pf134_9, gf134_10, gf134_11, gf134_12, gf134_13, gf134_14, gf134_15, gf134_16, gi120, pi120, li120, gi131, pi131, li131, gi132, pi132, li132, gi136, pi136, li136, gi138, pi138, li138, gi139, pi139, li139, gi140, pi140, li140, gi141, pi141, li141, gi142, pi142, li142, gi144, pi144, li144, gi145, pi145, li145, gj133, pj133, lj133, gj137, pj137, lj137, gj143, pj143, lj143, gj146, pj146, lj146, gA121, gAq, oo_s, gfs_0, gfs_1, gfs_2, pfs_0, pfs_1, gjs, ljs, pjs, oo_h, gfh_0, gfh_1, gfh_2, pfh_1, pfh_2, ec]
    simp only [q125_146, q125_147, q125_150, q125_151, q125_153, q125_154, q125_155, q125_158, q125_159, q125_161, q125_162, q125_163, ↓reduceIte, ax_bV_s, ax_bI_s, ax_bJ_s, ax_bA_s, ax_bH_s, ax_bR_s, ax_bR_n, pwq_0, pwq_1, pwq_2, pwq_2n, pwq_3, pwq_4, pwq_5, pwqT, pwqS, pwqP, pwqK, pwqZ, pw0_0, pw0_1, pw0_2, pw0_2n, pw0_3, pw0_4, pw0_5, pw0T, pw0S, pw0P, pw0K, pw0Z, pw1_0, pw1_1, pw1_2, pw1_2n, pw1_3, pw1_4, pw1_5, pw1T, pw1S, pw1P, pw1K, pw1Z, oo_114, gf114_0, gf114_1, gf114_2, gf114_3, gf114_4, gf114_5, pf114_5, gf114_6, gf114_7, gf114_8, gf114_9, oo_119, gf119_0, gf119_1, pf119_1, gf119_2, pf119_2, oo_130, gf130_0, gf130_1, gf130_2, pf130_2, oo_134, gf134_0, gf134_1, pf134_1, gf134_2, pf134_2, gf134_3, pf134_3, gf134_4, gf134_5, pf134_5, gf134_6, gf134_7, gf134_8, gf134_9, pf134_9, gf134_10, gf134_11, gf134_12, gf134_13, gf134_14, gf134_15, gf134_16, gi120, pi120, li120, gi131, pi131, li131, gi132, pi132, li132, gi136, pi136, li136, gi138, pi138, li138, gi139, pi139, li139, gi140, pi140, li140, gi141, pi141, li141, gi142, pi142, li142, gi144, pi144, li144, gi145, pi145, li145, gj133, pj133, lj133, gj137, pj137, lj137, gj143, pj143, lj143, gj146, pj146, lj146, gA121, gAq, oo_s, gfs_0, gfs_1, gfs_2, pfs_0, pfs_1, gjs, ljs, pjs, oo_h, gfh_0, gfh_1, gfh_2, pfh_1, pfh_2, upX_s, upX_u, show up1 (up1 (clr0 36 (Y 0)) 2 6) 5 (Y 0 5) = nobM (Y 0) from rfl, ea]
end TM
