/-! ===== send ===== -/
/-- those of a set go home -/
def snL (set : Nat) : Nat → Nat → (Nat → Nat) → Nat → Nat
  | 0, _, x => x
  | n + 1, e, x => snL set n (e + 1) (if set.testBit e = true then snd x e else x)
theorem snL_0 {set e : Nat} {x : Nat → Nat} : snL set 0 e x = x := by rw [snL]
theorem snL_s {set n e : Nat} {x : Nat → Nat} : snL set (n + 1) e x = snL set n (e + 1) (if set.testBit e = true then snd x e else x) := by rw [snL]
theorem inv_snL (set n : Nat) : ∀ (e : Nat) (x : Nat → Nat), Inv x → e + n ≤ 6 → Inv (snL set n e x) ∧ snL set n e x 0 = x 0 ∧ snL set n e x 1 = x 1 := by
  induction n with
  | zero => intro e x h _; rw [snL_0]; exact ⟨h, rfl, rfl⟩
  | succ n ih =>
    intro e x h he
    rw [snL_s]
    split
    · obtain ⟨a1, a2, a3⟩ := inv_snd (b := e) h (by omega)
      obtain ⟨b1, b2, b3⟩ := ih (e + 1) _ a1 (by omega)
      exact ⟨b1, b2.trans a2, b3.trans a3⟩
    · exact ih (e + 1) _ h (by omega)
theorem ag_snL (set n : Nat) : ∀ (e : Nat) {x y : Nat → Nat}, Ag x y → Ag (snL set n e x) (snL set n e y) := by
  induction n with
  | zero => intro e x y h; rw [snL_0, snL_0]; exact h
  | succ n ih =>
    intro e x y h
    rw [snL_s, snL_s]
    split
    · exact ih (e + 1) (ag_snd h)
    · exact ih (e + 1) h
def stW (x : Nat → Nat) (b n : Nat) (s : Nat) : Bool := decide (pasN n (snL s (x 0) 0 x) 2 = b)
def sdF (W : Nat → Bool) (ot : Nat) : Nat → Nat → Int32 → Nat → Int32 × Nat
  | 0, _, be, fe => (be, fe)
  | m + 1, s, be, fe => if s &&& ot = s ∧ pop s < fe ∧ W s = true then sdF W ot m (s + 1) (nI s) (pop s) else sdF W ot m (s + 1) be fe
theorem sdF_0 {W : Nat → Bool} {ot s fe : Nat} {be : Int32} : sdF W ot 0 s be fe = (be, fe) := by rw [sdF]
theorem sdF_s {W : Nat → Bool} {ot m s fe : Nat} {be : Int32} : sdF W ot (m + 1) s be fe = if s &&& ot = s ∧ pop s < fe ∧ W s = true then sdF W ot m (s + 1) (nI s) (pop s) else sdF W ot m (s + 1) be fe := by rw [sdF]
theorem sdF_y {W : Nat → Bool} {ot m s fe : Nat} {be : Int32} (h : s &&& ot = s ∧ pop s < fe ∧ W s = true) : sdF W ot (m + 1) s be fe = sdF W ot m (s + 1) (nI s) (pop s) := by rw [sdF_s, if_pos h]
theorem sdF_n {W : Nat → Bool} {ot m s fe : Nat} {be : Int32} (h : ¬ (s &&& ot = s ∧ pop s < fe ∧ W s = true)) : sdF W ot (m + 1) s be fe = sdF W ot m (s + 1) be fe := by rw [sdF_s, if_neg h]
theorem sdF_end {W : Nat → Bool} {ot : Nat} (m : Nat) : ∀ (s fe : Nat) (be : Int32), ot < s → sdF W ot m s be fe = (be, fe) := by
  induction m with
  | zero => intro s fe be _; exact sdF_0
  | succ m ih =>
    intro s fe be h
    rw [sdF_s, if_neg (fun c => by have := Nat.and_le_right (n := s) (m := ot); omega)]
    exact ih (s + 1) fe be (by omega)
theorem sdF_more {W : Nat → Bool} {ot : Nat} (m k : Nat) : ∀ (s fe : Nat) (be : Int32), ot < s + m → sdF W ot (m + k) s be fe = sdF W ot m s be fe := by
  induction m with
  | zero => intro s fe be h; rw [Nat.zero_add, sdF_end k s fe be (by omega), sdF_0]
  | succ m ih =>
    intro s fe be h
    rw [show m + 1 + k = (m + k) + 1 by omega, sdF_s, sdF_s]
    split
    · exact ih (s + 1) _ _ (by omega)
    · exact ih (s + 1) _ _ (by omega)
theorem sub_S : ∀ s, s < 64 → ∀ o, o < 64 → decide (nI s &&& (nI o ^^^ (-1)) = 0) = decide (s &&& o = s) := by decide +kernel
theorem sub_i {s o : Nat} (hs : s < 64) (ho : o < 64) : (nI s &&& (nI o ^^^ (-1)) = 0) ↔ s &&& o = s := by
  have h := sub_S s hs o ho
  exact decide_eq_decide.mp h
theorem hom_b : ∀ h, h < 64 → ∀ b, b < 6 → ∀ s, s < 64 → (decide (s &&& hom h b = s)) = (!s.testBit b && decide (s &&& h = s)) := by decide +kernel
theorem pop_b : ∀ b, b < 6 → ∀ s, s < 64 → s.testBit b = false → pop s < 6 := by decide +kernel
def sdA (x : Nat → Nat) (b n w : Nat) : Int32 :=
  if (sdF (stW x b n) (hom (x 4) b) (hom (x 4) b + 1) 0 (-4) 6).1 < 0 then -4 else if w = 0 then nI (sdF (stW x b n) (hom (x 4) b) (hom (x 4) b + 1) 0 (-4) 6).2 else (sdF (stW x b n) (hom (x 4) b) (hom (x 4) b + 1) 0 (-4) 6).1
theorem hom_63 : ∀ h, h < 64 → ∀ b, b < 6 → hom h b ≤ 63 := by decide +kernel
section SD
variable {X Y : Nat → Nat → Nat} {sc : Nat → Nat → Int32} {ai : Nat → Nat → Int32} {aj : Nat → Nat → Int64}
theorem r96_l (m : Nat) : ∀ (X : Nat → Nat → Nat) (e set b n : Nat), e + m = X 1 0 → set < 64 → b < 6 → n ≤ 40 → Inv (X 1) → X 1 1 ≤ 9999 → ∃ x1, ax_res 96 7 [some (.ref 114), some (.int (nI set)), some (.int (nI b)), some (.int (nI n)), some (.int (nI e))] [] (hp X Y sc ai aj) = some (some (.int (nI (bn (decide (pasN n (snL set m e (X 1)) 2 = b))))), hp (upX X 1 x1) Y sc ai aj) := by
  induction m with
  | zero =>
    intro X e set b n he hs hb hn hI hm
    have h0 := hI.1
    have h27 := r27 (X := X) (Y := Y) (sc := sc) (ai := ai) (aj := aj) (n := n) j1 hI (by omega)
    refine ⟨pasN n (X 1), ?_⟩
    rw [snL_0]
    simp only [q96_7, q96_9, q96_10, q96_13, q96_16, q96_44, q96_45, q96_48, q96_49, q96_52, q96_53, q96_56, q96_59, q96_60, q96_63, q96_64, q96_67, q96_68, ↓reduceIte, ax_bV_s, ax_bI_s, ax_bJ_s, ax_bA_s, ax_bH_s, ax_bR_s, ax_bR_n, gh_people, gh_here, gh_sat, gh_minute, gh_draw, gh_sitter, gh_kinds, gh_prices, gh_known, gh_sights, gh_places, ga_kinds, ga_prices, ga_known, ga_sights, ga_places, oh, oo_114, gf114_0, gf114_1, gf114_2, gf114_3, gf114_4, gf114_5, pf114_5, gf114_6, gf114_7, gf114_8, gf114_9, oo_119, gf119_0, gf119_1, pf119_1, gf119_2, pf119_2, oo_130, gf130_0, gf130_1, gf130_2, pf130_2, oo_134, gf134_0, gf134_1, pf134_1, gf134_2, pf134_2, gf134_3, pf134_3, gf134_4, gf134_5, pf134_5, gf134_6, gf134_7, gf134_8, gf134_9, pf134_9, gf134_10, gf134_11, gf134_12, gf134_13, gf134_14, gf134_15, gf134_16, gi120, pi120, li120, gi131, pi131, li131, gi132, pi132, li132, gi136, pi136, li136, gi138, pi138, li138, gi139, pi139, li139, gi140, pi140, li140, gi141, pi141, li141, gi142, pi142, li142, gi144, pi144, li144, gi145, pi145, li145, gj133, pj133, lj133, gj137, pj137, lj137, gj143, pj143, lj143, gj146, pj146, lj146, gA121, gAq, oo_s, gfs_0, gfs_1, gfs_2, pfs_0, pfs_1, gjs, ljs, pjs, oo_h, gfh_0, gfh_1, gfh_2, pfh_1, pfh_2, ax_fit1_0, ax_fit1_1, ax_fitb, j1, n_le (show X 1 0 < 2 ^ 31 by omega) (show e < 2 ^ 31 by omega), show X 1 0 ≤ e by omega, h27, upX_s, sv_eq hb]
    by_cases c : pasN n (X 1) 2 = b <;> simp [c, bn]
  | succ m ih =>
    intro X e set b n he hs hb hn hI hm
    have h0 := hI.1
    have h4 := hI.h4
    rw [snL_s]
    cases c : set.testBit e with
    | true =>
      obtain ⟨g1, g2, g3⟩ := inv_snd (b := e) hI (by omega)
      obtain ⟨x1, e1⟩ := ih (upX X 1 (snd (X 1) e)) (e + 1) set b n (by rw [upX_s, g2]; omega) hs hb hn (by rw [upX_s]; exact g1) (by rw [upX_s, g3]; exact hm)
      rw [upX_s, upX_u] at e1
      refine ⟨x1, ?_⟩
      rw [q96_7, if_pos rfl]
      simp only [q96_9, q96_10, q96_13, q96_16, q96_19, q96_20, q96_22, q96_23, q96_24, q96_25, q96_26, q96_29, q96_30, q96_33, q96_35, q96_38, q96_41, ↓reduceIte, ax_bV_s, ax_bI_s, ax_bJ_s, ax_bA_s, ax_bH_s, ax_bR_s, ax_bR_n, gh_people, gh_here, gh_sat, gh_minute, gh_draw, gh_sitter, gh_kinds, gh_prices, gh_known, gh_sights, gh_places, ga_kinds, ga_prices, ga_known, ga_sights, ga_places, oh, oo_114, gf114_0, gf114_1, gf114_2, gf114_3, gf114_4, gf114_5, pf114_5, gf114_6, gf114_7, gf114_8, gf114_9, oo_119, gf119_0, gf119_1, pf119_1, gf119_2, pf119_2, oo_130, gf130_0, gf130_1, gf130_2, pf130_2, oo_134, gf134_0, gf134_1, pf134_1, gf134_2, pf134_2, gf134_3, pf134_3, gf134_4, gf134_5, pf134_5, gf134_6, gf134_7, gf134_8, gf134_9, pf134_9, gf134_10, gf134_11, gf134_12, gf134_13, gf134_14, gf134_15, gf134_16, gi120, pi120, li120, gi131, pi131, li131, gi132, pi132, li132, gi136, pi136, li136, gi138, pi138, li138, gi139, pi139, li139, gi140, pi140, li140, gi141, pi141, li141, gi142, pi142, li142, gi144, pi144, li144, gi145, pi145, li145, gj133, pj133, lj133, gj137, pj137, lj137, gj143, pj143, lj143, gj146, pj146, lj146, gA121, gAq, oo_s, gfs_0, gfs_1, gfs_2, pfs_0, pfs_1, gjs, ljs, pjs, oo_h, gfh_0, gfh_1, gfh_2, pfh_1, pfh_2, j1, n_le (show X 1 0 < 2 ^ 31 by omega) (show e < 2 ^ 31 by omega), show ¬ X 1 0 ≤ e by omega, n_bit (show set < 2 ^ 31 by omega) (show e < 32 by omega), n_bt1, c, r25 j1 (show e < 6 by omega) h4, nI_add, e1]
    | false =>
      obtain ⟨x1, e1⟩ := ih X (e + 1) set b n (by omega) hs hb hn hI hm
      refine ⟨x1, ?_⟩
      rw [q96_7, if_neg (by decide)]
      simp only [q96_9, q96_10, q96_13, q96_16, q96_19, q96_20, q96_22, q96_23, q96_24, q96_25, q96_26, q96_38, q96_41, ↓reduceIte, ax_bV_s, ax_bI_s, ax_bJ_s, ax_bA_s, ax_bH_s, ax_bR_s, ax_bR_n, gh_people, gh_here, gh_sat, gh_minute, gh_draw, gh_sitter, gh_kinds, gh_prices, gh_known, gh_sights, gh_places, ga_kinds, ga_prices, ga_known, ga_sights, ga_places, oh, oo_114, gf114_0, gf114_1, gf114_2, gf114_3, gf114_4, gf114_5, pf114_5, gf114_6, gf114_7, gf114_8, gf114_9, oo_119, gf119_0, gf119_1, pf119_1, gf119_2, pf119_2, oo_130, gf130_0, gf130_1, gf130_2, pf130_2, oo_134, gf134_0, gf134_1, pf134_1, gf134_2, pf134_2, gf134_3, pf134_3, gf134_4, gf134_5, pf134_5, gf134_6, gf134_7, gf134_8, gf134_9, pf134_9, gf134_10, gf134_11, gf134_12, gf134_13, gf134_14, gf134_15, gf134_16, gi120, pi120, li120, gi131, pi131, li131, gi132, pi132, li132, gi136, pi136, li136, gi138, pi138, li138, gi139, pi139, li139, gi140, pi140, li140, gi141, pi141, li141, gi142, pi142, li142, gi144, pi144, li144, gi145, pi145, li145, gj133, pj133, lj133, gj137, pj137, lj137, gj143, pj143, lj143, gj146, pj146, lj146, gA121, gAq, oo_s, gfs_0, gfs_1, gfs_2, pfs_0, pfs_1, gjs, ljs, pjs, oo_h, gfh_0, gfh_1, gfh_2, pfh_1, pfh_2, j1, n_le (show X 1 0 < 2 ^ 31 by omega) (show e < 2 ^ 31 by omega), show ¬ X 1 0 ≤ e by omega, n_bit (show set < 2 ^ 31 by omega) (show e < 32 by omega), n_bt1, c, Bool.false_eq_true, nI_add, e1]
/-- sitsWithout -/
theorem r96 {set b n : Nat} (hs : set < 64) (hb : b < 6) (hn : n ≤ 40) (hI : Inv (X 0)) (hm : X 0 1 ≤ 9999) : ∃ x1, ax_res 96 0 [some (.ref 114), some (.int (nI set)), some (.int (nI b)), some (.int (nI n)), none] [] (hp X Y sc ai aj) = some (some (.int (nI (bn (stW (X 0) b n set)))), hp (upX X 1 x1) Y sc ai aj) := by
  obtain ⟨x1, e⟩ := r96_l (Y := Y) (sc := sc) (ai := ai) (aj := aj) (X 0 0) (upX X 1 (X 0)) 0 set b n (by rw [upX_s]; omega) hs hb hn (by rw [upX_s]; exact hI) (by rw [upX_s]; exact hm)
  rw [upX_s, upX_u] at e
  refine ⟨x1, ?_⟩
  simp only [q96_0, q96_1, q96_4, q96_5, ↓reduceIte, ax_bV_s, ax_bI_s, ax_bJ_s, ax_bA_s, ax_bH_s, ax_bR_s, ax_bR_n, oo_114, gf114_0, gf114_1, gf114_2, gf114_3, gf114_4, gf114_5, pf114_5, gf114_6, gf114_7, gf114_8, gf114_9, oo_119, gf119_0, gf119_1, pf119_1, gf119_2, pf119_2, oo_130, gf130_0, gf130_1, gf130_2, pf130_2, oo_134, gf134_0, gf134_1, pf134_1, gf134_2, pf134_2, gf134_3, pf134_3, gf134_4, gf134_5, pf134_5, gf134_6, gf134_7, gf134_8, gf134_9, pf134_9, gf134_10, gf134_11, gf134_12, gf134_13, gf134_14, gf134_15, gf134_16, gi120, pi120, li120, gi131, pi131, li131, gi132, pi132, li132, gi136, pi136, li136, gi138, pi138, li138, gi139, pi139, li139, gi140, pi140, li140, gi141, pi141, li141, gi142, pi142, li142, gi144, pi144, li144, gi145, pi145, li145, gj133, pj133, lj133, gj137, pj137, lj137, gj143, pj143, lj143, gj146, pj146, lj146, gA121, gAq, oo_s, gfs_0, gfs_1, gfs_2, pfs_0, pfs_1, gjs, ljs, pjs, oo_h, gfh_0, gfh_1, gfh_2, pfh_1, pfh_2, r89, e]
  rfl
theorem s71_l (m : Nat) : ∀ (X : Nat → Nat → Nat) (s b n w fe ot : Nat) (be : Int32) (z : Option Value), s + m = ot + 1 → n ≤ 40 → b < X 0 0 → w ≤ 1 → fe ≤ 6 → ot < 64 → Inv (X 0) → X 0 1 ≤ 9999 → z = none → ∃ x1, ax_res 71 55 [some (.ref 114), some (.int (nI b)), some (.int (nI n)), some (.int (nI w)), some (.int (nI ot)), some (.int be), some (.int (nI fe)), some (.int (nI s)), z] [] (hp X Y sc ai aj) = some (some (.int (if (sdF (stW (X 0) b n) ot m s be fe).1 < 0 then -4 else if w = 0 then nI (sdF (stW (X 0) b n) ot m s be fe).2 else (sdF (stW (X 0) b n) ot m s be fe).1)), hp (upX X 1 x1) Y sc ai aj) := by
  induction m with
  | zero =>
    intro X s b n w fe ot be z hs hn hb hw hfe hot hI hm hz
    subst hz
    refine ⟨X 1, ?_⟩
    rw [sdF_0, upX_i]
    by_cases c : be < 0
    · simp only [q71_55, q71_57, q71_59, q71_111, q71_113, q71_116, q71_118, ↓reduceIte, ax_bV_s, ax_bI_s, ax_bJ_s, ax_bA_s, ax_bH_s, ax_bR_s, ax_bR_n, n_lt (show ot < 2 ^ 31 by omega) (show s < 2 ^ 31 by omega), show ot < s by omega, Int32.not_le.mpr c, c]
    · rcases (show w = 0 ∨ w = 1 by omega) with rfl | rfl
      · simp only [q71_55, q71_57, q71_59, q71_111, q71_113, q71_119, q71_120, q71_123, q71_125, q71_128, q71_130, ↓reduceIte, ax_bV_s, ax_bI_s, ax_bJ_s, ax_bA_s, ax_bH_s, ax_bR_s, ax_bR_n, n_lt (show ot < 2 ^ 31 by omega) (show s < 2 ^ 31 by omega), show ot < s by omega, Int32.not_lt.mp c, c, n_z0]
      · simp only [q71_55, q71_57, q71_59, q71_111, q71_113, q71_119, q71_120, q71_123, q71_125, q71_128, q71_130, ↓reduceIte, ax_bV_s, ax_bI_s, ax_bJ_s, ax_bA_s, ax_bH_s, ax_bR_s, ax_bR_n, n_lt (show ot < 2 ^ 31 by omega) (show s < 2 ^ 31 by omega), show ot < s by omega, Int32.not_lt.mp c, c, n_z1, show ¬ 1 = 0 by decide]
  | succ m ih =>
    intro X s b n w fe ot be z hs hn hb hw hfe hot hI hm hz
    subst hz
    have h0 := hI.1
    have hb6 : b < 6 := by omega
    have hp8 := pop_lt s
    obtain ⟨x1, h96⟩ := r96 (X := X) (Y := Y) (sc := sc) (ai := ai) (aj := aj) (set := s) (show s < 64 by omega) hb6 hn hI hm
    have step : ∀ (x1 : Nat → Nat) (be : Int32) (fe : Nat), fe ≤ 6 → ∃ x2, ax_res 71 55 [some (.ref 114), some (.int (nI b)), some (.int (nI n)), some (.int (nI w)), some (.int (nI ot)), some (.int be), some (.int (nI fe)), some (.int (nI (s + 1))), none] [] (hp (upX X 1 x1) Y sc ai aj) = some (some (.int (if (sdF (stW (X 0) b n) ot m (s + 1) be fe).1 < 0 then -4 else if w = 0 then nI (sdF (stW (X 0) b n) ot m (s + 1) be fe).2 else (sdF (stW (X 0) b n) ot m (s + 1) be fe).1)), hp (upX X 1 x2) Y sc ai aj) := by
      intro x1 be fe hfe
      obtain ⟨x2, e⟩ := ih (upX X 1 x1) (s + 1) b n w fe ot be none (by omega) hn (by rw [upX_n (by decide)]; exact hb) hw hfe hot (by rw [upX_n (by decide)]; exact hI) (by rw [upX_n (by decide)]; exact hm) rfl
      rw [upX_n (show ¬ 0 = 1 by decide), upX_u] at e
      exact ⟨x2, e⟩
    by_cases c1 : s &&& ot = s
    · by_cases c2 : pop s < fe
      · cases c3 : stW (X 0) b n s with
        | true =>
          obtain ⟨x2, e⟩ := step x1 (nI s) (pop s) (by omega)
          refine ⟨x2, ?_⟩
          rw [q71_55, sdF_y ⟨c1, c2, c3⟩]
          simp only [q71_57, q71_59, q71_62, q71_64, q71_67, q71_69, q71_71, q71_73, q71_74, q71_75, q71_76, q71_79, q71_81, q71_83, q71_86, q71_87, q71_89, q71_90, q71_91, q71_94, q71_97, q71_99, q71_101, q71_103, q71_105, q71_108, ↓reduceIte, ax_bV_s, ax_bI_s, ax_bJ_s, ax_bA_s, ax_bH_s, ax_bR_s, ax_bR_n, oo_114, gf114_0, gf114_1, gf114_2, gf114_3, gf114_4, gf114_5, pf114_5, gf114_6, gf114_7, gf114_8, gf114_9, oo_119, gf119_0, gf119_1, pf119_1, gf119_2, pf119_2, oo_130, gf130_0, gf130_1, gf130_2, pf130_2, oo_134, gf134_0, gf134_1, pf134_1, gf134_2, pf134_2, gf134_3, pf134_3, gf134_4, gf134_5, pf134_5, gf134_6, gf134_7, gf134_8, gf134_9, pf134_9, gf134_10, gf134_11, gf134_12, gf134_13, gf134_14, gf134_15, gf134_16, gi120, pi120, li120, gi131, pi131, li131, gi132, pi132, li132, gi136, pi136, li136, gi138, pi138, li138, gi139, pi139, li139, gi140, pi140, li140, gi141, pi141, li141, gi142, pi142, li142, gi144, pi144, li144, gi145, pi145, li145, gj133, pj133, lj133, gj137, pj137, lj137, gj143, pj143, lj143, gj146, pj146, lj146, gA121, gAq, oo_s, gfs_0, gfs_1, gfs_2, pfs_0, pfs_1, gjs, ljs, pjs, oo_h, gfh_0, gfh_1, gfh_2, pfh_1, pfh_2, n_lt (show ot < 2 ^ 31 by omega) (show s < 2 ^ 31 by omega), show ¬ ot < s by omega, r179 _ s (show s < 256 by omega), sub_i (show s < 64 by omega) hot, c1, n_le (show fe < 2 ^ 31 by omega) (show pop s < 2 ^ 31 by omega), show ¬ fe ≤ pop s by omega, h96, c3, n_bn0, Bool.true_eq_false, nI_add, e]
        | false =>
          obtain ⟨x2, e⟩ := step x1 be fe hfe
          refine ⟨x2, ?_⟩
          rw [q71_55, sdF_n (fun h => by rw [c3] at h; exact Bool.noConfusion h.2.2)]
          simp only [q71_57, q71_59, q71_62, q71_64, q71_67, q71_69, q71_71, q71_73, q71_74, q71_75, q71_76, q71_79, q71_81, q71_83, q71_86, q71_87, q71_89, q71_90, q71_91, q71_94, q71_105, q71_108, ↓reduceIte, ax_bV_s, ax_bI_s, ax_bJ_s, ax_bA_s, ax_bH_s, ax_bR_s, ax_bR_n, oo_114, gf114_0, gf114_1, gf114_2, gf114_3, gf114_4, gf114_5, pf114_5, gf114_6, gf114_7, gf114_8, gf114_9, oo_119, gf119_0, gf119_1, pf119_1, gf119_2, pf119_2, oo_130, gf130_0, gf130_1, gf130_2, pf130_2, oo_134, gf134_0, gf134_1, pf134_1, gf134_2, pf134_2, gf134_3, pf134_3, gf134_4, gf134_5, pf134_5, gf134_6, gf134_7, gf134_8, gf134_9, pf134_9, gf134_10, gf134_11, gf134_12, gf134_13, gf134_14, gf134_15, gf134_16, gi120, pi120, li120, gi131, pi131, li131, gi132, pi132, li132, gi136, pi136, li136, gi138, pi138, li138, gi139, pi139, li139, gi140, pi140, li140, gi141, pi141, li141, gi142, pi142, li142, gi144, pi144, li144, gi145, pi145, li145, gj133, pj133, lj133, gj137, pj137, lj137, gj143, pj143, lj143, gj146, pj146, lj146, gA121, gAq, oo_s, gfs_0, gfs_1, gfs_2, pfs_0, pfs_1, gjs, ljs, pjs, oo_h, gfh_0, gfh_1, gfh_2, pfh_1, pfh_2, n_lt (show ot < 2 ^ 31 by omega) (show s < 2 ^ 31 by omega), show ¬ ot < s by omega, r179 _ s (show s < 256 by omega), sub_i (show s < 64 by omega) hot, c1, n_le (show fe < 2 ^ 31 by omega) (show pop s < 2 ^ 31 by omega), show ¬ fe ≤ pop s by omega, h96, c3, n_bn0, nI_add, e]
      · obtain ⟨x2, e⟩ := step (X 1) be fe hfe
        rw [upX_i] at e
        refine ⟨x2, ?_⟩
        rw [q71_55, sdF_n (fun h => c2 h.2.1)]
        simp only [q71_57, q71_59, q71_62, q71_64, q71_67, q71_69, q71_71, q71_73, q71_74, q71_75, q71_76, q71_79, q71_81, q71_83, q71_105, q71_108, ↓reduceIte, ax_bV_s, ax_bI_s, ax_bJ_s, ax_bA_s, ax_bH_s, ax_bR_s, ax_bR_n, oo_114, gf114_0, gf114_1, gf114_2, gf114_3, gf114_4, gf114_5, pf114_5, gf114_6, gf114_7, gf114_8, gf114_9, oo_119, gf119_0, gf119_1, pf119_1, gf119_2, pf119_2, oo_130, gf130_0, gf130_1, gf130_2, pf130_2, oo_134, gf134_0, gf134_1, pf134_1, gf134_2, pf134_2, gf134_3, pf134_3, gf134_4, gf134_5, pf134_5, gf134_6, gf134_7, gf134_8, gf134_9, pf134_9, gf134_10, gf134_11, gf134_12, gf134_13, gf134_14, gf134_15, gf134_16, gi120, pi120, li120, gi131, pi131, li131, gi132, pi132, li132, gi136, pi136, li136, gi138, pi138, li138, gi139, pi139, li139, gi140, pi140, li140, gi141, pi141, li141, gi142, pi142, li142, gi144, pi144, li144, gi145, pi145, li145, gj133, pj133, lj133, gj137, pj137, lj137, gj143, pj143, lj143, gj146, pj146, lj146, gA121, gAq, oo_s, gfs_0, gfs_1, gfs_2, pfs_0, pfs_1, gjs, ljs, pjs, oo_h, gfh_0, gfh_1, gfh_2, pfh_1, pfh_2, n_lt (show ot < 2 ^ 31 by omega) (show s < 2 ^ 31 by omega), show ¬ ot < s by omega, r179 _ s (show s < 256 by omega), sub_i (show s < 64 by omega) hot, c1, n_le (show fe < 2 ^ 31 by omega) (show pop s < 2 ^ 31 by omega), show fe ≤ pop s by omega, nI_add, e]
    · obtain ⟨x2, e⟩ := step (X 1) be fe hfe
      rw [upX_i] at e
      refine ⟨x2, ?_⟩
      rw [q71_55, sdF_n (fun h => c1 h.1)]
      simp only [q71_57, q71_59, q71_62, q71_64, q71_67, q71_69, q71_71, q71_73, q71_74, q71_75, q71_76, q71_105, q71_108, ↓reduceIte, ax_bV_s, ax_bI_s, ax_bJ_s, ax_bA_s, ax_bH_s, ax_bR_s, ax_bR_n, oo_114, gf114_0, gf114_1, gf114_2, gf114_3, gf114_4, gf114_5, pf114_5, gf114_6, gf114_7, gf114_8, gf114_9, oo_119, gf119_0, gf119_1, pf119_1, gf119_2, pf119_2, oo_130, gf130_0, gf130_1, gf130_2, pf130_2, oo_134, gf134_0, gf134_1, pf134_1, gf134_2, pf134_2, gf134_3, pf134_3, gf134_4, gf134_5, pf134_5, gf134_6, gf134_7, gf134_8, gf134_9, pf134_9, gf134_10, gf134_11, gf134_12, gf134_13, gf134_14, gf134_15, gf134_16, gi120, pi120, li120, gi131, pi131, li131, gi132, pi132, li132, gi136, pi136, li136, gi138, pi138, li138, gi139, pi139, li139, gi140, pi140, li140, gi141, pi141, li141, gi142, pi142, li142, gi144, pi144, li144, gi145, pi145, li145, gj133, pj133, lj133, gj137, pj137, lj137, gj143, pj143, lj143, gj146, pj146, lj146, gA121, gAq, oo_s, gfs_0, gfs_1, gfs_2, pfs_0, pfs_1, gjs, ljs, pjs, oo_h, gfh_0, gfh_1, gfh_2, pfh_1, pfh_2, n_lt (show ot < 2 ^ 31 by omega) (show s < 2 ^ 31 by omega), show ¬ ot < s by omega, r179 _ s (show s < 256 by omega), sub_i (show s < 64 by omega) hot, c1, nI_add, e]
theorem s71_bad {b n w : Int32} (hI : Inv (X 0)) (h : (isB b (X 0 0) && (isI n 0 40 && isI w 0 1)) = false) : ax_res 71 0 [some (.ref 114), some (.int b), some (.int n), some (.int w), none, none, none, none, none] [] (hp X Y sc ai aj) = some (some (.int (-1)), hp X Y sc ai aj) := by
  simp only [q71_0, q71_1, q71_2, q71_5, q71_8, q71_9, q71_10, q71_12, q71_15, q71_18, q71_19, q71_20, q71_21, q71_24, q71_27, q71_28, ↓reduceIte, ax_bV_s, ax_bI_s, ax_bJ_s, ax_bA_s, ax_bH_s, ax_bR_s, ax_bR_n, oo_114, gf114_0, gf114_1, gf114_2, gf114_3, gf114_4, gf114_5, pf114_5, gf114_6, gf114_7, gf114_8, gf114_9, oo_119, gf119_0, gf119_1, pf119_1, gf119_2, pf119_2, oo_130, gf130_0, gf130_1, gf130_2, pf130_2, oo_134, gf134_0, gf134_1, pf134_1, gf134_2, pf134_2, gf134_3, pf134_3, gf134_4, gf134_5, pf134_5, gf134_6, gf134_7, gf134_8, gf134_9, pf134_9, gf134_10, gf134_11, gf134_12, gf134_13, gf134_14, gf134_15, gf134_16, gi120, pi120, li120, gi131, pi131, li131, gi132, pi132, li132, gi136, pi136, li136, gi138, pi138, li138, gi139, pi139, li139, gi140, pi140, li140, gi141, pi141, li141, gi142, pi142, li142, gi144, pi144, li144, gi145, pi145, li145, gj133, pj133, lj133, gj137, pj137, lj137, gj143, pj143, lj143, gj146, pj146, lj146, gA121, gAq, oo_s, gfs_0, gfs_1, gfs_2, pfs_0, pfs_1, gjs, ljs, pjs, oo_h, gfh_0, gfh_1, gfh_2, pfh_1, pfh_2, r85 hI.1, r84I (show 0 < 2 ^ 31 by decide) (show 40 < 2 ^ 31 by decide), r84I (show 0 < 2 ^ 31 by decide) (show 1 < 2 ^ 31 by decide), n_bn0]
  revert h
  cases isB b (X 0 0) <;> cases isI n 0 40 <;> cases isI w 0 1 <;> simp
theorem s71_ok {b n w : Nat} (hI : Inv (X 0)) (hm : X 0 1 ≤ 9999) (hb : b < X 0 0) (hn : n ≤ 40) (hw : w ≤ 1) : ∃ x1, ax_res 71 0 [some (.ref 114), some (.int (nI b)), some (.int (nI n)), some (.int (nI w)), none, none, none, none, none] [] (hp X Y sc ai aj) = some (some (.int (sdA (X 0) b n w)), hp (upX X 1 x1) Y sc ai aj) := by
  have h0 := hI.1
  have h4 := hI.h4
  have h63 := hom_63 _ h4 b (by omega)
  obtain ⟨x1, e⟩ := s71_l (Y := Y) (sc := sc) (ai := ai) (aj := aj) (hom (X 0 4) b + 1) X 0 b n w 6 (hom (X 0 4) b) (-4) none (by omega) hn hb hw (by omega) (by omega) hI hm rfl
  refine ⟨x1, ?_⟩
  simp only [q71_0, q71_1, q71_2, q71_5, q71_8, q71_9, q71_10, q71_12, q71_15, q71_18, q71_19, q71_20, q71_21, q71_24, q71_29, q71_30, q71_33, q71_36, q71_37, q71_38, q71_39, q71_40, q71_41, q71_42, q71_44, q71_46, q71_48, q71_50, q71_52, q71_53, ↓reduceIte, ax_bV_s, ax_bI_s, ax_bJ_s, ax_bA_s, ax_bH_s, ax_bR_s, ax_bR_n, gh_people, gh_here, gh_sat, gh_minute, gh_draw, gh_sitter, gh_kinds, gh_prices, gh_known, gh_sights, gh_places, ga_kinds, ga_prices, ga_known, ga_sights, ga_places, oh, oo_114, gf114_0, gf114_1, gf114_2, gf114_3, gf114_4, gf114_5, pf114_5, gf114_6, gf114_7, gf114_8, gf114_9, oo_119, gf119_0, gf119_1, pf119_1, gf119_2, pf119_2, oo_130, gf130_0, gf130_1, gf130_2, pf130_2, oo_134, gf134_0, gf134_1, pf134_1, gf134_2, pf134_2, gf134_3, pf134_3, gf134_4, gf134_5, pf134_5, gf134_6, gf134_7, gf134_8, gf134_9, pf134_9, gf134_10, gf134_11, gf134_12, gf134_13, gf134_14, gf134_15, gf134_16, gi120, pi120, li120, gi131, pi131, li131, gi132, pi132, li132, gi136, pi136, li136, gi138, pi138, li138, gi139, pi139, li139, gi140, pi140, li140, gi141, pi141, li141, gi142, pi142, li142, gi144, pi144, li144, gi145, pi145, li145, gj133, pj133, lj133, gj137, pj137, lj137, gj143, pj143, lj143, gj146, pj146, lj146, gA121, gAq, oo_s, gfs_0, gfs_1, gfs_2, pfs_0, pfs_1, gjs, ljs, pjs, oo_h, gfh_0, gfh_1, gfh_2, pfh_1, pfh_2, j0, r85 h0, isB_t (show X 0 0 ≤ 1000 by omega) hb, r84I (show 0 < 2 ^ 31 by decide) (show 40 < 2 ^ 31 by decide), isI_nI (show n < 2 ^ 31 by omega) (Nat.zero_le n) hn, r84I (show 0 < 2 ^ 31 by decide) (show 1 < 2 ^ 31 by decide), isI_nI (show w < 2 ^ 31 by omega) (Nat.zero_le w) hw, n_bn0, Bool.not_true, n_1shl b (show b < 31 by omega), hom_S _ h4 b (show b < 6 by omega), e]
  rfl
-- the model's
theorem m159_i (m : Nat) : ∀ (Y : Nat → Nat → Nat) (e set b n w : Nat) (be f : Int32), e + m = Y 0 0 → set < 64 → Y 0 0 ≤ 6 → Inv (Y 1) → ax_res 159 114 [some (.ref 134), some (.int (nI b)), some (.int (nI n)), some (.int (nI w)), some (.int be), some (.int (nI set)), some (.int f), some (.int (nI e))] [] (hp X Y sc ai aj) = ax_res 159 149 [some (.ref 134), some (.int (nI b)), some (.int (nI n)), some (.int (nI w)), some (.int be), some (.int (nI set)), some (.int f), some (.int (nI (Y 0 0)))] [] (hp X (upX Y 1 (snL set m e (Y 1))) sc ai aj) := by
  induction m with
  | zero =>
    intro Y e set b n w be f he hs h0 hI
    have e0 : e = Y 0 0 := by omega
    rw [snL_0, upX_i]
    simp only [q159_114, q159_116, q159_117, q159_120, q159_121, q159_122, ↓reduceIte, ax_bV_s, ax_bI_s, ax_bJ_s, ax_bA_s, ax_bH_s, ax_bR_s, ax_bR_n, gwq_0, gwq_1, gwq_2, gwq_3, gwq_4, gwq_5, gwqT, gwqS, gwqP, gwqK, gwqZ, gw0_0, gw0_1, gw0_2, gw0_3, gw0_4, gw0_5, gw0T, gw0S, gw0P, gw0K, gw0Z, gw1_0, gw1_1, gw1_2, gw1_3, gw1_4, gw1_5, gw1T, gw1S, gw1P, gw1K, gw1Z, oo_114, gf114_0, gf114_1, gf114_2, gf114_3, gf114_4, gf114_5, pf114_5, gf114_6, gf114_7, gf114_8, gf114_9, oo_119, gf119_0, gf119_1, pf119_1, gf119_2, pf119_2, oo_130, gf130_0, gf130_1, gf130_2, pf130_2, oo_134, gf134_0, gf134_1, pf134_1, gf134_2, pf134_2, gf134_3, pf134_3, gf134_4, gf134_5, pf134_5, gf134_6, gf134_7, gf134_8, gf134_9, pf134_9, gf134_10, gf134_11, gf134_12, gf134_13, gf134_14, gf134_15, gf134_16, gi120, pi120, li120, gi131, pi131, li131, gi132, pi132, li132, gi136, pi136, li136, gi138, pi138, li138, gi139, pi139, li139, gi140, pi140, li140, gi141, pi141, li141, gi142, pi142, li142, gi144, pi144, li144, gi145, pi145, li145, gj133, pj133, lj133, gj137, pj137, lj137, gj143, pj143, lj143, gj146, pj146, lj146, gA121, gAq, oo_s, gfs_0, gfs_1, gfs_2, pfs_0, pfs_1, gjs, ljs, pjs, oo_h, gfh_0, gfh_1, gfh_2, pfh_1, pfh_2, n_le (show Y 0 0 < 2 ^ 31 by omega) (show e < 2 ^ 31 by omega), show Y 0 0 ≤ e by omega]
    rw [e0]
  | succ m ih =>
    intro Y e set b n w be f he hs h0 hI
    rw [snL_s]
    have h4 := hI.h4
    cases c : set.testBit e with
    | true =>
      obtain ⟨g1, g2, g3⟩ := inv_snd (b := e) hI (by omega)
      have h36 := r136 (X := X) (Y := Y) (sc := sc) (ai := ai) (aj := aj) (q := 1) (b := e) q1 (by omega) h4
      rw [show 36 * 1 = 36 from rfl] at h36
      have e1 := ih (upX Y 1 (snd (Y 1) e)) (e + 1) set b n w be f (by rw [upX_n (by decide)]; omega) hs (by rw [upX_n (by decide)]; exact h0) (by rw [upX_s]; exact g1)
      rw [upX_s, upX_u, upX_n (show ¬ 0 = 1 by decide)] at e1
      rw [q159_114, if_pos rfl]
      simp only [q159_116, q159_117, q159_120, q159_121, q159_122, q159_125, q159_127, q159_129, q159_132, q159_135, q159_136, q159_138, q159_140, q159_143, q159_146, ↓reduceIte, ax_bV_s, ax_bI_s, ax_bJ_s, ax_bA_s, ax_bH_s, ax_bR_s, ax_bR_n, gwq_0, gwq_1, gwq_2, gwq_3, gwq_4, gwq_5, gwqT, gwqS, gwqP, gwqK, gwqZ, gw0_0, gw0_1, gw0_2, gw0_3, gw0_4, gw0_5, gw0T, gw0S, gw0P, gw0K, gw0Z, gw1_0, gw1_1, gw1_2, gw1_3, gw1_4, gw1_5, gw1T, gw1S, gw1P, gw1K, gw1Z, oo_114, gf114_0, gf114_1, gf114_2, gf114_3, gf114_4, gf114_5, pf114_5, gf114_6, gf114_7, gf114_8, gf114_9, oo_119, gf119_0, gf119_1, pf119_1, gf119_2, pf119_2, oo_130, gf130_0, gf130_1, gf130_2, pf130_2, oo_134, gf134_0, gf134_1, pf134_1, gf134_2, pf134_2, gf134_3, pf134_3, gf134_4, gf134_5, pf134_5, gf134_6, gf134_7, gf134_8, gf134_9, pf134_9, gf134_10, gf134_11, gf134_12, gf134_13, gf134_14, gf134_15, gf134_16, gi120, pi120, li120, gi131, pi131, li131, gi132, pi132, li132, gi136, pi136, li136, gi138, pi138, li138, gi139, pi139, li139, gi140, pi140, li140, gi141, pi141, li141, gi142, pi142, li142, gi144, pi144, li144, gi145, pi145, li145, gj133, pj133, lj133, gj137, pj137, lj137, gj143, pj143, lj143, gj146, pj146, lj146, gA121, gAq, oo_s, gfs_0, gfs_1, gfs_2, pfs_0, pfs_1, gjs, ljs, pjs, oo_h, gfh_0, gfh_1, gfh_2, pfh_1, pfh_2, n_le (show Y 0 0 < 2 ^ 31 by omega) (show e < 2 ^ 31 by omega), show ¬ Y 0 0 ≤ e by omega, r105 (show set < 2 ^ 31 by omega) (show e < 32 by omega), n_bt0, c, Bool.true_eq_false, h36, nI_add, e1]
    | false =>
      have e1 := ih Y (e + 1) set b n w be f (by omega) hs h0 hI
      rw [q159_114, if_neg (by decide)]
      simp only [q159_116, q159_117, q159_120, q159_121, q159_122, q159_125, q159_127, q159_129, q159_132, q159_143, q159_146, ↓reduceIte, ax_bV_s, ax_bI_s, ax_bJ_s, ax_bA_s, ax_bH_s, ax_bR_s, ax_bR_n, gwq_0, gwq_1, gwq_2, gwq_3, gwq_4, gwq_5, gwqT, gwqS, gwqP, gwqK, gwqZ, gw0_0, gw0_1, gw0_2, gw0_3, gw0_4, gw0_5, gw0T, gw0S, gw0P, gw0K, gw0Z, gw1_0, gw1_1, gw1_2, gw1_3, gw1_4, gw1_5, gw1T, gw1S, gw1P, gw1K, gw1Z, oo_114, gf114_0, gf114_1, gf114_2, gf114_3, gf114_4, gf114_5, pf114_5, gf114_6, gf114_7, gf114_8, gf114_9, oo_119, gf119_0, gf119_1, pf119_1, gf119_2, pf119_2, oo_130, gf130_0, gf130_1, gf130_2, pf130_2, oo_134, gf134_0, gf134_1, pf134_1, gf134_2, pf134_2, gf134_3, pf134_3, gf134_4, gf134_5, pf134_5, gf134_6, gf134_7, gf134_8, gf134_9, pf134_9, gf134_10, gf134_11, gf134_12, gf134_13, gf134_14, gf134_15, gf134_16, gi120, pi120, li120, gi131, pi131, li131, gi132, pi132, li132, gi136, pi136, li136, gi138, pi138, li138, gi139, pi139, li139, gi140, pi140, li140, gi141, pi141, li141, gi142, pi142, li142, gi144, pi144, li144, gi145, pi145, li145, gj133, pj133, lj133, gj137, pj137, lj137, gj143, pj143, lj143, gj146, pj146, lj146, gA121, gAq, oo_s, gfs_0, gfs_1, gfs_2, pfs_0, pfs_1, gjs, ljs, pjs, oo_h, gfh_0, gfh_1, gfh_2, pfh_1, pfh_2, n_le (show Y 0 0 < 2 ^ 31 by omega) (show e < 2 ^ 31 by omega), show ¬ Y 0 0 ≤ e by omega, r105 (show set < 2 ^ 31 by omega) (show e < 32 by omega), n_bt0, c, nI_add, e1]
theorem m159_l (m : Nat) : ∀ (Y : Nat → Nat → Nat) (s b n w fe ot : Nat) (be : Int32), s + m = 2 ^ Y 0 0 → n ≤ 40 → b < Y 0 0 → w ≤ 1 → ot = hom (Y 0 4) b → (be = -4 ∧ fe = 6 ∨ ∃ s0, s0 < 64 ∧ be = nI s0 ∧ fe = pop s0 ∧ pop s0 < 6) → Inv (Y 0) → Y 0 1 ≤ 9999 → ∃ y1, ax_res 159 39 [some (.ref 134), some (.int (nI b)), some (.int (nI n)), some (.int (nI w)), some (.int be), some (.int (nI s)), none, none] [] (hp X Y sc ai aj) = some (some (.int (if (sdF (stW (Y 0) b n) ot m s be fe).1 < 0 then -4 else if w = 0 then nI (sdF (stW (Y 0) b n) ot m s be fe).2 else (sdF (stW (Y 0) b n) ot m s be fe).1)), hp X (upX Y 1 y1) sc ai aj) := by
  induction m with
  | zero =>
    intro Y s b n w fe ot be hs hn hb hw hot hbe hI hm
    have h0 := hI.1
    have h64 : 2 ^ Y 0 0 ≤ 2 ^ 6 := Nat.pow_le_pow_right (by decide) h0
    refine ⟨Y 1, ?_⟩
    rw [sdF_0, upX_i]
    have hx : 2 ^ Y 0 0 ≤ s := by omega
    rcases hbe with ⟨rfl, rfl⟩ | ⟨s0, h1, rfl, rfl, h2⟩
    · simp only [q159_39, q159_41, q159_42, q159_43, q159_46, q159_47, q159_48, q159_49, q159_180, q159_182, q159_184, q159_187, q159_189, q159_206, ↓reduceIte, ax_bV_s, ax_bI_s, ax_bJ_s, ax_bA_s, ax_bH_s, ax_bR_s, ax_bR_n, gwq_0, gwq_1, gwq_2, gwq_3, gwq_4, gwq_5, gwqT, gwqS, gwqP, gwqK, gwqZ, gw0_0, gw0_1, gw0_2, gw0_3, gw0_4, gw0_5, gw0T, gw0S, gw0P, gw0K, gw0Z, gw1_0, gw1_1, gw1_2, gw1_3, gw1_4, gw1_5, gw1T, gw1S, gw1P, gw1K, gw1Z, oo_114, gf114_0, gf114_1, gf114_2, gf114_3, gf114_4, gf114_5, pf114_5, gf114_6, gf114_7, gf114_8, gf114_9, oo_119, gf119_0, gf119_1, pf119_1, gf119_2, pf119_2, oo_130, gf130_0, gf130_1, gf130_2, pf130_2, oo_134, gf134_0, gf134_1, pf134_1, gf134_2, pf134_2, gf134_3, pf134_3, gf134_4, gf134_5, pf134_5, gf134_6, gf134_7, gf134_8, gf134_9, pf134_9, gf134_10, gf134_11, gf134_12, gf134_13, gf134_14, gf134_15, gf134_16, gi120, pi120, li120, gi131, pi131, li131, gi132, pi132, li132, gi136, pi136, li136, gi138, pi138, li138, gi139, pi139, li139, gi140, pi140, li140, gi141, pi141, li141, gi142, pi142, li142, gi144, pi144, li144, gi145, pi145, li145, gj133, pj133, lj133, gj137, pj137, lj137, gj143, pj143, lj143, gj146, pj146, lj146, gA121, gAq, oo_s, gfs_0, gfs_1, gfs_2, pfs_0, pfs_1, gjs, ljs, pjs, oo_h, gfh_0, gfh_1, gfh_2, pfh_1, pfh_2, n_1shl _ (show Y 0 0 < 31 by omega), n_le (show 2 ^ Y 0 0 < 2 ^ 31 by omega) (show s < 2 ^ 31 by omega), hx, show (-4 : Int32) < 0 by decide]
    · have c1 : ¬ nI s0 = -4 := by intro e; have := (n_lt0 (a := s0) (by omega)).mp (by rw [e]; decide); exact this
      rcases (show w = 0 ∨ w = 1 by omega) with rfl | rfl
      · simp only [q159_39, q159_41, q159_42, q159_43, q159_46, q159_47, q159_48, q159_49, q159_180, q159_182, q159_184, q159_192, q159_193, q159_196, q159_198, q159_201, q159_206, ↓reduceIte, ax_bV_s, ax_bI_s, ax_bJ_s, ax_bA_s, ax_bH_s, ax_bR_s, ax_bR_n, gwq_0, gwq_1, gwq_2, gwq_3, gwq_4, gwq_5, gwqT, gwqS, gwqP, gwqK, gwqZ, gw0_0, gw0_1, gw0_2, gw0_3, gw0_4, gw0_5, gw0T, gw0S, gw0P, gw0K, gw0Z, gw1_0, gw1_1, gw1_2, gw1_3, gw1_4, gw1_5, gw1T, gw1S, gw1P, gw1K, gw1Z, oo_114, gf114_0, gf114_1, gf114_2, gf114_3, gf114_4, gf114_5, pf114_5, gf114_6, gf114_7, gf114_8, gf114_9, oo_119, gf119_0, gf119_1, pf119_1, gf119_2, pf119_2, oo_130, gf130_0, gf130_1, gf130_2, pf130_2, oo_134, gf134_0, gf134_1, pf134_1, gf134_2, pf134_2, gf134_3, pf134_3, gf134_4, gf134_5, pf134_5, gf134_6, gf134_7, gf134_8, gf134_9, pf134_9, gf134_10, gf134_11, gf134_12, gf134_13, gf134_14, gf134_15, gf134_16, gi120, pi120, li120, gi131, pi131, li131, gi132, pi132, li132, gi136, pi136, li136, gi138, pi138, li138, gi139, pi139, li139, gi140, pi140, li140, gi141, pi141, li141, gi142, pi142, li142, gi144, pi144, li144, gi145, pi145, li145, gj133, pj133, lj133, gj137, pj137, lj137, gj143, pj143, lj143, gj146, pj146, lj146, gA121, gAq, oo_s, gfs_0, gfs_1, gfs_2, pfs_0, pfs_1, gjs, ljs, pjs, oo_h, gfh_0, gfh_1, gfh_2, pfh_1, pfh_2, n_1shl _ (show Y 0 0 < 31 by omega), n_le (show 2 ^ Y 0 0 < 2 ^ 31 by omega) (show s < 2 ^ 31 by omega), hx, c1, n_z0, r106 h1, n_lt0 (show s0 < 2 ^ 31 by omega)]
      · simp only [q159_39, q159_41, q159_42, q159_43, q159_46, q159_47, q159_48, q159_49, q159_180, q159_182, q159_184, q159_192, q159_193, q159_204, q159_206, ↓reduceIte, ax_bV_s, ax_bI_s, ax_bJ_s, ax_bA_s, ax_bH_s, ax_bR_s, ax_bR_n, gwq_0, gwq_1, gwq_2, gwq_3, gwq_4, gwq_5, gwqT, gwqS, gwqP, gwqK, gwqZ, gw0_0, gw0_1, gw0_2, gw0_3, gw0_4, gw0_5, gw0T, gw0S, gw0P, gw0K, gw0Z, gw1_0, gw1_1, gw1_2, gw1_3, gw1_4, gw1_5, gw1T, gw1S, gw1P, gw1K, gw1Z, oo_114, gf114_0, gf114_1, gf114_2, gf114_3, gf114_4, gf114_5, pf114_5, gf114_6, gf114_7, gf114_8, gf114_9, oo_119, gf119_0, gf119_1, pf119_1, gf119_2, pf119_2, oo_130, gf130_0, gf130_1, gf130_2, pf130_2, oo_134, gf134_0, gf134_1, pf134_1, gf134_2, pf134_2, gf134_3, pf134_3, gf134_4, gf134_5, pf134_5, gf134_6, gf134_7, gf134_8, gf134_9, pf134_9, gf134_10, gf134_11, gf134_12, gf134_13, gf134_14, gf134_15, gf134_16, gi120, pi120, li120, gi131, pi131, li131, gi132, pi132, li132, gi136, pi136, li136, gi138, pi138, li138, gi139, pi139, li139, gi140, pi140, li140, gi141, pi141, li141, gi142, pi142, li142, gi144, pi144, li144, gi145, pi145, li145, gj133, pj133, lj133, gj137, pj137, lj137, gj143, pj143, lj143, gj146, pj146, lj146, gA121, gAq, oo_s, gfs_0, gfs_1, gfs_2, pfs_0, pfs_1, gjs, ljs, pjs, oo_h, gfh_0, gfh_1, gfh_2, pfh_1, pfh_2, n_1shl _ (show Y 0 0 < 31 by omega), n_le (show 2 ^ Y 0 0 < 2 ^ 31 by omega) (show s < 2 ^ 31 by omega), hx, c1, n_z1, n_lt0 (show s0 < 2 ^ 31 by omega), show ¬ 1 = 0 by decide]
  | succ m ih =>
    intro Y s b n w fe ot be hs hn hb hw hot hbe hI hm
    have h0 := hI.1
    have h4 := hI.h4
    have h64 : 2 ^ Y 0 0 ≤ 2 ^ 6 := Nat.pow_le_pow_right (by decide) h0
    have hx : ¬ 2 ^ Y 0 0 ≤ s := by omega
    have hs64 : s < 64 := by omega
    have hb6 : b < 6 := by omega
    have step : ∀ (y1 : Nat → Nat) (be : Int32) (fe : Nat), (be = -4 ∧ fe = 6 ∨ ∃ s0, s0 < 64 ∧ be = nI s0 ∧ fe = pop s0 ∧ pop s0 < 6) → ∃ y2, ax_res 159 39 [some (.ref 134), some (.int (nI b)), some (.int (nI n)), some (.int (nI w)), some (.int be), some (.int (nI (s + 1))), none, none] [] (hp X (upX Y 1 y1) sc ai aj) = some (some (.int (if (sdF (stW (Y 0) b n) ot m (s + 1) be fe).1 < 0 then -4 else if w = 0 then nI (sdF (stW (Y 0) b n) ot m (s + 1) be fe).2 else (sdF (stW (Y 0) b n) ot m (s + 1) be fe).1)), hp X (upX Y 1 y2) sc ai aj) := by
      intro y1 be fe hbe
      obtain ⟨y2, e⟩ := ih (upX Y 1 y1) (s + 1) b n w fe ot be (by rw [upX_n (by decide)]; omega) hn (by rw [upX_n (by decide)]; exact hb) hw (by rw [upX_n (by decide)]; exact hot) hbe (by rw [upX_n (by decide)]; exact hI) (by rw [upX_n (by decide)]; exact hm)
      rw [upX_n (show ¬ 0 = 1 by decide), upX_u] at e
      exact ⟨y2, e⟩
    have hsub := hom_b _ h4 b hb6 s hs64
    rw [← hot] at hsub
    have tailc : ∀ (hc : be = -4 ∨ pop s < fe), s &&& ot = s → pop s < fe → ∃ y1, ax_res 159 107 [some (.ref 134), some (.int (nI b)), some (.int (nI n)), some (.int (nI w)), some (.int be), some (.int (nI s)), some (.int (nI 1)), none] [] (hp X Y sc ai aj) = some (some (.int (if (sdF (stW (Y 0) b n) ot (m + 1) s be fe).1 < 0 then -4 else if w = 0 then nI (sdF (stW (Y 0) b n) ot (m + 1) s be fe).2 else (sdF (stW (Y 0) b n) ot (m + 1) s be fe).1)), hp X (upX Y 1 y1) sc ai aj) := by
      intro hc c1 c2
      have hnb : s.testBit b = false := by
        rw [decide_eq_true c1] at hsub
        cases ht : s.testBit b
        · rfl
        · rw [ht] at hsub; simp at hsub
      have hp6 := pop_b b hb6 s hs64 hnb
      have ei := m159_i (X := X) (sc := sc) (ai := ai) (aj := aj) (Y 0 0) (upX Y 1 (Y 0)) 0 s b n w be (nI 1) (by rw [upX_n (by decide)]; omega) hs64 (by rw [upX_n (by decide)]; exact h0) (by rw [upX_s]; exact hI)
      rw [upX_s, upX_u, upX_n (show ¬ 0 = 1 by decide)] at ei
      obtain ⟨g1, g2, g3⟩ := inv_snL s (Y 0 0) 0 (Y 0) hI (by omega)
      have h43 := r143 (X := X) (Y := upX Y 1 (snL s (Y 0 0) 0 (Y 0))) (sc := sc) (ai := ai) (aj := aj) (n := n) (by rw [upX_s]; exact g1) (by rw [upX_s, g3]; omega)
      rw [upX_s, upX_u] at h43
      by_cases c3 : pasN n (snL s (Y 0 0) 0 (Y 0)) 2 = b
      · obtain ⟨y2, e⟩ := step (pasN n (snL s (Y 0 0) 0 (Y 0))) (nI s) (pop s) (Or.inr ⟨s, hs64, rfl, rfl, hp6⟩)
        refine ⟨y2, ?_⟩
        rw [sdF_y ⟨c1, c2, decide_eq_true c3⟩]
        simp only [q159_107, q159_108, q159_111, q159_112, ↓reduceIte, ax_bV_s, ax_bI_s, ax_bJ_s, ax_bA_s, ax_bH_s, ax_bR_s, ax_bR_n, oo_114, gf114_0, gf114_1, gf114_2, gf114_3, gf114_4, gf114_5, pf114_5, gf114_6, gf114_7, gf114_8, gf114_9, oo_119, gf119_0, gf119_1, pf119_1, gf119_2, pf119_2, oo_130, gf130_0, gf130_1, gf130_2, pf130_2, oo_134, gf134_0, gf134_1, pf134_1, gf134_2, pf134_2, gf134_3, pf134_3, gf134_4, gf134_5, pf134_5, gf134_6, gf134_7, gf134_8, gf134_9, pf134_9, gf134_10, gf134_11, gf134_12, gf134_13, gf134_14, gf134_15, gf134_16, gi120, pi120, li120, gi131, pi131, li131, gi132, pi132, li132, gi136, pi136, li136, gi138, pi138, li138, gi139, pi139, li139, gi140, pi140, li140, gi141, pi141, li141, gi142, pi142, li142, gi144, pi144, li144, gi145, pi145, li145, gj133, pj133, lj133, gj137, pj137, lj137, gj143, pj143, lj143, gj146, pj146, lj146, gA121, gAq, oo_s, gfs_0, gfs_1, gfs_2, pfs_0, pfs_1, gjs, ljs, pjs, oo_h, gfh_0, gfh_1, gfh_2, pfh_1, pfh_2, r142, ei]
        simp only [q159_149, q159_150, q159_151, q159_154, q159_155, q159_158, q159_160, q159_161, q159_162, q159_165, q159_167, q159_170, q159_172, q159_174, q159_174b, q159_177, q159_177b, ↓reduceIte, ax_bV_s, ax_bI_s, ax_bJ_s, ax_bA_s, ax_bH_s, ax_bR_s, ax_bR_n, gwq_0, gwq_1, gwq_2, gwq_3, gwq_4, gwq_5, gwqT, gwqS, gwqP, gwqK, gwqZ, gw0_0, gw0_1, gw0_2, gw0_3, gw0_4, gw0_5, gw0T, gw0S, gw0P, gw0K, gw0Z, gw1_0, gw1_1, gw1_2, gw1_3, gw1_4, gw1_5, gw1T, gw1S, gw1P, gw1K, gw1Z, oo_114, gf114_0, gf114_1, gf114_2, gf114_3, gf114_4, gf114_5, pf114_5, gf114_6, gf114_7, gf114_8, gf114_9, oo_119, gf119_0, gf119_1, pf119_1, gf119_2, pf119_2, oo_130, gf130_0, gf130_1, gf130_2, pf130_2, oo_134, gf134_0, gf134_1, pf134_1, gf134_2, pf134_2, gf134_3, pf134_3, gf134_4, gf134_5, pf134_5, gf134_6, gf134_7, gf134_8, gf134_9, pf134_9, gf134_10, gf134_11, gf134_12, gf134_13, gf134_14, gf134_15, gf134_16, gi120, pi120, li120, gi131, pi131, li131, gi132, pi132, li132, gi136, pi136, li136, gi138, pi138, li138, gi139, pi139, li139, gi140, pi140, li140, gi141, pi141, li141, gi142, pi142, li142, gi144, pi144, li144, gi145, pi145, li145, gj133, pj133, lj133, gj137, pj137, lj137, gj143, pj143, lj143, gj146, pj146, lj146, gA121, gAq, oo_s, gfs_0, gfs_1, gfs_2, pfs_0, pfs_1, gjs, ljs, pjs, oo_h, gfh_0, gfh_1, gfh_2, pfh_1, pfh_2, h43, upX_s, sv_eq hb6, c3, nI_add, e]
      · obtain ⟨y2, e⟩ := step (pasN n (snL s (Y 0 0) 0 (Y 0))) be fe hbe
        refine ⟨y2, ?_⟩
        rw [sdF_n (fun h => c3 (of_decide_eq_true h.2.2))]
        simp only [q159_107, q159_108, q159_111, q159_112, ↓reduceIte, ax_bV_s, ax_bI_s, ax_bJ_s, ax_bA_s, ax_bH_s, ax_bR_s, ax_bR_n, oo_114, gf114_0, gf114_1, gf114_2, gf114_3, gf114_4, gf114_5, pf114_5, gf114_6, gf114_7, gf114_8, gf114_9, oo_119, gf119_0, gf119_1, pf119_1, gf119_2, pf119_2, oo_130, gf130_0, gf130_1, gf130_2, pf130_2, oo_134, gf134_0, gf134_1, pf134_1, gf134_2, pf134_2, gf134_3, pf134_3, gf134_4, gf134_5, pf134_5, gf134_6, gf134_7, gf134_8, gf134_9, pf134_9, gf134_10, gf134_11, gf134_12, gf134_13, gf134_14, gf134_15, gf134_16, gi120, pi120, li120, gi131, pi131, li131, gi132, pi132, li132, gi136, pi136, li136, gi138, pi138, li138, gi139, pi139, li139, gi140, pi140, li140, gi141, pi141, li141, gi142, pi142, li142, gi144, pi144, li144, gi145, pi145, li145, gj133, pj133, lj133, gj137, pj137, lj137, gj143, pj143, lj143, gj146, pj146, lj146, gA121, gAq, oo_s, gfs_0, gfs_1, gfs_2, pfs_0, pfs_1, gjs, ljs, pjs, oo_h, gfh_0, gfh_1, gfh_2, pfh_1, pfh_2, r142, ei]
        simp only [q159_149, q159_150, q159_151, q159_154, q159_155, q159_158, q159_160, q159_161, q159_162, q159_165, q159_167, q159_170, q159_172, q159_174, q159_174b, q159_177, q159_177b, ↓reduceIte, ax_bV_s, ax_bI_s, ax_bJ_s, ax_bA_s, ax_bH_s, ax_bR_s, ax_bR_n, gwq_0, gwq_1, gwq_2, gwq_3, gwq_4, gwq_5, gwqT, gwqS, gwqP, gwqK, gwqZ, gw0_0, gw0_1, gw0_2, gw0_3, gw0_4, gw0_5, gw0T, gw0S, gw0P, gw0K, gw0Z, gw1_0, gw1_1, gw1_2, gw1_3, gw1_4, gw1_5, gw1T, gw1S, gw1P, gw1K, gw1Z, oo_114, gf114_0, gf114_1, gf114_2, gf114_3, gf114_4, gf114_5, pf114_5, gf114_6, gf114_7, gf114_8, gf114_9, oo_119, gf119_0, gf119_1, pf119_1, gf119_2, pf119_2, oo_130, gf130_0, gf130_1, gf130_2, pf130_2, oo_134, gf134_0, gf134_1, pf134_1, gf134_2, pf134_2, gf134_3, pf134_3, gf134_4, gf134_5, pf134_5, gf134_6, gf134_7, gf134_8, gf134_9, pf134_9, gf134_10, gf134_11, gf134_12, gf134_13, gf134_14, gf134_15, gf134_16, gi120, pi120, li120, gi131, pi131, li131, gi132, pi132, li132, gi136, pi136, li136, gi138, pi138, li138, gi139, pi139, li139, gi140, pi140, li140, gi141, pi141, li141, gi142, pi142, li142, gi144, pi144, li144, gi145, pi145, li145, gj133, pj133, lj133, gj137, pj137, lj137, gj143, pj143, lj143, gj146, pj146, lj146, gA121, gAq, oo_s, gfs_0, gfs_1, gfs_2, pfs_0, pfs_1, gjs, ljs, pjs, oo_h, gfh_0, gfh_1, gfh_2, pfh_1, pfh_2, h43, upX_s, sv_eq hb6, c3, nI_add, e]
    have hbt : ∀ (y : Nat → Nat → Nat), y = Y → True := fun _ _ => trivial
    by_cases c1 : s &&& ot = s
    · rw [decide_eq_true c1] at hsub
      have hnb : s.testBit b = false := by
        cases ht : s.testBit b
        · rfl
        · rw [ht] at hsub; simp at hsub
      have hsh : s &&& Y 0 4 = s := by
        rw [hnb] at hsub
        exact of_decide_eq_true (by simpa using hsub.symm)
      have hp6 := pop_b b hb6 s hs64 hnb
      rcases hbe with ⟨rfl, rfl⟩ | ⟨s0, k1, rfl, rfl, k2⟩
      · obtain ⟨y2, e⟩ := tailc (Or.inl rfl) c1 hp6
        refine ⟨y2, ?_⟩
        rw [q159_39]
        simp only [q159_41, q159_42, q159_43, q159_46, q159_47, q159_48, q159_49, q159_52, q159_54, q159_55, q159_58, q159_61, q159_63, q159_64, q159_67, q159_68, q159_69, q159_70, q159_71, q159_72, q159_75, q159_76, q159_80, q159_82, q159_84, q159_87, q159_89, q159_91, ↓reduceIte, ax_bV_s, ax_bI_s, ax_bJ_s, ax_bA_s, ax_bH_s, ax_bR_s, ax_bR_n, gwq_0, gwq_1, gwq_2, gwq_3, gwq_4, gwq_5, gwqT, gwqS, gwqP, gwqK, gwqZ, gw0_0, gw0_1, gw0_2, gw0_3, gw0_4, gw0_5, gw0T, gw0S, gw0P, gw0K, gw0Z, gw1_0, gw1_1, gw1_2, gw1_3, gw1_4, gw1_5, gw1T, gw1S, gw1P, gw1K, gw1Z, oo_114, gf114_0, gf114_1, gf114_2, gf114_3, gf114_4, gf114_5, pf114_5, gf114_6, gf114_7, gf114_8, gf114_9, oo_119, gf119_0, gf119_1, pf119_1, gf119_2, pf119_2, oo_130, gf130_0, gf130_1, gf130_2, pf130_2, oo_134, gf134_0, gf134_1, pf134_1, gf134_2, pf134_2, gf134_3, pf134_3, gf134_4, gf134_5, pf134_5, gf134_6, gf134_7, gf134_8, gf134_9, pf134_9, gf134_10, gf134_11, gf134_12, gf134_13, gf134_14, gf134_15, gf134_16, gi120, pi120, li120, gi131, pi131, li131, gi132, pi132, li132, gi136, pi136, li136, gi138, pi138, li138, gi139, pi139, li139, gi140, pi140, li140, gi141, pi141, li141, gi142, pi142, li142, gi144, pi144, li144, gi145, pi145, li145, gj133, pj133, lj133, gj137, pj137, lj137, gj143, pj143, lj143, gj146, pj146, lj146, gA121, gAq, oo_s, gfs_0, gfs_1, gfs_2, pfs_0, pfs_1, gjs, ljs, pjs, oo_h, gfh_0, gfh_1, gfh_2, pfh_1, pfh_2, n_1shl _ (show Y 0 0 < 31 by omega), n_le (show 2 ^ Y 0 0 < 2 ^ 31 by omega) (show s < 2 ^ 31 by omega), hx, r105 (show s < 2 ^ 31 by omega) (show b < 32 by omega), n_bt0, hnb, sub_i hs64 h4, hsh, n_z1, e]
      · have c0 : ¬ nI s0 = -4 := by intro e; have := (n_lt0 (a := s0) (by omega)).mp (by rw [e]; decide); exact this
        by_cases c2 : pop s < pop s0
        · obtain ⟨y2, e⟩ := tailc (Or.inr c2) c1 c2
          refine ⟨y2, ?_⟩
          rw [q159_39]
          simp only [q159_41, q159_42, q159_43, q159_46, q159_47, q159_48, q159_49, q159_52, q159_54, q159_55, q159_58, q159_61, q159_63, q159_64, q159_67, q159_68, q159_69, q159_70, q159_71, q159_72, q159_75, q159_76, q159_80, q159_82, q159_84, q159_87, q159_89, q159_91, q159_94, q159_96, q159_99, q159_101, q159_104, ↓reduceIte, ax_bV_s, ax_bI_s, ax_bJ_s, ax_bA_s, ax_bH_s, ax_bR_s, ax_bR_n, gwq_0, gwq_1, gwq_2, gwq_3, gwq_4, gwq_5, gwqT, gwqS, gwqP, gwqK, gwqZ, gw0_0, gw0_1, gw0_2, gw0_3, gw0_4, gw0_5, gw0T, gw0S, gw0P, gw0K, gw0Z, gw1_0, gw1_1, gw1_2, gw1_3, gw1_4, gw1_5, gw1T, gw1S, gw1P, gw1K, gw1Z, oo_114, gf114_0, gf114_1, gf114_2, gf114_3, gf114_4, gf114_5, pf114_5, gf114_6, gf114_7, gf114_8, gf114_9, oo_119, gf119_0, gf119_1, pf119_1, gf119_2, pf119_2, oo_130, gf130_0, gf130_1, gf130_2, pf130_2, oo_134, gf134_0, gf134_1, pf134_1, gf134_2, pf134_2, gf134_3, pf134_3, gf134_4, gf134_5, pf134_5, gf134_6, gf134_7, gf134_8, gf134_9, pf134_9, gf134_10, gf134_11, gf134_12, gf134_13, gf134_14, gf134_15, gf134_16, gi120, pi120, li120, gi131, pi131, li131, gi132, pi132, li132, gi136, pi136, li136, gi138, pi138, li138, gi139, pi139, li139, gi140, pi140, li140, gi141, pi141, li141, gi142, pi142, li142, gi144, pi144, li144, gi145, pi145, li145, gj133, pj133, lj133, gj137, pj137, lj137, gj143, pj143, lj143, gj146, pj146, lj146, gA121, gAq, oo_s, gfs_0, gfs_1, gfs_2, pfs_0, pfs_1, gjs, ljs, pjs, oo_h, gfh_0, gfh_1, gfh_2, pfh_1, pfh_2, n_1shl _ (show Y 0 0 < 31 by omega), n_le (show 2 ^ Y 0 0 < 2 ^ 31 by omega) (show s < 2 ^ 31 by omega), hx, r105 (show s < 2 ^ 31 by omega) (show b < 32 by omega), n_bt0, hnb, sub_i hs64 h4, hsh, n_z1, c0, r106 hs64, r106 k1, n_le (show pop s0 < 2 ^ 31 by omega) (show pop s < 2 ^ 31 by omega), show ¬ pop s0 ≤ pop s by omega, e]
        · obtain ⟨y2, e⟩ := step (Y 1) (nI s0) (pop s0) (Or.inr ⟨s0, k1, rfl, rfl, k2⟩)
          rw [upX_i] at e
          refine ⟨y2, ?_⟩
          rw [q159_39, sdF_n (fun h => c2 h.2.1)]
          simp only [q159_41, q159_42, q159_43, q159_46, q159_47, q159_48, q159_49, q159_52, q159_54, q159_55, q159_58, q159_61, q159_63, q159_64, q159_67, q159_68, q159_69, q159_70, q159_71, q159_72, q159_75, q159_76, q159_80, q159_82, q159_84, q159_87, q159_89, q159_91, q159_94, q159_96, q159_99, q159_101, q159_104, q159_174, q159_174b, q159_177, q159_177b, ↓reduceIte, ax_bV_s, ax_bI_s, ax_bJ_s, ax_bA_s, ax_bH_s, ax_bR_s, ax_bR_n, gwq_0, gwq_1, gwq_2, gwq_3, gwq_4, gwq_5, gwqT, gwqS, gwqP, gwqK, gwqZ, gw0_0, gw0_1, gw0_2, gw0_3, gw0_4, gw0_5, gw0T, gw0S, gw0P, gw0K, gw0Z, gw1_0, gw1_1, gw1_2, gw1_3, gw1_4, gw1_5, gw1T, gw1S, gw1P, gw1K, gw1Z, oo_114, gf114_0, gf114_1, gf114_2, gf114_3, gf114_4, gf114_5, pf114_5, gf114_6, gf114_7, gf114_8, gf114_9, oo_119, gf119_0, gf119_1, pf119_1, gf119_2, pf119_2, oo_130, gf130_0, gf130_1, gf130_2, pf130_2, oo_134, gf134_0, gf134_1, pf134_1, gf134_2, pf134_2, gf134_3, pf134_3, gf134_4, gf134_5, pf134_5, gf134_6, gf134_7, gf134_8, gf134_9, pf134_9, gf134_10, gf134_11, gf134_12, gf134_13, gf134_14, gf134_15, gf134_16, gi120, pi120, li120, gi131, pi131, li131, gi132, pi132, li132, gi136, pi136, li136, gi138, pi138, li138, gi139, pi139, li139, gi140, pi140, li140, gi141, pi141, li141, gi142, pi142, li142, gi144, pi144, li144, gi145, pi145, li145, gj133, pj133, lj133, gj137, pj137, lj137, gj143, pj143, lj143, gj146, pj146, lj146, gA121, gAq, oo_s, gfs_0, gfs_1, gfs_2, pfs_0, pfs_1, gjs, ljs, pjs, oo_h, gfh_0, gfh_1, gfh_2, pfh_1, pfh_2, n_1shl _ (show Y 0 0 < 31 by omega), n_le (show 2 ^ Y 0 0 < 2 ^ 31 by omega) (show s < 2 ^ 31 by omega), hx, r105 (show s < 2 ^ 31 by omega) (show b < 32 by omega), n_bt0, hnb, sub_i hs64 h4, hsh, n_z1, c0, r106 hs64, r106 k1, n_le (show pop s0 < 2 ^ 31 by omega) (show pop s < 2 ^ 31 by omega), show pop s0 ≤ pop s by omega, nI_add, e]
    · rw [decide_eq_false c1] at hsub
      obtain ⟨y2, e⟩ := step (Y 1) be fe hbe
      rw [upX_i] at e
      refine ⟨y2, ?_⟩
      rw [q159_39, sdF_n (fun h => c1 h.1)]
      cases hnb : s.testBit b with
      | true =>
        simp only [q159_41, q159_42, q159_43, q159_46, q159_47, q159_48, q159_49, q159_52, q159_54, q159_55, q159_58, q159_79, q159_80, q159_82, q159_84, q159_174, q159_174b, q159_177, q159_177b, ↓reduceIte, ax_bV_s, ax_bI_s, ax_bJ_s, ax_bA_s, ax_bH_s, ax_bR_s, ax_bR_n, gwq_0, gwq_1, gwq_2, gwq_3, gwq_4, gwq_5, gwqT, gwqS, gwqP, gwqK, gwqZ, gw0_0, gw0_1, gw0_2, gw0_3, gw0_4, gw0_5, gw0T, gw0S, gw0P, gw0K, gw0Z, gw1_0, gw1_1, gw1_2, gw1_3, gw1_4, gw1_5, gw1T, gw1S, gw1P, gw1K, gw1Z, oo_114, gf114_0, gf114_1, gf114_2, gf114_3, gf114_4, gf114_5, pf114_5, gf114_6, gf114_7, gf114_8, gf114_9, oo_119, gf119_0, gf119_1, pf119_1, gf119_2, pf119_2, oo_130, gf130_0, gf130_1, gf130_2, pf130_2, oo_134, gf134_0, gf134_1, pf134_1, gf134_2, pf134_2, gf134_3, pf134_3, gf134_4, gf134_5, pf134_5, gf134_6, gf134_7, gf134_8, gf134_9, pf134_9, gf134_10, gf134_11, gf134_12, gf134_13, gf134_14, gf134_15, gf134_16, gi120, pi120, li120, gi131, pi131, li131, gi132, pi132, li132, gi136, pi136, li136, gi138, pi138, li138, gi139, pi139, li139, gi140, pi140, li140, gi141, pi141, li141, gi142, pi142, li142, gi144, pi144, li144, gi145, pi145, li145, gj133, pj133, lj133, gj137, pj137, lj137, gj143, pj143, lj143, gj146, pj146, lj146, gA121, gAq, oo_s, gfs_0, gfs_1, gfs_2, pfs_0, pfs_1, gjs, ljs, pjs, oo_h, gfh_0, gfh_1, gfh_2, pfh_1, pfh_2, n_1shl _ (show Y 0 0 < 31 by omega), n_le (show 2 ^ Y 0 0 < 2 ^ 31 by omega) (show s < 2 ^ 31 by omega), hx, r105 (show s < 2 ^ 31 by omega) (show b < 32 by omega), n_bt0, hnb, Bool.true_eq_false, n_z0, nI_add, e]
      | false =>
        have hsh : ¬ s &&& Y 0 4 = s := by
          rw [hnb] at hsub
          exact of_decide_eq_false (by simpa using hsub.symm)
        simp only [q159_41, q159_42, q159_43, q159_46, q159_47, q159_48, q159_49, q159_52, q159_54, q159_55, q159_58, q159_61, q159_63, q159_64, q159_67, q159_68, q159_69, q159_70, q159_71, q159_72, q159_79, q159_80, q159_82, q159_84, q159_174, q159_174b, q159_177, q159_177b, ↓reduceIte, ax_bV_s, ax_bI_s, ax_bJ_s, ax_bA_s, ax_bH_s, ax_bR_s, ax_bR_n, gwq_0, gwq_1, gwq_2, gwq_3, gwq_4, gwq_5, gwqT, gwqS, gwqP, gwqK, gwqZ, gw0_0, gw0_1, gw0_2, gw0_3, gw0_4, gw0_5, gw0T, gw0S, gw0P, gw0K, gw0Z, gw1_0, gw1_1, gw1_2, gw1_3, gw1_4, gw1_5, gw1T, gw1S, gw1P, gw1K, gw1Z, oo_114, gf114_0, gf114_1, gf114_2, gf114_3, gf114_4, gf114_5, pf114_5, gf114_6, gf114_7, gf114_8, gf114_9, oo_119, gf119_0, gf119_1, pf119_1, gf119_2, pf119_2, oo_130, gf130_0, gf130_1, gf130_2, pf130_2, oo_134, gf134_0, gf134_1, pf134_1, gf134_2, pf134_2, gf134_3, pf134_3, gf134_4, gf134_5, pf134_5, gf134_6, gf134_7, gf134_8, gf134_9, pf134_9, gf134_10, gf134_11, gf134_12, gf134_13, gf134_14, gf134_15, gf134_16, gi120, pi120, li120, gi131, pi131, li131, gi132, pi132, li132, gi136, pi136, li136, gi138, pi138, li138, gi139, pi139, li139, gi140, pi140, li140, gi141, pi141, li141, gi142, pi142, li142, gi144, pi144, li144, gi145, pi145, li145, gj133, pj133, lj133, gj137, pj137, lj137, gj143, pj143, lj143, gj146, pj146, lj146, gA121, gAq, oo_s, gfs_0, gfs_1, gfs_2, pfs_0, pfs_1, gjs, ljs, pjs, oo_h, gfh_0, gfh_1, gfh_2, pfh_1, pfh_2, n_1shl _ (show Y 0 0 < 31 by omega), n_le (show 2 ^ Y 0 0 < 2 ^ 31 by omega) (show s < 2 ^ 31 by omega), hx, r105 (show s < 2 ^ 31 by omega) (show b < 32 by omega), n_bt0, hnb, sub_i hs64 h4, hsh, n_z0, nI_add, e]
theorem m159_bad {b n w : Int32} (hI : Inv (Y 0)) (h : (isB b (Y 0 0) && (isI n 0 40 && isI w 0 1)) = false) : ax_res 159 0 [some (.ref 134), some (.int b), some (.int n), some (.int w), none, none, none, none] [] (hp X Y sc ai aj) = some (some (.int (-1)), hp X Y sc ai aj) := by
  simp only [q159_0, q159_1, q159_2, q159_5, q159_8, q159_9, q159_10, q159_11, q159_14, q159_17, q159_20, q159_21, q159_22, q159_23, q159_24, q159_27, q159_30, q159_31, ↓reduceIte, ax_bV_s, ax_bI_s, ax_bJ_s, ax_bA_s, ax_bH_s, ax_bR_s, ax_bR_n, oo_114, gf114_0, gf114_1, gf114_2, gf114_3, gf114_4, gf114_5, pf114_5, gf114_6, gf114_7, gf114_8, gf114_9, oo_119, gf119_0, gf119_1, pf119_1, gf119_2, pf119_2, oo_130, gf130_0, gf130_1, gf130_2, pf130_2, oo_134, gf134_0, gf134_1, pf134_1, gf134_2, pf134_2, gf134_3, pf134_3, gf134_4, gf134_5, pf134_5, gf134_6, gf134_7, gf134_8, gf134_9, pf134_9, gf134_10, gf134_11, gf134_12, gf134_13, gf134_14, gf134_15, gf134_16, gi120, pi120, li120, gi131, pi131, li131, gi132, pi132, li132, gi136, pi136, li136, gi138, pi138, li138, gi139, pi139, li139, gi140, pi140, li140, gi141, pi141, li141, gi142, pi142, li142, gi144, pi144, li144, gi145, pi145, li145, gj133, pj133, lj133, gj137, pj137, lj137, gj143, pj143, lj143, gj146, pj146, lj146, gA121, gAq, oo_s, gfs_0, gfs_1, gfs_2, pfs_0, pfs_1, gjs, ljs, pjs, oo_h, gfh_0, gfh_1, gfh_2, pfh_1, pfh_2, r108 hI.1, r104I (show 0 < 2 ^ 31 by decide) (show 40 < 2 ^ 31 by decide), r104I (show 0 < 2 ^ 31 by decide) (show 1 < 2 ^ 31 by decide), n_bn0]
  revert h
  cases isB b (Y 0 0) <;> cases isI n 0 40 <;> cases isI w 0 1 <;> simp
theorem m159_ok {b n w : Nat} (hI : Inv (Y 0)) (hm : Y 0 1 ≤ 9999) (hb : b < Y 0 0) (hn : n ≤ 40) (hw : w ≤ 1) : ∃ y1, ax_res 159 0 [some (.ref 134), some (.int (nI b)), some (.int (nI n)), some (.int (nI w)), none, none, none, none] [] (hp X Y sc ai aj) = some (some (.int (sdA (Y 0) b n w)), hp X (upX Y 1 y1) sc ai aj) := by
  have h0 := hI.1
  have hlt := hom_lt _ h0 _ hI.2.2.2.1 b (by omega)
  obtain ⟨y1, e⟩ := m159_l (X := X) (sc := sc) (ai := ai) (aj := aj) (2 ^ Y 0 0) Y 0 b n w 6 (hom (Y 0 4) b) (-4) (by omega) hn hb hw rfl (Or.inl ⟨rfl, rfl⟩) hI hm
  have em := sdF_more (W := stW (Y 0) b n) (ot := hom (Y 0 4) b) (hom (Y 0 4) b + 1) (2 ^ Y 0 0 - (hom (Y 0 4) b + 1)) 0 6 (-4) (by omega)
  rw [show hom (Y 0 4) b + 1 + (2 ^ Y 0 0 - (hom (Y 0 4) b + 1)) = 2 ^ Y 0 0 by omega] at em
  rw [em] at e
  refine ⟨y1, ?_⟩
  simp only [q159_0, q159_1, q159_2, q159_5, q159_8, q159_9, q159_10, q159_11, q159_14, q159_17, q159_20, q159_21, q159_22, q159_23, q159_24, q159_27, q159_32, q159_34, q159_36, q159_37, ↓reduceIte, ax_bV_s, ax_bI_s, ax_bJ_s, ax_bA_s, ax_bH_s, ax_bR_s, ax_bR_n, oo_114, gf114_0, gf114_1, gf114_2, gf114_3, gf114_4, gf114_5, pf114_5, gf114_6, gf114_7, gf114_8, gf114_9, oo_119, gf119_0, gf119_1, pf119_1, gf119_2, pf119_2, oo_130, gf130_0, gf130_1, gf130_2, pf130_2, oo_134, gf134_0, gf134_1, pf134_1, gf134_2, pf134_2, gf134_3, pf134_3, gf134_4, gf134_5, pf134_5, gf134_6, gf134_7, gf134_8, gf134_9, pf134_9, gf134_10, gf134_11, gf134_12, gf134_13, gf134_14, gf134_15, gf134_16, gi120, pi120, li120, gi131, pi131, li131, gi132, pi132, li132, gi136, pi136, li136, gi138, pi138, li138, gi139, pi139, li139, gi140, pi140, li140, gi141, pi141, li141, gi142, pi142, li142, gi144, pi144, li144, gi145, pi145, li145, gj133, pj133, lj133, gj137, pj137, lj137, gj143, pj143, lj143, gj146, pj146, lj146, gA121, gAq, oo_s, gfs_0, gfs_1, gfs_2, pfs_0, pfs_1, gjs, ljs, pjs, oo_h, gfh_0, gfh_1, gfh_2, pfh_1, pfh_2, r108 h0, isB_t (show Y 0 0 ≤ 1000 by omega) hb, r104I (show 0 < 2 ^ 31 by decide) (show 40 < 2 ^ 31 by decide), isI_nI (show n < 2 ^ 31 by omega) (Nat.zero_le n) hn, r104I (show 0 < 2 ^ 31 by decide) (show 1 < 2 ^ 31 by decide), isI_nI (show w < 2 ^ 31 by omega) (Nat.zero_le w) hw, n_bn0, Bool.true_eq_false, e]
  rfl
end SD
