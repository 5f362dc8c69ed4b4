/-! ===== pay, learn, type ===== -/
def pyF (b n : Nat) (x : Nat → Nat) : Nat → Nat → Int32
  | 0, _ => -4
  | m + 1, p => if pasN n (up1 x (30 + b) p) 2 = b then nI p else pyF b n x m (p + 1)
theorem pyF_0 {b n : Nat} {x : Nat → Nat} {p : Nat} : pyF b n x 0 p = -4 := by rw [pyF]
theorem pyF_s {b n : Nat} {x : Nat → Nat} {m p : Nat} : pyF b n x (m + 1) p = if pasN n (up1 x (30 + b) p) 2 = b then nI p else pyF b n x m (p + 1) := by rw [pyF]
/-- alike but for what was seen before -/
def Sf (d : Nat → Nat) (x y : Nat → Nat) : Prop := (∀ i, ¬ (12 ≤ i ∧ i < 18) → x i = y i) ∧ ∀ b, b < 6 → x (12 + b) = y (12 + b) + d b
theorem sf_fgt (x : Nat → Nat) : Sf (fun b => x (12 + b)) x (fgt x) := by
  refine ⟨fun i hi => ?_, fun b hb => ?_⟩
  · unfold fgt; rw [if_neg hi]
  · unfold fgt; rw [if_pos (by omega)]; simp
theorem sf_oust {d x y : Nat → Nat} (h : Sf d x y) {b s t : Nat} (hb : b < 6) (hs : s < 6) : oust x b s t = oust y b s t := by
  unfold oust
  rw [h.1 (24 + b) (by omega), h.1 (6 + b) (by omega), h.1 (6 + s) (by omega), h.1 1 (by omega), h.1 (30 + b) (by omega), h.1 (30 + s) (by omega)]
theorem sf_may {d x y : Nat → Nat} (h : Sf d x y) {b : Nat} (hb : b < 6) : may x b = may y b := by
  unfold may
  by_cases c : x 2 < 6
  · rw [sf_oust h hb c, h.1 4 (by omega), h.1 2 (by omega), h.1 3 (by omega)]
  · have c' : ¬ y 2 < 6 := by rw [← h.1 2 (by omega)]; exact c
    rw [h.1 4 (by omega), h.1 2 (by omega)]
    simp [c']
theorem sf_trn {d x y : Nat → Nat} (h : Sf d x y) (h0 : x 0 ≤ 6) : trn x = trn y := by
  unfold trn
  rw [← h.1 0 (by omega), ← h.1 1 (by omega)]
  by_cases c : x 0 = 0
  · rw [if_pos c, if_pos c]
  · rw [if_neg c, if_neg c, h.1 _ (by omega)]
theorem sf_up {d x y : Nat → Nat} (h : Sf d x y) {i v : Nat} (hi : ¬ (12 ≤ i ∧ i < 18)) : Sf d (up1 x i v) (up1 y i v) := by
  refine ⟨fun k hk => ?_, fun b hb => ?_⟩
  · unfold up1
    by_cases c : k = i
    · rw [if_pos c, if_pos c]
    · rw [if_neg c, if_neg c]; exact h.1 k hk
  · rw [up1_n (by omega), up1_n (by omega)]; exact h.2 b hb
theorem sf_sit {d x y : Nat → Nat} (h : Sf d x y) {b : Nat} (hb : b < 6) : Sf d (sit x b) (sit y b) := by
  unfold sit
  rw [← h.1 2 (by omega), ← h.1 (6 + b) (by omega)]
  by_cases c : x 2 < 6
  · rw [if_pos c, if_pos c, ← h.1 (6 + x 2) (by omega)]
    exact sf_up (sf_up (sf_up h (by omega)) (by omega)) (by omega)
  · rw [if_neg c, if_neg c]
    exact sf_up (sf_up h (by omega)) (by omega)
theorem sf_see {d x y : Nat → Nat} (h : Sf d x y) {s : Nat} (hs : s < 6) : Sf d (up1 x (12 + s) (x (12 + s) + 1)) (up1 y (12 + s) (y (12 + s) + 1)) := by
  refine ⟨fun k hk => ?_, fun b hb => ?_⟩
  · rw [up1_n (by omega), up1_n (by omega)]; exact h.1 k hk
  · by_cases c : b = s
    · subst c; rw [up1_s, up1_s, h.2 b hb]; omega
    · rw [up1_n (by omega), up1_n (by omega)]; exact h.2 b hb
theorem sf_tick {d x y : Nat → Nat} (h : Sf d x y) : Sf d (tick x) (tick y) := by
  unfold tick
  rw [← h.1 2 (by omega), ← h.1 1 (by omega), ← h.1 3 (by omega)]
  by_cases c : x 2 < 6
  · rw [if_pos c, if_pos c]
    exact sf_up (sf_up (sf_see h c) (by omega)) (by omega)
  · rw [if_neg c, if_neg c]
    exact sf_up h (by omega)
theorem sf_pas {d x y : Nat → Nat} (h : Sf d x y) (h0 : x 0 ≤ 6) (m : Bool) : Sf d (pas x m) (pas y m) := by
  unfold pas
  rw [← sf_trn h h0]
  by_cases c : trn x < 6
  · rw [← sf_may h c]
    split
    · exact sf_tick (sf_sit h c)
    · exact sf_tick h
  · rw [if_neg (by simp [c]), if_neg (by simp [c])]
    exact sf_tick h
theorem sf_pasN {d : Nat → Nat} (n : Nat) : ∀ {x y : Nat → Nat}, Sf d x y → Inv x → Sf d (pasN n x) (pasN n y) := by
  induction n with
  | zero => intro x y h _; exact h
  | succ n ih => intro x y h hI; exact ih (sf_pas h hI.1 false) (inv_pas hI).1
theorem inv_fgt {x : Nat → Nat} (h : Inv x) : Inv (fgt x) := by
  have h0 := h.1
  have e : ∀ i, ¬ (12 ≤ i ∧ i < 18) → fgt x i = x i := fun i hi => if_neg hi
  refine inv_same h (e 0 (by omega)) (e 1 (by omega)) ?_ ?_ ?_ ?_ (fun c hc => ?_)
  · rw [e 2 (by omega)]; exact h.2.1
  · rw [e 3 (by omega)]; exact h.2.2.1
  · rw [e 4 (by omega)]; exact h.2.2.2.1
  · rw [e 5 (by omega)]; exact h.2.2.2.2.1
  · have g := h.2.2.2.2.2 c hc
    rw [e (6 + c) (by omega), e (18 + c) (by omega), e (24 + c) (by omega), e (30 + c) (by omega)]
    refine ⟨g.1, ?_, g.2.2⟩
    unfold fgt; rw [if_pos (by omega)]; omega
/-- what one sees in n minutes -/
theorem gain {x : Nat → Nat} (hI : Inv x) {n b : Nat} (hb : b < 6) : pasN n x (12 + b) = pasN n (fgt x) (12 + b) + x (12 + b) := (sf_pasN n (sf_fgt x) hI).2 b hb
theorem fgt_tea {x : Nat → Nat} {b k : Nat} (hb : b < 6) : fgt (tea x b k) = tea (fgt x) b k := by
  have e : fgt x (6 + b) = x (6 + b) := if_neg (by omega)
  unfold tea
  rw [e]
  funext i
  unfold fgt up1
  by_cases c : i = 6 + b
  · rw [if_neg (by omega), if_pos c, if_pos c]
  · rw [if_neg c, if_neg c]
def lrF (b n : Nat) (x : Nat → Nat) : Nat → Nat → Int32 → Int32 → Int32 × Int32
  | 0, _, be, mo => (be, mo)
  | m + 1, k, be, mo => if (x (6 + b)).testBit k = true then lrF b n x m (k + 1) be mo else if nI (pasN n (tea (fgt x) b k) (12 + b)) ≤ mo then lrF b n x m (k + 1) be mo else lrF b n x m (k + 1) (nI k) (nI (pasN n (tea (fgt x) b k) (12 + b)))
theorem lrF_0 {b n : Nat} {x : Nat → Nat} {k : Nat} {be mo : Int32} : lrF b n x 0 k be mo = (be, mo) := by rw [lrF]
theorem lrF_s {b n : Nat} {x : Nat → Nat} {m k : Nat} {be mo : Int32} : lrF b n x (m + 1) k be mo = if (x (6 + b)).testBit k = true then lrF b n x m (k + 1) be mo else if nI (pasN n (tea (fgt x) b k) (12 + b)) ≤ mo then lrF b n x m (k + 1) be mo else lrF b n x m (k + 1) (nI k) (nI (pasN n (tea (fgt x) b k) (12 + b))) := by rw [lrF]
theorem nar_c : ∀ k, k < 127 → vp_nar .char ((nI k).toUInt32 % 65536).toInt32 = nI k := by decide +kernel
section PY
variable {X Y : Nat → Nat → Nat} {sc : Nat → Nat → Int32} {ai : Nat → Nat → Int32} {aj : Nat → Nat → Int64}
theorem s70_l (m : Nat) : ∀ (X : Nat → Nat → Nat) (p b n : Nat), p + m = 100 → n ≤ 40 → b < X 0 0 → Inv (X 0) → X 0 1 ≤ 9999 → ∃ x1, ax_res 70 22 [some (.ref 114), some (.int (nI b)), some (.int (nI n)), some (.int (nI p))] [] (hp X Y sc ai aj) = some (some (.int (pyF b n (X 0) m p)), hp (upX X 1 x1) Y sc ai aj) := by
  induction m with
  | zero =>
    intro X p b n hpm hn hb hI hm
    refine ⟨X 1, ?_⟩
    simp only [q70_22, q70_23, q70_25, q70_69, q70_71, ↓reduceIte, ax_bV_s, ax_bI_s, ax_bJ_s, ax_bA_s, ax_bH_s, ax_bR_s, ax_bR_n, n_lt (show 99 < 2 ^ 31 by decide) (show p < 2 ^ 31 by omega), show 99 < p by omega, pyF_0, upX_i]
  | succ m ih =>
    intro X p b n hpm hn hb hI hm
    have h0 := hI.1
    have hb6 : b < 6 := by omega
    have h27 := r27 (X := upX X 1 (up1 (X 0) (30 + b) p)) (Y := Y) (sc := sc) (ai := ai) (aj := aj) (n := n) j1 (by rw [upX_s]; exact inv_up30 hI hb (by omega)) (by rw [upX_s, up1_n (by omega)]; omega)
    rw [upX_s, upX_u] at h27
    by_cases c : pasN n (up1 (X 0) (30 + b) p) 2 = b
    · refine ⟨pasN n (up1 (X 0) (30 + b) p), ?_⟩
      rw [q70_22]
      simp only [q70_0, q70_1, q70_2, q70_5, q70_8, q70_9, q70_10, q70_12, q70_15, q70_18, q70_19, q70_20, q70_21, q70_23, q70_25, q70_28, q70_29, q70_32, q70_33, q70_36, q70_39, q70_40, q70_41, q70_42, q70_43, q70_46, q70_47, q70_50, q70_51, q70_54, q70_57, q70_58, q70_61, q70_62, q70_63, q70_66, q70_69, q70_71, ↓reduceIte, ax_bV_s, ax_bI_s, ax_bJ_s, ax_bA_s, ax_bH_s, ax_bR_s, ax_bR_n, gh_people, gh_here, gh_sat, gh_minute, gh_draw, gh_sitter, gh_kinds, gh_prices, gh_known, gh_sights, gh_places, ga_kinds, ga_prices, ga_known, ga_sights, ga_places, oh, ph_people, ph_here, ph_sat, ph_minute, ph_draw, ph_sitter, ph_nobody, pa_kinds, pa_prices, pa_known, pa_sights, pa_places, upX_s, upX_u, oo_114, gf114_0, gf114_1, gf114_2, gf114_3, gf114_4, gf114_5, pf114_5, gf114_6, gf114_7, gf114_8, gf114_9, oo_119, gf119_0, gf119_1, pf119_1, gf119_2, pf119_2, oo_130, gf130_0, gf130_1, gf130_2, pf130_2, oo_134, gf134_0, gf134_1, pf134_1, gf134_2, pf134_2, gf134_3, pf134_3, gf134_4, gf134_5, pf134_5, gf134_6, gf134_7, gf134_8, gf134_9, pf134_9, gf134_10, gf134_11, gf134_12, gf134_13, gf134_14, gf134_15, gf134_16, gi120, pi120, li120, gi131, pi131, li131, gi132, pi132, li132, gi136, pi136, li136, gi138, pi138, li138, gi139, pi139, li139, gi140, pi140, li140, gi141, pi141, li141, gi142, pi142, li142, gi144, pi144, li144, gi145, pi145, li145, gj133, pj133, lj133, gj137, pj137, lj137, gj143, pj143, lj143, gj146, pj146, lj146, gA121, gAq, oo_s, gfs_0, gfs_1, gfs_2, pfs_0, pfs_1, gjs, ljs, pjs, oo_h, gfh_0, gfh_1, gfh_2, pfh_1, pfh_2, j1, hb6, n_lt (show 99 < 2 ^ 31 by decide) (show p < 2 ^ 31 by omega), show ¬ 99 < p by omega, r89, h27, sv_eq hb6, c, pyF_s]
    · obtain ⟨x1, e⟩ := ih (upX X 1 (pasN n (up1 (X 0) (30 + b) p))) (p + 1) b n (by omega) hn (by rw [upX_n (by decide)]; exact hb) (by rw [upX_n (by decide)]; exact hI) (by rw [upX_n (by decide)]; exact hm)
      rw [upX_n (show ¬ 0 = 1 by decide), upX_u] at e
      refine ⟨x1, ?_⟩
      rw [q70_22]
      simp only [q70_0, q70_1, q70_2, q70_5, q70_8, q70_9, q70_10, q70_12, q70_15, q70_18, q70_19, q70_20, q70_21, q70_23, q70_25, q70_28, q70_29, q70_32, q70_33, q70_36, q70_39, q70_40, q70_41, q70_42, q70_43, q70_46, q70_47, q70_50, q70_51, q70_54, q70_57, q70_58, q70_61, q70_62, q70_63, q70_66, q70_69, q70_71, ↓reduceIte, ax_bV_s, ax_bI_s, ax_bJ_s, ax_bA_s, ax_bH_s, ax_bR_s, ax_bR_n, gh_people, gh_here, gh_sat, gh_minute, gh_draw, gh_sitter, gh_kinds, gh_prices, gh_known, gh_sights, gh_places, ga_kinds, ga_prices, ga_known, ga_sights, ga_places, oh, ph_people, ph_here, ph_sat, ph_minute, ph_draw, ph_sitter, ph_nobody, pa_kinds, pa_prices, pa_known, pa_sights, pa_places, upX_s, upX_u, oo_114, gf114_0, gf114_1, gf114_2, gf114_3, gf114_4, gf114_5, pf114_5, gf114_6, gf114_7, gf114_8, gf114_9, oo_119, gf119_0, gf119_1, pf119_1, gf119_2, pf119_2, oo_130, gf130_0, gf130_1, gf130_2, pf130_2, oo_134, gf134_0, gf134_1, pf134_1, gf134_2, pf134_2, gf134_3, pf134_3, gf134_4, gf134_5, pf134_5, gf134_6, gf134_7, gf134_8, gf134_9, pf134_9, gf134_10, gf134_11, gf134_12, gf134_13, gf134_14, gf134_15, gf134_16, gi120, pi120, li120, gi131, pi131, li131, gi132, pi132, li132, gi136, pi136, li136, gi138, pi138, li138, gi139, pi139, li139, gi140, pi140, li140, gi141, pi141, li141, gi142, pi142, li142, gi144, pi144, li144, gi145, pi145, li145, gj133, pj133, lj133, gj137, pj137, lj137, gj143, pj143, lj143, gj146, pj146, lj146, gA121, gAq, oo_s, gfs_0, gfs_1, gfs_2, pfs_0, pfs_1, gjs, ljs, pjs, oo_h, gfh_0, gfh_1, gfh_2, pfh_1, pfh_2, j1, hb6, n_lt (show 99 < 2 ^ 31 by decide) (show p < 2 ^ 31 by omega), show ¬ 99 < p by omega, r89, h27, sv_eq hb6, c, nI_add, e, pyF_s]
theorem s70_bad {b n : Int32} (hI : Inv (X 0)) (h : (isB b (X 0 0) && isI n 0 40) = false) : ax_res 70 0 [some (.ref 114), some (.int b), some (.int n), none] [] (hp X Y sc ai aj) = some (some (.int (-1)), hp X Y sc ai aj) := by
  simp only [q70_0, q70_1, q70_2, q70_5, q70_8, q70_9, q70_10, q70_12, q70_15, q70_18, q70_19, ↓reduceIte, ax_bV_s, ax_bI_s, ax_bJ_s, ax_bA_s, ax_bH_s, ax_bR_s, ax_bR_n, oo_114, gf114_0, gf114_1, gf114_2, gf114_3, gf114_4, gf114_5, pf114_5, gf114_6, gf114_7, gf114_8, gf114_9, oo_119, gf119_0, gf119_1, pf119_1, gf119_2, pf119_2, oo_130, gf130_0, gf130_1, gf130_2, pf130_2, oo_134, gf134_0, gf134_1, pf134_1, gf134_2, pf134_2, gf134_3, pf134_3, gf134_4, gf134_5, pf134_5, gf134_6, gf134_7, gf134_8, gf134_9, pf134_9, gf134_10, gf134_11, gf134_12, gf134_13, gf134_14, gf134_15, gf134_16, gi120, pi120, li120, gi131, pi131, li131, gi132, pi132, li132, gi136, pi136, li136, gi138, pi138, li138, gi139, pi139, li139, gi140, pi140, li140, gi141, pi141, li141, gi142, pi142, li142, gi144, pi144, li144, gi145, pi145, li145, gj133, pj133, lj133, gj137, pj137, lj137, gj143, pj143, lj143, gj146, pj146, lj146, gA121, gAq, oo_s, gfs_0, gfs_1, gfs_2, pfs_0, pfs_1, gjs, ljs, pjs, oo_h, gfh_0, gfh_1, gfh_2, pfh_1, pfh_2, r85 hI.1, r84I (show 0 < 2 ^ 31 by decide) (show 40 < 2 ^ 31 by decide), n_bn0]
  revert h
  cases isB b (X 0 0) <;> cases isI n 0 40 <;> simp
theorem s70_ok {b n : Nat} (hI : Inv (X 0)) (hm : X 0 1 ≤ 9999) (hb : b < X 0 0) (hn : n ≤ 40) : ∃ x1, ax_res 70 0 [some (.ref 114), some (.int (nI b)), some (.int (nI n)), none] [] (hp X Y sc ai aj) = some (some (.int (pyF b n (X 0) 100 0)), hp (upX X 1 x1) Y sc ai aj) := by
  have h0 := hI.1
  obtain ⟨x1, e⟩ := s70_l (Y := Y) (sc := sc) (ai := ai) (aj := aj) 100 X 0 b n (by omega) hn hb hI hm
  refine ⟨x1, ?_⟩
  simp only [q70_0, q70_1, q70_2, q70_5, q70_8, q70_9, q70_10, q70_12, q70_15, q70_20, q70_21, ↓reduceIte, ax_bV_s, ax_bI_s, ax_bJ_s, ax_bA_s, ax_bH_s, ax_bR_s, ax_bR_n, oo_114, gf114_0, gf114_1, gf114_2, gf114_3, gf114_4, gf114_5, pf114_5, gf114_6, gf114_7, gf114_8, gf114_9, oo_119, gf119_0, gf119_1, pf119_1, gf119_2, pf119_2, oo_130, gf130_0, gf130_1, gf130_2, pf130_2, oo_134, gf134_0, gf134_1, pf134_1, gf134_2, pf134_2, gf134_3, pf134_3, gf134_4, gf134_5, pf134_5, gf134_6, gf134_7, gf134_8, gf134_9, pf134_9, gf134_10, gf134_11, gf134_12, gf134_13, gf134_14, gf134_15, gf134_16, gi120, pi120, li120, gi131, pi131, li131, gi132, pi132, li132, gi136, pi136, li136, gi138, pi138, li138, gi139, pi139, li139, gi140, pi140, li140, gi141, pi141, li141, gi142, pi142, li142, gi144, pi144, li144, gi145, pi145, li145, gj133, pj133, lj133, gj137, pj137, lj137, gj143, pj143, lj143, gj146, pj146, lj146, gA121, gAq, oo_s, gfs_0, gfs_1, gfs_2, pfs_0, pfs_1, gjs, ljs, pjs, oo_h, gfh_0, gfh_1, gfh_2, pfh_1, pfh_2, r85 h0, isB_t (show X 0 0 ≤ 1000 by omega) hb, r84I (show 0 < 2 ^ 31 by decide) (show 40 < 2 ^ 31 by decide), isI_nI (show n < 2 ^ 31 by omega) (Nat.zero_le n) hn, n_bn0, Bool.not_true, e]
theorem m158_l (m : Nat) : ∀ (Y : Nat → Nat → Nat) (p b n : Nat), p + m = 100 → n ≤ 40 → b < Y 0 0 → Inv (Y 0) → Y 0 1 ≤ 9999 → ∃ y1, ax_res 158 24 [some (.ref 134), some (.int (nI b)), some (.int (nI n)), some (.int (nI p))] [] (hp X Y sc ai aj) = some (some (.int (pyF b n (Y 0) m p)), hp X (upX Y 1 y1) sc ai aj) := by
  induction m with
  | zero =>
    intro Y p b n hpm hn hb hI hm
    refine ⟨Y 1, ?_⟩
    simp only [q158_24, q158_25, q158_27, q158_68, q158_70, ↓reduceIte, ax_bV_s, ax_bI_s, ax_bJ_s, ax_bA_s, ax_bH_s, ax_bR_s, ax_bR_n, n_le (show 100 < 2 ^ 31 by decide) (show p < 2 ^ 31 by omega), show 100 ≤ p by omega, pyF_0, upX_i]
  | succ m ih =>
    intro Y p b n hpm hn hb hI hm
    have h0 := hI.1
    have hb6 : b < 6 := by omega
    have h27 := r143 (X := X) (Y := upX Y 1 (up1 (Y 0) (30 + b) p)) (sc := sc) (ai := ai) (aj := aj) (n := n) (by rw [upX_s]; exact inv_up30 hI hb (by omega)) (by rw [upX_s, up1_n (by omega)]; omega)
    rw [upX_s, upX_u] at h27
    by_cases c : pasN n (up1 (Y 0) (30 + b) p) 2 = b
    · refine ⟨pasN n (up1 (Y 0) (30 + b) p), ?_⟩
      rw [q158_24]
      simp only [q158_0, q158_1, q158_2, q158_5, q158_8, q158_9, q158_10, q158_11, q158_14, q158_17, q158_20, q158_21, q158_22, q158_23, q158_25, q158_27, q158_30, q158_31, q158_34, q158_35, q158_38, q158_40, q158_41, q158_42, q158_43, q158_44, q158_45, q158_46, q158_49, q158_50, q158_53, q158_55, q158_56, q158_57, q158_60, q158_61, q158_62, q158_65, q158_68, q158_70, ↓reduceIte, ax_bV_s, ax_bI_s, ax_bJ_s, ax_bA_s, ax_bH_s, ax_bR_s, ax_bR_n, gwq_0, gwq_1, gwq_2, gwq_3, gwq_4, gwq_5, gwqT, gwqS, gwqP, gwqK, gwqZ, gw0_0, gw0_1, gw0_2, gw0_3, gw0_4, gw0_5, gw0T, gw0S, gw0P, gw0K, gw0Z, gw1_0, gw1_1, gw1_2, gw1_3, gw1_4, gw1_5, gw1T, gw1S, gw1P, gw1K, gw1Z, pwq_0, pwq_1, pwq_2, pwq_2n, pwq_3, pwq_4, pwq_5, pwqT, pwqS, pwqP, pwqK, pwqZ, pw0_0, pw0_1, pw0_2, pw0_2n, pw0_3, pw0_4, pw0_5, pw0T, pw0S, pw0P, pw0K, pw0Z, pw1_0, pw1_1, pw1_2, pw1_2n, pw1_3, pw1_4, pw1_5, pw1T, pw1S, pw1P, pw1K, pw1Z, oo_114, gf114_0, gf114_1, gf114_2, gf114_3, gf114_4, gf114_5, pf114_5, gf114_6, gf114_7, gf114_8, gf114_9, oo_119, gf119_0, gf119_1, pf119_1, gf119_2, pf119_2, oo_130, gf130_0, gf130_1, gf130_2, pf130_2, oo_134, gf134_0, gf134_1, pf134_1, gf134_2, pf134_2, gf134_3, pf134_3, gf134_4, gf134_5, pf134_5, gf134_6, gf134_7, gf134_8, gf134_9, pf134_9, gf134_10, gf134_11, gf134_12, gf134_13, gf134_14, gf134_15, gf134_16, gi120, pi120, li120, gi131, pi131, li131, gi132, pi132, li132, gi136, pi136, li136, gi138, pi138, li138, gi139, pi139, li139, gi140, pi140, li140, gi141, pi141, li141, gi142, pi142, li142, gi144, pi144, li144, gi145, pi145, li145, gj133, pj133, lj133, gj137, pj137, lj137, gj143, pj143, lj143, gj146, pj146, lj146, gA121, gAq, oo_s, gfs_0, gfs_1, gfs_2, pfs_0, pfs_1, gjs, ljs, pjs, oo_h, gfh_0, gfh_1, gfh_2, pfh_1, pfh_2, hb6, n_le (show 100 < 2 ^ 31 by decide) (show p < 2 ^ 31 by omega), show ¬ 100 ≤ p by omega, r142, nI_add, upX_s, upX_u, h27, sv_eq hb6, c, pyF_s]
    · obtain ⟨y1, e⟩ := ih (upX Y 1 (pasN n (up1 (Y 0) (30 + b) p))) (p + 1) b n (by omega) hn (by rw [upX_n (by decide)]; exact hb) (by rw [upX_n (by decide)]; exact hI) (by rw [upX_n (by decide)]; exact hm)
      rw [upX_n (show ¬ 0 = 1 by decide), upX_u] at e
      refine ⟨y1, ?_⟩
      rw [q158_24]
      simp only [q158_0, q158_1, q158_2, q158_5, q158_8, q158_9, q158_10, q158_11, q158_14, q158_17, q158_20, q158_21, q158_22, q158_23, q158_25, q158_27, q158_30, q158_31, q158_34, q158_35, q158_38, q158_40, q158_41, q158_42, q158_43, q158_44, q158_45, q158_46, q158_49, q158_50, q158_53, q158_55, q158_56, q158_57, q158_60, q158_61, q158_62, q158_65, q158_68, q158_70, ↓reduceIte, ax_bV_s, ax_bI_s, ax_bJ_s, ax_bA_s, ax_bH_s, ax_bR_s, ax_bR_n, gwq_0, gwq_1, gwq_2, gwq_3, gwq_4, gwq_5, gwqT, gwqS, gwqP, gwqK, gwqZ, gw0_0, gw0_1, gw0_2, gw0_3, gw0_4, gw0_5, gw0T, gw0S, gw0P, gw0K, gw0Z, gw1_0, gw1_1, gw1_2, gw1_3, gw1_4, gw1_5, gw1T, gw1S, gw1P, gw1K, gw1Z, pwq_0, pwq_1, pwq_2, pwq_2n, pwq_3, pwq_4, pwq_5, pwqT, pwqS, pwqP, pwqK, pwqZ, pw0_0, pw0_1, pw0_2, pw0_2n, pw0_3, pw0_4, pw0_5, pw0T, pw0S, pw0P, pw0K, pw0Z, pw1_0, pw1_1, pw1_2, pw1_2n, pw1_3, pw1_4, pw1_5, pw1T, pw1S, pw1P, pw1K, pw1Z, oo_114, gf114_0, gf114_1, gf114_2, gf114_3, gf114_4, gf114_5, pf114_5, gf114_6, gf114_7, gf114_8, gf114_9, oo_119, gf119_0, gf119_1, pf119_1, gf119_2, pf119_2, oo_130, gf130_0, gf130_1, gf130_2, pf130_2, oo_134, gf134_0, gf134_1, pf134_1, gf134_2, pf134_2, gf134_3, pf134_3, gf134_4, gf134_5, pf134_5, gf134_6, gf134_7, gf134_8, gf134_9, pf134_9, gf134_10, gf134_11, gf134_12, gf134_13, gf134_14, gf134_15, gf134_16, gi120, pi120, li120, gi131, pi131, li131, gi132, pi132, li132, gi136, pi136, li136, gi138, pi138, li138, gi139, pi139, li139, gi140, pi140, li140, gi141, pi141, li141, gi142, pi142, li142, gi144, pi144, li144, gi145, pi145, li145, gj133, pj133, lj133, gj137, pj137, lj137, gj143, pj143, lj143, gj146, pj146, lj146, gA121, gAq, oo_s, gfs_0, gfs_1, gfs_2, pfs_0, pfs_1, gjs, ljs, pjs, oo_h, gfh_0, gfh_1, gfh_2, pfh_1, pfh_2, hb6, n_le (show 100 < 2 ^ 31 by decide) (show p < 2 ^ 31 by omega), show ¬ 100 ≤ p by omega, r142, nI_add, upX_s, upX_u, h27, sv_eq hb6, c, e, pyF_s]
theorem m158_bad {b n : Int32} (hI : Inv (Y 0)) (h : (isB b (Y 0 0) && isI n 0 40) = false) : ax_res 158 0 [some (.ref 134), some (.int b), some (.int n), none] [] (hp X Y sc ai aj) = some (some (.int (-1)), hp X Y sc ai aj) := by
  simp only [q158_0, q158_1, q158_2, q158_5, q158_8, q158_9, q158_10, q158_11, q158_14, q158_17, q158_20, q158_21, ↓reduceIte, ax_bV_s, ax_bI_s, ax_bJ_s, ax_bA_s, ax_bH_s, ax_bR_s, ax_bR_n, oo_114, gf114_0, gf114_1, gf114_2, gf114_3, gf114_4, gf114_5, pf114_5, gf114_6, gf114_7, gf114_8, gf114_9, oo_119, gf119_0, gf119_1, pf119_1, gf119_2, pf119_2, oo_130, gf130_0, gf130_1, gf130_2, pf130_2, oo_134, gf134_0, gf134_1, pf134_1, gf134_2, pf134_2, gf134_3, pf134_3, gf134_4, gf134_5, pf134_5, gf134_6, gf134_7, gf134_8, gf134_9, pf134_9, gf134_10, gf134_11, gf134_12, gf134_13, gf134_14, gf134_15, gf134_16, gi120, pi120, li120, gi131, pi131, li131, gi132, pi132, li132, gi136, pi136, li136, gi138, pi138, li138, gi139, pi139, li139, gi140, pi140, li140, gi141, pi141, li141, gi142, pi142, li142, gi144, pi144, li144, gi145, pi145, li145, gj133, pj133, lj133, gj137, pj137, lj137, gj143, pj143, lj143, gj146, pj146, lj146, gA121, gAq, oo_s, gfs_0, gfs_1, gfs_2, pfs_0, pfs_1, gjs, ljs, pjs, oo_h, gfh_0, gfh_1, gfh_2, pfh_1, pfh_2, r108 hI.1, r104I (show 0 < 2 ^ 31 by decide) (show 40 < 2 ^ 31 by decide), n_bn0]
  revert h
  cases isB b (Y 0 0) <;> cases isI n 0 40 <;> simp
theorem m158_ok {b n : Nat} (hI : Inv (Y 0)) (hm : Y 0 1 ≤ 9999) (hb : b < Y 0 0) (hn : n ≤ 40) : ∃ y1, ax_res 158 0 [some (.ref 134), some (.int (nI b)), some (.int (nI n)), none] [] (hp X Y sc ai aj) = some (some (.int (pyF b n (Y 0) 100 0)), hp X (upX Y 1 y1) sc ai aj) := by
  have h0 := hI.1
  obtain ⟨y1, e⟩ := m158_l (X := X) (sc := sc) (ai := ai) (aj := aj) 100 Y 0 b n (by omega) hn hb hI hm
  refine ⟨y1, ?_⟩
  simp only [q158_0, q158_1, q158_2, q158_5, q158_8, q158_9, q158_10, q158_11, q158_14, q158_17, q158_22, q158_23, ↓reduceIte, ax_bV_s, ax_bI_s, ax_bJ_s, ax_bA_s, ax_bH_s, ax_bR_s, ax_bR_n, oo_114, gf114_0, gf114_1, gf114_2, gf114_3, gf114_4, gf114_5, pf114_5, gf114_6, gf114_7, gf114_8, gf114_9, oo_119, gf119_0, gf119_1, pf119_1, gf119_2, pf119_2, oo_130, gf130_0, gf130_1, gf130_2, pf130_2, oo_134, gf134_0, gf134_1, pf134_1, gf134_2, pf134_2, gf134_3, pf134_3, gf134_4, gf134_5, pf134_5, gf134_6, gf134_7, gf134_8, gf134_9, pf134_9, gf134_10, gf134_11, gf134_12, gf134_13, gf134_14, gf134_15, gf134_16, gi120, pi120, li120, gi131, pi131, li131, gi132, pi132, li132, gi136, pi136, li136, gi138, pi138, li138, gi139, pi139, li139, gi140, pi140, li140, gi141, pi141, li141, gi142, pi142, li142, gi144, pi144, li144, gi145, pi145, li145, gj133, pj133, lj133, gj137, pj137, lj137, gj143, pj143, lj143, gj146, pj146, lj146, gA121, gAq, oo_s, gfs_0, gfs_1, gfs_2, pfs_0, pfs_1, gjs, ljs, pjs, oo_h, gfh_0, gfh_1, gfh_2, pfh_1, pfh_2, r108 h0, isB_t (show Y 0 0 ≤ 1000 by omega) hb, r104I (show 0 < 2 ^ 31 by decide) (show 40 < 2 ^ 31 by decide), isI_nI (show n < 2 ^ 31 by omega) (Nat.zero_le n) hn, n_bn0, Bool.true_eq_false, e]
-- learn
theorem s69_l (m : Nat) : ∀ (X : Nat → Nat → Nat) (k b n w : Nat) (be mo : Int32), k + m = 5 → n ≤ 40 → b < X 0 0 → w ≤ 1 → Inv (X 0) → X 0 1 ≤ 9999 → ∃ x1, ax_res 69 40 [some (.ref 114), some (.int (nI b)), some (.int (nI n)), some (.int (nI w)), some (.int be), some (.int mo), some (.int (nI k))] [] (hp X Y sc ai aj) = some (some (.int (if w = 0 then (lrF b n (X 0) m k be mo).1 else (lrF b n (X 0) m k be mo).2)), hp (upX X 1 x1) Y sc ai aj) := by
  induction m with
  | zero =>
    intro X k b n w be mo hk hn hb hw hI hm
    refine ⟨X 1, ?_⟩
    rcases (show w = 0 ∨ w = 1 by omega) with rfl | rfl
    · simp only [q69_40, q69_42, q69_43, q69_126, q69_127, q69_130, q69_132, q69_135, q69_137, ↓reduceIte, ax_bV_s, ax_bI_s, ax_bJ_s, ax_bA_s, ax_bH_s, ax_bR_s, ax_bR_n, n_le (show 5 < 2 ^ 31 by decide) (show k < 2 ^ 31 by omega), show 5 ≤ k by omega, lrF_0, upX_i, n_z0]
    · simp only [q69_40, q69_42, q69_43, q69_126, q69_127, q69_130, q69_132, q69_135, q69_137, ↓reduceIte, ax_bV_s, ax_bI_s, ax_bJ_s, ax_bA_s, ax_bH_s, ax_bR_s, ax_bR_n, n_le (show 5 < 2 ^ 31 by decide) (show k < 2 ^ 31 by omega), show 5 ≤ k by omega, lrF_0, upX_i, n_z1, show ¬ 1 = 0 by decide]
  | succ m ih =>
    intro X k b n w be mo hk hn hb hw hI hm
    have h0 := hI.1
    have hb6 : b < 6 := by omega
    have h5 := (hI.2.2.2.2.2 b hb).1
    have e0 : fgt (X 0) 0 = X 0 0 := if_neg (by omega)
    have e1 : fgt (X 0) 1 = X 0 1 := if_neg (by omega)
    obtain ⟨g1, g2, g3⟩ := inv_tea (k := k) (inv_fgt hI) (b := b) (by rw [e0]; exact hb) (by omega)
    have h11 := r11 (X := upX X 1 (X 0)) (Y := Y) (sc := sc) (ai := ai) (aj := aj) j1
    rw [upX_s, upX_u] at h11
    have h15 := r15 (X := upX X 1 (fgt (X 0))) (Y := Y) (sc := sc) (ai := ai) (aj := aj) (b := b) (k := k) j1 hb6 (by omega)
    rw [upX_s, upX_u] at h15
    have h27 := r27 (X := upX X 1 (tea (fgt (X 0)) b k)) (Y := Y) (sc := sc) (ai := ai) (aj := aj) (n := n) j1 (by rw [upX_s]; exact g1) (by rw [upX_s, g3, e1]; omega)
    rw [upX_s, upX_u] at h27
    have step : ∀ (x1 : Nat → Nat) (be mo : Int32), ∃ x2, ax_res 69 40 [some (.ref 114), some (.int (nI b)), some (.int (nI n)), some (.int (nI w)), some (.int be), some (.int mo), some (.int (nI (k + 1)))] [] (hp (upX X 1 x1) Y sc ai aj) = some (some (.int (if w = 0 then (lrF b n (X 0) m (k + 1) be mo).1 else (lrF b n (X 0) m (k + 1) be mo).2)), hp (upX X 1 x2) Y sc ai aj) := by
      intro x1 be mo
      obtain ⟨x2, e⟩ := ih (upX X 1 x1) (k + 1) b n w be mo (by omega) hn (by rw [upX_n (by decide)]; exact hb) hw (by rw [upX_n (by decide)]; exact hI) (by rw [upX_n (by decide)]; exact hm)
      rw [upX_n (show ¬ 0 = 1 by decide), upX_u] at e
      exact ⟨x2, e⟩
    cases c : (X 0 (6 + b)).testBit k with
    | true =>
      obtain ⟨x2, e⟩ := step (X 1) be mo
      rw [upX_i] at e
      refine ⟨x2, ?_⟩
      rw [q69_40]
      simp only [q69_0, q69_1, q69_2, q69_5, q69_8, q69_9, q69_10, q69_12, q69_15, q69_18, q69_19, q69_20, q69_21, q69_24, q69_27, q69_28, q69_29, q69_31, q69_33, q69_35, q69_37, q69_38, q69_42, q69_43, q69_46, q69_47, q69_50, q69_51, q69_53, q69_56, q69_59, q69_62, q69_63, q69_66, q69_67, q69_70, q69_73, q69_74, q69_77, q69_78, q69_80, q69_83, q69_84, q69_87, q69_88, q69_91, q69_92, q69_95, q69_98, q69_99, q69_100, q69_102, q69_105, q69_106, q69_109, q69_112, q69_113, q69_114, q69_116, q69_118, q69_120, q69_123, q69_126, q69_127, q69_130, q69_132, q69_135, q69_137, ↓reduceIte, ax_bV_s, ax_bI_s, ax_bJ_s, ax_bA_s, ax_bH_s, ax_bR_s, ax_bR_n, gh_people, gh_here, gh_sat, gh_minute, gh_draw, gh_sitter, gh_kinds, gh_prices, gh_known, gh_sights, gh_places, ga_kinds, ga_prices, ga_known, ga_sights, ga_places, oh, oo_114, gf114_0, gf114_1, gf114_2, gf114_3, gf114_4, gf114_5, pf114_5, gf114_6, gf114_7, gf114_8, gf114_9, oo_119, gf119_0, gf119_1, pf119_1, gf119_2, pf119_2, oo_130, gf130_0, gf130_1, gf130_2, pf130_2, oo_134, gf134_0, gf134_1, pf134_1, gf134_2, pf134_2, gf134_3, pf134_3, gf134_4, gf134_5, pf134_5, gf134_6, gf134_7, gf134_8, gf134_9, pf134_9, gf134_10, gf134_11, gf134_12, gf134_13, gf134_14, gf134_15, gf134_16, gi120, pi120, li120, gi131, pi131, li131, gi132, pi132, li132, gi136, pi136, li136, gi138, pi138, li138, gi139, pi139, li139, gi140, pi140, li140, gi141, pi141, li141, gi142, pi142, li142, gi144, pi144, li144, gi145, pi145, li145, gj133, pj133, lj133, gj137, pj137, lj137, gj143, pj143, lj143, gj146, pj146, lj146, gA121, gAq, oo_s, gfs_0, gfs_1, gfs_2, pfs_0, pfs_1, gjs, ljs, pjs, oo_h, gfh_0, gfh_1, gfh_2, pfh_1, pfh_2, j0, j1, hb6, n_le (show 5 < 2 ^ 31 by decide) (show k < 2 ^ 31 by omega), show ¬ 5 ≤ k by omega, r14 j0 hb6 (show k < 32 by omega) h5, n_bt0, c, Bool.true_eq_false, nI_add, e, lrF_s]
    | false =>
      by_cases c2 : nI (pasN n (tea (fgt (X 0)) b k) (12 + b)) ≤ mo
      · obtain ⟨x2, e⟩ := step (pasN n (tea (fgt (X 0)) b k)) be mo
        refine ⟨x2, ?_⟩
        rw [q69_40]
        simp only [q69_0, q69_1, q69_2, q69_5, q69_8, q69_9, q69_10, q69_12, q69_15, q69_18, q69_19, q69_20, q69_21, q69_24, q69_27, q69_28, q69_29, q69_31, q69_33, q69_35, q69_37, q69_38, q69_42, q69_43, q69_46, q69_47, q69_50, q69_51, q69_53, q69_56, q69_59, q69_62, q69_63, q69_66, q69_67, q69_70, q69_73, q69_74, q69_77, q69_78, q69_80, q69_83, q69_84, q69_87, q69_88, q69_91, q69_92, q69_95, q69_98, q69_99, q69_100, q69_102, q69_105, q69_106, q69_109, q69_112, q69_113, q69_114, q69_116, q69_118, q69_120, q69_123, q69_126, q69_127, q69_130, q69_132, q69_135, q69_137, ↓reduceIte, ax_bV_s, ax_bI_s, ax_bJ_s, ax_bA_s, ax_bH_s, ax_bR_s, ax_bR_n, gh_people, gh_here, gh_sat, gh_minute, gh_draw, gh_sitter, gh_kinds, gh_prices, gh_known, gh_sights, gh_places, ga_kinds, ga_prices, ga_known, ga_sights, ga_places, oh, oo_114, gf114_0, gf114_1, gf114_2, gf114_3, gf114_4, gf114_5, pf114_5, gf114_6, gf114_7, gf114_8, gf114_9, oo_119, gf119_0, gf119_1, pf119_1, gf119_2, pf119_2, oo_130, gf130_0, gf130_1, gf130_2, pf130_2, oo_134, gf134_0, gf134_1, pf134_1, gf134_2, pf134_2, gf134_3, pf134_3, gf134_4, gf134_5, pf134_5, gf134_6, gf134_7, gf134_8, gf134_9, pf134_9, gf134_10, gf134_11, gf134_12, gf134_13, gf134_14, gf134_15, gf134_16, gi120, pi120, li120, gi131, pi131, li131, gi132, pi132, li132, gi136, pi136, li136, gi138, pi138, li138, gi139, pi139, li139, gi140, pi140, li140, gi141, pi141, li141, gi142, pi142, li142, gi144, pi144, li144, gi145, pi145, li145, gj133, pj133, lj133, gj137, pj137, lj137, gj143, pj143, lj143, gj146, pj146, lj146, gA121, gAq, oo_s, gfs_0, gfs_1, gfs_2, pfs_0, pfs_1, gjs, ljs, pjs, oo_h, gfh_0, gfh_1, gfh_2, pfh_1, pfh_2, j0, j1, hb6, n_le (show 5 < 2 ^ 31 by decide) (show k < 2 ^ 31 by omega), show ¬ 5 ≤ k by omega, r14 j0 hb6 (show k < 32 by omega) h5, n_bt0, c, Bool.false_eq_true, r89, h11, h15, h27, upX_s, c2, nI_add, e, lrF_s]
      · obtain ⟨x2, e⟩ := step (pasN n (tea (fgt (X 0)) b k)) (nI k) (nI (pasN n (tea (fgt (X 0)) b k) (12 + b)))
        refine ⟨x2, ?_⟩
        rw [q69_40]
        simp only [q69_0, q69_1, q69_2, q69_5, q69_8, q69_9, q69_10, q69_12, q69_15, q69_18, q69_19, q69_20, q69_21, q69_24, q69_27, q69_28, q69_29, q69_31, q69_33, q69_35, q69_37, q69_38, q69_42, q69_43, q69_46, q69_47, q69_50, q69_51, q69_53, q69_56, q69_59, q69_62, q69_63, q69_66, q69_67, q69_70, q69_73, q69_74, q69_77, q69_78, q69_80, q69_83, q69_84, q69_87, q69_88, q69_91, q69_92, q69_95, q69_98, q69_99, q69_100, q69_102, q69_105, q69_106, q69_109, q69_112, q69_113, q69_114, q69_116, q69_118, q69_120, q69_123, q69_126, q69_127, q69_130, q69_132, q69_135, q69_137, ↓reduceIte, ax_bV_s, ax_bI_s, ax_bJ_s, ax_bA_s, ax_bH_s, ax_bR_s, ax_bR_n, gh_people, gh_here, gh_sat, gh_minute, gh_draw, gh_sitter, gh_kinds, gh_prices, gh_known, gh_sights, gh_places, ga_kinds, ga_prices, ga_known, ga_sights, ga_places, oh, oo_114, gf114_0, gf114_1, gf114_2, gf114_3, gf114_4, gf114_5, pf114_5, gf114_6, gf114_7, gf114_8, gf114_9, oo_119, gf119_0, gf119_1, pf119_1, gf119_2, pf119_2, oo_130, gf130_0, gf130_1, gf130_2, pf130_2, oo_134, gf134_0, gf134_1, pf134_1, gf134_2, pf134_2, gf134_3, pf134_3, gf134_4, gf134_5, pf134_5, gf134_6, gf134_7, gf134_8, gf134_9, pf134_9, gf134_10, gf134_11, gf134_12, gf134_13, gf134_14, gf134_15, gf134_16, gi120, pi120, li120, gi131, pi131, li131, gi132, pi132, li132, gi136, pi136, li136, gi138, pi138, li138, gi139, pi139, li139, gi140, pi140, li140, gi141, pi141, li141, gi142, pi142, li142, gi144, pi144, li144, gi145, pi145, li145, gj133, pj133, lj133, gj137, pj137, lj137, gj143, pj143, lj143, gj146, pj146, lj146, gA121, gAq, oo_s, gfs_0, gfs_1, gfs_2, pfs_0, pfs_1, gjs, ljs, pjs, oo_h, gfh_0, gfh_1, gfh_2, pfh_1, pfh_2, j0, j1, hb6, n_le (show 5 < 2 ^ 31 by decide) (show k < 2 ^ 31 by omega), show ¬ 5 ≤ k by omega, r14 j0 hb6 (show k < 32 by omega) h5, n_bt0, c, Bool.false_eq_true, r89, h11, h15, h27, upX_s, c2, nI_add, e, lrF_s]
theorem s69_bad {b n w : Int32} (hI : Inv (X 0)) (h : (isB b (X 0 0) && (isI n 1 40 && isI w 0 1)) = false) : ax_res 69 0 [some (.ref 114), some (.int b), some (.int n), some (.int w), none, none, none] [] (hp X Y sc ai aj) = some (some (.int (-1)), hp X Y sc ai aj) := by
  simp only [q69_0, q69_1, q69_2, q69_5, q69_8, q69_9, q69_10, q69_12, q69_15, q69_18, q69_19, q69_20, q69_21, q69_24, q69_27, q69_28, ↓reduceIte, ax_bV_s, ax_bI_s, ax_bJ_s, ax_bA_s, ax_bH_s, ax_bR_s, ax_bR_n, oo_114, gf114_0, gf114_1, gf114_2, gf114_3, gf114_4, gf114_5, pf114_5, gf114_6, gf114_7, gf114_8, gf114_9, oo_119, gf119_0, gf119_1, pf119_1, gf119_2, pf119_2, oo_130, gf130_0, gf130_1, gf130_2, pf130_2, oo_134, gf134_0, gf134_1, pf134_1, gf134_2, pf134_2, gf134_3, pf134_3, gf134_4, gf134_5, pf134_5, gf134_6, gf134_7, gf134_8, gf134_9, pf134_9, gf134_10, gf134_11, gf134_12, gf134_13, gf134_14, gf134_15, gf134_16, gi120, pi120, li120, gi131, pi131, li131, gi132, pi132, li132, gi136, pi136, li136, gi138, pi138, li138, gi139, pi139, li139, gi140, pi140, li140, gi141, pi141, li141, gi142, pi142, li142, gi144, pi144, li144, gi145, pi145, li145, gj133, pj133, lj133, gj137, pj137, lj137, gj143, pj143, lj143, gj146, pj146, lj146, gA121, gAq, oo_s, gfs_0, gfs_1, gfs_2, pfs_0, pfs_1, gjs, ljs, pjs, oo_h, gfh_0, gfh_1, gfh_2, pfh_1, pfh_2, r85 hI.1, r84I (show 1 < 2 ^ 31 by decide) (show 40 < 2 ^ 31 by decide), r84I (show 0 < 2 ^ 31 by decide) (show 1 < 2 ^ 31 by decide), n_bn0]
  revert h
  cases isB b (X 0 0) <;> cases isI n 1 40 <;> cases isI w 0 1 <;> simp
def lrA (b n w : Nat) (x : Nat → Nat) : Int32 := if w = 0 then (lrF b n x 5 0 (-4) (-4)).1 else (lrF b n x 5 0 (-4) (-4)).2
theorem s69_ok {b n w : Nat} (hI : Inv (X 0)) (hm : X 0 1 ≤ 9999) (hb : b < X 0 0) (hn1 : 1 ≤ n) (hn : n ≤ 40) (hw : w ≤ 1) : ∃ x1, ax_res 69 0 [some (.ref 114), some (.int (nI b)), some (.int (nI n)), some (.int (nI w)), none, none, none] [] (hp X Y sc ai aj) = some (some (.int (lrA b n w (X 0))), hp (upX X 1 x1) Y sc ai aj) := by
  have h0 := hI.1
  obtain ⟨x1, e⟩ := s69_l (Y := Y) (sc := sc) (ai := ai) (aj := aj) 5 X 0 b n w (-4) (-4) (by omega) hn hb hw hI hm
  refine ⟨x1, ?_⟩
  simp only [q69_0, q69_1, q69_2, q69_5, q69_8, q69_9, q69_10, q69_12, q69_15, q69_18, q69_19, q69_20, q69_21, q69_24, q69_29, q69_31, q69_33, q69_35, q69_37, q69_38, ↓reduceIte, ax_bV_s, ax_bI_s, ax_bJ_s, ax_bA_s, ax_bH_s, ax_bR_s, ax_bR_n, oo_114, gf114_0, gf114_1, gf114_2, gf114_3, gf114_4, gf114_5, pf114_5, gf114_6, gf114_7, gf114_8, gf114_9, oo_119, gf119_0, gf119_1, pf119_1, gf119_2, pf119_2, oo_130, gf130_0, gf130_1, gf130_2, pf130_2, oo_134, gf134_0, gf134_1, pf134_1, gf134_2, pf134_2, gf134_3, pf134_3, gf134_4, gf134_5, pf134_5, gf134_6, gf134_7, gf134_8, gf134_9, pf134_9, gf134_10, gf134_11, gf134_12, gf134_13, gf134_14, gf134_15, gf134_16, gi120, pi120, li120, gi131, pi131, li131, gi132, pi132, li132, gi136, pi136, li136, gi138, pi138, li138, gi139, pi139, li139, gi140, pi140, li140, gi141, pi141, li141, gi142, pi142, li142, gi144, pi144, li144, gi145, pi145, li145, gj133, pj133, lj133, gj137, pj137, lj137, gj143, pj143, lj143, gj146, pj146, lj146, gA121, gAq, oo_s, gfs_0, gfs_1, gfs_2, pfs_0, pfs_1, gjs, ljs, pjs, oo_h, gfh_0, gfh_1, gfh_2, pfh_1, pfh_2, r85 h0, isB_t (show X 0 0 ≤ 1000 by omega) hb, r84I (show 1 < 2 ^ 31 by decide) (show 40 < 2 ^ 31 by decide), isI_nI (show n < 2 ^ 31 by omega) hn1 hn, r84I (show 0 < 2 ^ 31 by decide) (show 1 < 2 ^ 31 by decide), isI_nI (show w < 2 ^ 31 by omega) (Nat.zero_le w) hw, n_bn0, Bool.not_true, e]
  rfl
/-- sees -/
theorem r154 {b g : Nat} (hb : b < 6) (hg : Y 1 (12 + b) = g + Y 0 (12 + b)) : ax_res 154 0 [some (.ref 134), some (.int (nI b))] [] (hp X Y sc ai aj) = some (some (.int (nI g)), hp X Y sc ai aj) := by
  simp only [q154_0, q154_1, q154_4, q154_6, q154_7, q154_8, q154_9, q154_10, q154_13, q154_15, q154_16, q154_17, q154_18, q154_19, ↓reduceIte, ax_bV_s, ax_bI_s, ax_bJ_s, ax_bA_s, ax_bH_s, ax_bR_s, ax_bR_n, gwq_0, gwq_1, gwq_2, gwq_3, gwq_4, gwq_5, gwqT, gwqS, gwqP, gwqK, gwqZ, gw0_0, gw0_1, gw0_2, gw0_3, gw0_4, gw0_5, gw0T, gw0S, gw0P, gw0K, gw0Z, gw1_0, gw1_1, gw1_2, gw1_3, gw1_4, gw1_5, gw1T, gw1S, gw1P, gw1K, gw1Z, oo_114, gf114_0, gf114_1, gf114_2, gf114_3, gf114_4, gf114_5, pf114_5, gf114_6, gf114_7, gf114_8, gf114_9, oo_119, gf119_0, gf119_1, pf119_1, gf119_2, pf119_2, oo_130, gf130_0, gf130_1, gf130_2, pf130_2, oo_134, gf134_0, gf134_1, pf134_1, gf134_2, pf134_2, gf134_3, pf134_3, gf134_4, gf134_5, pf134_5, gf134_6, gf134_7, gf134_8, gf134_9, pf134_9, gf134_10, gf134_11, gf134_12, gf134_13, gf134_14, gf134_15, gf134_16, gi120, pi120, li120, gi131, pi131, li131, gi132, pi132, li132, gi136, pi136, li136, gi138, pi138, li138, gi139, pi139, li139, gi140, pi140, li140, gi141, pi141, li141, gi142, pi142, li142, gi144, pi144, li144, gi145, pi145, li145, gj133, pj133, lj133, gj137, pj137, lj137, gj143, pj143, lj143, gj146, pj146, lj146, gA121, gAq, oo_s, gfs_0, gfs_1, gfs_2, pfs_0, pfs_1, gjs, ljs, pjs, oo_h, gfh_0, gfh_1, gfh_2, pfh_1, pfh_2, hb, nI_add, n_sub (show Y 0 (12 + b) ≤ Y 1 (12 + b) by omega), show Y 1 (12 + b) - Y 0 (12 + b) = g by omega]
theorem m157_l (m : Nat) : ∀ (Y : Nat → Nat → Nat) (k b n w : Nat) (be mo : Int32), k + m = 5 → n ≤ 40 → b < Y 0 0 → w ≤ 1 → Inv (Y 0) → Y 0 1 ≤ 9999 → ∃ y1, ax_res 157 43 [some (.ref 134), some (.int (nI b)), some (.int (nI n)), some (.int (nI w)), some (.int be), some (.int mo), some (.int (nI k))] [] (hp X Y sc ai aj) = some (some (.int (if w = 0 then (lrF b n (Y 0) m k be mo).1 else (lrF b n (Y 0) m k be mo).2)), hp X (upX Y 1 y1) sc ai aj) := by
  induction m with
  | zero =>
    intro Y k b n w be mo hk hn hb hw hI hm
    refine ⟨Y 1, ?_⟩
    rcases (show w = 0 ∨ w = 1 by omega) with rfl | rfl
    · simp only [q157_43, q157_45, q157_46, q157_138, q157_139, q157_142, q157_144, q157_147, q157_149, ↓reduceIte, ax_bV_s, ax_bI_s, ax_bJ_s, ax_bA_s, ax_bH_s, ax_bR_s, ax_bR_n, n_le (show 5 < 2 ^ 31 by decide) (show k < 2 ^ 31 by omega), show 5 ≤ k by omega, lrF_0, upX_i, n_z0]
    · simp only [q157_43, q157_45, q157_46, q157_138, q157_139, q157_142, q157_144, q157_147, q157_149, ↓reduceIte, ax_bV_s, ax_bI_s, ax_bJ_s, ax_bA_s, ax_bH_s, ax_bR_s, ax_bR_n, n_le (show 5 < 2 ^ 31 by decide) (show k < 2 ^ 31 by omega), show 5 ≤ k by omega, lrF_0, upX_i, n_z1, show ¬ 1 = 0 by decide]
  | succ m ih =>
    intro Y k b n w be mo hk hn hb hw hI hm
    have h0 := hI.1
    have hb6 : b < 6 := by omega
    have h5 := (hI.2.2.2.2.2 b hb).1
    obtain ⟨g1, g2, g3⟩ := inv_tea (k := k) hI hb (by omega)
    have h27 := r143 (X := X) (Y := upX Y 1 (tea (Y 0) b k)) (sc := sc) (ai := ai) (aj := aj) (n := n) (by rw [upX_s]; exact g1) (by rw [upX_s, g3]; omega)
    rw [upX_s, upX_u] at h27
    have hg := gain g1 (n := n) hb6
    rw [fgt_tea hb6, show tea (Y 0) b k (12 + b) = Y 0 (12 + b) from up1_n (by omega)] at hg
    have h54 := r154 (X := X) (Y := upX Y 1 (pasN n (tea (Y 0) b k))) (sc := sc) (ai := ai) (aj := aj) hb6 (by rw [upX_s, upX_n (by decide)]; exact hg)
    have step : ∀ (y1 : Nat → Nat) (be mo : Int32), ∃ y2, ax_res 157 43 [some (.ref 134), some (.int (nI b)), some (.int (nI n)), some (.int (nI w)), some (.int be), some (.int mo), some (.int (nI (k + 1)))] [] (hp X (upX Y 1 y1) sc ai aj) = some (some (.int (if w = 0 then (lrF b n (Y 0) m (k + 1) be mo).1 else (lrF b n (Y 0) m (k + 1) be mo).2)), hp X (upX Y 1 y2) sc ai aj) := by
      intro y1 be mo
      obtain ⟨y2, e⟩ := ih (upX Y 1 y1) (k + 1) b n w be mo (by omega) hn (by rw [upX_n (by decide)]; exact hb) hw (by rw [upX_n (by decide)]; exact hI) (by rw [upX_n (by decide)]; exact hm)
      rw [upX_n (show ¬ 0 = 1 by decide), upX_u] at e
      exact ⟨y2, e⟩
    have et : up1 (Y 0) (6 + b) (Y 0 (6 + b) ||| 2 ^ k) = tea (Y 0) b k := rfl
    cases c : (Y 0 (6 + b)).testBit k with
    | true =>
      obtain ⟨y2, e⟩ := step (Y 1) be mo
      rw [upX_i] at e
      refine ⟨y2, ?_⟩
      rw [q157_43]
      simp only [q157_0, q157_1, q157_2, q157_5, q157_8, q157_9, q157_10, q157_11, q157_14, q157_17, q157_20, q157_21, q157_22, q157_23, q157_24, q157_27, q157_30, q157_31, q157_32, q157_34, q157_36, q157_38, q157_40, q157_41, q157_45, q157_46, q157_49, q157_50, q157_53, q157_55, q157_56, q157_57, q157_58, q157_60, q157_63, q157_66, q157_67, q157_70, q157_71, q157_74, q157_76, q157_77, q157_78, q157_79, q157_80, q157_81, q157_83, q157_84, q157_85, q157_86, q157_87, q157_88, q157_91, q157_92, q157_93, q157_96, q157_98, q157_101, q157_103, q157_106, q157_108, q157_110, q157_111, q157_112, q157_115, q157_117, q157_120, q157_121, q157_122, q157_125, q157_128, q157_130, q157_132, q157_135, q157_138, q157_139, q157_142, q157_144, q157_147, q157_149, ↓reduceIte, ax_bV_s, ax_bI_s, ax_bJ_s, ax_bA_s, ax_bH_s, ax_bR_s, ax_bR_n, gwq_0, gwq_1, gwq_2, gwq_3, gwq_4, gwq_5, gwqT, gwqS, gwqP, gwqK, gwqZ, gw0_0, gw0_1, gw0_2, gw0_3, gw0_4, gw0_5, gw0T, gw0S, gw0P, gw0K, gw0Z, gw1_0, gw1_1, gw1_2, gw1_3, gw1_4, gw1_5, gw1T, gw1S, gw1P, gw1K, gw1Z, oo_114, gf114_0, gf114_1, gf114_2, gf114_3, gf114_4, gf114_5, pf114_5, gf114_6, gf114_7, gf114_8, gf114_9, oo_119, gf119_0, gf119_1, pf119_1, gf119_2, pf119_2, oo_130, gf130_0, gf130_1, gf130_2, pf130_2, oo_134, gf134_0, gf134_1, pf134_1, gf134_2, pf134_2, gf134_3, pf134_3, gf134_4, gf134_5, pf134_5, gf134_6, gf134_7, gf134_8, gf134_9, pf134_9, gf134_10, gf134_11, gf134_12, gf134_13, gf134_14, gf134_15, gf134_16, gi120, pi120, li120, gi131, pi131, li131, gi132, pi132, li132, gi136, pi136, li136, gi138, pi138, li138, gi139, pi139, li139, gi140, pi140, li140, gi141, pi141, li141, gi142, pi142, li142, gi144, pi144, li144, gi145, pi145, li145, gj133, pj133, lj133, gj137, pj137, lj137, gj143, pj143, lj143, gj146, pj146, lj146, gA121, gAq, oo_s, gfs_0, gfs_1, gfs_2, pfs_0, pfs_1, gjs, ljs, pjs, oo_h, gfh_0, gfh_1, gfh_2, pfh_1, pfh_2, hb6, n_le (show 5 < 2 ^ 31 by decide) (show k < 2 ^ 31 by omega), show ¬ 5 ≤ k by omega, nI_add, r105 (show Y 0 (6 + b) < 2 ^ 31 by omega) (show k < 32 by omega), n_bt0, c, Bool.true_eq_false, e, lrF_s]
    | false =>
      by_cases c2 : nI (pasN n (tea (fgt (Y 0)) b k) (12 + b)) ≤ mo
      · obtain ⟨y2, e⟩ := step (pasN n (tea (Y 0) b k)) be mo
        refine ⟨y2, ?_⟩
        rw [q157_43]
        simp only [q157_0, q157_1, q157_2, q157_5, q157_8, q157_9, q157_10, q157_11, q157_14, q157_17, q157_20, q157_21, q157_22, q157_23, q157_24, q157_27, q157_30, q157_31, q157_32, q157_34, q157_36, q157_38, q157_40, q157_41, q157_45, q157_46, q157_49, q157_50, q157_53, q157_55, q157_56, q157_57, q157_58, q157_60, q157_63, q157_66, q157_67, q157_70, q157_71, q157_74, q157_76, q157_77, q157_78, q157_79, q157_80, q157_81, q157_83, q157_84, q157_85, q157_86, q157_87, q157_88, q157_91, q157_92, q157_93, q157_96, q157_98, q157_101, q157_103, q157_106, q157_108, q157_110, q157_111, q157_112, q157_115, q157_117, q157_120, q157_121, q157_122, q157_125, q157_128, q157_130, q157_132, q157_135, q157_138, q157_139, q157_142, q157_144, q157_147, q157_149, ↓reduceIte, ax_bV_s, ax_bI_s, ax_bJ_s, ax_bA_s, ax_bH_s, ax_bR_s, ax_bR_n, gwq_0, gwq_1, gwq_2, gwq_3, gwq_4, gwq_5, gwqT, gwqS, gwqP, gwqK, gwqZ, gw0_0, gw0_1, gw0_2, gw0_3, gw0_4, gw0_5, gw0T, gw0S, gw0P, gw0K, gw0Z, gw1_0, gw1_1, gw1_2, gw1_3, gw1_4, gw1_5, gw1T, gw1S, gw1P, gw1K, gw1Z, pwq_0, pwq_1, pwq_2, pwq_2n, pwq_3, pwq_4, pwq_5, pwqT, pwqS, pwqP, pwqK, pwqZ, pw0_0, pw0_1, pw0_2, pw0_2n, pw0_3, pw0_4, pw0_5, pw0T, pw0S, pw0P, pw0K, pw0Z, pw1_0, pw1_1, pw1_2, pw1_2n, pw1_3, pw1_4, pw1_5, pw1T, pw1S, pw1P, pw1K, pw1Z, oo_114, gf114_0, gf114_1, gf114_2, gf114_3, gf114_4, gf114_5, pf114_5, gf114_6, gf114_7, gf114_8, gf114_9, oo_119, gf119_0, gf119_1, pf119_1, gf119_2, pf119_2, oo_130, gf130_0, gf130_1, gf130_2, pf130_2, oo_134, gf134_0, gf134_1, pf134_1, gf134_2, pf134_2, gf134_3, pf134_3, gf134_4, gf134_5, pf134_5, gf134_6, gf134_7, gf134_8, gf134_9, pf134_9, gf134_10, gf134_11, gf134_12, gf134_13, gf134_14, gf134_15, gf134_16, gi120, pi120, li120, gi131, pi131, li131, gi132, pi132, li132, gi136, pi136, li136, gi138, pi138, li138, gi139, pi139, li139, gi140, pi140, li140, gi141, pi141, li141, gi142, pi142, li142, gi144, pi144, li144, gi145, pi145, li145, gj133, pj133, lj133, gj137, pj137, lj137, gj143, pj143, lj143, gj146, pj146, lj146, gA121, gAq, oo_s, gfs_0, gfs_1, gfs_2, pfs_0, pfs_1, gjs, ljs, pjs, oo_h, gfh_0, gfh_1, gfh_2, pfh_1, pfh_2, hb6, n_le (show 5 < 2 ^ 31 by decide) (show k < 2 ^ 31 by omega), show ¬ 5 ≤ k by omega, nI_add, r105 (show Y 0 (6 + b) < 2 ^ 31 by omega) (show k < 32 by omega), n_bt0, c, Bool.false_eq_true, r142, upX_s, upX_u, n_1shl k (show k < 31 by omega), n_or, et, h27, h54, c2, e, lrF_s]
      · obtain ⟨y2, e⟩ := step (pasN n (tea (Y 0) b k)) (nI k) (nI (pasN n (tea (fgt (Y 0)) b k) (12 + b)))
        refine ⟨y2, ?_⟩
        rw [q157_43]
        simp only [q157_0, q157_1, q157_2, q157_5, q157_8, q157_9, q157_10, q157_11, q157_14, q157_17, q157_20, q157_21, q157_22, q157_23, q157_24, q157_27, q157_30, q157_31, q157_32, q157_34, q157_36, q157_38, q157_40, q157_41, q157_45, q157_46, q157_49, q157_50, q157_53, q157_55, q157_56, q157_57, q157_58, q157_60, q157_63, q157_66, q157_67, q157_70, q157_71, q157_74, q157_76, q157_77, q157_78, q157_79, q157_80, q157_81, q157_83, q157_84, q157_85, q157_86, q157_87, q157_88, q157_91, q157_92, q157_93, q157_96, q157_98, q157_101, q157_103, q157_106, q157_108, q157_110, q157_111, q157_112, q157_115, q157_117, q157_120, q157_121, q157_122, q157_125, q157_128, q157_130, q157_132, q157_135, q157_138, q157_139, q157_142, q157_144, q157_147, q157_149, ↓reduceIte, ax_bV_s, ax_bI_s, ax_bJ_s, ax_bA_s, ax_bH_s, ax_bR_s, ax_bR_n, gwq_0, gwq_1, gwq_2, gwq_3, gwq_4, gwq_5, gwqT, gwqS, gwqP, gwqK, gwqZ, gw0_0, gw0_1, gw0_2, gw0_3, gw0_4, gw0_5, gw0T, gw0S, gw0P, gw0K, gw0Z, gw1_0, gw1_1, gw1_2, gw1_3, gw1_4, gw1_5, gw1T, gw1S, gw1P, gw1K, gw1Z, pwq_0, pwq_1, pwq_2, pwq_2n, pwq_3, pwq_4, pwq_5, pwqT, pwqS, pwqP, pwqK, pwqZ, pw0_0, pw0_1, pw0_2, pw0_2n, pw0_3, pw0_4, pw0_5, pw0T, pw0S, pw0P, pw0K, pw0Z, pw1_0, pw1_1, pw1_2, pw1_2n, pw1_3, pw1_4, pw1_5, pw1T, pw1S, pw1P, pw1K, pw1Z, oo_114, gf114_0, gf114_1, gf114_2, gf114_3, gf114_4, gf114_5, pf114_5, gf114_6, gf114_7, gf114_8, gf114_9, oo_119, gf119_0, gf119_1, pf119_1, gf119_2, pf119_2, oo_130, gf130_0, gf130_1, gf130_2, pf130_2, oo_134, gf134_0, gf134_1, pf134_1, gf134_2, pf134_2, gf134_3, pf134_3, gf134_4, gf134_5, pf134_5, gf134_6, gf134_7, gf134_8, gf134_9, pf134_9, gf134_10, gf134_11, gf134_12, gf134_13, gf134_14, gf134_15, gf134_16, gi120, pi120, li120, gi131, pi131, li131, gi132, pi132, li132, gi136, pi136, li136, gi138, pi138, li138, gi139, pi139, li139, gi140, pi140, li140, gi141, pi141, li141, gi142, pi142, li142, gi144, pi144, li144, gi145, pi145, li145, gj133, pj133, lj133, gj137, pj137, lj137, gj143, pj143, lj143, gj146, pj146, lj146, gA121, gAq, oo_s, gfs_0, gfs_1, gfs_2, pfs_0, pfs_1, gjs, ljs, pjs, oo_h, gfh_0, gfh_1, gfh_2, pfh_1, pfh_2, hb6, n_le (show 5 < 2 ^ 31 by decide) (show k < 2 ^ 31 by omega), show ¬ 5 ≤ k by omega, nI_add, r105 (show Y 0 (6 + b) < 2 ^ 31 by omega) (show k < 32 by omega), n_bt0, c, Bool.false_eq_true, r142, upX_s, upX_u, n_1shl k (show k < 31 by omega), n_or, et, h27, h54, c2, e, lrF_s]
theorem m157_bad {b n w : Int32} (hI : Inv (Y 0)) (h : (isB b (Y 0 0) && (isI n 1 40 && isI w 0 1)) = false) : ax_res 157 0 [some (.ref 134), some (.int b), some (.int n), some (.int w), none, none, none] [] (hp X Y sc ai aj) = some (some (.int (-1)), hp X Y sc ai aj) := by
  simp only [q157_0, q157_1, q157_2, q157_5, q157_8, q157_9, q157_10, q157_11, q157_14, q157_17, q157_20, q157_21, q157_22, q157_23, q157_24, q157_27, q157_30, q157_31, ↓reduceIte, ax_bV_s, ax_bI_s, ax_bJ_s, ax_bA_s, ax_bH_s, ax_bR_s, ax_bR_n, oo_114, gf114_0, gf114_1, gf114_2, gf114_3, gf114_4, gf114_5, pf114_5, gf114_6, gf114_7, gf114_8, gf114_9, oo_119, gf119_0, gf119_1, pf119_1, gf119_2, pf119_2, oo_130, gf130_0, gf130_1, gf130_2, pf130_2, oo_134, gf134_0, gf134_1, pf134_1, gf134_2, pf134_2, gf134_3, pf134_3, gf134_4, gf134_5, pf134_5, gf134_6, gf134_7, gf134_8, gf134_9, pf134_9, gf134_10, gf134_11, gf134_12, gf134_13, gf134_14, gf134_15, gf134_16, gi120, pi120, li120, gi131, pi131, li131, gi132, pi132, li132, gi136, pi136, li136, gi138, pi138, li138, gi139, pi139, li139, gi140, pi140, li140, gi141, pi141, li141, gi142, pi142, li142, gi144, pi144, li144, gi145, pi145, li145, gj133, pj133, lj133, gj137, pj137, lj137, gj143, pj143, lj143, gj146, pj146, lj146, gA121, gAq, oo_s, gfs_0, gfs_1, gfs_2, pfs_0, pfs_1, gjs, ljs, pjs, oo_h, gfh_0, gfh_1, gfh_2, pfh_1, pfh_2, r108 hI.1, r104I (show 1 < 2 ^ 31 by decide) (show 40 < 2 ^ 31 by decide), r104I (show 0 < 2 ^ 31 by decide) (show 1 < 2 ^ 31 by decide), n_bn0]
  revert h
  cases isB b (Y 0 0) <;> cases isI n 1 40 <;> cases isI w 0 1 <;> simp
theorem m157_ok {b n w : Nat} (hI : Inv (Y 0)) (hm : Y 0 1 ≤ 9999) (hb : b < Y 0 0) (hn1 : 1 ≤ n) (hn : n ≤ 40) (hw : w ≤ 1) : ∃ y1, ax_res 157 0 [some (.ref 134), some (.int (nI b)), some (.int (nI n)), some (.int (nI w)), none, none, none] [] (hp X Y sc ai aj) = some (some (.int (lrA b n w (Y 0))), hp X (upX Y 1 y1) sc ai aj) := by
  have h0 := hI.1
  obtain ⟨y1, e⟩ := m157_l (X := X) (sc := sc) (ai := ai) (aj := aj) 5 Y 0 b n w (-4) (-4) (by omega) hn hb hw hI hm
  refine ⟨y1, ?_⟩
  simp only [q157_0, q157_1, q157_2, q157_5, q157_8, q157_9, q157_10, q157_11, q157_14, q157_17, q157_20, q157_21, q157_22, q157_23, q157_24, q157_27, q157_32, q157_34, q157_36, q157_38, q157_40, q157_41, ↓reduceIte, ax_bV_s, ax_bI_s, ax_bJ_s, ax_bA_s, ax_bH_s, ax_bR_s, ax_bR_n, oo_114, gf114_0, gf114_1, gf114_2, gf114_3, gf114_4, gf114_5, pf114_5, gf114_6, gf114_7, gf114_8, gf114_9, oo_119, gf119_0, gf119_1, pf119_1, gf119_2, pf119_2, oo_130, gf130_0, gf130_1, gf130_2, pf130_2, oo_134, gf134_0, gf134_1, pf134_1, gf134_2, pf134_2, gf134_3, pf134_3, gf134_4, gf134_5, pf134_5, gf134_6, gf134_7, gf134_8, gf134_9, pf134_9, gf134_10, gf134_11, gf134_12, gf134_13, gf134_14, gf134_15, gf134_16, gi120, pi120, li120, gi131, pi131, li131, gi132, pi132, li132, gi136, pi136, li136, gi138, pi138, li138, gi139, pi139, li139, gi140, pi140, li140, gi141, pi141, li141, gi142, pi142, li142, gi144, pi144, li144, gi145, pi145, li145, gj133, pj133, lj133, gj137, pj137, lj137, gj143, pj143, lj143, gj146, pj146, lj146, gA121, gAq, oo_s, gfs_0, gfs_1, gfs_2, pfs_0, pfs_1, gjs, ljs, pjs, oo_h, gfh_0, gfh_1, gfh_2, pfh_1, pfh_2, r108 h0, isB_t (show Y 0 0 ≤ 1000 by omega) hb, r104I (show 1 < 2 ^ 31 by decide) (show 40 < 2 ^ 31 by decide), isI_nI (show n < 2 ^ 31 by omega) hn1 hn, r104I (show 0 < 2 ^ 31 by decide) (show 1 < 2 ^ 31 by decide), isI_nI (show w < 2 ^ 31 by omega) (Nat.zero_le w) hw, n_bn0, Bool.true_eq_false, e]
  rfl
-- type
theorem r39 {z : Nat} (hz : z ≤ 70) (h : sc 119 1 = nI z) : ax_res 39 0 [some (.ref 119)] [] (hp X Y sc ai aj) = some (some (.int (nI (bn (decide (z = 70))))), hp X Y sc ai aj) := by
  simp only [q39_0, q39_1, q39_4, q39_6, q39_9, q39_10, q39_13, q39_14, ↓reduceIte, ax_bV_s, ax_bI_s, ax_bJ_s, ax_bA_s, ax_bH_s, ax_bR_s, ax_bR_n, oo_114, gf114_0, gf114_1, gf114_2, gf114_3, gf114_4, gf114_5, pf114_5, gf114_6, gf114_7, gf114_8, gf114_9, oo_119, gf119_0, gf119_1, pf119_1, gf119_2, pf119_2, oo_130, gf130_0, gf130_1, gf130_2, pf130_2, oo_134, gf134_0, gf134_1, pf134_1, gf134_2, pf134_2, gf134_3, pf134_3, gf134_4, gf134_5, pf134_5, gf134_6, gf134_7, gf134_8, gf134_9, pf134_9, gf134_10, gf134_11, gf134_12, gf134_13, gf134_14, gf134_15, gf134_16, gi120, pi120, li120, gi131, pi131, li131, gi132, pi132, li132, gi136, pi136, li136, gi138, pi138, li138, gi139, pi139, li139, gi140, pi140, li140, gi141, pi141, li141, gi142, pi142, li142, gi144, pi144, li144, gi145, pi145, li145, gj133, pj133, lj133, gj137, pj137, lj137, gj143, pj143, lj143, gj146, pj146, lj146, gA121, gAq, oo_s, gfs_0, gfs_1, gfs_2, pfs_0, pfs_1, gjs, ljs, pjs, oo_h, gfh_0, gfh_1, gfh_2, pfh_1, pfh_2, ax_fit1_0, ax_fit1_1, ax_fitb, h, n_lt (show z < 2 ^ 31 by omega) (show 70 < 2 ^ 31 by decide)]
  by_cases c : z = 70
  · simp [c, bn]
  · simp [c, bn, show z < 70 by omega]
theorem s52_bad {k : Int32} (h : isI k 32 126 = false) : ax_res 52 0 [some (.ref 114), some (.int k)] [] (hp X Y sc ai aj) = some (some (.int (-1)), hp X Y sc ai aj) := by
  simp only [q52_0, q52_1, q52_3, q52_5, q52_8, q52_11, q52_12, ↓reduceIte, ax_bV_s, ax_bI_s, ax_bJ_s, ax_bA_s, ax_bH_s, ax_bR_s, ax_bR_n, r84I (show 32 < 2 ^ 31 by decide) (show 126 < 2 ^ 31 by decide), h, Bool.not_false, n_bn0, Bool.true_eq_false]
theorem s52_full {k : Int32} (h : isI k 32 126 = true) (hz : sc 119 1 = nI 70) : ax_res 52 0 [some (.ref 114), some (.int k)] [] (hp X Y sc ai aj) = some (some (.int (-3)), hp X Y sc ai aj) := by
  simp only [q52_0, q52_1, q52_3, q52_5, q52_8, q52_13, q52_14, q52_17, q52_20, q52_23, q52_25, ↓reduceIte, ax_bV_s, ax_bI_s, ax_bJ_s, ax_bA_s, ax_bH_s, ax_bR_s, ax_bR_n, oo_114, gf114_0, gf114_1, gf114_2, gf114_3, gf114_4, gf114_5, pf114_5, gf114_6, gf114_7, gf114_8, gf114_9, oo_119, gf119_0, gf119_1, pf119_1, gf119_2, pf119_2, oo_130, gf130_0, gf130_1, gf130_2, pf130_2, oo_134, gf134_0, gf134_1, pf134_1, gf134_2, pf134_2, gf134_3, pf134_3, gf134_4, gf134_5, pf134_5, gf134_6, gf134_7, gf134_8, gf134_9, pf134_9, gf134_10, gf134_11, gf134_12, gf134_13, gf134_14, gf134_15, gf134_16, gi120, pi120, li120, gi131, pi131, li131, gi132, pi132, li132, gi136, pi136, li136, gi138, pi138, li138, gi139, pi139, li139, gi140, pi140, li140, gi141, pi141, li141, gi142, pi142, li142, gi144, pi144, li144, gi145, pi145, li145, gj133, pj133, lj133, gj137, pj137, lj137, gj143, pj143, lj143, gj146, pj146, lj146, gA121, gAq, oo_s, gfs_0, gfs_1, gfs_2, pfs_0, pfs_1, gjs, ljs, pjs, oo_h, gfh_0, gfh_1, gfh_2, pfh_1, pfh_2, r84I (show 32 < 2 ^ 31 by decide) (show 126 < 2 ^ 31 by decide), h, Bool.not_true, n_bn0, r39 (Nat.le_refl 70) hz, decide_true, Bool.true_eq_false]
theorem s52_ok {k z : Nat} (h1 : 32 ≤ k) (h2 : k ≤ 126) (hz : z < 70) (h : sc 119 1 = nI z) : ax_res 52 0 [some (.ref 114), some (.int (nI k))] [] (hp X Y sc ai aj) = some (some (.int (nI (z + 1))), hp X Y (upS sc 119 1 (nI (z + 1))) (upA ai 120 (upd (ai 120) z (nI k))) aj) := by
  have h40 : ax_res 40 0 [some (.ref 119), some (.int ((nI k).toUInt32 % 65536).toInt32)] [] (hp X Y sc ai aj) = some (some (.int (nI (z + 1))), hp X Y (upS sc 119 1 (nI (z + 1))) (upA ai 120 (upd (ai 120) z (nI k))) aj) := by
    simp only [q40_0, q40_1, q40_4, q40_7, q40_9, q40_10, q40_11, q40_14, q40_15, q40_18, q40_19, q40_20, q40_21, q40_22, q40_25, q40_26, q40_27, q40_30, q40_31, q40_34, ↓reduceIte, ax_bV_s, ax_bI_s, ax_bJ_s, ax_bA_s, ax_bH_s, ax_bR_s, ax_bR_n, oo_114, gf114_0, gf114_1, gf114_2, gf114_3, gf114_4, gf114_5, pf114_5, gf114_6, gf114_7, gf114_8, gf114_9, oo_119, gf119_0, gf119_1, pf119_1, gf119_2, pf119_2, oo_130, gf130_0, gf130_1, gf130_2, pf130_2, oo_134, gf134_0, gf134_1, pf134_1, gf134_2, pf134_2, gf134_3, pf134_3, gf134_4, gf134_5, pf134_5, gf134_6, gf134_7, gf134_8, gf134_9, pf134_9, gf134_10, gf134_11, gf134_12, gf134_13, gf134_14, gf134_15, gf134_16, gi120, pi120, li120, gi131, pi131, li131, gi132, pi132, li132, gi136, pi136, li136, gi138, pi138, li138, gi139, pi139, li139, gi140, pi140, li140, gi141, pi141, li141, gi142, pi142, li142, gi144, pi144, li144, gi145, pi145, li145, gj133, pj133, lj133, gj137, pj137, lj137, gj143, pj143, lj143, gj146, pj146, lj146, gA121, gAq, oo_s, gfs_0, gfs_1, gfs_2, pfs_0, pfs_1, gjs, ljs, pjs, oo_h, gfh_0, gfh_1, gfh_2, pfh_1, pfh_2, r39 (show z ≤ 70 by omega) h, n_bn0, show ¬ z = 70 by omega, decide_false, h, hz, nar_c k (show k < 127 by omega), nI_add, upS_s]
  simp only [q52_0, q52_1, q52_3, q52_5, q52_8, q52_11, q52_12, q52_13, q52_14, q52_17, q52_20, q52_23, q52_25, q52_26, q52_27, q52_30, q52_31, q52_32, q52_35, ↓reduceIte, ax_bV_s, ax_bI_s, ax_bJ_s, ax_bA_s, ax_bH_s, ax_bR_s, ax_bR_n, oo_114, gf114_0, gf114_1, gf114_2, gf114_3, gf114_4, gf114_5, pf114_5, gf114_6, gf114_7, gf114_8, gf114_9, oo_119, gf119_0, gf119_1, pf119_1, gf119_2, pf119_2, oo_130, gf130_0, gf130_1, gf130_2, pf130_2, oo_134, gf134_0, gf134_1, pf134_1, gf134_2, pf134_2, gf134_3, pf134_3, gf134_4, gf134_5, pf134_5, gf134_6, gf134_7, gf134_8, gf134_9, pf134_9, gf134_10, gf134_11, gf134_12, gf134_13, gf134_14, gf134_15, gf134_16, gi120, pi120, li120, gi131, pi131, li131, gi132, pi132, li132, gi136, pi136, li136, gi138, pi138, li138, gi139, pi139, li139, gi140, pi140, li140, gi141, pi141, li141, gi142, pi142, li142, gi144, pi144, li144, gi145, pi145, li145, gj133, pj133, lj133, gj137, pj137, lj137, gj143, pj143, lj143, gj146, pj146, lj146, gA121, gAq, oo_s, gfs_0, gfs_1, gfs_2, pfs_0, pfs_1, gjs, ljs, pjs, oo_h, gfh_0, gfh_1, gfh_2, pfh_1, pfh_2, r84I (show 32 < 2 ^ 31 by decide) (show 126 < 2 ^ 31 by decide), isI_nI (show k < 2 ^ 31 by omega) h1 h2, Bool.not_true, n_bn0, r39 (show z ≤ 70 by omega) h, show ¬ z = 70 by omega, decide_false, h40]
theorem m119_bad {k : Int32} (h : isI k 32 126 = false) : ax_res 119 0 [some (.ref 134), some (.int k)] [] (hp X Y sc ai aj) = some (some (.int (-1)), hp X Y sc ai aj) := by
  simp only [q119_0, q119_1, q119_2, q119_5, q119_8, q119_11, q119_14, q119_15, ↓reduceIte, ax_bV_s, ax_bI_s, ax_bJ_s, ax_bA_s, ax_bH_s, ax_bR_s, ax_bR_n, r104I (show 32 < 2 ^ 31 by decide) (show 126 < 2 ^ 31 by decide), h, n_bn0]
theorem m119_full {k : Int32} (h : isI k 32 126 = true) (hz : sc 134 5 = nI 70) : ax_res 119 0 [some (.ref 134), some (.int k)] [] (hp X Y sc ai aj) = some (some (.int (-3)), hp X Y sc ai aj) := by
  simp only [q119_0, q119_1, q119_2, q119_5, q119_8, q119_11, q119_16, q119_17, q119_20, q119_22, q119_25, q119_27, ↓reduceIte, ax_bV_s, ax_bI_s, ax_bJ_s, ax_bA_s, ax_bH_s, ax_bR_s, ax_bR_n, oo_114, gf114_0, gf114_1, gf114_2, gf114_3, gf114_4, gf114_5, pf114_5, gf114_6, gf114_7, gf114_8, gf114_9, oo_119, gf119_0, gf119_1, pf119_1, gf119_2, pf119_2, oo_130, gf130_0, gf130_1, gf130_2, pf130_2, oo_134, gf134_0, gf134_1, pf134_1, gf134_2, pf134_2, gf134_3, pf134_3, gf134_4, gf134_5, pf134_5, gf134_6, gf134_7, gf134_8, gf134_9, pf134_9, gf134_10, gf134_11, gf134_12, gf134_13, gf134_14, gf134_15, gf134_16, gi120, pi120, li120, gi131, pi131, li131, gi132, pi132, li132, gi136, pi136, li136, gi138, pi138, li138, gi139, pi139, li139, gi140, pi140, li140, gi141, pi141, li141, gi142, pi142, li142, gi144, pi144, li144, gi145, pi145, li145, gj133, pj133, lj133, gj137, pj137, lj137, gj143, pj143, lj143, gj146, pj146, lj146, gA121, gAq, oo_s, gfs_0, gfs_1, gfs_2, pfs_0, pfs_1, gjs, ljs, pjs, oo_h, gfh_0, gfh_1, gfh_2, pfh_1, pfh_2, r104I (show 32 < 2 ^ 31 by decide) (show 126 < 2 ^ 31 by decide), h, n_bn0, Bool.true_eq_false, hz]
theorem m119_ok {k z : Nat} (h1 : 32 ≤ k) (h2 : k ≤ 126) (hz : z < 70) (h : sc 134 5 = nI z) : ax_res 119 0 [some (.ref 134), some (.int (nI k))] [] (hp X Y sc ai aj) = some (some (.int (nI (z + 1))), hp X Y (upS sc 134 5 (nI (z + 1))) (upA ai 136 (upd (ai 136) z (nI k))) aj) := by
  have c : ¬ nI z = nI 70 := by rw [n_eq (by omega) (by decide)]; omega
  simp only [q119_0, q119_1, q119_2, q119_5, q119_8, q119_11, q119_14, q119_15, q119_16, q119_17, q119_20, q119_22, q119_25, q119_27, q119_28, q119_29, q119_32, q119_33, q119_36, q119_37, q119_38, q119_39, q119_40, q119_43, q119_44, q119_45, q119_48, q119_49, q119_52, ↓reduceIte, ax_bV_s, ax_bI_s, ax_bJ_s, ax_bA_s, ax_bH_s, ax_bR_s, ax_bR_n, oo_114, gf114_0, gf114_1, gf114_2, gf114_3, gf114_4, gf114_5, pf114_5, gf114_6, gf114_7, gf114_8, gf114_9, oo_119, gf119_0, gf119_1, pf119_1, gf119_2, pf119_2, oo_130, gf130_0, gf130_1, gf130_2, pf130_2, oo_134, gf134_0, gf134_1, pf134_1, gf134_2, pf134_2, gf134_3, pf134_3, gf134_4, gf134_5, pf134_5, gf134_6, gf134_7, gf134_8, gf134_9, pf134_9, gf134_10, gf134_11, gf134_12, gf134_13, gf134_14, gf134_15, gf134_16, gi120, pi120, li120, gi131, pi131, li131, gi132, pi132, li132, gi136, pi136, li136, gi138, pi138, li138, gi139, pi139, li139, gi140, pi140, li140, gi141, pi141, li141, gi142, pi142, li142, gi144, pi144, li144, gi145, pi145, li145, gj133, pj133, lj133, gj137, pj137, lj137, gj143, pj143, lj143, gj146, pj146, lj146, gA121, gAq, oo_s, gfs_0, gfs_1, gfs_2, pfs_0, pfs_1, gjs, ljs, pjs, oo_h, gfh_0, gfh_1, gfh_2, pfh_1, pfh_2, r104I (show 32 < 2 ^ 31 by decide) (show 126 < 2 ^ 31 by decide), isI_nI (show k < 2 ^ 31 by omega) h1 h2, n_bn0, Bool.true_eq_false, h, c, hz, nI_add, upS_s]
end PY
