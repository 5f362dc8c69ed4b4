/-! ===== stubs ===== -/
theorem inv_up24 {x : Nat → Nat} {b v : Nat} (h : Inv x) (hb : b < x 0) (hv : v ≤ 4) : Inv (up1 x (24 + b) v) := by
  have h0 := h.1
  have e : ∀ i, ¬ i = 24 + b → up1 x (24 + b) v i = x i := fun i hi => up1_n hi
  refine inv_same h (e 0 (by omega)) (e 1 (by omega)) ?_ ?_ ?_ ?_ (fun c hc => ?_)
  · rw [e 2 (by omega)]; exact h.2.1
  · rw [e 3 (by omega)]; exact h.2.2.1
  · rw [e 4 (by omega)]; exact h.2.2.2.1
  · rw [e 5 (by omega)]; exact h.2.2.2.2.1
  · have g := h.2.2.2.2.2 c hc
    rw [e (6 + c) (by omega), e (12 + c) (by omega), e (18 + c) (by omega), e (30 + c) (by omega)]
    refine ⟨g.1, g.2.1, g.2.2.1, ?_, g.2.2.2.2⟩
    by_cases h1 : c = b
    · subst h1; rw [up1_s]; exact hv
    · rw [e (24 + c) (by omega)]; exact g.2.2.2.1
theorem inv_up6 {x : Nat → Nat} {b v : Nat} (h : Inv x) (hb : b < x 0) (hv : v < 32) : Inv (up1 x (6 + b) v) := by
  have h0 := h.1
  have e : ∀ i, ¬ i = 6 + b → up1 x (6 + b) v i = x i := fun i hi => up1_n hi
  refine inv_same h (e 0 (by omega)) (e 1 (by omega)) ?_ ?_ ?_ ?_ (fun c hc => ?_)
  · rw [e 2 (by omega)]; exact h.2.1
  · rw [e 3 (by omega)]; exact h.2.2.1
  · rw [e 4 (by omega)]; exact h.2.2.2.1
  · rw [e 5 (by omega)]; exact h.2.2.2.2.1
  · have g := h.2.2.2.2.2 c hc
    rw [e (24 + c) (by omega), e (12 + c) (by omega), e (18 + c) (by omega), e (30 + c) (by omega)]
    refine ⟨?_, g.2.1, g.2.2.1, g.2.2.2.1, g.2.2.2.2⟩
    by_cases h1 : c = b
    · subst h1; rw [up1_s]; exact hv
    · rw [e (6 + c) (by omega)]; exact g.1
theorem inv_up30 {x : Nat → Nat} {b v : Nat} (h : Inv x) (hb : b < x 0) (hv : v ≤ 99) : Inv (up1 x (30 + b) v) := by
  have h0 := h.1
  have e : ∀ i, ¬ i = 30 + b → up1 x (30 + b) v i = x i := fun i hi => up1_n hi
  refine inv_same h (e 0 (by omega)) (e 1 (by omega)) ?_ ?_ ?_ ?_ (fun c hc => ?_)
  · rw [e 2 (by omega)]; exact h.2.1
  · rw [e 3 (by omega)]; exact h.2.2.1
  · rw [e 4 (by omega)]; exact h.2.2.2.1
  · rw [e 5 (by omega)]; exact h.2.2.2.2.1
  · have g := h.2.2.2.2.2 c hc
    rw [e (24 + c) (by omega), e (12 + c) (by omega), e (18 + c) (by omega), e (6 + c) (by omega)]
    refine ⟨g.1, g.2.1, g.2.2.1, g.2.2.2.1, ?_⟩
    by_cases h1 : c = b
    · subst h1; rw [up1_s]; exact hv
    · rw [e (30 + c) (by omega)]; exact g.2.2.2.2
/-- whether who sits in the next n minutes is what a row tells from p on -/
def fol (f : Nat → Int64) : Nat → (Nat → Nat) → Nat → Bool
  | 0, _, _ => true
  | n + 1, x, p => decide (f p = (sv (pas x false 2)).toInt64) && fol f n (pas x false) (p + 1)
theorem fol_0 {f : Nat → Int64} {x : Nat → Nat} {p : Nat} : fol f 0 x p = true := by rw [fol]
theorem fol_s {f : Nat → Int64} {n : Nat} {x : Nat → Nat} {p : Nat} : fol f (n + 1) x p = (decide (f p = (sv (pas x false 2)).toInt64) && fol f n (pas x false) (p + 1)) := by rw [fol]
def knd (f : Nat → Int64) (b n p : Nat) (x : Nat → Nat) : Nat → Nat → Nat → Nat
  | 0, _, acc => acc
  | m + 1, k, acc => knd f b n p x m (k + 1) (if fol f n (up1 x (24 + b) k) p = true then acc ||| 2 ^ k else acc)
theorem knd_0 {f : Nat → Int64} {b n p : Nat} {x : Nat → Nat} {k acc : Nat} : knd f b n p x 0 k acc = acc := by rw [knd]
theorem knd_s {f : Nat → Int64} {b n p : Nat} {x : Nat → Nat} {m k acc : Nat} : knd f b n p x (m + 1) k acc = knd f b n p x m (k + 1) (if fol f n (up1 x (24 + b) k) p = true then acc ||| 2 ^ k else acc) := by rw [knd]
def trk (f : Nat → Int64) (b n p : Nat) (x : Nat → Nat) : Nat → Nat → Int32 → Nat × Int32
  | 0, w, l => (w, l)
  | m + 1, w, l => if fol f n (up1 x (6 + b) m) p = true then trk f b n p x m (w + 1) (nI m) else trk f b n p x m w l
theorem trk_0 {f : Nat → Int64} {b n p : Nat} {x : Nat → Nat} {w : Nat} {l : Int32} : trk f b n p x 0 w l = (w, l) := by rw [trk]
theorem trk_s {f : Nat → Int64} {b n p : Nat} {x : Nat → Nat} {m w : Nat} {l : Int32} : trk f b n p x (m + 1) w l = if fol f n (up1 x (6 + b) m) p = true then trk f b n p x m (w + 1) (nI m) else trk f b n p x m w l := by rw [trk]
/-- one below -/
def dn (m : Nat) : Int32 := if m = 0 then -1 else nI (m - 1)
theorem dn_0 : dn 0 = -1 := rfl
theorem dn_s {m : Nat} : dn (m + 1) = nI m := by unfold dn; rw [if_neg (by omega)]; rfl
theorem dn_dec {m : Nat} : nI m + (-1) = dn m := by
  unfold dn
  by_cases h : m = 0
  · subst h; decide
  · rw [if_neg h, ← n_sub (show 1 ≤ m by omega)]
    rw [Int32.sub_eq_add_neg]
    rfl
section ST
variable {X Y : Nat → Nat → Nat} {sc : Nat → Nat → Int32} {ai : Nat → Nat → Int32} {aj : Nat → Nat → Int64} {s : Nat}
theorem r99_l (m : Nat) : ∀ (X : Nat → Nat → Nat) (t n i : Nat), t + m = n → i + n ≤ 24 → s < 4 → Inv (X 1) → X 1 1 + m < 20000 → ∃ x1, ax_res 99 3 [some (.ref 114), some (.ref (sh s)), some (.int (nI i)), some (.int (nI n)), some (.int (nI t))] [] (hp X Y sc ai aj) = some (some (.int (nI (bn (fol (aj (si s)) m (X 1) (i + t))))), hp (upX X 1 x1) Y sc ai aj) := by
  induction m with
  | zero =>
    intro X t n i ht hi hs hI hm
    refine ⟨X 1, ?_⟩
    simp only [q99_3, q99_5, q99_6, q99_46, q99_47, ↓reduceIte, ax_bV_s, ax_bI_s, ax_bJ_s, ax_bA_s, ax_bH_s, ax_bR_s, ax_bR_n, ax_fit1_0, ax_fit1_1, ax_fitb, n_le (show n < 2 ^ 31 by omega) (show t < 2 ^ 31 by omega), show n ≤ t by omega, fol_0, upX_i]
    rfl
  | succ m ih =>
    intro X t n i ht hi hs hI hm
    have h26 := r26 (X := X) (Y := Y) (sc := sc) (ai := ai) (aj := aj) (mb := false) j1 hI (by omega)
    obtain ⟨g1, g2, g3⟩ := inv_pas (m := false) hI
    obtain ⟨x1, e⟩ := ih (upX X 1 (pas (X 1) false)) (t + 1) n i (by omega) hi hs (by rw [upX_s]; exact g1) (by rw [upX_s, g3]; omega)
    rw [upX_s, upX_u, show i + (t + 1) = i + t + 1 by omega] at e
    by_cases c : aj (si s) (i + t) = (sv (pas (X 1) false 2)).toInt64
    · refine ⟨x1, ?_⟩
      rw [q99_3]
      simp only [q99_0, q99_1, q99_5, q99_6, q99_9, q99_10, q99_13, q99_14, q99_17, q99_18, q99_21, q99_22, q99_24, q99_25, q99_26, q99_27, q99_30, q99_33, q99_34, q99_35, q99_38, q99_39, q99_40, q99_43, q99_46, q99_47, ↓reduceIte, ax_bV_s, ax_bI_s, ax_bJ_s, ax_bA_s, ax_bH_s, ax_bR_s, ax_bR_n, gh_people, gh_here, gh_sat, gh_minute, gh_draw, gh_sitter, gh_kinds, gh_prices, gh_known, gh_sights, gh_places, ga_kinds, ga_prices, ga_known, ga_sights, ga_places, oh, oo_114, gf114_0, gf114_1, gf114_2, gf114_3, gf114_4, gf114_5, pf114_5, gf114_6, gf114_7, gf114_8, gf114_9, oo_119, gf119_0, gf119_1, pf119_1, gf119_2, pf119_2, oo_130, gf130_0, gf130_1, gf130_2, pf130_2, oo_134, gf134_0, gf134_1, pf134_1, gf134_2, pf134_2, gf134_3, pf134_3, gf134_4, gf134_5, pf134_5, gf134_6, gf134_7, gf134_8, gf134_9, pf134_9, gf134_10, gf134_11, gf134_12, gf134_13, gf134_14, gf134_15, gf134_16, gi120, pi120, li120, gi131, pi131, li131, gi132, pi132, li132, gi136, pi136, li136, gi138, pi138, li138, gi139, pi139, li139, gi140, pi140, li140, gi141, pi141, li141, gi142, pi142, li142, gi144, pi144, li144, gi145, pi145, li145, gj133, pj133, lj133, gj137, pj137, lj137, gj143, pj143, lj143, gj146, pj146, lj146, gA121, gAq, oo_s, gfs_0, gfs_1, gfs_2, pfs_0, pfs_1, gjs, ljs, pjs, oo_h, gfh_0, gfh_1, gfh_2, pfh_1, pfh_2, hs, j1, n_le (show n < 2 ^ 31 by omega) (show t < 2 ^ 31 by omega), show ¬ n ≤ t by omega, show nI 0 = nI (bn false) from rfl, h26, upX_s, nI_add, show i + t < 24 by omega, lg_cmp_eq, c, e, fol_s, decide_true, Bool.true_and]
    · refine ⟨pas (X 1) false, ?_⟩
      rw [q99_3]
      simp only [q99_0, q99_1, q99_5, q99_6, q99_9, q99_10, q99_13, q99_14, q99_17, q99_18, q99_21, q99_22, q99_24, q99_25, q99_26, q99_27, q99_30, q99_33, q99_34, q99_35, q99_38, q99_39, q99_40, q99_43, q99_46, q99_47, ↓reduceIte, ax_bV_s, ax_bI_s, ax_bJ_s, ax_bA_s, ax_bH_s, ax_bR_s, ax_bR_n, gh_people, gh_here, gh_sat, gh_minute, gh_draw, gh_sitter, gh_kinds, gh_prices, gh_known, gh_sights, gh_places, ga_kinds, ga_prices, ga_known, ga_sights, ga_places, oh, oo_114, gf114_0, gf114_1, gf114_2, gf114_3, gf114_4, gf114_5, pf114_5, gf114_6, gf114_7, gf114_8, gf114_9, oo_119, gf119_0, gf119_1, pf119_1, gf119_2, pf119_2, oo_130, gf130_0, gf130_1, gf130_2, pf130_2, oo_134, gf134_0, gf134_1, pf134_1, gf134_2, pf134_2, gf134_3, pf134_3, gf134_4, gf134_5, pf134_5, gf134_6, gf134_7, gf134_8, gf134_9, pf134_9, gf134_10, gf134_11, gf134_12, gf134_13, gf134_14, gf134_15, gf134_16, gi120, pi120, li120, gi131, pi131, li131, gi132, pi132, li132, gi136, pi136, li136, gi138, pi138, li138, gi139, pi139, li139, gi140, pi140, li140, gi141, pi141, li141, gi142, pi142, li142, gi144, pi144, li144, gi145, pi145, li145, gj133, pj133, lj133, gj137, pj137, lj137, gj143, pj143, lj143, gj146, pj146, lj146, gA121, gAq, oo_s, gfs_0, gfs_1, gfs_2, pfs_0, pfs_1, gjs, ljs, pjs, oo_h, gfh_0, gfh_1, gfh_2, pfh_1, pfh_2, ax_fit1_0, ax_fit1_1, ax_fitb, hs, j1, n_le (show n < 2 ^ 31 by omega) (show t < 2 ^ 31 by omega), show ¬ n ≤ t by omega, show nI 0 = nI (bn false) from rfl, h26, upX_s, nI_add, show i + t < 24 by omega, lg_cmp_eq, c, fol_s, decide_false, Bool.false_and, bn_fit]
theorem r99 {n i : Nat} (hi : i + n ≤ 24) (hs : s < 4) (hI : Inv (X 1)) (hm : X 1 1 ≤ 9999) : ∃ x1, ax_res 99 0 [some (.ref 114), some (.ref (sh s)), some (.int (nI i)), some (.int (nI n)), none] [] (hp X Y sc ai aj) = some (some (.int (nI (bn (fol (aj (si s)) n (X 1) i)))), hp (upX X 1 x1) Y sc ai aj) := by
  obtain ⟨x1, e⟩ := r99_l (Y := Y) (sc := sc) (ai := ai) (aj := aj) (s := s) n X 0 n i (by omega) hi hs hI (by omega)
  refine ⟨x1, ?_⟩
  simp only [q99_0, q99_1, e, Nat.add_zero]
theorem r98_l (m : Nat) : ∀ (X : Nat → Nat → Nat) (k acc n i b : Nat), k + m = 5 → i + n ≤ 24 → s < 4 → b < X 0 0 → Inv (X 0) → X 0 1 ≤ 9999 → ∃ x1, ax_res 98 6 [some (.ref 114), some (.int (nI b)), some (.ref (sh s)), some (.int (nI i)), some (.int (nI n)), some (.int (nI acc)), some (.int (nI k))] [] (hp X Y sc ai aj) = some (some (.int (nI (knd (aj (si s)) b n i (X 0) m k acc))), hp (upX X 1 x1) Y sc ai aj) := by
  induction m with
  | zero =>
    intro X k acc n i b hk hi hs hb hI hm
    refine ⟨X 1, ?_⟩
    simp only [q98_6, q98_8, q98_9, q98_53, q98_55, ↓reduceIte, ax_bV_s, ax_bI_s, ax_bJ_s, ax_bA_s, ax_bH_s, ax_bR_s, ax_bR_n, n_le (show 5 < 2 ^ 31 by decide) (show k < 2 ^ 31 by omega), show 5 ≤ k by omega, knd_0, upX_i]
  | succ m ih =>
    intro X k acc n i b hk hi hs hb hI hm
    have h0 := hI.1
    have hb6 : b < 6 := by omega
    obtain ⟨x1, h99⟩ := r99 (X := upX X 1 (up1 (X 0) (24 + b) k)) (Y := Y) (sc := sc) (ai := ai) (aj := aj) (n := n) (i := i) hi hs (by rw [upX_s]; exact inv_up24 hI hb (by omega)) (by rw [upX_s, up1_n (by omega)]; exact hm)
    rw [upX_s, upX_u] at h99
    obtain ⟨x2, e⟩ := ih (upX X 1 x1) (k + 1) (if fol (aj (si s)) n (up1 (X 0) (24 + b) k) i = true then acc ||| 2 ^ k else acc) n i b (by omega) hi hs (by rw [upX_n (by decide)]; exact hb) (by rw [upX_n (by decide)]; exact hI) (by rw [upX_n (by decide)]; exact hm)
    rw [upX_n (show ¬ 0 = 1 by decide), upX_u] at e
    refine ⟨x2, ?_⟩
    rw [q98_6]
    simp only [q98_0, q98_1, q98_3, q98_4, q98_8, q98_9, q98_12, q98_13, q98_16, q98_17, q98_20, q98_23, q98_24, q98_26, q98_27, q98_28, q98_29, q98_30, q98_32, q98_35, q98_38, q98_40, q98_41, q98_43, q98_44, q98_45, q98_47, q98_50, q98_53, q98_55, ↓reduceIte, ax_bV_s, ax_bI_s, ax_bJ_s, ax_bA_s, ax_bH_s, ax_bR_s, ax_bR_n, gh_people, gh_here, gh_sat, gh_minute, gh_draw, gh_sitter, gh_kinds, gh_prices, gh_known, gh_sights, gh_places, ga_kinds, ga_prices, ga_known, ga_sights, ga_places, oh, ph_people, ph_here, ph_sat, ph_minute, ph_draw, ph_sitter, ph_nobody, pa_kinds, pa_prices, pa_known, pa_sights, pa_places, upX_s, upX_u, oo_114, gf114_0, gf114_1, gf114_2, gf114_3, gf114_4, gf114_5, pf114_5, gf114_6, gf114_7, gf114_8, gf114_9, oo_119, gf119_0, gf119_1, pf119_1, gf119_2, pf119_2, oo_130, gf130_0, gf130_1, gf130_2, pf130_2, oo_134, gf134_0, gf134_1, pf134_1, gf134_2, pf134_2, gf134_3, pf134_3, gf134_4, gf134_5, pf134_5, gf134_6, gf134_7, gf134_8, gf134_9, pf134_9, gf134_10, gf134_11, gf134_12, gf134_13, gf134_14, gf134_15, gf134_16, gi120, pi120, li120, gi131, pi131, li131, gi132, pi132, li132, gi136, pi136, li136, gi138, pi138, li138, gi139, pi139, li139, gi140, pi140, li140, gi141, pi141, li141, gi142, pi142, li142, gi144, pi144, li144, gi145, pi145, li145, gj133, pj133, lj133, gj137, pj137, lj137, gj143, pj143, lj143, gj146, pj146, lj146, gA121, gAq, oo_s, gfs_0, gfs_1, gfs_2, pfs_0, pfs_1, gjs, ljs, pjs, oo_h, gfh_0, gfh_1, gfh_2, pfh_1, pfh_2, hs, j1, hb6, n_le (show 5 < 2 ^ 31 by decide) (show k < 2 ^ 31 by omega), show ¬ 5 ≤ k by omega, r89, h99, n_bn0, n_1shl k (show k < 31 by omega), n_or, nI_add, knd_s]
    cases hc : fol (aj (si s)) n (up1 (X 0) (24 + b) k) i
    · rw [hc] at e; simp only [↓reduceIte, ax_bV_s, ax_bI_s, ax_bJ_s, ax_bA_s, ax_bH_s, ax_bR_s, ax_bR_n, Bool.false_eq_true] at e ⊢; exact e
    · rw [hc] at e; simp only [↓reduceIte, ax_bV_s, ax_bI_s, ax_bJ_s, ax_bA_s, ax_bH_s, ax_bR_s, ax_bR_n, Bool.true_eq_false] at e ⊢; exact e
theorem r98 {n i b : Nat} (hi : i + n ≤ 24) (hs : s < 4) (hb : b < X 0 0) (hI : Inv (X 0)) (hm : X 0 1 ≤ 9999) : ∃ x1, ax_res 98 0 [some (.ref 114), some (.int (nI b)), some (.ref (sh s)), some (.int (nI i)), some (.int (nI n)), none, none] [] (hp X Y sc ai aj) = some (some (.int (nI (knd (aj (si s)) b n i (X 0) 5 0 0))), hp (upX X 1 x1) Y sc ai aj) := by
  obtain ⟨x1, e⟩ := r98_l (Y := Y) (sc := sc) (ai := ai) (aj := aj) (s := s) 5 X 0 0 n i b (by omega) hi hs hb hI hm
  refine ⟨x1, ?_⟩
  simp only [q98_0, q98_1, q98_3, q98_4, e]
def stA (f : Nat → Int64) (b n p : Nat) (x : Nat → Nat) (w : Nat) : Int32 := if w = 0 then nI (knd f b n p x 5 0 0) else if w = 1 then nI (trk f b n p x 32 0 (-4)).1 else (trk f b n p x 32 0 (-4)).2
theorem s77_bad {b t l i n w : Int32} (hI : Inv (X 0)) (h : (isB b (X 0 0) && ((isI t 0 3 && isI l 0 3) && (isI n 1 8 && isI w 0 2))) = false) : ax_res 77 0 [some (.ref 114), some (.int b), some (.int t), some (.int l), some (.int i), some (.int n), some (.int w), none, none, none, none] [] (hp X Y sc ai aj) = some (some (.int (-1)), hp X Y sc ai aj) := by
  simp only [q77_0, q77_1, q77_2, q77_5, q77_8, q77_9, q77_10, q77_13, q77_16, q77_18, q77_19, q77_21, q77_24, q77_27, q77_29, q77_30, q77_31, q77_34, q77_37, q77_38, ↓reduceIte, ax_bV_s, ax_bI_s, ax_bJ_s, ax_bA_s, ax_bH_s, ax_bR_s, ax_bR_n, oo_114, gf114_0, gf114_1, gf114_2, gf114_3, gf114_4, gf114_5, pf114_5, gf114_6, gf114_7, gf114_8, gf114_9, oo_119, gf119_0, gf119_1, pf119_1, gf119_2, pf119_2, oo_130, gf130_0, gf130_1, gf130_2, pf130_2, oo_134, gf134_0, gf134_1, pf134_1, gf134_2, pf134_2, gf134_3, pf134_3, gf134_4, gf134_5, pf134_5, gf134_6, gf134_7, gf134_8, gf134_9, pf134_9, gf134_10, gf134_11, gf134_12, gf134_13, gf134_14, gf134_15, gf134_16, gi120, pi120, li120, gi131, pi131, li131, gi132, pi132, li132, gi136, pi136, li136, gi138, pi138, li138, gi139, pi139, li139, gi140, pi140, li140, gi141, pi141, li141, gi142, pi142, li142, gi144, pi144, li144, gi145, pi145, li145, gj133, pj133, lj133, gj137, pj137, lj137, gj143, pj143, lj143, gj146, pj146, lj146, gA121, gAq, oo_s, gfs_0, gfs_1, gfs_2, pfs_0, pfs_1, gjs, ljs, pjs, oo_h, gfh_0, gfh_1, gfh_2, pfh_1, pfh_2, r85 hI.1, r87, r84I (show 1 < 2 ^ 31 by decide) (show 8 < 2 ^ 31 by decide), r84I (show 0 < 2 ^ 31 by decide) (show 2 < 2 ^ 31 by decide), n_bn0]
  revert h
  cases isB b (X 0 0) <;> cases (isI t 0 3 && isI l 0 3) <;> cases isI n 1 8 <;> cases isI w 0 2 <;> simp
theorem s77_flt {b t l n w z : Nat} {i : Int32} (hI : Inv (X 0)) (hb : b < X 0 0) (ht : t < 4) (hl : l < 4) (hn1 : 1 ≤ n) (hn : n ≤ 8) (hw : w ≤ 2) (h1 : sc (sh t) 1 = nI z) (hz : z ≤ 24) (hf : ¬ fltA (sc (sh t) 0) (nI l) i (nI n) z = nI 0) : ax_res 77 0 [some (.ref 114), some (.int (nI b)), some (.int (nI t)), some (.int (nI l)), some (.int i), some (.int (nI n)), some (.int (nI w)), none, none, none, none] [] (hp X Y sc ai aj) = some (some (.int (fltA (sc (sh t) 0) (nI l) i (nI n) z)), hp X Y sc ai aj) := by
  have h0 := hI.1
  have hf' : ¬ fltA (sc (sh t) 0) (nI l) i (nI n) z = 0 := by rw [← nI_0]; exact hf
  simp only [q77_0, q77_1, q77_2, q77_5, q77_8, q77_9, q77_10, q77_13, q77_16, q77_18, q77_19, q77_21, q77_24, q77_27, q77_29, q77_30, q77_31, q77_34, q77_39, q77_40, q77_43, q77_44, q77_45, q77_46, q77_48, q77_50, q77_53, q77_55, q77_57, q77_60, q77_62, ↓reduceIte, ax_bV_s, ax_bI_s, ax_bJ_s, ax_bA_s, ax_bH_s, ax_bR_s, ax_bR_n, oo_114, gf114_0, gf114_1, gf114_2, gf114_3, gf114_4, gf114_5, pf114_5, gf114_6, gf114_7, gf114_8, gf114_9, oo_119, gf119_0, gf119_1, pf119_1, gf119_2, pf119_2, oo_130, gf130_0, gf130_1, gf130_2, pf130_2, oo_134, gf134_0, gf134_1, pf134_1, gf134_2, pf134_2, gf134_3, pf134_3, gf134_4, gf134_5, pf134_5, gf134_6, gf134_7, gf134_8, gf134_9, pf134_9, gf134_10, gf134_11, gf134_12, gf134_13, gf134_14, gf134_15, gf134_16, gi120, pi120, li120, gi131, pi131, li131, gi132, pi132, li132, gi136, pi136, li136, gi138, pi138, li138, gi139, pi139, li139, gi140, pi140, li140, gi141, pi141, li141, gi142, pi142, li142, gi144, pi144, li144, gi145, pi145, li145, gj133, pj133, lj133, gj137, pj137, lj137, gj143, pj143, lj143, gj146, pj146, lj146, gA121, gAq, oo_s, gfs_0, gfs_1, gfs_2, pfs_0, pfs_1, gjs, ljs, pjs, oo_h, gfh_0, gfh_1, gfh_2, pfh_1, pfh_2, ht, r85 hI.1, isB_t (show X 0 0 ≤ 1000 by omega) hb, r84I (show 1 < 2 ^ 31 by decide) (show 8 < 2 ^ 31 by decide), isI_nI (show n < 2 ^ 31 by omega) hn1 hn, r84I (show 0 < 2 ^ 31 by decide) (show 2 < 2 ^ 31 by decide), isI_nI (show w < 2 ^ 31 by omega) (Nat.zero_le w) hw, r87, isI_nI (show t < 2 ^ 31 by omega) (Nat.zero_le t) (show t ≤ 3 by omega), isI_nI (show l < 2 ^ 31 by omega) (Nat.zero_le l) (show l ≤ 3 by omega), Bool.and_self, Bool.not_true, n_bn0, r35 ht h1 hz, hf']
theorem s77_l (m : Nat) : ∀ (X : Nat → Nat → Nat) (w1 n i b w : Nat) (l v f : Int32) (le : Int32), m ≤ 32 → i + n ≤ 24 → s < 4 → b < X 0 0 → Inv (X 0) → X 0 1 ≤ 9999 → (w = 1 ∨ w = 2) → v = dn m → ∃ x1, ax_res 77 95 [some (.ref 114), some (.int (nI b)), some (.int (nI s)), some (.int l), some (.int (nI i)), some (.int (nI n)), some (.int (nI w)), some (.int f), some (.int (nI w1)), some (.int le), some (.int v)] [] (hp X Y sc ai aj) = some (some (.int (if w = 1 then nI (trk (aj (si s)) b n i (X 0) m w1 le).1 else (trk (aj (si s)) b n i (X 0) m w1 le).2)), hp (upX X 1 x1) Y sc ai aj) := by
  induction m with
  | zero =>
    intro X w1 n i b w l v f le hm hi hs hb hI hm2 hw hv
    refine ⟨X 1, ?_⟩
    rw [hv, dn_0]
    rcases hw with rfl | rfl
    · simp only [q77_95, q77_97, q77_145, q77_147, q77_148, q77_151, q77_153, q77_156, q77_158, ↓reduceIte, ax_bV_s, ax_bI_s, ax_bJ_s, ax_bA_s, ax_bH_s, ax_bR_s, ax_bR_n, n1_lt0, trk_0, upX_i]
    · simp only [q77_95, q77_97, q77_145, q77_147, q77_148, q77_151, q77_153, q77_156, q77_158, ↓reduceIte, ax_bV_s, ax_bI_s, ax_bJ_s, ax_bA_s, ax_bH_s, ax_bR_s, ax_bR_n, n1_lt0, trk_0, upX_i, show ¬ nI 2 = nI 1 by decide, show ¬ 2 = 1 by decide]
  | succ m ih =>
    intro X w1 n i b w l v f le hm hi hs hb hI hm2 hw hv
    have h0 := hI.1
    have hb6 : b < 6 := by omega
    obtain ⟨x1, h99⟩ := r99 (X := upX X 1 (up1 (X 0) (6 + b) m)) (Y := Y) (sc := sc) (ai := ai) (aj := aj) (n := n) (i := i) hi hs (by rw [upX_s]; exact inv_up6 hI hb (by omega)) (by rw [upX_s, up1_n (by omega)]; exact hm2)
    rw [upX_s, upX_u] at h99
    rw [hv, dn_s]
    cases hc : fol (aj (si s)) n (up1 (X 0) (6 + b) m) i with
    | true =>
      obtain ⟨x2, e⟩ := ih (upX X 1 x1) (w1 + 1) n i b w l (dn m) f (nI m) (by omega) hi hs (by rw [upX_n (by decide)]; exact hb) (by rw [upX_n (by decide)]; exact hI) (by rw [upX_n (by decide)]; exact hm2) hw rfl
      rw [upX_n (show ¬ 0 = 1 by decide), upX_u] at e
      refine ⟨x2, ?_⟩
      rw [q77_95]
      simp only [q77_97, q77_100, q77_101, q77_104, q77_105, q77_108, q77_111, q77_112, q77_114, q77_115, q77_116, q77_117, q77_120, q77_121, q77_122, q77_124, q77_126, q77_129, q77_132, q77_135, q77_137, q77_139, q77_142, ↓reduceIte, ax_bV_s, ax_bI_s, ax_bJ_s, ax_bA_s, ax_bH_s, ax_bR_s, ax_bR_n, gh_people, gh_here, gh_sat, gh_minute, gh_draw, gh_sitter, gh_kinds, gh_prices, gh_known, gh_sights, gh_places, ga_kinds, ga_prices, ga_known, ga_sights, ga_places, oh, ph_people, ph_here, ph_sat, ph_minute, ph_draw, ph_sitter, ph_nobody, pa_kinds, pa_prices, pa_known, pa_sights, pa_places, upX_s, upX_u, oo_114, gf114_0, gf114_1, gf114_2, gf114_3, gf114_4, gf114_5, pf114_5, gf114_6, gf114_7, gf114_8, gf114_9, oo_119, gf119_0, gf119_1, pf119_1, gf119_2, pf119_2, oo_130, gf130_0, gf130_1, gf130_2, pf130_2, oo_134, gf134_0, gf134_1, pf134_1, gf134_2, pf134_2, gf134_3, pf134_3, gf134_4, gf134_5, pf134_5, gf134_6, gf134_7, gf134_8, gf134_9, pf134_9, gf134_10, gf134_11, gf134_12, gf134_13, gf134_14, gf134_15, gf134_16, gi120, pi120, li120, gi131, pi131, li131, gi132, pi132, li132, gi136, pi136, li136, gi138, pi138, li138, gi139, pi139, li139, gi140, pi140, li140, gi141, pi141, li141, gi142, pi142, li142, gi144, pi144, li144, gi145, pi145, li145, gj133, pj133, lj133, gj137, pj137, lj137, gj143, pj143, lj143, gj146, pj146, lj146, gA121, gAq, oo_s, gfs_0, gfs_1, gfs_2, pfs_0, pfs_1, gjs, ljs, pjs, oo_h, gfh_0, gfh_1, gfh_2, pfh_1, pfh_2, hs, j1, hb6, n_lt0 (show m < 2 ^ 31 by omega), r89, h99, hc, n_bn0, Bool.true_eq_false, nI_add, dn_dec, e, trk_s]
    | false =>
      obtain ⟨x2, e⟩ := ih (upX X 1 x1) w1 n i b w l (dn m) f le (by omega) hi hs (by rw [upX_n (by decide)]; exact hb) (by rw [upX_n (by decide)]; exact hI) (by rw [upX_n (by decide)]; exact hm2) hw rfl
      rw [upX_n (show ¬ 0 = 1 by decide), upX_u] at e
      refine ⟨x2, ?_⟩
      rw [q77_95]
      simp only [q77_97, q77_100, q77_101, q77_104, q77_105, q77_108, q77_111, q77_112, q77_114, q77_115, q77_116, q77_117, q77_120, q77_121, q77_122, q77_124, q77_126, q77_129, q77_132, q77_135, q77_137, q77_139, q77_142, ↓reduceIte, ax_bV_s, ax_bI_s, ax_bJ_s, ax_bA_s, ax_bH_s, ax_bR_s, ax_bR_n, gh_people, gh_here, gh_sat, gh_minute, gh_draw, gh_sitter, gh_kinds, gh_prices, gh_known, gh_sights, gh_places, ga_kinds, ga_prices, ga_known, ga_sights, ga_places, oh, ph_people, ph_here, ph_sat, ph_minute, ph_draw, ph_sitter, ph_nobody, pa_kinds, pa_prices, pa_known, pa_sights, pa_places, upX_s, upX_u, oo_114, gf114_0, gf114_1, gf114_2, gf114_3, gf114_4, gf114_5, pf114_5, gf114_6, gf114_7, gf114_8, gf114_9, oo_119, gf119_0, gf119_1, pf119_1, gf119_2, pf119_2, oo_130, gf130_0, gf130_1, gf130_2, pf130_2, oo_134, gf134_0, gf134_1, pf134_1, gf134_2, pf134_2, gf134_3, pf134_3, gf134_4, gf134_5, pf134_5, gf134_6, gf134_7, gf134_8, gf134_9, pf134_9, gf134_10, gf134_11, gf134_12, gf134_13, gf134_14, gf134_15, gf134_16, gi120, pi120, li120, gi131, pi131, li131, gi132, pi132, li132, gi136, pi136, li136, gi138, pi138, li138, gi139, pi139, li139, gi140, pi140, li140, gi141, pi141, li141, gi142, pi142, li142, gi144, pi144, li144, gi145, pi145, li145, gj133, pj133, lj133, gj137, pj137, lj137, gj143, pj143, lj143, gj146, pj146, lj146, gA121, gAq, oo_s, gfs_0, gfs_1, gfs_2, pfs_0, pfs_1, gjs, ljs, pjs, oo_h, gfh_0, gfh_1, gfh_2, pfh_1, pfh_2, hs, j1, hb6, n_lt0 (show m < 2 ^ 31 by omega), r89, h99, hc, n_bn0, Bool.false_eq_true, nI_add, dn_dec, e, trk_s]
theorem s77_ok {b t l n w z i : Nat} (hI : Inv (X 0)) (hm : X 0 1 ≤ 9999) (hb : b < X 0 0) (ht : t < 4) (hl : l < 4) (hn1 : 1 ≤ n) (hn : n ≤ 8) (hw : w ≤ 2) (h0 : sc (sh t) 0 = nI l) (h1 : sc (sh t) 1 = nI z) (hz : z ≤ 24) (hi : i + n ≤ z) : ∃ x1, ax_res 77 0 [some (.ref 114), some (.int (nI b)), some (.int (nI t)), some (.int (nI l)), some (.int (nI i)), some (.int (nI n)), some (.int (nI w)), none, none, none, none] [] (hp X Y sc ai aj) = some (some (.int (stA (aj (si t)) b n i (X 0) w)), hp (upX X 1 x1) Y sc ai aj) := by
  have h00 := hI.1
  have hf : fltA (sc (sh t) 0) (nI l) (nI i) (nI n) z = nI 0 := by
    rw [h0, fltA_h hl, hold_nI (by omega) (by omega), decide_eq_true (by omega), if_pos rfl]
  have head : ax_res 77 0 [some (.ref 114), some (.int (nI b)), some (.int (nI t)), some (.int (nI l)), some (.int (nI i)), some (.int (nI n)), some (.int (nI w)), none, none, none, none] [] (hp X Y sc ai aj) = ax_res 77 63 [some (.ref 114), some (.int (nI b)), some (.int (nI t)), some (.int (nI l)), some (.int (nI i)), some (.int (nI n)), some (.int (nI w)), some (.int (nI 0)), none, none, none] [] (hp X Y sc ai aj) := by
    simp only [q77_0, q77_1, q77_2, q77_5, q77_8, q77_9, q77_10, q77_13, q77_16, q77_18, q77_19, q77_21, q77_24, q77_27, q77_29, q77_30, q77_31, q77_34, q77_39, q77_40, q77_43, q77_44, q77_45, q77_46, q77_48, q77_50, q77_53, q77_55, q77_57, ↓reduceIte, ax_bV_s, ax_bI_s, ax_bJ_s, ax_bA_s, ax_bH_s, ax_bR_s, ax_bR_n, oo_114, gf114_0, gf114_1, gf114_2, gf114_3, gf114_4, gf114_5, pf114_5, gf114_6, gf114_7, gf114_8, gf114_9, oo_119, gf119_0, gf119_1, pf119_1, gf119_2, pf119_2, oo_130, gf130_0, gf130_1, gf130_2, pf130_2, oo_134, gf134_0, gf134_1, pf134_1, gf134_2, pf134_2, gf134_3, pf134_3, gf134_4, gf134_5, pf134_5, gf134_6, gf134_7, gf134_8, gf134_9, pf134_9, gf134_10, gf134_11, gf134_12, gf134_13, gf134_14, gf134_15, gf134_16, gi120, pi120, li120, gi131, pi131, li131, gi132, pi132, li132, gi136, pi136, li136, gi138, pi138, li138, gi139, pi139, li139, gi140, pi140, li140, gi141, pi141, li141, gi142, pi142, li142, gi144, pi144, li144, gi145, pi145, li145, gj133, pj133, lj133, gj137, pj137, lj137, gj143, pj143, lj143, gj146, pj146, lj146, gA121, gAq, oo_s, gfs_0, gfs_1, gfs_2, pfs_0, pfs_1, gjs, ljs, pjs, oo_h, gfh_0, gfh_1, gfh_2, pfh_1, pfh_2, ht, r85 hI.1, isB_t (show X 0 0 ≤ 1000 by omega) hb, r84I (show 1 < 2 ^ 31 by decide) (show 8 < 2 ^ 31 by decide), isI_nI (show n < 2 ^ 31 by omega) hn1 hn, r84I (show 0 < 2 ^ 31 by decide) (show 2 < 2 ^ 31 by decide), isI_nI (show w < 2 ^ 31 by omega) (Nat.zero_le w) hw, r87, isI_nI (show t < 2 ^ 31 by omega) (Nat.zero_le t) (show t ≤ 3 by omega), isI_nI (show l < 2 ^ 31 by omega) (Nat.zero_le l) (show l ≤ 3 by omega), Bool.and_self, Bool.not_true, n_bn0, r35 ht h1 hz, hf, n_z0]
  rw [head]
  by_cases hw0 : w = 0
  · subst hw0
    obtain ⟨x1, e⟩ := r98 (X := X) (Y := Y) (sc := sc) (ai := ai) (aj := aj) (s := t) (n := n) (i := i) (b := b) (by omega) ht hb hI hm
    refine ⟨x1, ?_⟩
    simp only [q77_63, q77_65, q77_68, q77_69, q77_70, q77_71, q77_74, q77_75, q77_76, q77_78, q77_80, q77_83, ↓reduceIte, ax_bV_s, ax_bI_s, ax_bJ_s, ax_bA_s, ax_bH_s, ax_bR_s, ax_bR_n, oo_114, gf114_0, gf114_1, gf114_2, gf114_3, gf114_4, gf114_5, pf114_5, gf114_6, gf114_7, gf114_8, gf114_9, oo_119, gf119_0, gf119_1, pf119_1, gf119_2, pf119_2, oo_130, gf130_0, gf130_1, gf130_2, pf130_2, oo_134, gf134_0, gf134_1, pf134_1, gf134_2, pf134_2, gf134_3, pf134_3, gf134_4, gf134_5, pf134_5, gf134_6, gf134_7, gf134_8, gf134_9, pf134_9, gf134_10, gf134_11, gf134_12, gf134_13, gf134_14, gf134_15, gf134_16, gi120, pi120, li120, gi131, pi131, li131, gi132, pi132, li132, gi136, pi136, li136, gi138, pi138, li138, gi139, pi139, li139, gi140, pi140, li140, gi141, pi141, li141, gi142, pi142, li142, gi144, pi144, li144, gi145, pi145, li145, gj133, pj133, lj133, gj137, pj137, lj137, gj143, pj143, lj143, gj146, pj146, lj146, gA121, gAq, oo_s, gfs_0, gfs_1, gfs_2, pfs_0, pfs_1, gjs, ljs, pjs, oo_h, gfh_0, gfh_1, gfh_2, pfh_1, pfh_2, ht, n_z0, e, stA]
  · obtain ⟨x1, e⟩ := s77_l (Y := Y) (sc := sc) (ai := ai) (aj := aj) (s := t) 32 X 0 n i b w (nI l) (nI 31) (nI 0) (-4) (by omega) (by omega) ht hb hI hm (by omega) rfl
    refine ⟨x1, ?_⟩
    simp only [q77_63, q77_65, q77_84, q77_85, q77_87, q77_89, q77_91, q77_93, ↓reduceIte, ax_bV_s, ax_bI_s, ax_bJ_s, ax_bA_s, ax_bH_s, ax_bR_s, ax_bR_n, n_eq0 (show w < 2 ^ 31 by omega), hw0, e, stA]
-- the model's
theorem r171_l (m : Nat) : ∀ (Y : Nat → Nat → Nat) (t n p : Nat) (acc : Bool), t + m = n → p + n ≤ 96 → Inv (Y 1) → Y 1 1 + m < 20000 → ∃ y1, ax_res 171 5 [some (.ref 134), some (.int (nI p)), some (.int (nI n)), some (.int (nI (bn acc))), some (.int (nI t))] [] (hp X Y sc ai aj) = some (some (.int (nI (bn (acc && fol (aj 137) m (Y 1) (p + t))))), hp X (upX Y 1 y1) sc ai aj) := by
  induction m with
  | zero =>
    intro Y t n p acc ht hp hI hm
    refine ⟨Y 1, ?_⟩
    simp only [q171_5, q171_7, q171_8, q171_54, q171_55, ↓reduceIte, ax_bV_s, ax_bI_s, ax_bJ_s, ax_bA_s, ax_bH_s, ax_bR_s, ax_bR_n, ax_fit1_0, ax_fit1_1, ax_fitb, n_le (show n < 2 ^ 31 by omega) (show t < 2 ^ 31 by omega), show n ≤ t by omega, fol_0, upX_i, Bool.and_true, bn_fit]
  | succ m ih =>
    intro Y t n p acc ht hp hI hm
    have h26 := r130_1 (X := X) (Y := Y) (sc := sc) (ai := ai) (aj := aj) hI (by omega)
    obtain ⟨g1, g2, g3⟩ := inv_pas (m := false) hI
    obtain ⟨y1, e⟩ := ih (upX Y 1 (pas (Y 1) false)) (t + 1) n p (acc && decide (aj 137 (p + t) = (sv (pas (Y 1) false 2)).toInt64)) (by omega) hp (by rw [upX_s]; exact g1) (by rw [upX_s, g3]; omega)
    rw [upX_s, upX_u, show p + (t + 1) = p + t + 1 by omega] at e
    refine ⟨y1, ?_⟩
    rw [q171_5, fol_s, ← Bool.and_assoc, ← e]
    simp only [q171_0, q171_1, q171_2, q171_3, q171_7, q171_8, q171_11, q171_12, q171_14, q171_17, q171_18, q171_21, q171_22, q171_25, q171_27, q171_28, q171_29, q171_30, q171_33, q171_34, q171_36, q171_37, q171_38, q171_39, q171_42, q171_43, q171_46, q171_47, q171_48, q171_51, q171_54, q171_55, ↓reduceIte, ax_bV_s, ax_bI_s, ax_bJ_s, ax_bA_s, ax_bH_s, ax_bR_s, ax_bR_n, gwq_0, gwq_1, gwq_2, gwq_3, gwq_4, gwq_5, gwqT, gwqS, gwqP, gwqK, gwqZ, gw0_0, gw0_1, gw0_2, gw0_3, gw0_4, gw0_5, gw0T, gw0S, gw0P, gw0K, gw0Z, gw1_0, gw1_1, gw1_2, gw1_3, gw1_4, gw1_5, gw1T, gw1S, gw1P, gw1K, gw1Z, oo_114, gf114_0, gf114_1, gf114_2, gf114_3, gf114_4, gf114_5, pf114_5, gf114_6, gf114_7, gf114_8, gf114_9, oo_119, gf119_0, gf119_1, pf119_1, gf119_2, pf119_2, oo_130, gf130_0, gf130_1, gf130_2, pf130_2, oo_134, gf134_0, gf134_1, pf134_1, gf134_2, pf134_2, gf134_3, pf134_3, gf134_4, gf134_5, pf134_5, gf134_6, gf134_7, gf134_8, gf134_9, pf134_9, gf134_10, gf134_11, gf134_12, gf134_13, gf134_14, gf134_15, gf134_16, gi120, pi120, li120, gi131, pi131, li131, gi132, pi132, li132, gi136, pi136, li136, gi138, pi138, li138, gi139, pi139, li139, gi140, pi140, li140, gi141, pi141, li141, gi142, pi142, li142, gi144, pi144, li144, gi145, pi145, li145, gj133, pj133, lj133, gj137, pj137, lj137, gj143, pj143, lj143, gj146, pj146, lj146, gA121, gAq, oo_s, gfs_0, gfs_1, gfs_2, pfs_0, pfs_1, gjs, ljs, pjs, oo_h, gfh_0, gfh_1, gfh_2, pfh_1, pfh_2, n_le (show n < 2 ^ 31 by omega) (show t < 2 ^ 31 by omega), show ¬ n ≤ t by omega, h26, upX_s, nI_add, show p + t < 96 by omega, lg_cmp_eq, n_bn0]
    cases acc
    · simp [bn]
    · by_cases c : aj 137 (p + t) = (sv (pas (Y 1) false 2)).toInt64
      · simp [bn, c]
      · have c' : ¬ (sv (pas (Y 1) false 2)).toInt64 = aj 137 (p + t) := fun e => c e.symm
        simp [bn, c, c']
theorem r171 {n p : Nat} (hpn : p + n ≤ 96) (hI : Inv (Y 1)) (hm : Y 1 1 ≤ 9999) : ∃ y1, ax_res 171 0 [some (.ref 134), some (.int (nI p)), some (.int (nI n)), none, none] [] (hp X Y sc ai aj) = some (some (.int (nI (bn (fol (aj 137) n (Y 1) p)))), hp X (upX Y 1 y1) sc ai aj) := by
  obtain ⟨y1, e⟩ := r171_l (X := X) (sc := sc) (ai := ai) (aj := aj) n Y 0 n p true (by omega) hpn hI (by omega)
  refine ⟨y1, ?_⟩
  simp only [Bool.true_and, Nat.add_zero] at e
  simp only [q171_0, q171_1, q171_2, q171_3, show nI 1 = nI (bn true) from rfl, e]
theorem m172_bad {b t l i n w : Int32} (hI : Inv (Y 0)) (h : (isB b (Y 0 0) && ((isI t 0 3 && isI l 0 3) && (isI n 1 8 && isI w 0 2))) = false) : ax_res 172 0 [some (.ref 134), some (.int b), some (.int t), some (.int l), some (.int i), some (.int n), some (.int w), none, none, none, none, none, none] [] (hp X Y sc ai aj) = some (some (.int (-1)), hp X Y sc ai aj) := by
  simp only [q172_0, q172_1, q172_2, q172_5, q172_8, q172_9, q172_10, q172_13, q172_16, q172_18, q172_19, q172_20, q172_23, q172_26, q172_29, q172_31, q172_32, q172_33, q172_36, q172_39, q172_42, q172_43, ↓reduceIte, ax_bV_s, ax_bI_s, ax_bJ_s, ax_bA_s, ax_bH_s, ax_bR_s, ax_bR_n, oo_114, gf114_0, gf114_1, gf114_2, gf114_3, gf114_4, gf114_5, pf114_5, gf114_6, gf114_7, gf114_8, gf114_9, oo_119, gf119_0, gf119_1, pf119_1, gf119_2, pf119_2, oo_130, gf130_0, gf130_1, gf130_2, pf130_2, oo_134, gf134_0, gf134_1, pf134_1, gf134_2, pf134_2, gf134_3, pf134_3, gf134_4, gf134_5, pf134_5, gf134_6, gf134_7, gf134_8, gf134_9, pf134_9, gf134_10, gf134_11, gf134_12, gf134_13, gf134_14, gf134_15, gf134_16, gi120, pi120, li120, gi131, pi131, li131, gi132, pi132, li132, gi136, pi136, li136, gi138, pi138, li138, gi139, pi139, li139, gi140, pi140, li140, gi141, pi141, li141, gi142, pi142, li142, gi144, pi144, li144, gi145, pi145, li145, gj133, pj133, lj133, gj137, pj137, lj137, gj143, pj143, lj143, gj146, pj146, lj146, gA121, gAq, oo_s, gfs_0, gfs_1, gfs_2, pfs_0, pfs_1, gjs, ljs, pjs, oo_h, gfh_0, gfh_1, gfh_2, pfh_1, pfh_2, r108 hI.1, r168, r104I (show 1 < 2 ^ 31 by decide) (show 8 < 2 ^ 31 by decide), r104I (show 0 < 2 ^ 31 by decide) (show 2 < 2 ^ 31 by decide), n_bn0]
  revert h
  cases isB b (Y 0 0) <;> cases (isI t 0 3 && isI l 0 3) <;> cases isI n 1 8 <;> cases isI w 0 2 <;> simp
theorem m172_flt {b t l n w : Nat} {i f : Int32} (hI : Inv (Y 0)) (hb : b < Y 0 0) (ht : t < 4) (hl : l < 4) (hn1 : 1 ≤ n) (hn : n ≤ 8) (hw : w ≤ 2) (hf : f < 0) (h : ax_res 169 0 [some (.ref 134), some (.int (nI t)), some (.int (nI l)), some (.int i), some (.int (nI n))] [] (hp X Y sc ai aj) = some (some (.int f), hp X Y sc ai aj)) : ax_res 172 0 [some (.ref 134), some (.int (nI b)), some (.int (nI t)), some (.int (nI l)), some (.int i), some (.int (nI n)), some (.int (nI w)), none, none, none, none, none, none] [] (hp X Y sc ai aj) = some (some (.int f), hp X Y sc ai aj) := by
  have h0 := hI.1
  simp only [q172_0, q172_1, q172_2, q172_5, q172_8, q172_9, q172_10, q172_13, q172_16, q172_18, q172_19, q172_20, q172_23, q172_26, q172_29, q172_31, q172_32, q172_33, q172_36, q172_39, q172_44, q172_45, q172_46, q172_47, q172_49, q172_51, q172_54, q172_56, q172_58, q172_61, q172_63, ↓reduceIte, ax_bV_s, ax_bI_s, ax_bJ_s, ax_bA_s, ax_bH_s, ax_bR_s, ax_bR_n, oo_114, gf114_0, gf114_1, gf114_2, gf114_3, gf114_4, gf114_5, pf114_5, gf114_6, gf114_7, gf114_8, gf114_9, oo_119, gf119_0, gf119_1, pf119_1, gf119_2, pf119_2, oo_130, gf130_0, gf130_1, gf130_2, pf130_2, oo_134, gf134_0, gf134_1, pf134_1, gf134_2, pf134_2, gf134_3, pf134_3, gf134_4, gf134_5, pf134_5, gf134_6, gf134_7, gf134_8, gf134_9, pf134_9, gf134_10, gf134_11, gf134_12, gf134_13, gf134_14, gf134_15, gf134_16, gi120, pi120, li120, gi131, pi131, li131, gi132, pi132, li132, gi136, pi136, li136, gi138, pi138, li138, gi139, pi139, li139, gi140, pi140, li140, gi141, pi141, li141, gi142, pi142, li142, gi144, pi144, li144, gi145, pi145, li145, gj133, pj133, lj133, gj137, pj137, lj137, gj143, pj143, lj143, gj146, pj146, lj146, gA121, gAq, oo_s, gfs_0, gfs_1, gfs_2, pfs_0, pfs_1, gjs, ljs, pjs, oo_h, gfh_0, gfh_1, gfh_2, pfh_1, pfh_2, r108 hI.1, isB_t (show Y 0 0 ≤ 1000 by omega) hb, r104I (show 1 < 2 ^ 31 by decide) (show 8 < 2 ^ 31 by decide), isI_nI (show n < 2 ^ 31 by omega) hn1 hn, r104I (show 0 < 2 ^ 31 by decide) (show 2 < 2 ^ 31 by decide), isI_nI (show w < 2 ^ 31 by omega) (Nat.zero_le w) hw, r168, isI_nI (show t < 2 ^ 31 by omega) (Nat.zero_le t) (show t ≤ 3 by omega), isI_nI (show l < 2 ^ 31 by omega) (Nat.zero_le l) (show l ≤ 3 by omega), Bool.and_self, Bool.true_eq_false, n_bn0, h, Int32.not_le.mpr hf]
theorem m172_l2 (m : Nat) : ∀ (Y : Nat → Nat → Nat) (w1 kn n i b w : Nat) (l v f : Int32) (le : Int32), m ≤ 32 → i + n ≤ 24 → s < 4 → b < Y 0 0 → Inv (Y 0) → Y 0 1 ≤ 9999 → w ≤ 2 → v = dn m → ∃ y1, ax_res 172 137 [some (.ref 134), some (.int (nI b)), some (.int (nI s)), some (.int l), some (.int (nI i)), some (.int (nI n)), some (.int (nI w)), some (.int f), some (.int (nI kn)), some (.int (nI w1)), some (.int le), some (.int v), none] [] (hp X Y sc ai aj) = some (some (.int (if w = 0 then nI kn else if w = 1 then nI (trk (aj 137) b n (24 * s + i) (Y 0) m w1 le).1 else (trk (aj 137) b n (24 * s + i) (Y 0) m w1 le).2)), hp X (upX Y 1 y1) sc ai aj) := by
  induction m with
  | zero =>
    intro Y w1 kn n i b w l v f le hm hi hs hb hI hm2 hw hv
    refine ⟨Y 1, ?_⟩
    rw [hv, dn_0]
    rcases (show w = 0 ∨ w = 1 ∨ w = 2 by omega) with rfl | rfl | rfl
    · simp only [q172_137, q172_139, q172_207, q172_209, q172_212, q172_214, q172_217, q172_219, q172_220, q172_223, q172_225, q172_228, q172_230, ↓reduceIte, ax_bV_s, ax_bI_s, ax_bJ_s, ax_bA_s, ax_bH_s, ax_bR_s, ax_bR_n, n1_lt0, trk_0, upX_i, n_z0]
    · simp only [q172_137, q172_139, q172_207, q172_209, q172_212, q172_214, q172_217, q172_219, q172_220, q172_223, q172_225, q172_228, q172_230, ↓reduceIte, ax_bV_s, ax_bI_s, ax_bJ_s, ax_bA_s, ax_bH_s, ax_bR_s, ax_bR_n, n1_lt0, trk_0, upX_i, n_z1, show ¬ 1 = 0 by decide]
    · simp only [q172_137, q172_139, q172_207, q172_209, q172_212, q172_214, q172_217, q172_219, q172_220, q172_223, q172_225, q172_228, q172_230, ↓reduceIte, ax_bV_s, ax_bI_s, ax_bJ_s, ax_bA_s, ax_bH_s, ax_bR_s, ax_bR_n, n1_lt0, trk_0, upX_i, show ¬ nI 2 = nI 1 by decide, show ¬ nI 2 = 0 by decide, show ¬ 2 = 0 by decide, show ¬ 2 = 1 by decide]
  | succ m ih =>
    intro Y w1 kn n i b w l v f le hm hi hs hb hI hm2 hw hv
    have h0 := hI.1
    have hb6 : b < 6 := by omega
    obtain ⟨y1, h99⟩ := r171 (X := X) (Y := upX Y 1 (up1 (Y 0) (6 + b) m)) (sc := sc) (ai := ai) (aj := aj) (n := n) (p := 24 * s + i) (by omega) (by rw [upX_s]; exact inv_up6 hI hb (by omega)) (by rw [upX_s, up1_n (by omega)]; exact hm2)
    rw [upX_s, upX_u] at h99
    have p6 := pw (X := X) (Y := upX Y 1 (Y 0)) (sc := sc) (ai := ai) (aj := aj) (q := 1) (c := 6 + b) (n := 42 + b) (v := m) (z := nI m) (by decide) (by omega) (by omega) (by unfold hvc; rw [if_neg (by omega)])
    rw [upX_s, upX_u] at p6
    rw [hv, dn_s]
    cases hc : fol (aj 137) n (up1 (Y 0) (6 + b) m) (24 * s + i) with
    | true =>
      obtain ⟨y2, e⟩ := ih (upX Y 1 y1) (w1 + 1) kn n i b w l (dn m) f (nI m) (by omega) hi hs (by rw [upX_n (by decide)]; exact hb) (by rw [upX_n (by decide)]; exact hI) (by rw [upX_n (by decide)]; exact hm2) hw rfl
      rw [upX_n (show ¬ 0 = 1 by decide), upX_u] at e
      refine ⟨y2, ?_⟩
      rw [q172_137]
      simp only [q172_139, q172_142, q172_143, q172_146, q172_147, q172_150, q172_152, q172_153, q172_154, q172_156, q172_157, q172_158, q172_160, q172_161, q172_162, q172_164, q172_165, q172_167, q172_170, q172_172, q172_174, q172_176, q172_179, q172_180, q172_183, q172_184, q172_185, q172_187, q172_189, q172_192, q172_194, q172_197, q172_199, q172_201, q172_204, ↓reduceIte, ax_bV_s, ax_bI_s, ax_bJ_s, ax_bA_s, ax_bH_s, ax_bR_s, ax_bR_n, oo_114, gf114_0, gf114_1, gf114_2, gf114_3, gf114_4, gf114_5, pf114_5, gf114_6, gf114_7, gf114_8, gf114_9, oo_119, gf119_0, gf119_1, pf119_1, gf119_2, pf119_2, oo_130, gf130_0, gf130_1, gf130_2, pf130_2, oo_134, gf134_0, gf134_1, pf134_1, gf134_2, pf134_2, gf134_3, pf134_3, gf134_4, gf134_5, pf134_5, gf134_6, gf134_7, gf134_8, gf134_9, pf134_9, gf134_10, gf134_11, gf134_12, gf134_13, gf134_14, gf134_15, gf134_16, gi120, pi120, li120, gi131, pi131, li131, gi132, pi132, li132, gi136, pi136, li136, gi138, pi138, li138, gi139, pi139, li139, gi140, pi140, li140, gi141, pi141, li141, gi142, pi142, li142, gi144, pi144, li144, gi145, pi145, li145, gj133, pj133, lj133, gj137, pj137, lj137, gj143, pj143, lj143, gj146, pj146, lj146, gA121, gAq, oo_s, gfs_0, gfs_1, gfs_2, pfs_0, pfs_1, gjs, ljs, pjs, oo_h, gfh_0, gfh_1, gfh_2, pfh_1, pfh_2, n_lt0 (show m < 2 ^ 31 by omega), r142, nI_add, p6, pk_mul, h99, hc, n_bn0, Bool.true_eq_false, dn_dec, e, trk_s]
    | false =>
      obtain ⟨y2, e⟩ := ih (upX Y 1 y1) w1 kn n i b w l (dn m) f le (by omega) hi hs (by rw [upX_n (by decide)]; exact hb) (by rw [upX_n (by decide)]; exact hI) (by rw [upX_n (by decide)]; exact hm2) hw rfl
      rw [upX_n (show ¬ 0 = 1 by decide), upX_u] at e
      refine ⟨y2, ?_⟩
      rw [q172_137]
      simp only [q172_139, q172_142, q172_143, q172_146, q172_147, q172_150, q172_152, q172_153, q172_154, q172_156, q172_157, q172_158, q172_160, q172_161, q172_162, q172_164, q172_165, q172_167, q172_170, q172_172, q172_174, q172_176, q172_179, q172_180, q172_183, q172_184, q172_185, q172_187, q172_189, q172_192, q172_194, q172_197, q172_199, q172_201, q172_204, ↓reduceIte, ax_bV_s, ax_bI_s, ax_bJ_s, ax_bA_s, ax_bH_s, ax_bR_s, ax_bR_n, oo_114, gf114_0, gf114_1, gf114_2, gf114_3, gf114_4, gf114_5, pf114_5, gf114_6, gf114_7, gf114_8, gf114_9, oo_119, gf119_0, gf119_1, pf119_1, gf119_2, pf119_2, oo_130, gf130_0, gf130_1, gf130_2, pf130_2, oo_134, gf134_0, gf134_1, pf134_1, gf134_2, pf134_2, gf134_3, pf134_3, gf134_4, gf134_5, pf134_5, gf134_6, gf134_7, gf134_8, gf134_9, pf134_9, gf134_10, gf134_11, gf134_12, gf134_13, gf134_14, gf134_15, gf134_16, gi120, pi120, li120, gi131, pi131, li131, gi132, pi132, li132, gi136, pi136, li136, gi138, pi138, li138, gi139, pi139, li139, gi140, pi140, li140, gi141, pi141, li141, gi142, pi142, li142, gi144, pi144, li144, gi145, pi145, li145, gj133, pj133, lj133, gj137, pj137, lj137, gj143, pj143, lj143, gj146, pj146, lj146, gA121, gAq, oo_s, gfs_0, gfs_1, gfs_2, pfs_0, pfs_1, gjs, ljs, pjs, oo_h, gfh_0, gfh_1, gfh_2, pfh_1, pfh_2, n_lt0 (show m < 2 ^ 31 by omega), r142, nI_add, p6, pk_mul, h99, hc, n_bn0, Bool.false_eq_true, dn_dec, Nat.add_zero, e, trk_s]
theorem m172_l1 (m : Nat) : ∀ (Y : Nat → Nat → Nat) (k acc n i b w : Nat) (l f : Int32), k + m = 5 → i + n ≤ 24 → s < 4 → b < Y 0 0 → Inv (Y 0) → Y 0 1 ≤ 9999 → w ≤ 2 → ∃ y1, ax_res 172 77 [some (.ref 134), some (.int (nI b)), some (.int (nI s)), some (.int l), some (.int (nI i)), some (.int (nI n)), some (.int (nI w)), some (.int f), some (.int (nI acc)), some (.int (nI 0)), some (.int (-4)), some (.int (nI k)), none] [] (hp X Y sc ai aj) = some (some (.int (if w = 0 then nI (knd (aj 137) b n (24 * s + i) (Y 0) m k acc) else if w = 1 then nI (trk (aj 137) b n (24 * s + i) (Y 0) 32 0 (-4)).1 else (trk (aj 137) b n (24 * s + i) (Y 0) 32 0 (-4)).2)), hp X (upX Y 1 y1) sc ai aj) := by
  induction m with
  | zero =>
    intro Y k acc n i b w l f hk hi hs hb hI hm hw
    obtain ⟨y1, e⟩ := m172_l2 (X := X) (sc := sc) (ai := ai) (aj := aj) (s := s) 32 Y 0 acc n i b w l (nI 31) f (-4) (by omega) hi hs hb hI hm hw rfl
    refine ⟨y1, ?_⟩
    simp only [q172_77, q172_79, q172_80, q172_133, q172_135, ↓reduceIte, ax_bV_s, ax_bI_s, ax_bJ_s, ax_bA_s, ax_bH_s, ax_bR_s, ax_bR_n, n_lt (show 4 < 2 ^ 31 by decide) (show k < 2 ^ 31 by omega), show 4 < k by omega, knd_0, e]
  | succ m ih =>
    intro Y k acc n i b w l f hk hi hs hb hI hm hw
    have h0 := hI.1
    have hb6 : b < 6 := by omega
    obtain ⟨y1, h99⟩ := r171 (X := X) (Y := upX Y 1 (up1 (Y 0) (24 + b) k)) (sc := sc) (ai := ai) (aj := aj) (n := n) (p := 24 * s + i) (by omega) (by rw [upX_s]; exact inv_up24 hI hb (by omega)) (by rw [upX_s, up1_n (by omega)]; exact hm)
    rw [upX_s, upX_u] at h99
    have p6 := pw (X := X) (Y := upX Y 1 (Y 0)) (sc := sc) (ai := ai) (aj := aj) (q := 1) (c := 24 + b) (n := 60 + b) (v := k) (z := nI k) (by decide) (by omega) (by omega) (by unfold hvc; rw [if_neg (by omega)])
    rw [upX_s, upX_u] at p6
    obtain ⟨y2, e⟩ := ih (upX Y 1 y1) (k + 1) (if fol (aj 137) n (up1 (Y 0) (24 + b) k) (24 * s + i) = true then acc ||| 2 ^ k else acc) n i b w l f (by omega) hi hs (by rw [upX_n (by decide)]; exact hb) (by rw [upX_n (by decide)]; exact hI) (by rw [upX_n (by decide)]; exact hm) hw
    rw [upX_n (show ¬ 0 = 1 by decide), upX_u] at e
    refine ⟨y2, ?_⟩
    rw [q172_77, knd_s, ← e]
    simp only [q172_79, q172_80, q172_83, q172_84, q172_87, q172_88, q172_91, q172_93, q172_94, q172_95, q172_97, q172_98, q172_100, q172_101, q172_103, q172_104, q172_105, q172_107, q172_108, q172_110, q172_113, q172_116, q172_117, q172_119, q172_120, q172_123, q172_124, q172_125, q172_127, q172_130, ↓reduceIte, ax_bV_s, ax_bI_s, ax_bJ_s, ax_bA_s, ax_bH_s, ax_bR_s, ax_bR_n, oo_114, gf114_0, gf114_1, gf114_2, gf114_3, gf114_4, gf114_5, pf114_5, gf114_6, gf114_7, gf114_8, gf114_9, oo_119, gf119_0, gf119_1, pf119_1, gf119_2, pf119_2, oo_130, gf130_0, gf130_1, gf130_2, pf130_2, oo_134, gf134_0, gf134_1, pf134_1, gf134_2, pf134_2, gf134_3, pf134_3, gf134_4, gf134_5, pf134_5, gf134_6, gf134_7, gf134_8, gf134_9, pf134_9, gf134_10, gf134_11, gf134_12, gf134_13, gf134_14, gf134_15, gf134_16, gi120, pi120, li120, gi131, pi131, li131, gi132, pi132, li132, gi136, pi136, li136, gi138, pi138, li138, gi139, pi139, li139, gi140, pi140, li140, gi141, pi141, li141, gi142, pi142, li142, gi144, pi144, li144, gi145, pi145, li145, gj133, pj133, lj133, gj137, pj137, lj137, gj143, pj143, lj143, gj146, pj146, lj146, gA121, gAq, oo_s, gfs_0, gfs_1, gfs_2, pfs_0, pfs_1, gjs, ljs, pjs, oo_h, gfh_0, gfh_1, gfh_2, pfh_1, pfh_2, n_lt (show 4 < 2 ^ 31 by decide) (show k < 2 ^ 31 by omega), show ¬ 4 < k by omega, r142, nI_add, p6, pk_mul, h99, n_bn0, n_1shl k (show k < 31 by omega), n_or]
    cases hc : fol (aj 137) n (up1 (Y 0) (24 + b) k) (24 * s + i)
    · simp only [↓reduceIte, ax_bV_s, ax_bI_s, ax_bJ_s, ax_bA_s, ax_bH_s, ax_bR_s, ax_bR_n, Bool.false_eq_true, n_or, Nat.or_zero]
    · simp only [↓reduceIte, ax_bV_s, ax_bI_s, ax_bJ_s, ax_bA_s, ax_bH_s, ax_bR_s, ax_bR_n, Bool.true_eq_false, n_or]
theorem m172_ok {b t l n w z i : Nat} (hI : Inv (Y 0)) (hm : Y 0 1 ≤ 9999) (hb : b < Y 0 0) (ht : t < 4) (hl : l < 4) (hn1 : 1 ≤ n) (hn : n ≤ 8) (hw : w ≤ 2) (h0 : ai 139 t = nI l) (h1 : ai 138 t = nI z) (hz : z ≤ 24) (hi : i + n ≤ z) : ∃ y1, ax_res 172 0 [some (.ref 134), some (.int (nI b)), some (.int (nI t)), some (.int (nI l)), some (.int (nI i)), some (.int (nI n)), some (.int (nI w)), none, none, none, none, none, none] [] (hp X Y sc ai aj) = some (some (.int (stA (aj 137) b n (24 * t + i) (Y 0) w)), hp X (upX Y 1 y1) sc ai aj) := by
  have h00 := hI.1
  have h9 := r169 (X := X) (Y := Y) (sc := sc) (ai := ai) (aj := aj) (la := nI l) (i := nI i) (n := nI n) ht h1 hz h0 hl
  rw [fltA_h hl, hold_nI (by omega) (by omega), decide_eq_true hi, if_pos rfl] at h9
  obtain ⟨y1, e⟩ := m172_l1 (X := X) (sc := sc) (ai := ai) (aj := aj) (s := t) 5 Y 0 0 n i b w (nI l) (nI 0) (by omega) (by omega) ht hb hI hm hw
  refine ⟨y1, ?_⟩
  simp only [q172_0, q172_1, q172_2, q172_5, q172_8, q172_9, q172_10, q172_13, q172_16, q172_18, q172_19, q172_20, q172_23, q172_26, q172_29, q172_31, q172_32, q172_33, q172_36, q172_39, q172_44, q172_45, q172_46, q172_47, q172_49, q172_51, q172_54, q172_56, q172_58, q172_64, q172_65, q172_67, q172_68, q172_70, q172_72, q172_74, q172_75, ↓reduceIte, ax_bV_s, ax_bI_s, ax_bJ_s, ax_bA_s, ax_bH_s, ax_bR_s, ax_bR_n, oo_114, gf114_0, gf114_1, gf114_2, gf114_3, gf114_4, gf114_5, pf114_5, gf114_6, gf114_7, gf114_8, gf114_9, oo_119, gf119_0, gf119_1, pf119_1, gf119_2, pf119_2, oo_130, gf130_0, gf130_1, gf130_2, pf130_2, oo_134, gf134_0, gf134_1, pf134_1, gf134_2, pf134_2, gf134_3, pf134_3, gf134_4, gf134_5, pf134_5, gf134_6, gf134_7, gf134_8, gf134_9, pf134_9, gf134_10, gf134_11, gf134_12, gf134_13, gf134_14, gf134_15, gf134_16, gi120, pi120, li120, gi131, pi131, li131, gi132, pi132, li132, gi136, pi136, li136, gi138, pi138, li138, gi139, pi139, li139, gi140, pi140, li140, gi141, pi141, li141, gi142, pi142, li142, gi144, pi144, li144, gi145, pi145, li145, gj133, pj133, lj133, gj137, pj137, lj137, gj143, pj143, lj143, gj146, pj146, lj146, gA121, gAq, oo_s, gfs_0, gfs_1, gfs_2, pfs_0, pfs_1, gjs, ljs, pjs, oo_h, gfh_0, gfh_1, gfh_2, pfh_1, pfh_2, r108 hI.1, isB_t (show Y 0 0 ≤ 1000 by omega) hb, r104I (show 1 < 2 ^ 31 by decide) (show 8 < 2 ^ 31 by decide), isI_nI (show n < 2 ^ 31 by omega) hn1 hn, r104I (show 0 < 2 ^ 31 by decide) (show 2 < 2 ^ 31 by decide), isI_nI (show w < 2 ^ 31 by omega) (Nat.zero_le w) hw, r168, isI_nI (show t < 2 ^ 31 by omega) (Nat.zero_le t) (show t ≤ 3 by omega), isI_nI (show l < 2 ^ 31 by omega) (Nat.zero_le l) (show l ≤ 3 by omega), Bool.and_self, Bool.true_eq_false, n_bn0, h9, n_0le (show 0 < 2 ^ 31 by decide), e, stA]
end ST
