/-! ===== round ===== -/
theorem pasN_p (n : Nat) : ∀ (x : Nat → Nat), pasN (n + 1) x = pas (pasN n x) false := by
  induction n with
  | zero => intro x; rfl
  | succ n ih =>
    intro x
    have h := ih (pas x false)
    rw [show pasN (n + 1 + 1) x = pasN (n + 1) (pas x false) from rfl, h]
    rfl
theorem mkF_inj (n : Nat) : ∀ (x y : Nat → Nat) (i a b : Nat), (∀ c, i ≤ c → c < i + n → x (6 + c) < 32 ∧ y (6 + c) < 32) → (mkF x i n a = mkF y i n b ↔ a = b ∧ ∀ c, i ≤ c → c < i + n → x (6 + c) = y (6 + c)) := by
  induction n with
  | zero =>
    intro x y i a b _
    rw [mkF, mkF]
    exact ⟨fun h => ⟨h, fun c h1 h2 => by omega⟩, fun h => h.1⟩
  | succ n ih =>
    intro x y i a b h
    have h1 := h i (by omega) (by omega)
    rw [mkF, mkF, ih x y (i + 1) _ _ (fun c c1 c2 => h c (by omega) (by omega))]
    constructor
    · rintro ⟨e1, e2⟩
      refine ⟨by omega, fun c c1 c2 => ?_⟩
      by_cases hc : c = i
      · rw [hc]; omega
      · exact e2 c (by omega) (by omega)
    · rintro ⟨e1, e2⟩
      have e3 := e2 i (by omega) (by omega)
      exact ⟨by omega, fun c c1 c2 => e2 c (by omega) (by omega)⟩
/-- alike in all that decides the minutes to come -/
def Kq (x y : Nat → Nat) : Prop := x 1 % x 0 = y 1 % x 0 ∧ x 1 % 5 = y 1 % 5 ∧ min (x 3) 4 = min (y 3) 4 ∧ min (x 2) 6 = min (y 2) 6 ∧ ∀ b, b < x 0 → x (6 + b) = y (6 + b)
def sitv (s : Nat) : Nat := if s < 6 then s + 4 else 0
def stnd (x : Nat → Nat) : Nat := 30 * mkF x 0 (x 0) (5 * sitv (x 2) + min (x 3) 4) + 6 * (x 1 % 5) + x 1 % x 0
theorem mark_K {x y : Nat → Nat} (hx : Inv x) (hy : Inv y) (h0 : y 0 = x 0) : mark_ x = mark_ y ↔ Kq x y := by
  unfold mark_
  rw [h0, mkF_inj (x 0) x y 0 _ _ (fun c _ hc => ⟨(hx.2.2.2.2.2 c (by omega)).1, (hy.2.2.2.2.2 c (by omega)).1⟩)]
  unfold mark0 Kq
  rw [h0]
  generalize x 1 % x 0 = a1
  generalize y 1 % x 0 = a2
  have b1 := Nat.mod_lt (x 1) (show 5 > 0 by decide)
  have b2 := Nat.mod_lt (y 1) (show 5 > 0 by decide)
  generalize x 1 % 5 = c1 at b1 ⊢
  generalize y 1 % 5 = c2 at b2 ⊢
  constructor
  · rintro ⟨e1, e2⟩
    exact ⟨by omega, by omega, by omega, by omega, fun b hb => e2 b (by omega) (by omega)⟩
  · rintro ⟨e1, e2, e3, e4, e5⟩
    exact ⟨by omega, fun b _ hb => e5 b (by omega)⟩
theorem sitv_i {a b : Nat} : sitv a = sitv b ↔ min a 6 = min b 6 := by
  unfold sitv
  split <;> split <;> omega
theorem sitv_lt {a : Nat} : sitv a < 10 := by unfold sitv; split <;> omega
theorem stnd_K {x y : Nat → Nat} (hx : Inv x) (hy : Inv y) (h0 : y 0 = x 0) (hN : 0 < x 0) : stnd x = stnd y ↔ Kq x y := by
  unfold stnd
  have hi := mkF_inj (x 0) x y 0 (5 * sitv (x 2) + min (x 3) 4) (5 * sitv (y 2) + min (y 3) 4) (fun c _ hc => ⟨(hx.2.2.2.2.2 c (by omega)).1, (hy.2.2.2.2.2 c (by omega)).1⟩)
  unfold Kq
  rw [h0]
  have a1 := Nat.mod_lt (x 1) hN
  have a2 := Nat.mod_lt (y 1) hN
  have h6 := hx.1
  generalize x 1 % x 0 = a3 at a1 ⊢
  generalize y 1 % x 0 = a4 at a2 ⊢
  have b1 := Nat.mod_lt (x 1) (show 5 > 0 by decide)
  have b2 := Nat.mod_lt (y 1) (show 5 > 0 by decide)
  generalize x 1 % 5 = c1 at b1 ⊢
  generalize y 1 % 5 = c2 at b2 ⊢
  generalize mkF x 0 (x 0) (5 * sitv (x 2) + min (x 3) 4) = m1 at hi ⊢
  generalize mkF y 0 (x 0) (5 * sitv (y 2) + min (y 3) 4) = m2 at hi ⊢
  constructor
  · intro e
    obtain ⟨e1, e2⟩ := hi.mp (by omega)
    have s1 := sitv_i (a := x 2) (b := y 2)
    exact ⟨by omega, by omega, by omega, s1.mp (by omega), fun b hb => e2 b (by omega) (by omega)⟩
  · rintro ⟨e1, e2, e3, e4, e5⟩
    have s1 := sitv_i.mpr e4
    have := hi.mpr ⟨by omega, fun b _ hb => e5 b (by omega)⟩
    omega
def fmF (P : Nat → Bool) : Nat → Nat → Option Nat
  | 0, _ => none
  | m + 1, i => if P i = true then some i else fmF P m (i + 1)
theorem fmF_0 {P : Nat → Bool} {i : Nat} : fmF P 0 i = none := by rw [fmF]
theorem fmF_s {P : Nat → Bool} {m i : Nat} : fmF P (m + 1) i = if P i = true then some i else fmF P m (i + 1) := by rw [fmF]
theorem fmF_c {P P' : Nat → Bool} (m : Nat) : ∀ i, (∀ j, j < i + m → P j = P' j) → fmF P m i = fmF P' m i := by
  induction m with
  | zero => intro i _; rw [fmF_0, fmF_0]
  | succ m ih => intro i h; rw [fmF_s, fmF_s, h i (by omega), ih (i + 1) (fun j hj => h j (by omega))]
theorem fmF_lt {P : Nat → Bool} (m : Nat) : ∀ i k, fmF P m i = some k → k < i + m := by
  induction m with
  | zero => intro i k h; rw [fmF_0] at h; cases h
  | succ m ih =>
    intro i k h
    rw [fmF_s] at h
    split at h
    · cases h; omega
    · have := ih (i + 1) k h; omega
def rdF (P : Nat → Nat → Bool) (w : Nat) : Nat → Nat → Int32
  | 0, _ => -4
  | m + 1, t => match fmF (fun i => P i t) t 0 with
    | some i => if w = 0 then nI t else nI (t - i)
    | none => rdF P w m (t + 1)
theorem rdF_0 {P : Nat → Nat → Bool} {w t : Nat} : rdF P w 0 t = -4 := by rw [rdF]
theorem rdF_y {P : Nat → Nat → Bool} {w m t i : Nat} (h : fmF (fun i => P i t) t 0 = some i) : rdF P w (m + 1) t = if w = 0 then nI t else nI (t - i) := by rw [rdF, h]
theorem rdF_n {P : Nat → Nat → Bool} {w m t : Nat} (h : fmF (fun i => P i t) t 0 = none) : rdF P w (m + 1) t = rdF P w m (t + 1) := by rw [rdF, h]
def rdP (x : Nat → Nat) (i t : Nat) : Bool := decide (mark_ (pasN i x) = mark_ (pasN t x))
theorem mark_lt {x : Nat → Nat} (hI : Inv x) (hN : 0 < x 0) : mark_ x < 2 ^ 42 := by
  unfold mark_
  have h := mkF_lt (x 0) x 0 (mark0 x) (fun b _ hb => (hI.2.2.2.2.2 b (by omega)).1)
  have h6 := hI.1
  have a1 := Nat.mod_lt (x 1) hN
  have b1 := Nat.mod_lt (x 1) (show 5 > 0 by decide)
  have hm : mark0 x + 1 ≤ 1100 := by unfold mark0; omega
  have hp : 32 ^ x 0 ≤ 32 ^ 6 := Nat.pow_le_pow_right (by decide) h6
  have := Nat.mul_le_mul hm hp
  have e : 1100 * 32 ^ 6 < 2 ^ 42 := by decide
  omega
theorem stnd_lt {x : Nat → Nat} (hI : Inv x) (hN : 0 < x 0) : stnd x < 2 ^ 50 := by
  unfold stnd
  have h := mkF_lt (x 0) x 0 (5 * sitv (x 2) + min (x 3) 4) (fun b _ hb => (hI.2.2.2.2.2 b (by omega)).1)
  have h6 := hI.1
  have a1 := Nat.mod_lt (x 1) hN
  have b1 := Nat.mod_lt (x 1) (show 5 > 0 by decide)
  have s1 := sitv_lt (a := x 2)
  have hm : 5 * sitv (x 2) + min (x 3) 4 + 1 ≤ 1100 := by omega
  have hp : 32 ^ x 0 ≤ 32 ^ 6 := Nat.pow_le_pow_right (by decide) h6
  have := Nat.mul_le_mul hm hp
  have e : 1100 * 32 ^ 6 < 2 ^ 42 := by decide
  omega
theorem sv_4 {s : Nat} : sv s + nI 4 = nI (sitv s) := by
  unfold sv sitv
  by_cases h : s < 6
  · rw [if_pos h, if_pos h, nI_add]
  · rw [if_neg h, if_neg h]; decide
section RD
variable {X Y : Nat → Nat → Nat} {sc : Nat → Nat → Int32} {ai : Nat → Nat → Int32} {aj : Nat → Nat → Int64}
theorem r90_l (m : Nat) : ∀ (i t : Nat) (v : Int64), i + m = t → t ≤ 300 → ax_res 90 3 [some (.ref 114), some (.long v), none, some (.int (nI t)), some (.int (nI i))] [] (hp X Y sc ai aj) = some (some (.int (match fmF (fun k => decide (aj 133 k = v)) m i with | some k => nI k | none => -4)), hp X Y sc ai aj) := by
  induction m with
  | zero =>
    intro i t v hi ht
    rw [fmF_0]
    simp only [q90_3, q90_5, q90_6, q90_40, q90_42, ↓reduceIte, ax_bV_s, ax_bI_s, ax_bJ_s, ax_bA_s, ax_bH_s, ax_bR_s, ax_bR_n, n_le (show t < 2 ^ 31 by omega) (show i < 2 ^ 31 by omega), show t ≤ i by omega]
  | succ m ih =>
    intro i t v hi ht
    have e := ih (i + 1) t v (by omega) ht
    rw [q90_3, fmF_s]
    by_cases c : aj 133 i = v
    · rw [if_pos (decide_eq_true c)]
      simp only [q90_5, q90_6, q90_9, q90_11, q90_12, q90_15, q90_16, q90_19, q90_20, q90_23, q90_25, q90_26, q90_27, q90_28, q90_31, q90_33, ↓reduceIte, ax_bV_s, ax_bI_s, ax_bJ_s, ax_bA_s, ax_bH_s, ax_bR_s, ax_bR_n, oo_114, gf114_0, gf114_1, gf114_2, gf114_3, gf114_4, gf114_5, pf114_5, gf114_6, gf114_7, gf114_8, gf114_9, oo_119, gf119_0, gf119_1, pf119_1, gf119_2, pf119_2, oo_130, gf130_0, gf130_1, gf130_2, pf130_2, oo_134, gf134_0, gf134_1, pf134_1, gf134_2, pf134_2, gf134_3, pf134_3, gf134_4, gf134_5, pf134_5, gf134_6, gf134_7, gf134_8, gf134_9, pf134_9, gf134_10, gf134_11, gf134_12, gf134_13, gf134_14, gf134_15, gf134_16, gi120, pi120, li120, gi131, pi131, li131, gi132, pi132, li132, gi136, pi136, li136, gi138, pi138, li138, gi139, pi139, li139, gi140, pi140, li140, gi141, pi141, li141, gi142, pi142, li142, gi144, pi144, li144, gi145, pi145, li145, gj133, pj133, lj133, gj137, pj137, lj137, gj143, pj143, lj143, gj146, pj146, lj146, gA121, gAq, oo_s, gfs_0, gfs_1, gfs_2, pfs_0, pfs_1, gjs, ljs, pjs, oo_h, gfh_0, gfh_1, gfh_2, pfh_1, pfh_2, n_le (show t < 2 ^ 31 by omega) (show i < 2 ^ 31 by omega), show ¬ t ≤ i by omega, n_le (show 301 < 2 ^ 31 by decide) (show i < 2 ^ 31 by omega), show ¬ 301 ≤ i by omega, show i < 301 by omega, lg_cmp_eq, c]
    · rw [if_neg (by rw [decide_eq_false c]; decide), ← e]
      simp only [q90_5, q90_6, q90_9, q90_11, q90_12, q90_15, q90_16, q90_19, q90_20, q90_23, q90_25, q90_26, q90_27, q90_28, q90_34, q90_37, ↓reduceIte, ax_bV_s, ax_bI_s, ax_bJ_s, ax_bA_s, ax_bH_s, ax_bR_s, ax_bR_n, oo_114, gf114_0, gf114_1, gf114_2, gf114_3, gf114_4, gf114_5, pf114_5, gf114_6, gf114_7, gf114_8, gf114_9, oo_119, gf119_0, gf119_1, pf119_1, gf119_2, pf119_2, oo_130, gf130_0, gf130_1, gf130_2, pf130_2, oo_134, gf134_0, gf134_1, pf134_1, gf134_2, pf134_2, gf134_3, pf134_3, gf134_4, gf134_5, pf134_5, gf134_6, gf134_7, gf134_8, gf134_9, pf134_9, gf134_10, gf134_11, gf134_12, gf134_13, gf134_14, gf134_15, gf134_16, gi120, pi120, li120, gi131, pi131, li131, gi132, pi132, li132, gi136, pi136, li136, gi138, pi138, li138, gi139, pi139, li139, gi140, pi140, li140, gi141, pi141, li141, gi142, pi142, li142, gi144, pi144, li144, gi145, pi145, li145, gj133, pj133, lj133, gj137, pj137, lj137, gj143, pj143, lj143, gj146, pj146, lj146, gA121, gAq, oo_s, gfs_0, gfs_1, gfs_2, pfs_0, pfs_1, gjs, ljs, pjs, oo_h, gfh_0, gfh_1, gfh_2, pfh_1, pfh_2, n_le (show t < 2 ^ 31 by omega) (show i < 2 ^ 31 by omega), show ¬ t ≤ i by omega, n_le (show 301 < 2 ^ 31 by decide) (show i < 2 ^ 31 by omega), show ¬ 301 ≤ i by omega, show i < 301 by omega, lg_cmp_eq, c, nI_add]
/-- findMark -/
theorem r90 {t : Nat} {v : Int64} (ht : t ≤ 300) : ax_res 90 0 [some (.ref 114), some (.long v), none, some (.int (nI t)), none] [] (hp X Y sc ai aj) = some (some (.int (match fmF (fun k => decide (aj 133 k = v)) t 0 with | some k => nI k | none => -4)), hp X Y sc ai aj) := by
  have e := r90_l (X := X) (Y := Y) (sc := sc) (ai := ai) (aj := aj) t 0 t v (by omega) ht
  simp only [q90_0, q90_1, e]
theorem s66_l (m : Nat) : ∀ (X : Nat → Nat → Nat) (aj : Nat → Nat → Int64) (t w : Nat), t + m = 301 → 1 ≤ t → w ≤ 1 → Inv (X 0) → 0 < X 0 0 → X 0 1 ≤ 9999 → X 1 = pasN (t - 1) (X 0) → (∀ k, k < t → aj 133 k = lN (mark_ (pasN k (X 0)))) → ∃ x1 f, ax_res 66 43 [some (.ref 114), some (.int (nI w)), some (.int (nI t)), none] [] (hp X Y sc ai aj) = some (some (.int (rdF (rdP (X 0)) w m t)), hp (upX X 1 x1) Y sc ai (upJ aj 133 f)) := by
  induction m with
  | zero =>
    intro X aj t w ht h1 hw hI hN hm hx hk
    refine ⟨X 1, aj 133, ?_⟩
    have e0 : upJ aj 133 (aj 133) = aj := by funext k; unfold upJ; by_cases h : k = 133 <;> simp [h]
    rw [rdF_0, upX_i, e0]
    simp only [q66_43, q66_44, q66_47, q66_105, q66_107, ↓reduceIte, ax_bV_s, ax_bI_s, ax_bJ_s, ax_bA_s, ax_bH_s, ax_bR_s, ax_bR_n, n_lt (show 300 < 2 ^ 31 by decide) (show t < 2 ^ 31 by omega), show 300 < t by omega]
  | succ m ih =>
    intro X aj t w ht h1 hw hI hN hm hx hk
    obtain ⟨g1, g2, g3⟩ := inv_pasN (t - 1) hI
    obtain ⟨k1, k2, k3⟩ := inv_pasN t hI
    have hp1 : pas (X 1) false = pasN t (X 0) := by rw [hx, ← pasN_p, show t - 1 + 1 = t by omega]
    have h26 := r26 (X := X) (Y := Y) (sc := sc) (ai := ai) (aj := aj) (mb := false) j1 (by rw [hx]; exact g1) (by rw [hx, g3]; omega)
    rw [hp1] at h26
    have h29 := r29 (X := upX X 1 (pasN t (X 0))) (Y := Y) (sc := sc) (ai := ai) (aj := aj) j1 (by rw [upX_s]; exact k1) (by rw [upX_s, k3]; omega) (by rw [upX_s, k2]; exact hN)
    rw [upX_s] at h29
    have h90 := r90 (X := upX X 1 (pasN t (X 0))) (Y := Y) (sc := sc) (ai := ai) (aj := upJ aj 133 (vp_updL (aj 133) t (lN (mark_ (pasN t (X 0)))))) (v := lN (mark_ (pasN t (X 0)))) (show t ≤ 300 by omega)
    have ev : vp_updL (aj 133) t (lN (mark_ (pasN t (X 0)))) t = lN (mark_ (pasN t (X 0))) := by unfold vp_updL; rw [if_pos rfl]
    have ef : fmF (fun k => decide (upJ aj 133 (vp_updL (aj 133) t (lN (mark_ (pasN t (X 0))))) 133 k = lN (mark_ (pasN t (X 0))))) t 0 = fmF (fun i => rdP (X 0) i t) t 0 := by
      refine fmF_c t 0 (fun j hj => ?_)
      have hj2 : vp_updL (aj 133) t (lN (mark_ (pasN t (X 0)))) j = lN (mark_ (pasN j (X 0))) := by unfold vp_updL; rw [if_neg (by omega), hk j (by omega)]
      obtain ⟨q1, q2, q3⟩ := inv_pasN j hI
      have l1 := mark_lt q1 (by rw [q2]; exact hN)
      have l2 := mark_lt k1 (by rw [k2]; exact hN)
      rw [upJ_s, hj2]
      unfold rdP
      exact decide_eq_decide.mpr (l_eq (by omega) (by omega))
    rw [ef] at h90
    cases hf : fmF (fun i => rdP (X 0) i t) t 0 with
    | some i =>
      rw [hf] at h90
      have hit := fmF_lt t 0 i hf
      refine ⟨pasN t (X 0), vp_updL (aj 133) t (lN (mark_ (pasN t (X 0)))), ?_⟩
      rw [rdF_y hf, q66_43]
      rcases (show w = 0 ∨ w = 1 by omega) with rfl | rfl
      · simp only [q66_44, q66_47, q66_50, q66_51, q66_54, q66_55, q66_58, q66_59, q66_62, q66_63, q66_64, q66_67, q66_70, q66_71, q66_72, q66_73, q66_76, q66_77, q66_78, q66_79, q66_82, q66_83, q66_84, q66_87, q66_88, q66_91, q66_92, q66_95, q66_96, q66_97, q66_98, ↓reduceIte, ax_bV_s, ax_bI_s, ax_bJ_s, ax_bA_s, ax_bH_s, ax_bR_s, ax_bR_n, gh_people, gh_here, gh_sat, gh_minute, gh_draw, gh_sitter, gh_kinds, gh_prices, gh_known, gh_sights, gh_places, ga_kinds, ga_prices, ga_known, ga_sights, ga_places, oh, oo_114, gf114_0, gf114_1, gf114_2, gf114_3, gf114_4, gf114_5, pf114_5, gf114_6, gf114_7, gf114_8, gf114_9, oo_119, gf119_0, gf119_1, pf119_1, gf119_2, pf119_2, oo_130, gf130_0, gf130_1, gf130_2, pf130_2, oo_134, gf134_0, gf134_1, pf134_1, gf134_2, pf134_2, gf134_3, pf134_3, gf134_4, gf134_5, pf134_5, gf134_6, gf134_7, gf134_8, gf134_9, pf134_9, gf134_10, gf134_11, gf134_12, gf134_13, gf134_14, gf134_15, gf134_16, gi120, pi120, li120, gi131, pi131, li131, gi132, pi132, li132, gi136, pi136, li136, gi138, pi138, li138, gi139, pi139, li139, gi140, pi140, li140, gi141, pi141, li141, gi142, pi142, li142, gi144, pi144, li144, gi145, pi145, li145, gj133, pj133, lj133, gj137, pj137, lj137, gj143, pj143, lj143, gj146, pj146, lj146, gA121, gAq, oo_s, gfs_0, gfs_1, gfs_2, pfs_0, pfs_1, gjs, ljs, pjs, oo_h, gfh_0, gfh_1, gfh_2, pfh_1, pfh_2, j1, n_lt (show 300 < 2 ^ 31 by decide) (show t < 2 ^ 31 by omega), show ¬ 300 < t by omega, show nI 0 = nI (bn false) from rfl, h26, h29, show t < 301 by omega, upJ_s, ev, h90, n_lt0 (show i < 2 ^ 31 by omega), n_bn0]
      · simp only [q66_44, q66_47, q66_50, q66_51, q66_54, q66_55, q66_58, q66_59, q66_62, q66_63, q66_64, q66_67, q66_70, q66_71, q66_72, q66_73, q66_76, q66_77, q66_78, q66_79, q66_82, q66_83, q66_84, q66_87, q66_88, q66_91, q66_92, q66_95, q66_96, q66_97, q66_98, ↓reduceIte, ax_bV_s, ax_bI_s, ax_bJ_s, ax_bA_s, ax_bH_s, ax_bR_s, ax_bR_n, gh_people, gh_here, gh_sat, gh_minute, gh_draw, gh_sitter, gh_kinds, gh_prices, gh_known, gh_sights, gh_places, ga_kinds, ga_prices, ga_known, ga_sights, ga_places, oh, oo_114, gf114_0, gf114_1, gf114_2, gf114_3, gf114_4, gf114_5, pf114_5, gf114_6, gf114_7, gf114_8, gf114_9, oo_119, gf119_0, gf119_1, pf119_1, gf119_2, pf119_2, oo_130, gf130_0, gf130_1, gf130_2, pf130_2, oo_134, gf134_0, gf134_1, pf134_1, gf134_2, pf134_2, gf134_3, pf134_3, gf134_4, gf134_5, pf134_5, gf134_6, gf134_7, gf134_8, gf134_9, pf134_9, gf134_10, gf134_11, gf134_12, gf134_13, gf134_14, gf134_15, gf134_16, gi120, pi120, li120, gi131, pi131, li131, gi132, pi132, li132, gi136, pi136, li136, gi138, pi138, li138, gi139, pi139, li139, gi140, pi140, li140, gi141, pi141, li141, gi142, pi142, li142, gi144, pi144, li144, gi145, pi145, li145, gj133, pj133, lj133, gj137, pj137, lj137, gj143, pj143, lj143, gj146, pj146, lj146, gA121, gAq, oo_s, gfs_0, gfs_1, gfs_2, pfs_0, pfs_1, gjs, ljs, pjs, oo_h, gfh_0, gfh_1, gfh_2, pfh_1, pfh_2, j1, n_lt (show 300 < 2 ^ 31 by decide) (show t < 2 ^ 31 by omega), show ¬ 300 < t by omega, show nI 0 = nI (bn false) from rfl, h26, h29, show t < 301 by omega, upJ_s, ev, h90, n_lt0 (show i < 2 ^ 31 by omega), n_z1, show ¬ 1 = 0 by decide, n_sub (show i ≤ t by omega)]
    | none =>
      rw [hf] at h90
      obtain ⟨x1, f, e⟩ := ih (upX X 1 (pasN t (X 0))) (upJ aj 133 (vp_updL (aj 133) t (lN (mark_ (pasN t (X 0)))))) (t + 1) w (by omega) (by omega) hw (by rw [upX_n (by decide)]; exact hI) (by rw [upX_n (by decide)]; exact hN) (by rw [upX_n (by decide)]; exact hm) (by rw [upX_s, upX_n (by decide), Nat.add_sub_cancel]) (fun k hk2 => by
        rw [upJ_s, upX_n (by decide)]
        by_cases c : k = t
        · rw [c, ev]
        · unfold vp_updL; rw [if_neg c]; exact hk k (by omega))
      rw [upX_n (show ¬ 0 = 1 by decide), upX_u, upJ_u] at e
      refine ⟨x1, f, ?_⟩
      rw [rdF_n hf, q66_43]
      simp only [q66_44, q66_47, q66_50, q66_51, q66_54, q66_55, q66_58, q66_59, q66_62, q66_63, q66_64, q66_67, q66_70, q66_71, q66_72, q66_73, q66_76, q66_77, q66_78, q66_79, q66_82, q66_83, q66_84, q66_99, q66_102, ↓reduceIte, ax_bV_s, ax_bI_s, ax_bJ_s, ax_bA_s, ax_bH_s, ax_bR_s, ax_bR_n, gh_people, gh_here, gh_sat, gh_minute, gh_draw, gh_sitter, gh_kinds, gh_prices, gh_known, gh_sights, gh_places, ga_kinds, ga_prices, ga_known, ga_sights, ga_places, oh, oo_114, gf114_0, gf114_1, gf114_2, gf114_3, gf114_4, gf114_5, pf114_5, gf114_6, gf114_7, gf114_8, gf114_9, oo_119, gf119_0, gf119_1, pf119_1, gf119_2, pf119_2, oo_130, gf130_0, gf130_1, gf130_2, pf130_2, oo_134, gf134_0, gf134_1, pf134_1, gf134_2, pf134_2, gf134_3, pf134_3, gf134_4, gf134_5, pf134_5, gf134_6, gf134_7, gf134_8, gf134_9, pf134_9, gf134_10, gf134_11, gf134_12, gf134_13, gf134_14, gf134_15, gf134_16, gi120, pi120, li120, gi131, pi131, li131, gi132, pi132, li132, gi136, pi136, li136, gi138, pi138, li138, gi139, pi139, li139, gi140, pi140, li140, gi141, pi141, li141, gi142, pi142, li142, gi144, pi144, li144, gi145, pi145, li145, gj133, pj133, lj133, gj137, pj137, lj137, gj143, pj143, lj143, gj146, pj146, lj146, gA121, gAq, oo_s, gfs_0, gfs_1, gfs_2, pfs_0, pfs_1, gjs, ljs, pjs, oo_h, gfh_0, gfh_1, gfh_2, pfh_1, pfh_2, j1, n_lt (show 300 < 2 ^ 31 by decide) (show t < 2 ^ 31 by omega), show ¬ 300 < t by omega, show nI 0 = nI (bn false) from rfl, h26, h29, show t < 301 by omega, upJ_s, ev, h90, show (-4 : Int32) < 0 by decide, nI_add, e]
theorem s66_bad {w : Int32} (h : isI w 0 1 = false) : ax_res 66 0 [some (.ref 114), some (.int w), none, none] [] (hp X Y sc ai aj) = some (some (.int (-1)), hp X Y sc ai aj) := by
  simp only [q66_0, q66_1, q66_2, q66_3, q66_6, q66_9, q66_10, ↓reduceIte, ax_bV_s, ax_bI_s, ax_bJ_s, ax_bA_s, ax_bH_s, ax_bR_s, ax_bR_n, r84I (show 0 < 2 ^ 31 by decide) (show 1 < 2 ^ 31 by decide), h, Bool.not_false, n_bn0, Bool.true_eq_false]
theorem s66_none {w : Nat} (hw : w ≤ 1) (h : X 0 0 = 0) : ax_res 66 0 [some (.ref 114), some (.int (nI w)), none, none] [] (hp X Y sc ai aj) = some (some (.int (-4)), hp X Y sc ai aj) := by
  simp only [q66_0, q66_1, q66_2, q66_3, q66_6, q66_11, q66_12, q66_15, q66_18, q66_21, q66_23, ↓reduceIte, ax_bV_s, ax_bI_s, ax_bJ_s, ax_bA_s, ax_bH_s, ax_bR_s, ax_bR_n, gh_people, gh_here, gh_sat, gh_minute, gh_draw, gh_sitter, gh_kinds, gh_prices, gh_known, gh_sights, gh_places, ga_kinds, ga_prices, ga_known, ga_sights, ga_places, oh, oo_114, gf114_0, gf114_1, gf114_2, gf114_3, gf114_4, gf114_5, pf114_5, gf114_6, gf114_7, gf114_8, gf114_9, oo_119, gf119_0, gf119_1, pf119_1, gf119_2, pf119_2, oo_130, gf130_0, gf130_1, gf130_2, pf130_2, oo_134, gf134_0, gf134_1, pf134_1, gf134_2, pf134_2, gf134_3, pf134_3, gf134_4, gf134_5, pf134_5, gf134_6, gf134_7, gf134_8, gf134_9, pf134_9, gf134_10, gf134_11, gf134_12, gf134_13, gf134_14, gf134_15, gf134_16, gi120, pi120, li120, gi131, pi131, li131, gi132, pi132, li132, gi136, pi136, li136, gi138, pi138, li138, gi139, pi139, li139, gi140, pi140, li140, gi141, pi141, li141, gi142, pi142, li142, gi144, pi144, li144, gi145, pi145, li145, gj133, pj133, lj133, gj137, pj137, lj137, gj143, pj143, lj143, gj146, pj146, lj146, gA121, gAq, oo_s, gfs_0, gfs_1, gfs_2, pfs_0, pfs_1, gjs, ljs, pjs, oo_h, gfh_0, gfh_1, gfh_2, pfh_1, pfh_2, j0, r84I (show 0 < 2 ^ 31 by decide) (show 1 < 2 ^ 31 by decide), isI_nI (show w < 2 ^ 31 by omega) (Nat.zero_le w) hw, Bool.not_true, n_bn0, h, n_z0]
theorem s66_ok {w : Nat} (hw : w ≤ 1) (hI : Inv (X 0)) (hN : 0 < X 0 0) (hm : X 0 1 ≤ 9999) : ∃ x1 f, ax_res 66 0 [some (.ref 114), some (.int (nI w)), none, none] [] (hp X Y sc ai aj) = some (some (.int (rdF (rdP (X 0)) w 300 1)), hp (upX X 1 x1) Y sc ai (upJ aj 133 f)) := by
  have h0 := hI.1
  have h29 := r29 (X := upX X 1 (X 0)) (Y := Y) (sc := sc) (ai := ai) (aj := aj) j1 (by rw [upX_s]; exact hI) (by rw [upX_s]; omega) (by rw [upX_s]; exact hN)
  rw [upX_s] at h29
  obtain ⟨x1, f, e⟩ := s66_l (Y := Y) (sc := sc) (ai := ai) 300 (upX X 1 (X 0)) (upJ aj 133 (vp_updL (aj 133) 0 (lN (mark_ (X 0))))) 1 w (by omega) (by omega) hw (by rw [upX_n (by decide)]; exact hI) (by rw [upX_n (by decide)]; exact hN) (by rw [upX_n (by decide)]; exact hm) (by rw [upX_s, upX_n (by decide)]; rfl) (fun k hk => by
    rw [upJ_s, upX_n (by decide), show k = 0 by omega]
    unfold vp_updL; rw [if_pos rfl]; rfl)
  rw [upX_n (show ¬ 0 = 1 by decide), upX_u, upJ_u] at e
  refine ⟨x1, f, ?_⟩
  simp only [q66_0, q66_1, q66_2, q66_3, q66_6, q66_11, q66_12, q66_15, q66_18, q66_24, q66_25, q66_28, q66_29, q66_32, q66_33, q66_34, q66_37, q66_40, q66_41, q66_42, ↓reduceIte, ax_bV_s, ax_bI_s, ax_bJ_s, ax_bA_s, ax_bH_s, ax_bR_s, ax_bR_n, gh_people, gh_here, gh_sat, gh_minute, gh_draw, gh_sitter, gh_kinds, gh_prices, gh_known, gh_sights, gh_places, ga_kinds, ga_prices, ga_known, ga_sights, ga_places, oh, oo_114, gf114_0, gf114_1, gf114_2, gf114_3, gf114_4, gf114_5, pf114_5, gf114_6, gf114_7, gf114_8, gf114_9, oo_119, gf119_0, gf119_1, pf119_1, gf119_2, pf119_2, oo_130, gf130_0, gf130_1, gf130_2, pf130_2, oo_134, gf134_0, gf134_1, pf134_1, gf134_2, pf134_2, gf134_3, pf134_3, gf134_4, gf134_5, pf134_5, gf134_6, gf134_7, gf134_8, gf134_9, pf134_9, gf134_10, gf134_11, gf134_12, gf134_13, gf134_14, gf134_15, gf134_16, gi120, pi120, li120, gi131, pi131, li131, gi132, pi132, li132, gi136, pi136, li136, gi138, pi138, li138, gi139, pi139, li139, gi140, pi140, li140, gi141, pi141, li141, gi142, pi142, li142, gi144, pi144, li144, gi145, pi145, li145, gj133, pj133, lj133, gj137, pj137, lj137, gj143, pj143, lj143, gj146, pj146, lj146, gA121, gAq, oo_s, gfs_0, gfs_1, gfs_2, pfs_0, pfs_1, gjs, ljs, pjs, oo_h, gfh_0, gfh_1, gfh_2, pfh_1, pfh_2, j0, j1, r84I (show 0 < 2 ^ 31 by decide) (show 1 < 2 ^ 31 by decide), isI_nI (show w < 2 ^ 31 by omega) (Nat.zero_le w) hw, Bool.not_true, n_bn0, n_eq0 (show X 0 0 < 2 ^ 31 by omega), show ¬ X 0 0 = 0 by omega, r89, h29, show 0 < 301 by decide, e]
-- the model's
theorem r147_l (m : Nat) : ∀ (b acc : Nat), b + m = Y 0 0 → Y 1 0 = Y 0 0 → 0 < Y 0 0 → Inv (Y 1) → Y 1 1 < 20000 → ax_res 147 43 [some (.ref 134), some (.long (lN acc)), none, some (.int (nI b))] [] (hp X Y sc ai aj) = some (some (.long (lN (30 * mkF (Y 1) b m acc + 6 * (Y 1 1 % 5) + Y 1 1 % Y 0 0))), hp X Y sc ai aj) := by
  induction m with
  | zero =>
    intro b acc hb he hN hI hm
    have h0 := hI.1
    have z5 : ¬ nI 5 = 0 := by decide
    have a1 := Nat.mod_lt (Y 1 1) hN
    rw [mkF]
    simp only [q147_43, q147_44, q147_45, q147_48, q147_49, q147_50, q147_76, q147_79, q147_80, q147_81, q147_83, q147_84, q147_87, q147_89, q147_90, q147_91, q147_92, q147_93, q147_94, q147_95, q147_96, q147_99, q147_101, q147_102, q147_103, q147_106, q147_107, q147_108, q147_109, q147_110, q147_111, ↓reduceIte, ax_bV_s, ax_bI_s, ax_bJ_s, ax_bA_s, ax_bH_s, ax_bR_s, ax_bR_n, gwq_0, gwq_1, gwq_2, gwq_3, gwq_4, gwq_5, gwqT, gwqS, gwqP, gwqK, gwqZ, gw0_0, gw0_1, gw0_2, gw0_3, gw0_4, gw0_5, gw0T, gw0S, gw0P, gw0K, gw0Z, gw1_0, gw1_1, gw1_2, gw1_3, gw1_4, gw1_5, gw1T, gw1S, gw1P, gw1K, gw1Z, oo_114, gf114_0, gf114_1, gf114_2, gf114_3, gf114_4, gf114_5, pf114_5, gf114_6, gf114_7, gf114_8, gf114_9, oo_119, gf119_0, gf119_1, pf119_1, gf119_2, pf119_2, oo_130, gf130_0, gf130_1, gf130_2, pf130_2, oo_134, gf134_0, gf134_1, pf134_1, gf134_2, pf134_2, gf134_3, pf134_3, gf134_4, gf134_5, pf134_5, gf134_6, gf134_7, gf134_8, gf134_9, pf134_9, gf134_10, gf134_11, gf134_12, gf134_13, gf134_14, gf134_15, gf134_16, gi120, pi120, li120, gi131, pi131, li131, gi132, pi132, li132, gi136, pi136, li136, gi138, pi138, li138, gi139, pi139, li139, gi140, pi140, li140, gi141, pi141, li141, gi142, pi142, li142, gi144, pi144, li144, gi145, pi145, li145, gj133, pj133, lj133, gj137, pj137, lj137, gj143, pj143, lj143, gj146, pj146, lj146, gA121, gAq, oo_s, gfs_0, gfs_1, gfs_2, pfs_0, pfs_1, gjs, ljs, pjs, oo_h, gfh_0, gfh_1, gfh_2, pfh_1, pfh_2, n_le (show Y 0 0 < 2 ^ 31 by omega) (show b < 2 ^ 31 by omega), show Y 0 0 ≤ b by omega, z5, n_ne0 hN (show Y 0 0 < 2 ^ 31 by omega), not_false_eq_true, n_rem (show Y 1 1 < 2 ^ 31 by omega) (show 0 < 5 by decide) (by decide), n_rem (show Y 1 1 < 2 ^ 31 by omega) hN (show Y 0 0 < 2 ^ 31 by omega), pk_mul, nI_l (show 6 * (Y 1 1 % 5) < 2 ^ 31 by omega), nI_l (show Y 1 1 % Y 0 0 < 2 ^ 31 by omega), lN_mul, lN_add]
  | succ m ih =>
    intro b acc hb he hN hI hm
    have h0 := hI.1
    have h5 := (hI.2.2.2.2.2 b (by omega)).1
    have e := ih (b + 1) (acc * 32 + Y 1 (6 + b)) (by omega) he hN hI hm
    rw [q147_43, mkF]
    simp only [q147_44, q147_45, q147_48, q147_49, q147_50, q147_53, q147_56, q147_57, q147_58, q147_59, q147_62, q147_64, q147_65, q147_66, q147_67, q147_68, q147_69, q147_70, q147_73, ↓reduceIte, ax_bV_s, ax_bI_s, ax_bJ_s, ax_bA_s, ax_bH_s, ax_bR_s, ax_bR_n, gwq_0, gwq_1, gwq_2, gwq_3, gwq_4, gwq_5, gwqT, gwqS, gwqP, gwqK, gwqZ, gw0_0, gw0_1, gw0_2, gw0_3, gw0_4, gw0_5, gw0T, gw0S, gw0P, gw0K, gw0Z, gw1_0, gw1_1, gw1_2, gw1_3, gw1_4, gw1_5, gw1T, gw1S, gw1P, gw1K, gw1Z, oo_114, gf114_0, gf114_1, gf114_2, gf114_3, gf114_4, gf114_5, pf114_5, gf114_6, gf114_7, gf114_8, gf114_9, oo_119, gf119_0, gf119_1, pf119_1, gf119_2, pf119_2, oo_130, gf130_0, gf130_1, gf130_2, pf130_2, oo_134, gf134_0, gf134_1, pf134_1, gf134_2, pf134_2, gf134_3, pf134_3, gf134_4, gf134_5, pf134_5, gf134_6, gf134_7, gf134_8, gf134_9, pf134_9, gf134_10, gf134_11, gf134_12, gf134_13, gf134_14, gf134_15, gf134_16, gi120, pi120, li120, gi131, pi131, li131, gi132, pi132, li132, gi136, pi136, li136, gi138, pi138, li138, gi139, pi139, li139, gi140, pi140, li140, gi141, pi141, li141, gi142, pi142, li142, gi144, pi144, li144, gi145, pi145, li145, gj133, pj133, lj133, gj137, pj137, lj137, gj143, pj143, lj143, gj146, pj146, lj146, gA121, gAq, oo_s, gfs_0, gfs_1, gfs_2, pfs_0, pfs_1, gjs, ljs, pjs, oo_h, gfh_0, gfh_1, gfh_2, pfh_1, pfh_2, n_le (show Y 0 0 < 2 ^ 31 by omega) (show b < 2 ^ 31 by omega), show ¬ Y 0 0 ≤ b by omega, nI_add, show b < 6 by omega, nI_l (show Y 1 (6 + b) < 2 ^ 31 by omega), lN_mul, lN_add, Nat.mul_comm 32 acc, e]
/-- standing -/
theorem r147 (he : Y 1 0 = Y 0 0) (hN : 0 < Y 0 0) (hI : Inv (Y 1)) (hm : Y 1 1 < 20000) : ax_res 147 0 [some (.ref 134), none, none, none] [] (hp X Y sc ai aj) = some (some (.long (lN (stnd (Y 1)))), hp X Y sc ai aj) := by
  have h3 := hI.2.2.1
  have s1 := sitv_lt (a := Y 1 2)
  have e := r147_l (X := X) (Y := Y) (sc := sc) (ai := ai) (aj := aj) (Y 0 0) 0 (5 * sitv (Y 1 2) + min (Y 1 3) 4) (by omega) he hN hI hm
  unfold stnd
  rw [he]
  by_cases c : Y 1 3 ≤ 4
  · rw [show min (Y 1 3) 4 = Y 1 3 by omega] at e ⊢
    simp only [q147_0, q147_1, q147_4, q147_6, q147_7, q147_8, q147_9, q147_10, q147_11, q147_14, q147_15, q147_16, q147_17, q147_20, q147_22, q147_23, q147_24, q147_31, q147_32, q147_35, q147_37, q147_38, q147_39, q147_40, q147_41, q147_42, ↓reduceIte, ax_bV_s, ax_bI_s, ax_bJ_s, ax_bA_s, ax_bH_s, ax_bR_s, ax_bR_n, gwq_0, gwq_1, gwq_2, gwq_3, gwq_4, gwq_5, gwqT, gwqS, gwqP, gwqK, gwqZ, gw0_0, gw0_1, gw0_2, gw0_3, gw0_4, gw0_5, gw0T, gw0S, gw0P, gw0K, gw0Z, gw1_0, gw1_1, gw1_2, gw1_3, gw1_4, gw1_5, gw1T, gw1S, gw1P, gw1K, gw1Z, oo_114, gf114_0, gf114_1, gf114_2, gf114_3, gf114_4, gf114_5, pf114_5, gf114_6, gf114_7, gf114_8, gf114_9, oo_119, gf119_0, gf119_1, pf119_1, gf119_2, pf119_2, oo_130, gf130_0, gf130_1, gf130_2, pf130_2, oo_134, gf134_0, gf134_1, pf134_1, gf134_2, pf134_2, gf134_3, pf134_3, gf134_4, gf134_5, pf134_5, gf134_6, gf134_7, gf134_8, gf134_9, pf134_9, gf134_10, gf134_11, gf134_12, gf134_13, gf134_14, gf134_15, gf134_16, gi120, pi120, li120, gi131, pi131, li131, gi132, pi132, li132, gi136, pi136, li136, gi138, pi138, li138, gi139, pi139, li139, gi140, pi140, li140, gi141, pi141, li141, gi142, pi142, li142, gi144, pi144, li144, gi145, pi145, li145, gj133, pj133, lj133, gj137, pj137, lj137, gj143, pj143, lj143, gj146, pj146, lj146, gA121, gAq, oo_s, gfs_0, gfs_1, gfs_2, pfs_0, pfs_1, gjs, ljs, pjs, oo_h, gfh_0, gfh_1, gfh_2, pfh_1, pfh_2, sv_4, nI_l (show sitv (Y 1 2) < 2 ^ 31 by omega), n_le (show Y 1 3 < 2 ^ 31 by omega) (show 4 < 2 ^ 31 by decide), c, nI_l (show Y 1 3 < 2 ^ 31 by omega), lN_mul, lN_add, e]
  · rw [show min (Y 1 3) 4 = 4 by omega] at e ⊢
    simp only [q147_0, q147_1, q147_4, q147_6, q147_7, q147_8, q147_9, q147_10, q147_11, q147_14, q147_15, q147_16, q147_17, q147_20, q147_22, q147_23, q147_24, q147_27, q147_28, q147_38, q147_39, q147_40, q147_41, q147_42, ↓reduceIte, ax_bV_s, ax_bI_s, ax_bJ_s, ax_bA_s, ax_bH_s, ax_bR_s, ax_bR_n, gwq_0, gwq_1, gwq_2, gwq_3, gwq_4, gwq_5, gwqT, gwqS, gwqP, gwqK, gwqZ, gw0_0, gw0_1, gw0_2, gw0_3, gw0_4, gw0_5, gw0T, gw0S, gw0P, gw0K, gw0Z, gw1_0, gw1_1, gw1_2, gw1_3, gw1_4, gw1_5, gw1T, gw1S, gw1P, gw1K, gw1Z, oo_114, gf114_0, gf114_1, gf114_2, gf114_3, gf114_4, gf114_5, pf114_5, gf114_6, gf114_7, gf114_8, gf114_9, oo_119, gf119_0, gf119_1, pf119_1, gf119_2, pf119_2, oo_130, gf130_0, gf130_1, gf130_2, pf130_2, oo_134, gf134_0, gf134_1, pf134_1, gf134_2, pf134_2, gf134_3, pf134_3, gf134_4, gf134_5, pf134_5, gf134_6, gf134_7, gf134_8, gf134_9, pf134_9, gf134_10, gf134_11, gf134_12, gf134_13, gf134_14, gf134_15, gf134_16, gi120, pi120, li120, gi131, pi131, li131, gi132, pi132, li132, gi136, pi136, li136, gi138, pi138, li138, gi139, pi139, li139, gi140, pi140, li140, gi141, pi141, li141, gi142, pi142, li142, gi144, pi144, li144, gi145, pi145, li145, gj133, pj133, lj133, gj137, pj137, lj137, gj143, pj143, lj143, gj146, pj146, lj146, gA121, gAq, oo_s, gfs_0, gfs_1, gfs_2, pfs_0, pfs_1, gjs, ljs, pjs, oo_h, gfh_0, gfh_1, gfh_2, pfh_1, pfh_2, sv_4, nI_l (show sitv (Y 1 2) < 2 ^ 31 by omega), n_le (show Y 1 3 < 2 ^ 31 by omega) (show 4 < 2 ^ 31 by decide), c, nI_l (show 4 < 2 ^ 31 by decide), lN_mul, lN_add, e]
theorem m148_i (m : Nat) : ∀ (e t w : Nat), e + m = t → t ≤ 300 → w ≤ 1 → ax_res 148 49 [some (.ref 134), some (.int (nI w)), some (.int (nI t)), some (.int (nI e))] [] (hp X Y sc ai aj) = match fmF (fun i => decide (aj 143 i = aj 143 t)) m e with
    | some i => some (some (.int (if w = 0 then nI t else nI (t - i))), hp X Y sc ai aj)
    | none => ax_res 148 88 [some (.ref 134), some (.int (nI w)), some (.int (nI t)), some (.int (nI t))] [] (hp X Y sc ai aj) := by
  induction m with
  | zero =>
    intro e t w he ht hw
    have e0 : e = t := by omega
    subst e0
    rw [fmF_0]
    simp only [q148_49, q148_50, q148_51, ↓reduceIte, ax_bV_s, ax_bI_s, ax_bJ_s, ax_bA_s, ax_bH_s, ax_bR_s, ax_bR_n, n_le (show e < 2 ^ 31 by omega) (show e < 2 ^ 31 by omega), Nat.le_refl]
  | succ m ih =>
    intro e t w he ht hw
    have e1 := ih (e + 1) t w (by omega) ht hw
    rw [q148_49, fmF_s]
    by_cases c : aj 143 e = aj 143 t
    · rw [if_pos (decide_eq_true c)]
      rcases (show w = 0 ∨ w = 1 by omega) with rfl | rfl
      · simp only [q148_50, q148_51, q148_54, q148_55, q148_58, q148_59, q148_60, q148_61, q148_64, q148_65, q148_66, q148_67, q148_70, q148_71, q148_74, q148_75, q148_81, ↓reduceIte, ax_bV_s, ax_bI_s, ax_bJ_s, ax_bA_s, ax_bH_s, ax_bR_s, ax_bR_n, oo_114, gf114_0, gf114_1, gf114_2, gf114_3, gf114_4, gf114_5, pf114_5, gf114_6, gf114_7, gf114_8, gf114_9, oo_119, gf119_0, gf119_1, pf119_1, gf119_2, pf119_2, oo_130, gf130_0, gf130_1, gf130_2, pf130_2, oo_134, gf134_0, gf134_1, pf134_1, gf134_2, pf134_2, gf134_3, pf134_3, gf134_4, gf134_5, pf134_5, gf134_6, gf134_7, gf134_8, gf134_9, pf134_9, gf134_10, gf134_11, gf134_12, gf134_13, gf134_14, gf134_15, gf134_16, gi120, pi120, li120, gi131, pi131, li131, gi132, pi132, li132, gi136, pi136, li136, gi138, pi138, li138, gi139, pi139, li139, gi140, pi140, li140, gi141, pi141, li141, gi142, pi142, li142, gi144, pi144, li144, gi145, pi145, li145, gj133, pj133, lj133, gj137, pj137, lj137, gj143, pj143, lj143, gj146, pj146, lj146, gA121, gAq, oo_s, gfs_0, gfs_1, gfs_2, pfs_0, pfs_1, gjs, ljs, pjs, oo_h, gfh_0, gfh_1, gfh_2, pfh_1, pfh_2, n_le (show t < 2 ^ 31 by omega) (show e < 2 ^ 31 by omega), show ¬ t ≤ e by omega, show e < 301 by omega, show t < 301 by omega, lg_cmp_eq, c, n_z0]
      · simp only [q148_50, q148_51, q148_54, q148_55, q148_58, q148_59, q148_60, q148_61, q148_64, q148_65, q148_66, q148_67, q148_70, q148_71, q148_78, q148_79, q148_80, q148_81, ↓reduceIte, ax_bV_s, ax_bI_s, ax_bJ_s, ax_bA_s, ax_bH_s, ax_bR_s, ax_bR_n, oo_114, gf114_0, gf114_1, gf114_2, gf114_3, gf114_4, gf114_5, pf114_5, gf114_6, gf114_7, gf114_8, gf114_9, oo_119, gf119_0, gf119_1, pf119_1, gf119_2, pf119_2, oo_130, gf130_0, gf130_1, gf130_2, pf130_2, oo_134, gf134_0, gf134_1, pf134_1, gf134_2, pf134_2, gf134_3, pf134_3, gf134_4, gf134_5, pf134_5, gf134_6, gf134_7, gf134_8, gf134_9, pf134_9, gf134_10, gf134_11, gf134_12, gf134_13, gf134_14, gf134_15, gf134_16, gi120, pi120, li120, gi131, pi131, li131, gi132, pi132, li132, gi136, pi136, li136, gi138, pi138, li138, gi139, pi139, li139, gi140, pi140, li140, gi141, pi141, li141, gi142, pi142, li142, gi144, pi144, li144, gi145, pi145, li145, gj133, pj133, lj133, gj137, pj137, lj137, gj143, pj143, lj143, gj146, pj146, lj146, gA121, gAq, oo_s, gfs_0, gfs_1, gfs_2, pfs_0, pfs_1, gjs, ljs, pjs, oo_h, gfh_0, gfh_1, gfh_2, pfh_1, pfh_2, n_le (show t < 2 ^ 31 by omega) (show e < 2 ^ 31 by omega), show ¬ t ≤ e by omega, show e < 301 by omega, show t < 301 by omega, lg_cmp_eq, c, n_z1, show ¬ 1 = 0 by decide, n_sub (show e ≤ t by omega)]
    · rw [if_neg (by rw [decide_eq_false c]; decide), ← e1]
      simp only [q148_50, q148_51, q148_54, q148_55, q148_58, q148_59, q148_60, q148_61, q148_64, q148_65, q148_66, q148_67, q148_82, q148_85, ↓reduceIte, ax_bV_s, ax_bI_s, ax_bJ_s, ax_bA_s, ax_bH_s, ax_bR_s, ax_bR_n, oo_114, gf114_0, gf114_1, gf114_2, gf114_3, gf114_4, gf114_5, pf114_5, gf114_6, gf114_7, gf114_8, gf114_9, oo_119, gf119_0, gf119_1, pf119_1, gf119_2, pf119_2, oo_130, gf130_0, gf130_1, gf130_2, pf130_2, oo_134, gf134_0, gf134_1, pf134_1, gf134_2, pf134_2, gf134_3, pf134_3, gf134_4, gf134_5, pf134_5, gf134_6, gf134_7, gf134_8, gf134_9, pf134_9, gf134_10, gf134_11, gf134_12, gf134_13, gf134_14, gf134_15, gf134_16, gi120, pi120, li120, gi131, pi131, li131, gi132, pi132, li132, gi136, pi136, li136, gi138, pi138, li138, gi139, pi139, li139, gi140, pi140, li140, gi141, pi141, li141, gi142, pi142, li142, gi144, pi144, li144, gi145, pi145, li145, gj133, pj133, lj133, gj137, pj137, lj137, gj143, pj143, lj143, gj146, pj146, lj146, gA121, gAq, oo_s, gfs_0, gfs_1, gfs_2, pfs_0, pfs_1, gjs, ljs, pjs, oo_h, gfh_0, gfh_1, gfh_2, pfh_1, pfh_2, n_le (show t < 2 ^ 31 by omega) (show e < 2 ^ 31 by omega), show ¬ t ≤ e by omega, show e < 301 by omega, show t < 301 by omega, lg_cmp_eq, c, nI_add]
theorem m148_l (m : Nat) : ∀ (Y : Nat → Nat → Nat) (aj : Nat → Nat → Int64) (t w : Nat), t + m = 301 → w ≤ 1 → Inv (Y 0) → 0 < Y 0 0 → Y 0 1 ≤ 9999 → Y 1 = pasN t (Y 0) → (∀ k, k < t → aj 143 k = lN (stnd (pasN k (Y 0)))) → ∃ y1 f, ax_res 148 30 [some (.ref 134), some (.int (nI w)), some (.int (nI t)), none] [] (hp X Y sc ai aj) = some (some (.int (rdF (rdP (Y 0)) w m t)), hp X (upX Y 1 y1) sc ai (upJ aj 143 f)) := by
  induction m with
  | zero =>
    intro Y aj t w ht hw hI hN hm hx hk
    refine ⟨Y 1, aj 143, ?_⟩
    have e0 : upJ aj 143 (aj 143) = aj := by funext k; unfold upJ; by_cases h : k = 143 <;> simp [h]
    rw [rdF_0, upX_i, e0]
    simp only [q148_30, q148_31, q148_34, q148_100, q148_102, ↓reduceIte, ax_bV_s, ax_bI_s, ax_bJ_s, ax_bA_s, ax_bH_s, ax_bR_s, ax_bR_n, n_lt (show 300 < 2 ^ 31 by decide) (show t < 2 ^ 31 by omega), show 300 < t by omega]
  | succ m ih =>
    intro Y aj t w ht hw hI hN hm hx hk
    obtain ⟨k1, k2, k3⟩ := inv_pasN t hI
    have h47 := r147 (X := X) (Y := Y) (sc := sc) (ai := ai) (aj := aj) (by rw [hx, k2]) hN (by rw [hx]; exact k1) (by rw [hx, k3]; omega)
    have hi := m148_i (X := X) (Y := Y) (sc := sc) (ai := ai) (aj := upJ aj 143 (vp_updL (aj 143) t (lN (stnd (Y 1))))) t 0 t w (by omega) (by omega) hw
    have ev : vp_updL (aj 143) t (lN (stnd (Y 1))) t = lN (stnd (pasN t (Y 0))) := by unfold vp_updL; rw [if_pos rfl, hx]
    have ef : fmF (fun i => decide (upJ aj 143 (vp_updL (aj 143) t (lN (stnd (Y 1)))) 143 i = upJ aj 143 (vp_updL (aj 143) t (lN (stnd (Y 1)))) 143 t)) t 0 = fmF (fun i => rdP (Y 0) i t) t 0 := by
      refine fmF_c t 0 (fun j hj => ?_)
      have hj2 : vp_updL (aj 143) t (lN (stnd (Y 1))) j = lN (stnd (pasN j (Y 0))) := by unfold vp_updL; rw [if_neg (by omega), hk j (by omega)]
      obtain ⟨q1, q2, q3⟩ := inv_pasN j hI
      have l1 := stnd_lt q1 (by rw [q2]; exact hN)
      have l2 := stnd_lt k1 (by rw [k2]; exact hN)
      rw [upJ_s, hj2, ev]
      unfold rdP
      refine decide_eq_decide.mpr ?_
      rw [l_eq (by omega) (by omega), stnd_K q1 k1 (by rw [k2, q2]) (by rw [q2]; exact hN), mark_K q1 k1 (by rw [k2, q2])]
    rw [ef] at hi
    cases hf : fmF (fun i => rdP (Y 0) i t) t 0 with
    | some i =>
      rw [hf] at hi
      refine ⟨Y 1, vp_updL (aj 143) t (lN (stnd (Y 1))), ?_⟩
      rw [rdF_y hf, q148_30, upX_i]
      simp only [q148_31, q148_34, q148_37, q148_38, q148_41, q148_42, q148_43, q148_46, q148_47, q148_48, ↓reduceIte, ax_bV_s, ax_bI_s, ax_bJ_s, ax_bA_s, ax_bH_s, ax_bR_s, ax_bR_n, oo_114, gf114_0, gf114_1, gf114_2, gf114_3, gf114_4, gf114_5, pf114_5, gf114_6, gf114_7, gf114_8, gf114_9, oo_119, gf119_0, gf119_1, pf119_1, gf119_2, pf119_2, oo_130, gf130_0, gf130_1, gf130_2, pf130_2, oo_134, gf134_0, gf134_1, pf134_1, gf134_2, pf134_2, gf134_3, pf134_3, gf134_4, gf134_5, pf134_5, gf134_6, gf134_7, gf134_8, gf134_9, pf134_9, gf134_10, gf134_11, gf134_12, gf134_13, gf134_14, gf134_15, gf134_16, gi120, pi120, li120, gi131, pi131, li131, gi132, pi132, li132, gi136, pi136, li136, gi138, pi138, li138, gi139, pi139, li139, gi140, pi140, li140, gi141, pi141, li141, gi142, pi142, li142, gi144, pi144, li144, gi145, pi145, li145, gj133, pj133, lj133, gj137, pj137, lj137, gj143, pj143, lj143, gj146, pj146, lj146, gA121, gAq, oo_s, gfs_0, gfs_1, gfs_2, pfs_0, pfs_1, gjs, ljs, pjs, oo_h, gfh_0, gfh_1, gfh_2, pfh_1, pfh_2, n_lt (show 300 < 2 ^ 31 by decide) (show t < 2 ^ 31 by omega), show ¬ 300 < t by omega, h47, show t < 301 by omega, hi]
    | none =>
      rw [hf] at hi
      have h30 := r130_1 (X := X) (Y := Y) (sc := sc) (ai := ai) (aj := upJ aj 143 (vp_updL (aj 143) t (lN (stnd (Y 1))))) (by rw [hx]; exact k1) (by rw [hx, k3]; omega)
      obtain ⟨y1, f, e⟩ := ih (upX Y 1 (pas (Y 1) false)) (upJ aj 143 (vp_updL (aj 143) t (lN (stnd (Y 1))))) (t + 1) w (by omega) hw (by rw [upX_n (by decide)]; exact hI) (by rw [upX_n (by decide)]; exact hN) (by rw [upX_n (by decide)]; exact hm) (by rw [upX_s, upX_n (by decide), hx, pasN_p]) (fun k hk2 => by
        rw [upJ_s, upX_n (by decide)]
        by_cases c : k = t
        · rw [c, ev]
        · unfold vp_updL; rw [if_neg c]; exact hk k (by omega))
      rw [upX_n (show ¬ 0 = 1 by decide), upX_u, upJ_u] at e
      refine ⟨y1, f, ?_⟩
      rw [rdF_n hf, q148_30]
      simp only [q148_31, q148_34, q148_37, q148_38, q148_41, q148_42, q148_43, q148_46, q148_47, q148_48, ↓reduceIte, ax_bV_s, ax_bI_s, ax_bJ_s, ax_bA_s, ax_bH_s, ax_bR_s, ax_bR_n, oo_114, gf114_0, gf114_1, gf114_2, gf114_3, gf114_4, gf114_5, pf114_5, gf114_6, gf114_7, gf114_8, gf114_9, oo_119, gf119_0, gf119_1, pf119_1, gf119_2, pf119_2, oo_130, gf130_0, gf130_1, gf130_2, pf130_2, oo_134, gf134_0, gf134_1, pf134_1, gf134_2, pf134_2, gf134_3, pf134_3, gf134_4, gf134_5, pf134_5, gf134_6, gf134_7, gf134_8, gf134_9, pf134_9, gf134_10, gf134_11, gf134_12, gf134_13, gf134_14, gf134_15, gf134_16, gi120, pi120, li120, gi131, pi131, li131, gi132, pi132, li132, gi136, pi136, li136, gi138, pi138, li138, gi139, pi139, li139, gi140, pi140, li140, gi141, pi141, li141, gi142, pi142, li142, gi144, pi144, li144, gi145, pi145, li145, gj133, pj133, lj133, gj137, pj137, lj137, gj143, pj143, lj143, gj146, pj146, lj146, gA121, gAq, oo_s, gfs_0, gfs_1, gfs_2, pfs_0, pfs_1, gjs, ljs, pjs, oo_h, gfh_0, gfh_1, gfh_2, pfh_1, pfh_2, n_lt (show 300 < 2 ^ 31 by decide) (show t < 2 ^ 31 by omega), show ¬ 300 < t by omega, h47, show t < 301 by omega, hi]
      simp only [q148_88, q148_89, q148_91, q148_94, q148_97, ↓reduceIte, ax_bV_s, ax_bI_s, ax_bJ_s, ax_bA_s, ax_bH_s, ax_bR_s, ax_bR_n, oo_114, gf114_0, gf114_1, gf114_2, gf114_3, gf114_4, gf114_5, pf114_5, gf114_6, gf114_7, gf114_8, gf114_9, oo_119, gf119_0, gf119_1, pf119_1, gf119_2, pf119_2, oo_130, gf130_0, gf130_1, gf130_2, pf130_2, oo_134, gf134_0, gf134_1, pf134_1, gf134_2, pf134_2, gf134_3, pf134_3, gf134_4, gf134_5, pf134_5, gf134_6, gf134_7, gf134_8, gf134_9, pf134_9, gf134_10, gf134_11, gf134_12, gf134_13, gf134_14, gf134_15, gf134_16, gi120, pi120, li120, gi131, pi131, li131, gi132, pi132, li132, gi136, pi136, li136, gi138, pi138, li138, gi139, pi139, li139, gi140, pi140, li140, gi141, pi141, li141, gi142, pi142, li142, gi144, pi144, li144, gi145, pi145, li145, gj133, pj133, lj133, gj137, pj137, lj137, gj143, pj143, lj143, gj146, pj146, lj146, gA121, gAq, oo_s, gfs_0, gfs_1, gfs_2, pfs_0, pfs_1, gjs, ljs, pjs, oo_h, gfh_0, gfh_1, gfh_2, pfh_1, pfh_2, h30, nI_add, e]
theorem m148_bad {w : Int32} (h : isI w 0 1 = false) : ax_res 148 0 [some (.ref 134), some (.int w), none, none] [] (hp X Y sc ai aj) = some (some (.int (-1)), hp X Y sc ai aj) := by
  simp only [q148_0, q148_1, q148_2, q148_3, q148_4, q148_7, q148_10, q148_11, ↓reduceIte, ax_bV_s, ax_bI_s, ax_bJ_s, ax_bA_s, ax_bH_s, ax_bR_s, ax_bR_n, r104I (show 0 < 2 ^ 31 by decide) (show 1 < 2 ^ 31 by decide), h, n_bn0]
theorem m148_none {w : Nat} (hw : w ≤ 1) (h : Y 0 0 = 0) : ax_res 148 0 [some (.ref 134), some (.int (nI w)), none, none] [] (hp X Y sc ai aj) = some (some (.int (-4)), hp X Y sc ai aj) := by
  simp only [q148_0, q148_1, q148_2, q148_3, q148_4, q148_7, q148_12, q148_13, q148_16, q148_17, q148_18, q148_21, q148_23, ↓reduceIte, ax_bV_s, ax_bI_s, ax_bJ_s, ax_bA_s, ax_bH_s, ax_bR_s, ax_bR_n, gwq_0, gwq_1, gwq_2, gwq_3, gwq_4, gwq_5, gwqT, gwqS, gwqP, gwqK, gwqZ, gw0_0, gw0_1, gw0_2, gw0_3, gw0_4, gw0_5, gw0T, gw0S, gw0P, gw0K, gw0Z, gw1_0, gw1_1, gw1_2, gw1_3, gw1_4, gw1_5, gw1T, gw1S, gw1P, gw1K, gw1Z, oo_114, gf114_0, gf114_1, gf114_2, gf114_3, gf114_4, gf114_5, pf114_5, gf114_6, gf114_7, gf114_8, gf114_9, oo_119, gf119_0, gf119_1, pf119_1, gf119_2, pf119_2, oo_130, gf130_0, gf130_1, gf130_2, pf130_2, oo_134, gf134_0, gf134_1, pf134_1, gf134_2, pf134_2, gf134_3, pf134_3, gf134_4, gf134_5, pf134_5, gf134_6, gf134_7, gf134_8, gf134_9, pf134_9, gf134_10, gf134_11, gf134_12, gf134_13, gf134_14, gf134_15, gf134_16, gi120, pi120, li120, gi131, pi131, li131, gi132, pi132, li132, gi136, pi136, li136, gi138, pi138, li138, gi139, pi139, li139, gi140, pi140, li140, gi141, pi141, li141, gi142, pi142, li142, gi144, pi144, li144, gi145, pi145, li145, gj133, pj133, lj133, gj137, pj137, lj137, gj143, pj143, lj143, gj146, pj146, lj146, gA121, gAq, oo_s, gfs_0, gfs_1, gfs_2, pfs_0, pfs_1, gjs, ljs, pjs, oo_h, gfh_0, gfh_1, gfh_2, pfh_1, pfh_2, r104I (show 0 < 2 ^ 31 by decide) (show 1 < 2 ^ 31 by decide), isI_nI (show w < 2 ^ 31 by omega) (Nat.zero_le w) hw, Bool.true_eq_false, n_bn0, h, n_z0]
theorem m148_ok {w : Nat} (hw : w ≤ 1) (hI : Inv (Y 0)) (hN : 0 < Y 0 0) (hm : Y 0 1 ≤ 9999) : ∃ y1 f, ax_res 148 0 [some (.ref 134), some (.int (nI w)), none, none] [] (hp X Y sc ai aj) = some (some (.int (rdF (rdP (Y 0)) w 300 1)), hp X (upX Y 1 y1) sc ai (upJ aj 143 f)) := by
  have h0 := hI.1
  obtain ⟨y1, f, e⟩ := m148_l (X := X) (sc := sc) (ai := ai) 301 (upX Y 1 (Y 0)) aj 0 w (by omega) hw (by rw [upX_n (by decide)]; exact hI) (by rw [upX_n (by decide)]; exact hN) (by rw [upX_n (by decide)]; exact hm) (by rw [upX_s, upX_n (by decide)]; rfl) (fun k hk => by omega)
  rw [upX_n (show ¬ 0 = 1 by decide), upX_u, rdF_n fmF_0] at e
  refine ⟨y1, f, ?_⟩
  simp only [q148_0, q148_1, q148_2, q148_3, q148_4, q148_7, q148_12, q148_13, q148_16, q148_17, q148_18, q148_24, q148_25, q148_28, q148_29, ↓reduceIte, ax_bV_s, ax_bI_s, ax_bJ_s, ax_bA_s, ax_bH_s, ax_bR_s, ax_bR_n, gwq_0, gwq_1, gwq_2, gwq_3, gwq_4, gwq_5, gwqT, gwqS, gwqP, gwqK, gwqZ, gw0_0, gw0_1, gw0_2, gw0_3, gw0_4, gw0_5, gw0T, gw0S, gw0P, gw0K, gw0Z, gw1_0, gw1_1, gw1_2, gw1_3, gw1_4, gw1_5, gw1T, gw1S, gw1P, gw1K, gw1Z, oo_114, gf114_0, gf114_1, gf114_2, gf114_3, gf114_4, gf114_5, pf114_5, gf114_6, gf114_7, gf114_8, gf114_9, oo_119, gf119_0, gf119_1, pf119_1, gf119_2, pf119_2, oo_130, gf130_0, gf130_1, gf130_2, pf130_2, oo_134, gf134_0, gf134_1, pf134_1, gf134_2, pf134_2, gf134_3, pf134_3, gf134_4, gf134_5, pf134_5, gf134_6, gf134_7, gf134_8, gf134_9, pf134_9, gf134_10, gf134_11, gf134_12, gf134_13, gf134_14, gf134_15, gf134_16, gi120, pi120, li120, gi131, pi131, li131, gi132, pi132, li132, gi136, pi136, li136, gi138, pi138, li138, gi139, pi139, li139, gi140, pi140, li140, gi141, pi141, li141, gi142, pi142, li142, gi144, pi144, li144, gi145, pi145, li145, gj133, pj133, lj133, gj137, pj137, lj137, gj143, pj143, lj143, gj146, pj146, lj146, gA121, gAq, oo_s, gfs_0, gfs_1, gfs_2, pfs_0, pfs_1, gjs, ljs, pjs, oo_h, gfh_0, gfh_1, gfh_2, pfh_1, pfh_2, r104I (show 0 < 2 ^ 31 by decide) (show 1 < 2 ^ 31 by decide), isI_nI (show w < 2 ^ 31 by omega) (Nat.zero_le w) hw, Bool.true_eq_false, n_bn0, n_eq0 (show Y 0 0 < 2 ^ 31 by omega), show ¬ Y 0 0 = 0 by omega, r142, e]
end RD
