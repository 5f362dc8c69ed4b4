/-! ===== fair ===== -/
def mxF (z : Nat → Nat) : Nat → Nat → Nat → Nat
  | 0, _, a => a
  | n + 1, i, a => mxF z n (i + 1) (max a (z (12 + i)))
def mnF (z : Nat → Nat) : Nat → Nat → Nat → Nat
  | 0, _, a => a
  | n + 1, i, a => mnF z n (i + 1) (min a (z (12 + i)))
def smF (z : Nat → Nat) : Nat → Nat → Nat
  | 0, _ => 0
  | n + 1, i => z (12 + i) + smF z n (i + 1)
theorem mxF_0 {z : Nat → Nat} {i a : Nat} : mxF z 0 i a = a := by rw [mxF]
theorem mxF_s {z : Nat → Nat} {n i a : Nat} : mxF z (n + 1) i a = mxF z n (i + 1) (max a (z (12 + i))) := by rw [mxF]
theorem mnF_0 {z : Nat → Nat} {i a : Nat} : mnF z 0 i a = a := by rw [mnF]
theorem mnF_s {z : Nat → Nat} {n i a : Nat} : mnF z (n + 1) i a = mnF z n (i + 1) (min a (z (12 + i))) := by rw [mnF]
theorem smF_0 {z : Nat → Nat} {i : Nat} : smF z 0 i = 0 := by rw [smF]
theorem smF_s {z : Nat → Nat} {n i : Nat} : smF z (n + 1) i = z (12 + i) + smF z n (i + 1) := by rw [smF]
theorem sx_mm (n : Nat) : ∀ (z : Nat → Nat) (i a b : Nat), sxF z i n a b = mxF z n i a - mnF z n i b := by
  induction n with
  | zero => intro z i a b; rw [sxF, mxF_0, mnF_0]
  | succ n ih => intro z i a b; rw [sxF, mxF_s, mnF_s, ih]
theorem mxF_ge (n : Nat) : ∀ (z : Nat → Nat) (i a : Nat), a ≤ mxF z n i a ∧ ∀ j, i ≤ j → j < i + n → z (12 + j) ≤ mxF z n i a := by
  induction n with
  | zero => intro z i a; rw [mxF_0]; exact ⟨Nat.le_refl _, fun j h1 h2 => by omega⟩
  | succ n ih =>
    intro z i a
    have h := ih z (i + 1) (max a (z (12 + i)))
    rw [mxF_s]
    refine ⟨by omega, fun j h1 h2 => ?_⟩
    by_cases c : j = i
    · rw [c]; omega
    · exact h.2 j (by omega) (by omega)
theorem mnF_le (n : Nat) : ∀ (z : Nat → Nat) (i a : Nat), mnF z n i a ≤ a ∧ ∀ j, i ≤ j → j < i + n → mnF z n i a ≤ z (12 + j) := by
  induction n with
  | zero => intro z i a; rw [mnF_0]; exact ⟨Nat.le_refl _, fun j h1 h2 => by omega⟩
  | succ n ih =>
    intro z i a
    have h := ih z (i + 1) (min a (z (12 + i)))
    rw [mnF_s]
    refine ⟨by omega, fun j h1 h2 => ?_⟩
    by_cases c : j = i
    · rw [c]; omega
    · exact h.2 j (by omega) (by omega)
theorem mxF_le (n : Nat) : ∀ (z : Nat → Nat) (i a M : Nat), a ≤ M → (∀ j, i ≤ j → j < i + n → z (12 + j) ≤ M) → mxF z n i a ≤ M := by
  induction n with
  | zero => intro z i a M h _; rw [mxF_0]; exact h
  | succ n ih =>
    intro z i a M h hz
    rw [mxF_s]
    have := hz i (by omega) (by omega)
    exact ih z (i + 1) _ M (by omega) (fun j h1 h2 => hz j (by omega) (by omega))
theorem smF_ge (n : Nat) : ∀ (z : Nat → Nat) (i c : Nat), (∀ j, i ≤ j → j < i + n → c ≤ z (12 + j)) → n * c ≤ smF z n i := by
  induction n with
  | zero => intro z i c _; rw [smF_0]; omega
  | succ n ih =>
    intro z i c h
    have h1 := ih z (i + 1) c (fun j a b => h j (by omega) (by omega))
    have h2 := h i (by omega) (by omega)
    rw [smF_s, Nat.succ_mul]; omega
theorem smF_st {f g : Nat → Nat} {s : Nat} (hg : ∀ b, b < 6 → g (12 + b) = if b = s then f (12 + b) + 1 else f (12 + b)) (n : Nat) : ∀ i, i + n ≤ 6 → smF g n i ≤ smF f n i + (if i ≤ s ∧ s < i + n then 1 else 0) := by
  induction n with
  | zero => intro i _; rw [smF_0, smF_0]; omega
  | succ n ih =>
    intro i hi
    have h1 := ih (i + 1) (by omega)
    have h2 := hg i (by omega)
    rw [smF_s, smF_s]
    by_cases c : i = s
    · rw [if_pos c] at h2
      rw [if_neg (by omega)] at h1
      rw [if_pos (by omega)]
      omega
    · rw [if_neg c] at h2
      by_cases c2 : i + 1 ≤ s ∧ s < i + 1 + n
      · rw [if_pos c2] at h1; rw [if_pos (by omega)]; omega
      · rw [if_neg c2] at h1; rw [if_neg (by omega)]; omega
theorem sm_pas {x : Nat → Nat} {m : Bool} {N : Nat} (hN : N ≤ 6) : smF (pas x m) N 0 ≤ smF x N 0 + 1 := by
  obtain ⟨s, hs⟩ := pas_see x m
  have h := smF_st hs N 0 (by omega)
  split at h <;> omega
theorem sm_pasN (n : Nat) : ∀ {x : Nat → Nat} {N : Nat}, N ≤ 6 → smF (pasN n x) N 0 ≤ smF x N 0 + n := by
  induction n with
  | zero => intro x N _; exact Nat.le_refl _
  | succ n ih =>
    intro x N hN
    have h1 := ih (x := pas x false) hN
    have h2 := sm_pas (x := x) (m := false) hN
    rw [show pasN (n + 1) x = pasN n (pas x false) from rfl]; omega
/-- how far apart the most and the least seen are -/
def apt (z : Nat → Nat) : Nat := sxF z 1 (z 0 - 1) (z 12) (z 12)
theorem apt_lo {z : Nat → Nat} {s n v : Nat} (h0 : 0 < z 0) (h6 : z 0 ≤ 6) (hs : s < z 0) (hsum : smF z (z 0) 0 ≤ n) (hv : n / z 0 + v ≤ z (12 + s)) : v ≤ apt z := by
  unfold apt
  rw [sx_mm]
  have hx := mxF_ge (z 0 - 1) z 1 (z 12)
  have hn := mnF_le (z 0 - 1) z 1 (z 12)
  have h1 : z (12 + s) ≤ mxF z (z 0 - 1) 1 (z 12) := by
    by_cases c : s = 0
    · subst c; exact hx.1
    · exact hx.2 s (by omega) (by omega)
  have h2 : z 0 * mnF z (z 0 - 1) 1 (z 12) ≤ smF z (z 0) 0 := smF_ge (z 0) z 0 _ (fun j _ hj => by
    by_cases c : j = 0
    · subst c; exact hn.1
    · exact hn.2 j (by omega) (by omega))
  have h3 : mnF z (z 0 - 1) 1 (z 12) ≤ n / z 0 := by
    rw [Nat.le_div_iff_mul_le h0, Nat.mul_comm]; omega
  omega
theorem apt_hi {z : Nat → Nat} {n : Nat} (h0 : 0 < z 0) (hz : ∀ b, b < z 0 → z (12 + b) ≤ n) : apt z ≤ n := by
  unfold apt
  rw [sx_mm]
  have h := mxF_le (z 0 - 1) z 1 (z 12) n (hz 0 h0) (fun j h1 h2 => hz j (by omega))
  omega
theorem ag_apt {x y : Nat → Nat} (h : Ag x y) (h6 : x 0 ≤ 6) (h0 : 0 < x 0) : apt x = apt y := by
  have e12 : x 12 = y 12 := h.b (c := 12) (b := 0) (by decide) (by decide) h6 h0
  have hs : ∀ (n i a b : Nat), i + n ≤ x 0 → sxF x i n a b = sxF y i n a b := by
    intro n
    induction n with
    | zero => intro i a b _; rw [sxF, sxF]
    | succ n ih => intro i a b hi; rw [sxF, sxF, h.b (c := 12) (by decide) (by decide) h6 (by omega), ih (i + 1) _ _ (by omega)]
  unfold apt
  rw [← h.lo (show 0 < 6 by decide), ← e12]
  exact hs _ _ _ _ (by omega)
def fD (x : Nat → Nat) (n c : Nat) : Nat := apt (pasN n (dlh x c))
theorem fD_le {x : Nat → Nat} {n c : Nat} (hI : Inv x) (hN : 0 < x 0) : fD x n c ≤ n := by
  have h0 := hI.1
  have e0 : pasN n (dlh x c) 0 = x 0 := by rw [(inv_pasN n (inv_dlh hI hN)).2.1, dlh_0]
  refine apt_hi (by rw [e0]; exact hN) (fun b hb => ?_)
  rw [e0] at hb
  exact tS_le (by omega)
theorem fD_cls {x : Nat → Nat} {n c : Nat} (hI : Inv x) (hN : 0 < x 0) : apt (pasN n (dlo (oF (x 0) c) (fgt x))) = fD x n c := by
  have e0 : pasN n (dlo (oF (x 0) c) (fgt x)) 0 = x 0 := by
    rw [(inv_pasN n (inv_cls hI hN)).2.1]; exact (if_neg (by omega) : dlo (oF (x 0) c) (fgt x) 0 = fgt x 0).trans fgt_0
  exact ag_apt (ag_pasN n (ag_cls (c := c) hI) (inv_cls hI hN)) (by rw [e0]; exact hI.1) (by rw [e0]; exact hN)
theorem ag_fD {x y : Nat → Nat} {n c : Nat} (h : Ag x y) (hI : Inv x) (hN : 0 < x 0) : fD x n c = fD y n c := by
  have e0 : pasN n (dlh x c) 0 = x 0 := by rw [(inv_pasN n (inv_dlh hI hN)).2.1, dlh_0]
  exact ag_apt (ag_pasN n (ag_dlh (c := c) h) (inv_dlh hI hN)) (by rw [e0]; exact hI.1) (by rw [e0]; exact hN)
def fsF (D : Nat → Nat) : List Nat → Nat → Nat → Nat × Nat
  | [], le, be => (le, be)
  | c :: L, le, be => if D c < le then fsF D L (D c) c else fsF D L le be
theorem fsF_0 {D : Nat → Nat} {le be : Nat} : fsF D [] le be = (le, be) := by rw [fsF]
theorem fsF_y {D : Nat → Nat} {c : Nat} {L : List Nat} {le be : Nat} (h : D c < le) : fsF D (c :: L) le be = fsF D L (D c) c := by rw [fsF, if_pos h]
theorem fsF_n {D : Nat → Nat} {c : Nat} {L : List Nat} {le be : Nat} (h : ¬ D c < le) : fsF D (c :: L) le be = fsF D L le be := by rw [fsF, if_neg h]
theorem fsF_z {D : Nat → Nat} (L : List Nat) : ∀ be, fsF D L 0 be = (0, be) := by
  induction L with
  | nil => intro be; exact fsF_0
  | cons c L ih => intro be; rw [fsF_n (by omega)]; exact ih be
theorem fsF_le {D : Nat → Nat} (L : List Nat) : ∀ le be, (fsF D L le be).1 ≤ le := by
  induction L with
  | nil => intro le be; rw [fsF_0]; exact Nat.le_refl _
  | cons c L ih =>
    intro le be
    by_cases h : D c < le
    · rw [fsF_y h]; have := ih (D c) c; omega
    · rw [fsF_n h]; exact ih le be
theorem sub_lt_i {a b v : Nat} (ha : a < 2 ^ 30) (hb : b < 2 ^ 30) (hv : v < 2 ^ 30) : (nI a - nI b < nI v) ↔ a < b + v := by
  rw [Int32.lt_iff_toInt_lt, nI_toInt (by omega)]
  have e : (nI a - nI b).toInt = (a : Int) - b := pk_sub_toInt (by omega) (by omega)
  rw [e]; omega
section FA
variable {X Y : Nat → Nat → Nat} {sc : Nat → Nat → Int32} {ai : Nat → Nat → Int32} {aj : Nat → Nat → Int64}
theorem r94_l (m : Nat) : ∀ (X : Nat → Nat → Nat) (t n v : Nat), t + m = n → n ≤ 40 → v ≤ 41 → Inv (X 1) → 0 < X 1 0 → X 1 1 + m < 20000 → smF (X 1) (X 1 0) 0 ≤ t → ∃ x1 rr, ax_res 94 31 [some (.ref 114), some (.int (nI n)), some (.int (nI v)), some (.int (nI (n / X 1 0))), some (.int (nI t))] [] (hp X Y sc ai aj) = some (some (.int (nI rr)), hp (upX X 1 x1) Y sc ai aj) ∧ rr < 20001 ∧ (apt (pasN m (X 1)) < v → rr = apt (pasN m (X 1))) ∧ (v ≤ apt (pasN m (X 1)) → v ≤ rr) := by
  induction m with
  | zero =>
    intro X t n v ht hn hv hI hN hm hsum
    have h30 := r30 (X := X) (Y := Y) (sc := sc) (ai := ai) (aj := aj) j1 hI (by omega) hN
    have hb : apt (X 1) ≤ 20000 := apt_hi hN (fun b hb => by have := (hI.2.2.2.2.2 b hb).2.1; omega)
    refine ⟨X 1, apt (X 1), ?_, by omega, fun _ => rfl, fun h => h⟩
    rw [upX_i]
    simp only [q94_31, q94_33, q94_34, q94_84, q94_85, q94_88, q94_91, ↓reduceIte, ax_bV_s, ax_bI_s, ax_bJ_s, ax_bA_s, ax_bH_s, ax_bR_s, ax_bR_n, gh_people, gh_here, gh_sat, gh_minute, gh_draw, gh_sitter, gh_kinds, gh_prices, gh_known, gh_sights, gh_places, ga_kinds, ga_prices, ga_known, ga_sights, ga_places, oh, oo_114, gf114_0, gf114_1, gf114_2, gf114_3, gf114_4, gf114_5, pf114_5, gf114_6, gf114_7, gf114_8, gf114_9, oo_119, gf119_0, gf119_1, pf119_1, gf119_2, pf119_2, oo_130, gf130_0, gf130_1, gf130_2, pf130_2, oo_134, gf134_0, gf134_1, pf134_1, gf134_2, pf134_2, gf134_3, pf134_3, gf134_4, gf134_5, pf134_5, gf134_6, gf134_7, gf134_8, gf134_9, pf134_9, gf134_10, gf134_11, gf134_12, gf134_13, gf134_14, gf134_15, gf134_16, gi120, pi120, li120, gi131, pi131, li131, gi132, pi132, li132, gi136, pi136, li136, gi138, pi138, li138, gi139, pi139, li139, gi140, pi140, li140, gi141, pi141, li141, gi142, pi142, li142, gi144, pi144, li144, gi145, pi145, li145, gj133, pj133, lj133, gj137, pj137, lj137, gj143, pj143, lj143, gj146, pj146, lj146, gA121, gAq, oo_s, gfs_0, gfs_1, gfs_2, pfs_0, pfs_1, gjs, ljs, pjs, oo_h, gfh_0, gfh_1, gfh_2, pfh_1, pfh_2, j1, n_le (show n < 2 ^ 31 by omega) (show t < 2 ^ 31 by omega), show n ≤ t by omega, h30]
    rfl
  | succ m ih =>
    intro X t n v ht hn hv hI hN hm hsum
    have h0 := hI.1
    obtain ⟨g1, g2, g3⟩ := inv_pas (m := false) hI
    have h26 := r26 (X := X) (Y := Y) (sc := sc) (ai := ai) (aj := aj) (mb := false) j1 hI (by omega)
    have hs1 := sm_pas (x := X 1) (m := false) h0
    have hnd : n / X 1 0 ≤ n := Nat.div_le_self _ _
    have go : (∀ (s : Nat), pas (X 1) false 2 = s → s < 6 → pas (X 1) false (12 + s) < n / X 1 0 + v) → ∃ x1 rr, ax_res 94 31 [some (.ref 114), some (.int (nI n)), some (.int (nI v)), some (.int (nI (n / X 1 0))), some (.int (nI t))] [] (hp X Y sc ai aj) = some (some (.int (nI rr)), hp (upX X 1 x1) Y sc ai aj) ∧ rr < 20001 ∧ (apt (pasN (m + 1) (X 1)) < v → rr = apt (pasN (m + 1) (X 1))) ∧ (v ≤ apt (pasN (m + 1) (X 1)) → v ≤ rr) := by
      intro hgo
      obtain ⟨x1, rr, e, p0, p1, p2⟩ := ih (upX X 1 (pas (X 1) false)) (t + 1) n v (by omega) hn hv (by rw [upX_s]; exact g1) (by rw [upX_s, g2]; exact hN) (by rw [upX_s, g3]; omega) (by rw [upX_s, g2]; omega)
      rw [upX_s] at p1 p2
      rw [upX_u, upX_s, g2] at e
      refine ⟨x1, rr, ?_, p0, p1, p2⟩
      rw [q94_31]
      by_cases c : pas (X 1) false 2 < 6
      · have hlt := hgo _ rfl c
        have hs0 := g1.s6 c
        have hb2 := (g1.2.2.2.2.2 _ hs0).2.1
        have cs : ¬ sv (pas (X 1) false 2) < 0 := by rw [sv_lt]; omega
        simp only [q94_33, q94_34, q94_37, q94_38, q94_41, q94_42, q94_45, q94_46, q94_49, q94_52, q94_55, q94_56, q94_59, q94_62, q94_63, q94_66, q94_69, q94_70, q94_71, q94_72, q94_73, q94_78, q94_81, ↓reduceIte, ax_bV_s, ax_bI_s, ax_bJ_s, ax_bA_s, ax_bH_s, ax_bR_s, ax_bR_n, gh_people, gh_here, gh_sat, gh_minute, gh_draw, gh_sitter, gh_kinds, gh_prices, gh_known, gh_sights, gh_places, ga_kinds, ga_prices, ga_known, ga_sights, ga_places, oh, oo_114, gf114_0, gf114_1, gf114_2, gf114_3, gf114_4, gf114_5, pf114_5, gf114_6, gf114_7, gf114_8, gf114_9, oo_119, gf119_0, gf119_1, pf119_1, gf119_2, pf119_2, oo_130, gf130_0, gf130_1, gf130_2, pf130_2, oo_134, gf134_0, gf134_1, pf134_1, gf134_2, pf134_2, gf134_3, pf134_3, gf134_4, gf134_5, pf134_5, gf134_6, gf134_7, gf134_8, gf134_9, pf134_9, gf134_10, gf134_11, gf134_12, gf134_13, gf134_14, gf134_15, gf134_16, gi120, pi120, li120, gi131, pi131, li131, gi132, pi132, li132, gi136, pi136, li136, gi138, pi138, li138, gi139, pi139, li139, gi140, pi140, li140, gi141, pi141, li141, gi142, pi142, li142, gi144, pi144, li144, gi145, pi145, li145, gj133, pj133, lj133, gj137, pj137, lj137, gj143, pj143, lj143, gj146, pj146, lj146, gA121, gAq, oo_s, gfs_0, gfs_1, gfs_2, pfs_0, pfs_1, gjs, ljs, pjs, oo_h, gfh_0, gfh_1, gfh_2, pfh_1, pfh_2, j1, n_le (show n < 2 ^ 31 by omega) (show t < 2 ^ 31 by omega), show ¬ n ≤ t by omega, show nI 0 = nI (bn false) from rfl, h26, upX_s, sv_of c, n_lt0 (show pas (X 1) false 2 < 2 ^ 31 by omega), c, sub_lt_i (show pas (X 1) false (12 + pas (X 1) false 2) < 2 ^ 30 by omega) (show n / X 1 0 < 2 ^ 30 by omega) (show v < 2 ^ 30 by omega), hlt, nI_add, e]
      · have cs : sv (pas (X 1) false 2) < 0 := by rw [sv_lt]; exact c
        simp only [q94_33, q94_34, q94_37, q94_38, q94_41, q94_42, q94_45, q94_46, q94_49, q94_52, q94_78, q94_81, ↓reduceIte, ax_bV_s, ax_bI_s, ax_bJ_s, ax_bA_s, ax_bH_s, ax_bR_s, ax_bR_n, gh_people, gh_here, gh_sat, gh_minute, gh_draw, gh_sitter, gh_kinds, gh_prices, gh_known, gh_sights, gh_places, ga_kinds, ga_prices, ga_known, ga_sights, ga_places, oh, oo_114, gf114_0, gf114_1, gf114_2, gf114_3, gf114_4, gf114_5, pf114_5, gf114_6, gf114_7, gf114_8, gf114_9, oo_119, gf119_0, gf119_1, pf119_1, gf119_2, pf119_2, oo_130, gf130_0, gf130_1, gf130_2, pf130_2, oo_134, gf134_0, gf134_1, pf134_1, gf134_2, pf134_2, gf134_3, pf134_3, gf134_4, gf134_5, pf134_5, gf134_6, gf134_7, gf134_8, gf134_9, pf134_9, gf134_10, gf134_11, gf134_12, gf134_13, gf134_14, gf134_15, gf134_16, gi120, pi120, li120, gi131, pi131, li131, gi132, pi132, li132, gi136, pi136, li136, gi138, pi138, li138, gi139, pi139, li139, gi140, pi140, li140, gi141, pi141, li141, gi142, pi142, li142, gi144, pi144, li144, gi145, pi145, li145, gj133, pj133, lj133, gj137, pj137, lj137, gj143, pj143, lj143, gj146, pj146, lj146, gA121, gAq, oo_s, gfs_0, gfs_1, gfs_2, pfs_0, pfs_1, gjs, ljs, pjs, oo_h, gfh_0, gfh_1, gfh_2, pfh_1, pfh_2, j1, n_le (show n < 2 ^ 31 by omega) (show t < 2 ^ 31 by omega), show ¬ n ≤ t by omega, show nI 0 = nI (bn false) from rfl, h26, upX_s, cs, nI_add, e]
    by_cases c : pas (X 1) false 2 < 6
    · by_cases c2 : pas (X 1) false (12 + pas (X 1) false 2) < n / X 1 0 + v
      · exact go (fun s hs _ => by rw [← hs]; exact c2)
      · have hs0 := g1.s6 c
        have hb2 := (g1.2.2.2.2.2 _ hs0).2.1
        obtain ⟨k1, k2, k3⟩ := inv_pasN m g1
        have hmono := (pasN_bd m (pas (X 1) false) _ c).1
        have hsum2 := sm_pasN m (x := pas (X 1) false) h0
        have hD : v ≤ apt (pasN (m + 1) (X 1)) := by
          rw [show pasN (m + 1) (X 1) = pasN m (pas (X 1) false) from rfl]
          refine apt_lo (s := pas (X 1) false 2) (n := n) (by rw [k2, g2]; exact hN) (by rw [k2, g2]; exact h0) (by rw [k2]; exact hs0) (by rw [k2, g2]; omega) (by rw [k2, g2]; omega)
        refine ⟨pas (X 1) false, v, ?_, by omega, fun h => by omega, fun _ => Nat.le_refl _⟩
        rw [q94_31]
        simp only [q94_33, q94_34, q94_37, q94_38, q94_41, q94_42, q94_45, q94_46, q94_49, q94_52, q94_55, q94_56, q94_59, q94_62, q94_63, q94_66, q94_69, q94_70, q94_71, q94_72, q94_73, q94_76, q94_77, ↓reduceIte, ax_bV_s, ax_bI_s, ax_bJ_s, ax_bA_s, ax_bH_s, ax_bR_s, ax_bR_n, gh_people, gh_here, gh_sat, gh_minute, gh_draw, gh_sitter, gh_kinds, gh_prices, gh_known, gh_sights, gh_places, ga_kinds, ga_prices, ga_known, ga_sights, ga_places, oh, oo_114, gf114_0, gf114_1, gf114_2, gf114_3, gf114_4, gf114_5, pf114_5, gf114_6, gf114_7, gf114_8, gf114_9, oo_119, gf119_0, gf119_1, pf119_1, gf119_2, pf119_2, oo_130, gf130_0, gf130_1, gf130_2, pf130_2, oo_134, gf134_0, gf134_1, pf134_1, gf134_2, pf134_2, gf134_3, pf134_3, gf134_4, gf134_5, pf134_5, gf134_6, gf134_7, gf134_8, gf134_9, pf134_9, gf134_10, gf134_11, gf134_12, gf134_13, gf134_14, gf134_15, gf134_16, gi120, pi120, li120, gi131, pi131, li131, gi132, pi132, li132, gi136, pi136, li136, gi138, pi138, li138, gi139, pi139, li139, gi140, pi140, li140, gi141, pi141, li141, gi142, pi142, li142, gi144, pi144, li144, gi145, pi145, li145, gj133, pj133, lj133, gj137, pj137, lj137, gj143, pj143, lj143, gj146, pj146, lj146, gA121, gAq, oo_s, gfs_0, gfs_1, gfs_2, pfs_0, pfs_1, gjs, ljs, pjs, oo_h, gfh_0, gfh_1, gfh_2, pfh_1, pfh_2, j1, n_le (show n < 2 ^ 31 by omega) (show t < 2 ^ 31 by omega), show ¬ n ≤ t by omega, show nI 0 = nI (bn false) from rfl, h26, upX_s, sv_of c, n_lt0 (show pas (X 1) false 2 < 2 ^ 31 by omega), c, sub_lt_i (show pas (X 1) false (12 + pas (X 1) false 2) < 2 ^ 30 by omega) (show n / X 1 0 < 2 ^ 30 by omega) (show v < 2 ^ 30 by omega), c2]
    · exact go (fun s hs h6 => by omega)
/-- apartByDeal -/
theorem r94 {c n v : Nat} (hn : n ≤ 40) (hv : v ≤ 41) (hI : Inv (X 0)) (hN : 0 < X 0 0) (hm : X 0 1 ≤ 9999) (ho : ∀ k, k < 6 → ai 131 k = nI (oF (X 0 0) c k)) : ∃ x1 rr, ax_res 94 0 [some (.ref 114), some (.int (nI n)), some (.int (nI v)), none, none] [] (hp X Y sc ai aj) = some (some (.int (nI rr)), hp (upX X 1 x1) Y sc ai aj) ∧ rr < 20001 ∧ (fD (X 0) n c < v → rr = fD (X 0) n c) ∧ (v ≤ fD (X 0) n c → v ≤ rr) := by
  have h0 := hI.1
  have e0 : dlo (oF (X 0 0) c) (fgt (X 0)) 0 = X 0 0 := (if_neg (by omega) : dlo (oF (X 0 0) c) (fgt (X 0)) 0 = fgt (X 0) 0).trans fgt_0
  have e1 : dlo (oF (X 0 0) c) (fgt (X 0)) 1 = X 0 1 := (if_neg (by omega) : dlo (oF (X 0 0) c) (fgt (X 0)) 1 = fgt (X 0) 1).trans fgt_1
  have hz : ∀ N i, i + N ≤ 6 → smF (dlo (oF (X 0 0) c) (fgt (X 0))) N i = 0 := by
    intro N
    induction N with
    | zero => intro i _; exact smF_0
    | succ N ih =>
      intro i hi
      have e2 : dlo (oF (X 0 0) c) (fgt (X 0)) (12 + i) = 0 := (if_neg (by omega) : dlo (oF (X 0 0) c) (fgt (X 0)) (12 + i) = fgt (X 0) (12 + i)).trans (if_pos (by omega))
      rw [smF_s, e2, ih (i + 1) (by omega)]
  obtain ⟨x1, rr, e, p0, p1, p2⟩ := r94_l (Y := Y) (sc := sc) (ai := ai) (aj := aj) n (upX X 1 (dlo (oF (X 0 0) c) (fgt (X 0)))) 0 n v (by omega) hn hv (by rw [upX_s]; exact inv_cls hI hN) (by rw [upX_s, e0]; exact hN) (by rw [upX_s, e1]; omega) (by rw [upX_s, e0, hz _ _ (by omega)]; omega)
  rw [upX_s, fD_cls hI hN] at p1 p2
  rw [upX_s, upX_u, e0] at e
  refine ⟨x1, rr, ?_, p0, p1, p2⟩
  have z1 : ¬ nI (X 0 0) ≤ 0 := by rw [n_le0 (by omega)]; omega
  simp only [q94_0, q94_1, q94_4, q94_5, q94_8, q94_11, q94_14, q94_15, q94_16, q94_19, q94_22, q94_23, q94_27, q94_28, q94_29, ↓reduceIte, ax_bV_s, ax_bI_s, ax_bJ_s, ax_bA_s, ax_bH_s, ax_bR_s, ax_bR_n, gh_people, gh_here, gh_sat, gh_minute, gh_draw, gh_sitter, gh_kinds, gh_prices, gh_known, gh_sights, gh_places, ga_kinds, ga_prices, ga_known, ga_sights, ga_places, oh, oo_114, gf114_0, gf114_1, gf114_2, gf114_3, gf114_4, gf114_5, pf114_5, gf114_6, gf114_7, gf114_8, gf114_9, oo_119, gf119_0, gf119_1, pf119_1, gf119_2, pf119_2, oo_130, gf130_0, gf130_1, gf130_2, pf130_2, oo_134, gf134_0, gf134_1, pf134_1, gf134_2, pf134_2, gf134_3, pf134_3, gf134_4, gf134_5, pf134_5, gf134_6, gf134_7, gf134_8, gf134_9, pf134_9, gf134_10, gf134_11, gf134_12, gf134_13, gf134_14, gf134_15, gf134_16, gi120, pi120, li120, gi131, pi131, li131, gi132, pi132, li132, gi136, pi136, li136, gi138, pi138, li138, gi139, pi139, li139, gi140, pi140, li140, gi141, pi141, li141, gi142, pi142, li142, gi144, pi144, li144, gi145, pi145, li145, gj133, pj133, lj133, gj137, pj137, lj137, gj143, pj143, lj143, gj146, pj146, lj146, gA121, gAq, oo_s, gfs_0, gfs_1, gfs_2, pfs_0, pfs_1, gjs, ljs, pjs, oo_h, gfh_0, gfh_1, gfh_2, pfh_1, pfh_2, j1, r95 ho, upX_s, e0, z1, n_ne0 hN (show X 0 0 < 2 ^ 31 by omega), not_false_eq_true, n_div (show n < 2 ^ 31 by omega) hN (show X 0 0 < 2 ^ 31 by omega), e]
theorem r93_l (L : List Nat) : ∀ (X : Nat → Nat → Nat) (ai : Nat → Nat → Int32) (c f way be n v : Nat), chk (X 0 0) f (c :: L) = true → way + f = 720 → n ≤ 40 → Inv (X 0) → X 0 1 ≤ 9999 → 0 < X 0 0 → sc 130 2 = nI (X 0 0) → (∀ k, k < 6 → ai 131 k = nI (oF (X 0 0) c k)) → v ≤ n + 1 → (v = n + 1 ∨ ∀ k, k < X 0 0 → ai 132 k = nI (dg (X 0 0) be k)) →
    ∃ x1 f1 g1, ax_res 93 20 [some (.ref 114), some (.int (nI n)), some (.int (nI v)), some (.int (nI way)), none] [] (hp X Y sc ai aj) = some (some (.int (nI (fsF (fD (X 0) n) (c :: L) v be).1)), hp (upX X 1 x1) Y sc (upA (upA ai 131 f1) 132 g1) aj) ∧ ∀ k, k < X 0 0 → g1 k = nI (dg (X 0 0) (fsF (fD (X 0) n) (c :: L) v be).2 k) := by
  induction L with
  | nil =>
    intro X ai c f way be n v hc hw hn hI hm hN hs ho hv hmo
    have h0 := hI.1
    have hf := chk_0 hc
    have hS := fD_le (n := n) (c := c) hI hN
    obtain ⟨x1, rr, e, p0, p1, p2⟩ := r94 (X := X) (Y := Y) (sc := sc) (ai := ai) (aj := aj) (v := v) hn (by omega) hI hN hm ho
    have tail_ : ∀ (g : Nat → Int32) (v : Nat) (r : Int32), v ≤ n → ax_res 93 51 [some (.ref 114), some (.int (nI n)), some (.int (nI v)), some (.int (nI way)), some (.int r)] [] (hp (upX X 1 x1) Y sc (upA ai 132 g) aj) = some (some (.int (nI v)), hp (upX X 1 x1) Y sc (upA ai 132 g) aj) := by
      intro g v r hv
      have h3 := r3_none (X := upX X 1 x1) (Y := Y) (sc := sc) (ai := upA ai 132 g) (aj := aj) (show 1 ≤ X 0 0 by omega) h0 hs (o := oF (X 0 0) c) (fun k hk => by rw [upA_n (by decide)]; exact ho k hk) (fun k hk => oF_lt (by omega) h0 hk) (chk_1 hc)
      by_cases ce : v = 0
      · simp only [q93_51, q93_52, q93_74, q93_74b, q93_75, q93_75b, ↓reduceIte, ax_bV_s, ax_bI_s, ax_bJ_s, ax_bA_s, ax_bH_s, ax_bR_s, ax_bR_n, ce, n_z0]
      · simp only [q93_51, q93_52, q93_55, q93_56, q93_59, q93_62, q93_65, q93_74, q93_74b, q93_75, q93_75b, ↓reduceIte, ax_bV_s, ax_bI_s, ax_bJ_s, ax_bA_s, ax_bH_s, ax_bR_s, ax_bR_n, oo_114, gf114_0, gf114_1, gf114_2, gf114_3, gf114_4, gf114_5, pf114_5, gf114_6, gf114_7, gf114_8, gf114_9, oo_119, gf119_0, gf119_1, pf119_1, gf119_2, pf119_2, oo_130, gf130_0, gf130_1, gf130_2, pf130_2, oo_134, gf134_0, gf134_1, pf134_1, gf134_2, pf134_2, gf134_3, pf134_3, gf134_4, gf134_5, pf134_5, gf134_6, gf134_7, gf134_8, gf134_9, pf134_9, gf134_10, gf134_11, gf134_12, gf134_13, gf134_14, gf134_15, gf134_16, gi120, pi120, li120, gi131, pi131, li131, gi132, pi132, li132, gi136, pi136, li136, gi138, pi138, li138, gi139, pi139, li139, gi140, pi140, li140, gi141, pi141, li141, gi142, pi142, li142, gi144, pi144, li144, gi145, pi145, li145, gj133, pj133, lj133, gj137, pj137, lj137, gj143, pj143, lj143, gj146, pj146, lj146, gA121, gAq, oo_s, gfs_0, gfs_1, gfs_2, pfs_0, pfs_1, gjs, ljs, pjs, oo_h, gfh_0, gfh_1, gfh_2, pfh_1, pfh_2, n_eq0 (show v < 2 ^ 31 by omega), ce, h3, n_z0]
    by_cases c1 : fD (X 0) n c < v
    · have er := p1 c1
      subst er
      have et := tail_ (va_cpy (ai 131) (ai 132) 0 0 6) (fD (X 0) n c) (nI (fD (X 0) n c)) hS
      refine ⟨x1, ai 131, va_cpy (ai 131) (ai 132) 0 0 6, ?_, fun k hk => ?_⟩
      · rw [fsF_y c1, fsF_0, upA_i]
        simp only [q93_20, q93_21, q93_24, q93_27, q93_28, q93_29, q93_30, q93_33, q93_35, q93_37, q93_38, q93_41, q93_43, q93_44, q93_45, q93_48, ↓reduceIte, ax_bV_s, ax_bI_s, ax_bJ_s, ax_bA_s, ax_bH_s, ax_bR_s, ax_bR_n, oo_114, gf114_0, gf114_1, gf114_2, gf114_3, gf114_4, gf114_5, pf114_5, gf114_6, gf114_7, gf114_8, gf114_9, oo_119, gf119_0, gf119_1, pf119_1, gf119_2, pf119_2, oo_130, gf130_0, gf130_1, gf130_2, pf130_2, oo_134, gf134_0, gf134_1, pf134_1, gf134_2, pf134_2, gf134_3, pf134_3, gf134_4, gf134_5, pf134_5, gf134_6, gf134_7, gf134_8, gf134_9, pf134_9, gf134_10, gf134_11, gf134_12, gf134_13, gf134_14, gf134_15, gf134_16, gi120, pi120, li120, gi131, pi131, li131, gi132, pi132, li132, gi136, pi136, li136, gi138, pi138, li138, gi139, pi139, li139, gi140, pi140, li140, gi141, pi141, li141, gi142, pi142, li142, gi144, pi144, li144, gi145, pi145, li145, gj133, pj133, lj133, gj137, pj137, lj137, gj143, pj143, lj143, gj146, pj146, lj146, gA121, gAq, oo_s, gfs_0, gfs_1, gfs_2, pfs_0, pfs_1, gjs, ljs, pjs, oo_h, gfh_0, gfh_1, gfh_2, pfh_1, pfh_2, n_le (show 720 < 2 ^ 31 by decide) (show way < 2 ^ 31 by omega), show ¬ 720 ≤ way by omega, e, n_le (show v < 2 ^ 31 by omega) (show fD (X 0) n c < 2 ^ 31 by omega), show ¬ v ≤ fD (X 0) n c by omega, r1, et]
      · rw [fsF_y c1, fsF_0]
        unfold va_cpy
        rw [if_pos (by omega), show 0 + (k - 0) = k by omega, ho k (by omega)]
        unfold oF; rw [if_pos hk]
    · rcases hmo with h9 | hg
      · omega
      · by_cases hvn : v = n + 1
        · omega
        · have hr := p2 (by omega)
          have et := tail_ (ai 132) v (nI rr) (by omega)
          rw [upA_i] at et
          refine ⟨x1, ai 131, ai 132, ?_, fun k hk => by rw [fsF_n c1, fsF_0]; exact hg k hk⟩
          rw [fsF_n c1, fsF_0, upA_i, upA_i]
          simp only [q93_20, q93_21, q93_24, q93_27, q93_28, q93_29, q93_30, q93_33, q93_35, q93_37, q93_38, ↓reduceIte, ax_bV_s, ax_bI_s, ax_bJ_s, ax_bA_s, ax_bH_s, ax_bR_s, ax_bR_n, oo_114, gf114_0, gf114_1, gf114_2, gf114_3, gf114_4, gf114_5, pf114_5, gf114_6, gf114_7, gf114_8, gf114_9, oo_119, gf119_0, gf119_1, pf119_1, gf119_2, pf119_2, oo_130, gf130_0, gf130_1, gf130_2, pf130_2, oo_134, gf134_0, gf134_1, pf134_1, gf134_2, pf134_2, gf134_3, pf134_3, gf134_4, gf134_5, pf134_5, gf134_6, gf134_7, gf134_8, gf134_9, pf134_9, gf134_10, gf134_11, gf134_12, gf134_13, gf134_14, gf134_15, gf134_16, gi120, pi120, li120, gi131, pi131, li131, gi132, pi132, li132, gi136, pi136, li136, gi138, pi138, li138, gi139, pi139, li139, gi140, pi140, li140, gi141, pi141, li141, gi142, pi142, li142, gi144, pi144, li144, gi145, pi145, li145, gj133, pj133, lj133, gj137, pj137, lj137, gj143, pj143, lj143, gj146, pj146, lj146, gA121, gAq, oo_s, gfs_0, gfs_1, gfs_2, pfs_0, pfs_1, gjs, ljs, pjs, oo_h, gfh_0, gfh_1, gfh_2, pfh_1, pfh_2, n_le (show 720 < 2 ^ 31 by decide) (show way < 2 ^ 31 by omega), show ¬ 720 ≤ way by omega, e, n_le (show v < 2 ^ 31 by omega) (show rr < 2 ^ 31 by omega), hr, et]
  | cons c' L ih =>
    intro X ai c f way be n v hc hw hn hI hm hN hs ho hv hmo
    have h0 := hI.1
    obtain ⟨gN, f', rfl, ha, hgN, hc'⟩ := chk_2 hc
    have hf := chk_0 hc'
    have hS := fun c => fD_le (n := n) (c := c) hI hN
    obtain ⟨x1, rr, e, p0, p1, p2⟩ := r94 (X := X) (Y := Y) (sc := sc) (ai := ai) (aj := aj) (v := v) hn (by omega) hI hN hm ho
    have tail_ : ∀ (g : Nat → Int32) (v be' : Nat) (r : Int32), v ≤ n → (∀ k, k < X 0 0 → g k = nI (dg (X 0 0) be' k)) → ∃ x2 f2 g2, ax_res 93 51 [some (.ref 114), some (.int (nI n)), some (.int (nI v)), some (.int (nI way)), some (.int r)] [] (hp (upX X 1 x1) Y sc (upA ai 132 g) aj) = some (some (.int (nI (fsF (fD (X 0) n) (c' :: L) v be').1)), hp (upX X 1 x2) Y sc (upA (upA ai 131 f2) 132 g2) aj) ∧ ∀ k, k < X 0 0 → g2 k = nI (dg (X 0 0) (fsF (fD (X 0) n) (c' :: L) v be').2 k) := by
      intro g v be' r hv hg
      by_cases ce : v = 0
      · refine ⟨x1, ai 131, g, ?_, fun k hk => by rw [ce, fsF_z]; exact hg k hk⟩
        rw [ce, fsF_z, upA_i]
        simp only [q93_51, q93_52, q93_74, q93_74b, q93_75, q93_75b, ↓reduceIte, ax_bV_s, ax_bI_s, ax_bJ_s, ax_bA_s, ax_bH_s, ax_bR_s, ax_bR_n, n_z0]
      · obtain ⟨f3, e3, hf3⟩ := r3_some (X := upX X 1 x1) (Y := Y) (sc := sc) (ai := upA ai 132 g) (aj := aj) (show 1 ≤ X 0 0 by omega) h0 hs (o := oF (X 0 0) c) (fun k hk => by rw [upA_n (by decide)]; exact ho k hk) (fun k hk => oF_lt (by omega) h0 hk) ha
        obtain ⟨x2, f2, g2, e2, h2⟩ := ih (upX X 1 x1) (upA (upA ai 132 g) 131 f3) c' f' (way + 1) be' n v (by rw [upX_n (by decide)]; exact hc') (by omega) hn (by rw [upX_n (by decide)]; exact hI) (by rw [upX_n (by decide)]; exact hm) (by rw [upX_n (by decide)]; exact hN) (by rw [upX_n (by decide)]; exact hs) (fun k hk => by rw [upX_n (by decide), upA_s, hf3 k hk, hgN k hk]) (by omega) (Or.inr (fun k hk => by rw [upX_n (by decide)] at hk ⊢; rw [upA_n (by decide), upA_s]; exact hg k hk))
        rw [upX_n (show ¬ 0 = 1 by decide)] at e2 h2
        rw [upX_u, upA_u, upA_c (ai := ai) (f := g) (g := f2) (show ¬ 132 = 131 by decide), upA_u] at e2
        refine ⟨x2, f2, g2, ?_, h2⟩
        simp only [q93_51, q93_52, q93_55, q93_56, q93_59, q93_62, q93_68, q93_71, ↓reduceIte, ax_bV_s, ax_bI_s, ax_bJ_s, ax_bA_s, ax_bH_s, ax_bR_s, ax_bR_n, oo_114, gf114_0, gf114_1, gf114_2, gf114_3, gf114_4, gf114_5, pf114_5, gf114_6, gf114_7, gf114_8, gf114_9, oo_119, gf119_0, gf119_1, pf119_1, gf119_2, pf119_2, oo_130, gf130_0, gf130_1, gf130_2, pf130_2, oo_134, gf134_0, gf134_1, pf134_1, gf134_2, pf134_2, gf134_3, pf134_3, gf134_4, gf134_5, pf134_5, gf134_6, gf134_7, gf134_8, gf134_9, pf134_9, gf134_10, gf134_11, gf134_12, gf134_13, gf134_14, gf134_15, gf134_16, gi120, pi120, li120, gi131, pi131, li131, gi132, pi132, li132, gi136, pi136, li136, gi138, pi138, li138, gi139, pi139, li139, gi140, pi140, li140, gi141, pi141, li141, gi142, pi142, li142, gi144, pi144, li144, gi145, pi145, li145, gj133, pj133, lj133, gj137, pj137, lj137, gj143, pj143, lj143, gj146, pj146, lj146, gA121, gAq, oo_s, gfs_0, gfs_1, gfs_2, pfs_0, pfs_1, gjs, ljs, pjs, oo_h, gfh_0, gfh_1, gfh_2, pfh_1, pfh_2, n_eq0 (show v < 2 ^ 31 by omega), ce, e3, n_z1, nI_add, e2]
    by_cases c1 : fD (X 0) n c < v
    · have er := p1 c1
      subst er
      obtain ⟨x2, f2, g2, et, h2⟩ := tail_ (va_cpy (ai 131) (ai 132) 0 0 6) (fD (X 0) n c) c (nI (fD (X 0) n c)) (hS c) (fun k hk => by
        unfold va_cpy
        rw [if_pos (by omega), show 0 + (k - 0) = k by omega, ho k (by omega)]
        unfold oF; rw [if_pos hk])
      refine ⟨x2, f2, g2, ?_, fun k hk => by rw [fsF_y c1]; exact h2 k hk⟩
      rw [fsF_y c1]
      simp only [q93_20, q93_21, q93_24, q93_27, q93_28, q93_29, q93_30, q93_33, q93_35, q93_37, q93_38, q93_41, q93_43, q93_44, q93_45, q93_48, ↓reduceIte, ax_bV_s, ax_bI_s, ax_bJ_s, ax_bA_s, ax_bH_s, ax_bR_s, ax_bR_n, oo_114, gf114_0, gf114_1, gf114_2, gf114_3, gf114_4, gf114_5, pf114_5, gf114_6, gf114_7, gf114_8, gf114_9, oo_119, gf119_0, gf119_1, pf119_1, gf119_2, pf119_2, oo_130, gf130_0, gf130_1, gf130_2, pf130_2, oo_134, gf134_0, gf134_1, pf134_1, gf134_2, pf134_2, gf134_3, pf134_3, gf134_4, gf134_5, pf134_5, gf134_6, gf134_7, gf134_8, gf134_9, pf134_9, gf134_10, gf134_11, gf134_12, gf134_13, gf134_14, gf134_15, gf134_16, gi120, pi120, li120, gi131, pi131, li131, gi132, pi132, li132, gi136, pi136, li136, gi138, pi138, li138, gi139, pi139, li139, gi140, pi140, li140, gi141, pi141, li141, gi142, pi142, li142, gi144, pi144, li144, gi145, pi145, li145, gj133, pj133, lj133, gj137, pj137, lj137, gj143, pj143, lj143, gj146, pj146, lj146, gA121, gAq, oo_s, gfs_0, gfs_1, gfs_2, pfs_0, pfs_1, gjs, ljs, pjs, oo_h, gfh_0, gfh_1, gfh_2, pfh_1, pfh_2, n_le (show 720 < 2 ^ 31 by decide) (show way < 2 ^ 31 by omega), show ¬ 720 ≤ way by omega, e, n_le (show v < 2 ^ 31 by omega) (show fD (X 0) n c < 2 ^ 31 by omega), show ¬ v ≤ fD (X 0) n c by omega, r1, et]
    · have hSc := hS c
      rcases hmo with h9 | hg
      · omega
      · by_cases hvn : v = n + 1
        · omega
        · have hr := p2 (by omega)
          obtain ⟨x2, f2, g2, et, h2⟩ := tail_ (ai 132) v be (nI rr) (by omega) hg
          rw [upA_i] at et
          refine ⟨x2, f2, g2, ?_, fun k hk => by rw [fsF_n c1]; exact h2 k hk⟩
          rw [fsF_n c1]
          simp only [q93_20, q93_21, q93_24, q93_27, q93_28, q93_29, q93_30, q93_33, q93_35, q93_37, q93_38, ↓reduceIte, ax_bV_s, ax_bI_s, ax_bJ_s, ax_bA_s, ax_bH_s, ax_bR_s, ax_bR_n, oo_114, gf114_0, gf114_1, gf114_2, gf114_3, gf114_4, gf114_5, pf114_5, gf114_6, gf114_7, gf114_8, gf114_9, oo_119, gf119_0, gf119_1, pf119_1, gf119_2, pf119_2, oo_130, gf130_0, gf130_1, gf130_2, pf130_2, oo_134, gf134_0, gf134_1, pf134_1, gf134_2, pf134_2, gf134_3, pf134_3, gf134_4, gf134_5, pf134_5, gf134_6, gf134_7, gf134_8, gf134_9, pf134_9, gf134_10, gf134_11, gf134_12, gf134_13, gf134_14, gf134_15, gf134_16, gi120, pi120, li120, gi131, pi131, li131, gi132, pi132, li132, gi136, pi136, li136, gi138, pi138, li138, gi139, pi139, li139, gi140, pi140, li140, gi141, pi141, li141, gi142, pi142, li142, gi144, pi144, li144, gi145, pi145, li145, gj133, pj133, lj133, gj137, pj137, lj137, gj143, pj143, lj143, gj146, pj146, lj146, gA121, gAq, oo_s, gfs_0, gfs_1, gfs_2, pfs_0, pfs_1, gjs, ljs, pjs, oo_h, gfh_0, gfh_1, gfh_2, pfh_1, pfh_2, n_le (show 720 < 2 ^ 31 by decide) (show way < 2 ^ 31 by omega), show ¬ 720 ≤ way by omega, e, n_le (show v < 2 ^ 31 by omega) (show rr < 2 ^ 31 by omega), hr, et]
/-- findLeastApart -/
theorem r93 {n : Nat} (hn : n ≤ 40) (hI : Inv (X 0)) (hm : X 0 1 ≤ 9999) (hN : 0 < X 0 0) : ∃ x1 f1 g1, ax_res 93 0 [some (.ref 114), some (.int (nI n)), none, none, none] [] (hp X Y sc ai aj) = some (some (.int (nI (fsF (fD (X 0) n) (pl (X 0 0) (X 0 0 ^ X 0 0) 0) (n + 1) 0).1)), hp (upX X 1 x1) Y (upS sc 130 2 (nI (X 0 0))) (upA (upA ai 131 f1) 132 g1) aj) ∧ ∀ k, k < X 0 0 → g1 k = nI (dg (X 0 0) (fsF (fD (X 0) n) (pl (X 0 0) (X 0 0 ^ X 0 0) 0) (n + 1) 0).2 k) := by
  have h0 := hI.1
  obtain ⟨c, L, hL, hc, hid⟩ := chk_N (show 1 ≤ X 0 0 by omega) h0
  obtain ⟨f, e, hf⟩ := r0 (X := X) (Y := Y) (sc := sc) (ai := ai) (aj := aj) h0
  obtain ⟨x1, f1, g1, e1, h1⟩ := r93_l (Y := Y) (sc := upS sc 130 2 (nI (X 0 0))) (aj := aj) L X (upA ai 131 f) c 720 0 0 n (n + 1) hc (by omega) hn hI hm hN (by rw [upS_s]) (fun k hk => by rw [upA_s, hf k hk, hid k hk]) (Nat.le_refl _) (Or.inl rfl)
  rw [← hL] at e1 h1
  rw [upA_u] at e1
  refine ⟨x1, f1, g1, ?_, h1⟩
  simp only [q93_0, q93_1, q93_2, q93_3, q93_4, q93_5, q93_8, q93_9, q93_12, q93_15, q93_18, q93_19, ↓reduceIte, ax_bV_s, ax_bI_s, ax_bJ_s, ax_bA_s, ax_bH_s, ax_bR_s, ax_bR_n, gh_people, gh_here, gh_sat, gh_minute, gh_draw, gh_sitter, gh_kinds, gh_prices, gh_known, gh_sights, gh_places, ga_kinds, ga_prices, ga_known, ga_sights, ga_places, oh, oo_114, gf114_0, gf114_1, gf114_2, gf114_3, gf114_4, gf114_5, pf114_5, gf114_6, gf114_7, gf114_8, gf114_9, oo_119, gf119_0, gf119_1, pf119_1, gf119_2, pf119_2, oo_130, gf130_0, gf130_1, gf130_2, pf130_2, oo_134, gf134_0, gf134_1, pf134_1, gf134_2, pf134_2, gf134_3, pf134_3, gf134_4, gf134_5, pf134_5, gf134_6, gf134_7, gf134_8, gf134_9, pf134_9, gf134_10, gf134_11, gf134_12, gf134_13, gf134_14, gf134_15, gf134_16, gi120, pi120, li120, gi131, pi131, li131, gi132, pi132, li132, gi136, pi136, li136, gi138, pi138, li138, gi139, pi139, li139, gi140, pi140, li140, gi141, pi141, li141, gi142, pi142, li142, gi144, pi144, li144, gi145, pi145, li145, gj133, pj133, lj133, gj137, pj137, lj137, gj143, pj143, lj143, gj146, pj146, lj146, gA121, gAq, oo_s, gfs_0, gfs_1, gfs_2, pfs_0, pfs_1, gjs, ljs, pjs, oo_h, gfh_0, gfh_1, gfh_2, pfh_1, pfh_2, j0, nI_add, e, e1]
def frA (x : Nat → Nat) (n : Nat) (k : Option Nat) : Int32 := match k with
  | none => nI (fsF (fD x n) (pl (x 0) (x 0 ^ x 0) 0) (n + 1) 0).1
  | some j => if j < x 0 then nI (dg (x 0) (fsF (fD x n) (pl (x 0) (x 0 ^ x 0) 0) (n + 1) 0).2 j) else -4
theorem s68_bad {n k : Int32} (h : (isI n 1 40 && decide (-1 ≤ k)) = false) : ax_res 68 0 [some (.ref 114), some (.int n), some (.int k), none] [] (hp X Y sc ai aj) = some (some (.int (-1)), hp X Y sc ai aj) := by
  simp only [q68_0, q68_1, q68_2, q68_4, q68_7, q68_10, q68_11, q68_12, q68_15, q68_16, ↓reduceIte, ax_bV_s, ax_bI_s, ax_bJ_s, ax_bA_s, ax_bH_s, ax_bR_s, ax_bR_n, r84I (show 1 < 2 ^ 31 by decide) (show 40 < 2 ^ 31 by decide), n_bn0]
  revert h
  cases isI n 1 40 <;> by_cases h3 : -1 ≤ k <;> simp [h3]
theorem s68_none {n : Nat} {k : Int32} (hn1 : 1 ≤ n) (hn : n ≤ 40) (hk : -1 ≤ k) (h : X 0 0 = 0) : ax_res 68 0 [some (.ref 114), some (.int (nI n)), some (.int k), none] [] (hp X Y sc ai aj) = some (some (.int (-4)), hp X Y sc ai aj) := by
  simp only [q68_0, q68_1, q68_2, q68_4, q68_7, q68_10, q68_11, q68_12, q68_17, q68_18, q68_21, q68_24, q68_27, q68_29, ↓reduceIte, ax_bV_s, ax_bI_s, ax_bJ_s, ax_bA_s, ax_bH_s, ax_bR_s, ax_bR_n, gh_people, gh_here, gh_sat, gh_minute, gh_draw, gh_sitter, gh_kinds, gh_prices, gh_known, gh_sights, gh_places, ga_kinds, ga_prices, ga_known, ga_sights, ga_places, oh, oo_114, gf114_0, gf114_1, gf114_2, gf114_3, gf114_4, gf114_5, pf114_5, gf114_6, gf114_7, gf114_8, gf114_9, oo_119, gf119_0, gf119_1, pf119_1, gf119_2, pf119_2, oo_130, gf130_0, gf130_1, gf130_2, pf130_2, oo_134, gf134_0, gf134_1, pf134_1, gf134_2, pf134_2, gf134_3, pf134_3, gf134_4, gf134_5, pf134_5, gf134_6, gf134_7, gf134_8, gf134_9, pf134_9, gf134_10, gf134_11, gf134_12, gf134_13, gf134_14, gf134_15, gf134_16, gi120, pi120, li120, gi131, pi131, li131, gi132, pi132, li132, gi136, pi136, li136, gi138, pi138, li138, gi139, pi139, li139, gi140, pi140, li140, gi141, pi141, li141, gi142, pi142, li142, gi144, pi144, li144, gi145, pi145, li145, gj133, pj133, lj133, gj137, pj137, lj137, gj143, pj143, lj143, gj146, pj146, lj146, gA121, gAq, oo_s, gfs_0, gfs_1, gfs_2, pfs_0, pfs_1, gjs, ljs, pjs, oo_h, gfh_0, gfh_1, gfh_2, pfh_1, pfh_2, j0, r84I (show 1 < 2 ^ 31 by decide) (show 40 < 2 ^ 31 by decide), isI_nI (show n < 2 ^ 31 by omega) hn1 hn, n_bn0, Bool.not_true, hk, h, n_z0]
theorem s68_ok {n : Nat} (k : Option Nat) {kk : Int32} (hk : (k = none ∧ kk = -1) ∨ ∃ j, j < 2 ^ 31 ∧ k = some j ∧ kk = nI j) (hI : Inv (X 0)) (hm : X 0 1 ≤ 9999) (hN : 0 < X 0 0) (hn1 : 1 ≤ n) (hn : n ≤ 40) : ∃ x1 f1 g1, ax_res 68 0 [some (.ref 114), some (.int (nI n)), some (.int kk), none] [] (hp X Y sc ai aj) = some (some (.int (frA (X 0) n k)), hp (upX X 1 x1) Y (upS sc 130 2 (nI (X 0 0))) (upA (upA ai 131 f1) 132 g1) aj) := by
  have h0 := hI.1
  obtain ⟨x1, f1, g1, e, hg⟩ := r93 (X := X) (Y := Y) (sc := sc) (ai := ai) (aj := aj) hn hI hm hN
  refine ⟨x1, f1, g1, ?_⟩
  rcases hk with ⟨rfl, rfl⟩ | ⟨j, hj, rfl, rfl⟩
  · simp only [q68_0, q68_1, q68_2, q68_4, q68_7, q68_10, q68_11, q68_12, q68_17, q68_18, q68_21, q68_24, q68_30, q68_31, q68_32, q68_35, q68_36, q68_37, q68_38, q68_41, q68_42, q68_53, ↓reduceIte, ax_bV_s, ax_bI_s, ax_bJ_s, ax_bA_s, ax_bH_s, ax_bR_s, ax_bR_n, gh_people, gh_here, gh_sat, gh_minute, gh_draw, gh_sitter, gh_kinds, gh_prices, gh_known, gh_sights, gh_places, ga_kinds, ga_prices, ga_known, ga_sights, ga_places, oh, oo_114, gf114_0, gf114_1, gf114_2, gf114_3, gf114_4, gf114_5, pf114_5, gf114_6, gf114_7, gf114_8, gf114_9, oo_119, gf119_0, gf119_1, pf119_1, gf119_2, pf119_2, oo_130, gf130_0, gf130_1, gf130_2, pf130_2, oo_134, gf134_0, gf134_1, pf134_1, gf134_2, pf134_2, gf134_3, pf134_3, gf134_4, gf134_5, pf134_5, gf134_6, gf134_7, gf134_8, gf134_9, pf134_9, gf134_10, gf134_11, gf134_12, gf134_13, gf134_14, gf134_15, gf134_16, gi120, pi120, li120, gi131, pi131, li131, gi132, pi132, li132, gi136, pi136, li136, gi138, pi138, li138, gi139, pi139, li139, gi140, pi140, li140, gi141, pi141, li141, gi142, pi142, li142, gi144, pi144, li144, gi145, pi145, li145, gj133, pj133, lj133, gj137, pj137, lj137, gj143, pj143, lj143, gj146, pj146, lj146, gA121, gAq, oo_s, gfs_0, gfs_1, gfs_2, pfs_0, pfs_1, gjs, ljs, pjs, oo_h, gfh_0, gfh_1, gfh_2, pfh_1, pfh_2, j0, r84I (show 1 < 2 ^ 31 by decide) (show 40 < 2 ^ 31 by decide), isI_nI (show n < 2 ^ 31 by omega) hn1 hn, n_bn0, Bool.not_true, Int32.le_refl, n_eq0 (show X 0 0 < 2 ^ 31 by omega), show ¬ X 0 0 = 0 by omega, e, frA]
  · have hle : -1 ≤ nI j := Int32.le_of_lt (Int32.not_le.mp (nI_n1 hj))
    have h2 := r2 (X := upX X 1 x1) (Y := Y) (sc := upS sc 130 2 (nI (X 0 0))) (ai := upA (upA ai 131 f1) 132 g1) (aj := aj) h0 hj (by rw [upS_s])
    rw [upA_s] at h2
    simp only [q68_0, q68_1, q68_2, q68_4, q68_7, q68_10, q68_11, q68_12, q68_17, q68_18, q68_21, q68_24, q68_30, q68_31, q68_32, q68_35, q68_36, q68_37, q68_38, q68_45, q68_46, q68_49, q68_50, q68_53, ↓reduceIte, ax_bV_s, ax_bI_s, ax_bJ_s, ax_bA_s, ax_bH_s, ax_bR_s, ax_bR_n, gh_people, gh_here, gh_sat, gh_minute, gh_draw, gh_sitter, gh_kinds, gh_prices, gh_known, gh_sights, gh_places, ga_kinds, ga_prices, ga_known, ga_sights, ga_places, oh, oo_114, gf114_0, gf114_1, gf114_2, gf114_3, gf114_4, gf114_5, pf114_5, gf114_6, gf114_7, gf114_8, gf114_9, oo_119, gf119_0, gf119_1, pf119_1, gf119_2, pf119_2, oo_130, gf130_0, gf130_1, gf130_2, pf130_2, oo_134, gf134_0, gf134_1, pf134_1, gf134_2, pf134_2, gf134_3, pf134_3, gf134_4, gf134_5, pf134_5, gf134_6, gf134_7, gf134_8, gf134_9, pf134_9, gf134_10, gf134_11, gf134_12, gf134_13, gf134_14, gf134_15, gf134_16, gi120, pi120, li120, gi131, pi131, li131, gi132, pi132, li132, gi136, pi136, li136, gi138, pi138, li138, gi139, pi139, li139, gi140, pi140, li140, gi141, pi141, li141, gi142, pi142, li142, gi144, pi144, li144, gi145, pi145, li145, gj133, pj133, lj133, gj137, pj137, lj137, gj143, pj143, lj143, gj146, pj146, lj146, gA121, gAq, oo_s, gfs_0, gfs_1, gfs_2, pfs_0, pfs_1, gjs, ljs, pjs, oo_h, gfh_0, gfh_1, gfh_2, pfh_1, pfh_2, j0, r84I (show 1 < 2 ^ 31 by decide) (show 40 < 2 ^ 31 by decide), isI_nI (show n < 2 ^ 31 by omega) hn1 hn, n_bn0, Bool.not_true, hle, n_eq0 (show X 0 0 < 2 ^ 31 by omega), show ¬ X 0 0 = 0 by omega, e, ne_n1 hj, h2, frA]
    by_cases c : j < X 0 0
    · rw [if_pos c, if_pos c, hg j c]
    · rw [if_neg c, if_neg c]
-- the model's
theorem m156_i (m : Nat) : ∀ (Y : Nat → Nat → Nat) (z : Nat → Nat) (b mx mn : Nat) (n k le code : Int32), b + m = Y 0 0 → Y 0 0 ≤ 6 → mx < 2 ^ 30 → mn < 2 ^ 30 → (∀ j, j < Y 0 0 → z (12 + j) < 2 ^ 30 ∧ Y 1 (12 + j) = z (12 + j) + Y 0 (12 + j)) → ax_res 156 70 [some (.ref 134), some (.int n), some (.int k), some (.int le), some (.int code), some (.int (nI mx)), some (.int (nI mn)), some (.int (nI b))] [] (hp X Y sc ai aj) = ax_res 156 135 [some (.ref 134), some (.int n), some (.int k), some (.int le), some (.int code), some (.int (nI (mxF z m b mx))), some (.int (nI (mnF z m b mn))), some (.int (nI (Y 0 0)))] [] (hp X Y sc ai aj) := by
  induction m with
  | zero =>
    intro Y z b mx mn n k le code hb h6 hx hn hz
    have e : b = Y 0 0 := by omega
    rw [mxF_0, mnF_0]
    simp only [q156_70, q156_72, q156_73, q156_76, q156_77, q156_78, ↓reduceIte, ax_bV_s, ax_bI_s, ax_bJ_s, ax_bA_s, ax_bH_s, ax_bR_s, ax_bR_n, gwq_0, gwq_1, gwq_2, gwq_3, gwq_4, gwq_5, gwqT, gwqS, gwqP, gwqK, gwqZ, gw0_0, gw0_1, gw0_2, gw0_3, gw0_4, gw0_5, gw0T, gw0S, gw0P, gw0K, gw0Z, gw1_0, gw1_1, gw1_2, gw1_3, gw1_4, gw1_5, gw1T, gw1S, gw1P, gw1K, gw1Z, oo_114, gf114_0, gf114_1, gf114_2, gf114_3, gf114_4, gf114_5, pf114_5, gf114_6, gf114_7, gf114_8, gf114_9, oo_119, gf119_0, gf119_1, pf119_1, gf119_2, pf119_2, oo_130, gf130_0, gf130_1, gf130_2, pf130_2, oo_134, gf134_0, gf134_1, pf134_1, gf134_2, pf134_2, gf134_3, pf134_3, gf134_4, gf134_5, pf134_5, gf134_6, gf134_7, gf134_8, gf134_9, pf134_9, gf134_10, gf134_11, gf134_12, gf134_13, gf134_14, gf134_15, gf134_16, gi120, pi120, li120, gi131, pi131, li131, gi132, pi132, li132, gi136, pi136, li136, gi138, pi138, li138, gi139, pi139, li139, gi140, pi140, li140, gi141, pi141, li141, gi142, pi142, li142, gi144, pi144, li144, gi145, pi145, li145, gj133, pj133, lj133, gj137, pj137, lj137, gj143, pj143, lj143, gj146, pj146, lj146, gA121, gAq, oo_s, gfs_0, gfs_1, gfs_2, pfs_0, pfs_1, gjs, ljs, pjs, oo_h, gfh_0, gfh_1, gfh_2, pfh_1, pfh_2, n_le (show Y 0 0 < 2 ^ 31 by omega) (show b < 2 ^ 31 by omega), show Y 0 0 ≤ b by omega]
    rw [e]
  | succ m ih =>
    intro Y z b mx mn n k le code hb h6 hx hn hz
    have hzb := hz b (by omega)
    have h54 := r154 (X := X) (Y := Y) (sc := sc) (ai := ai) (aj := aj) (b := b) (by omega) hzb.2
    have e := ih Y z (b + 1) (max mx (z (12 + b))) (min mn (z (12 + b))) n k le code (by omega) h6 (by omega) (by omega) hz
    rw [q156_70, mxF_s, mnF_s, ← e]
    by_cases c1 : z (12 + b) ≤ mx
    · rw [show max mx (z (12 + b)) = mx by omega]
      by_cases c2 : mn ≤ z (12 + b)
      · rw [show min mn (z (12 + b)) = mn by omega]
        simp only [q156_72, q156_73, q156_76, q156_77, q156_78, q156_81, q156_82, q156_84, q156_87, q156_89, q156_101, q156_103, q156_105, q156_106, q156_108, q156_111, q156_113, q156_125, q156_127, q156_129, q156_132, ↓reduceIte, ax_bV_s, ax_bI_s, ax_bJ_s, ax_bA_s, ax_bH_s, ax_bR_s, ax_bR_n, gwq_0, gwq_1, gwq_2, gwq_3, gwq_4, gwq_5, gwqT, gwqS, gwqP, gwqK, gwqZ, gw0_0, gw0_1, gw0_2, gw0_3, gw0_4, gw0_5, gw0T, gw0S, gw0P, gw0K, gw0Z, gw1_0, gw1_1, gw1_2, gw1_3, gw1_4, gw1_5, gw1T, gw1S, gw1P, gw1K, gw1Z, oo_114, gf114_0, gf114_1, gf114_2, gf114_3, gf114_4, gf114_5, pf114_5, gf114_6, gf114_7, gf114_8, gf114_9, oo_119, gf119_0, gf119_1, pf119_1, gf119_2, pf119_2, oo_130, gf130_0, gf130_1, gf130_2, pf130_2, oo_134, gf134_0, gf134_1, pf134_1, gf134_2, pf134_2, gf134_3, pf134_3, gf134_4, gf134_5, pf134_5, gf134_6, gf134_7, gf134_8, gf134_9, pf134_9, gf134_10, gf134_11, gf134_12, gf134_13, gf134_14, gf134_15, gf134_16, gi120, pi120, li120, gi131, pi131, li131, gi132, pi132, li132, gi136, pi136, li136, gi138, pi138, li138, gi139, pi139, li139, gi140, pi140, li140, gi141, pi141, li141, gi142, pi142, li142, gi144, pi144, li144, gi145, pi145, li145, gj133, pj133, lj133, gj137, pj137, lj137, gj143, pj143, lj143, gj146, pj146, lj146, gA121, gAq, oo_s, gfs_0, gfs_1, gfs_2, pfs_0, pfs_1, gjs, ljs, pjs, oo_h, gfh_0, gfh_1, gfh_2, pfh_1, pfh_2, n_le (show Y 0 0 < 2 ^ 31 by omega) (show b < 2 ^ 31 by omega), show ¬ Y 0 0 ≤ b by omega, h54, n_le (show z (12 + b) < 2 ^ 31 by omega) (show mx < 2 ^ 31 by omega), c1, n_le (show mn < 2 ^ 31 by omega) (show z (12 + b) < 2 ^ 31 by omega), c2, nI_add]
      · rw [show min mn (z (12 + b)) = z (12 + b) by omega]
        simp only [q156_72, q156_73, q156_76, q156_77, q156_78, q156_81, q156_82, q156_84, q156_87, q156_89, q156_101, q156_103, q156_105, q156_106, q156_108, q156_111, q156_113, q156_116, q156_117, q156_119, q156_122, q156_127, q156_129, q156_132, ↓reduceIte, ax_bV_s, ax_bI_s, ax_bJ_s, ax_bA_s, ax_bH_s, ax_bR_s, ax_bR_n, gwq_0, gwq_1, gwq_2, gwq_3, gwq_4, gwq_5, gwqT, gwqS, gwqP, gwqK, gwqZ, gw0_0, gw0_1, gw0_2, gw0_3, gw0_4, gw0_5, gw0T, gw0S, gw0P, gw0K, gw0Z, gw1_0, gw1_1, gw1_2, gw1_3, gw1_4, gw1_5, gw1T, gw1S, gw1P, gw1K, gw1Z, oo_114, gf114_0, gf114_1, gf114_2, gf114_3, gf114_4, gf114_5, pf114_5, gf114_6, gf114_7, gf114_8, gf114_9, oo_119, gf119_0, gf119_1, pf119_1, gf119_2, pf119_2, oo_130, gf130_0, gf130_1, gf130_2, pf130_2, oo_134, gf134_0, gf134_1, pf134_1, gf134_2, pf134_2, gf134_3, pf134_3, gf134_4, gf134_5, pf134_5, gf134_6, gf134_7, gf134_8, gf134_9, pf134_9, gf134_10, gf134_11, gf134_12, gf134_13, gf134_14, gf134_15, gf134_16, gi120, pi120, li120, gi131, pi131, li131, gi132, pi132, li132, gi136, pi136, li136, gi138, pi138, li138, gi139, pi139, li139, gi140, pi140, li140, gi141, pi141, li141, gi142, pi142, li142, gi144, pi144, li144, gi145, pi145, li145, gj133, pj133, lj133, gj137, pj137, lj137, gj143, pj143, lj143, gj146, pj146, lj146, gA121, gAq, oo_s, gfs_0, gfs_1, gfs_2, pfs_0, pfs_1, gjs, ljs, pjs, oo_h, gfh_0, gfh_1, gfh_2, pfh_1, pfh_2, n_le (show Y 0 0 < 2 ^ 31 by omega) (show b < 2 ^ 31 by omega), show ¬ Y 0 0 ≤ b by omega, h54, n_le (show z (12 + b) < 2 ^ 31 by omega) (show mx < 2 ^ 31 by omega), c1, n_le (show mn < 2 ^ 31 by omega) (show z (12 + b) < 2 ^ 31 by omega), c2, nI_add]
    · rw [show max mx (z (12 + b)) = z (12 + b) by omega]
      by_cases c2 : mn ≤ z (12 + b)
      · rw [show min mn (z (12 + b)) = mn by omega]
        simp only [q156_72, q156_73, q156_76, q156_77, q156_78, q156_81, q156_82, q156_84, q156_87, q156_89, q156_92, q156_93, q156_95, q156_98, q156_103, q156_105, q156_106, q156_108, q156_111, q156_113, q156_125, q156_127, q156_129, q156_132, ↓reduceIte, ax_bV_s, ax_bI_s, ax_bJ_s, ax_bA_s, ax_bH_s, ax_bR_s, ax_bR_n, gwq_0, gwq_1, gwq_2, gwq_3, gwq_4, gwq_5, gwqT, gwqS, gwqP, gwqK, gwqZ, gw0_0, gw0_1, gw0_2, gw0_3, gw0_4, gw0_5, gw0T, gw0S, gw0P, gw0K, gw0Z, gw1_0, gw1_1, gw1_2, gw1_3, gw1_4, gw1_5, gw1T, gw1S, gw1P, gw1K, gw1Z, oo_114, gf114_0, gf114_1, gf114_2, gf114_3, gf114_4, gf114_5, pf114_5, gf114_6, gf114_7, gf114_8, gf114_9, oo_119, gf119_0, gf119_1, pf119_1, gf119_2, pf119_2, oo_130, gf130_0, gf130_1, gf130_2, pf130_2, oo_134, gf134_0, gf134_1, pf134_1, gf134_2, pf134_2, gf134_3, pf134_3, gf134_4, gf134_5, pf134_5, gf134_6, gf134_7, gf134_8, gf134_9, pf134_9, gf134_10, gf134_11, gf134_12, gf134_13, gf134_14, gf134_15, gf134_16, gi120, pi120, li120, gi131, pi131, li131, gi132, pi132, li132, gi136, pi136, li136, gi138, pi138, li138, gi139, pi139, li139, gi140, pi140, li140, gi141, pi141, li141, gi142, pi142, li142, gi144, pi144, li144, gi145, pi145, li145, gj133, pj133, lj133, gj137, pj137, lj137, gj143, pj143, lj143, gj146, pj146, lj146, gA121, gAq, oo_s, gfs_0, gfs_1, gfs_2, pfs_0, pfs_1, gjs, ljs, pjs, oo_h, gfh_0, gfh_1, gfh_2, pfh_1, pfh_2, n_le (show Y 0 0 < 2 ^ 31 by omega) (show b < 2 ^ 31 by omega), show ¬ Y 0 0 ≤ b by omega, h54, n_le (show z (12 + b) < 2 ^ 31 by omega) (show mx < 2 ^ 31 by omega), c1, n_le (show mn < 2 ^ 31 by omega) (show z (12 + b) < 2 ^ 31 by omega), c2, nI_add]
      · rw [show min mn (z (12 + b)) = z (12 + b) by omega]
        simp only [q156_72, q156_73, q156_76, q156_77, q156_78, q156_81, q156_82, q156_84, q156_87, q156_89, q156_92, q156_93, q156_95, q156_98, q156_103, q156_105, q156_106, q156_108, q156_111, q156_113, q156_116, q156_117, q156_119, q156_122, q156_127, q156_129, q156_132, ↓reduceIte, ax_bV_s, ax_bI_s, ax_bJ_s, ax_bA_s, ax_bH_s, ax_bR_s, ax_bR_n, gwq_0, gwq_1, gwq_2, gwq_3, gwq_4, gwq_5, gwqT, gwqS, gwqP, gwqK, gwqZ, gw0_0, gw0_1, gw0_2, gw0_3, gw0_4, gw0_5, gw0T, gw0S, gw0P, gw0K, gw0Z, gw1_0, gw1_1, gw1_2, gw1_3, gw1_4, gw1_5, gw1T, gw1S, gw1P, gw1K, gw1Z, oo_114, gf114_0, gf114_1, gf114_2, gf114_3, gf114_4, gf114_5, pf114_5, gf114_6, gf114_7, gf114_8, gf114_9, oo_119, gf119_0, gf119_1, pf119_1, gf119_2, pf119_2, oo_130, gf130_0, gf130_1, gf130_2, pf130_2, oo_134, gf134_0, gf134_1, pf134_1, gf134_2, pf134_2, gf134_3, pf134_3, gf134_4, gf134_5, pf134_5, gf134_6, gf134_7, gf134_8, gf134_9, pf134_9, gf134_10, gf134_11, gf134_12, gf134_13, gf134_14, gf134_15, gf134_16, gi120, pi120, li120, gi131, pi131, li131, gi132, pi132, li132, gi136, pi136, li136, gi138, pi138, li138, gi139, pi139, li139, gi140, pi140, li140, gi141, pi141, li141, gi142, pi142, li142, gi144, pi144, li144, gi145, pi145, li145, gj133, pj133, lj133, gj137, pj137, lj137, gj143, pj143, lj143, gj146, pj146, lj146, gA121, gAq, oo_s, gfs_0, gfs_1, gfs_2, pfs_0, pfs_1, gjs, ljs, pjs, oo_h, gfh_0, gfh_1, gfh_2, pfh_1, pfh_2, n_le (show Y 0 0 < 2 ^ 31 by omega) (show b < 2 ^ 31 by omega), show ¬ Y 0 0 ≤ b by omega, h54, n_le (show z (12 + b) < 2 ^ 31 by omega) (show mx < 2 ^ 31 by omega), c1, n_le (show mn < 2 ^ 31 by omega) (show z (12 + b) < 2 ^ 31 by omega), c2, nI_add]
theorem m156_l (m : Nat) : ∀ (Y : Nat → Nat → Nat) (ai : Nat → Nat → Int32) (code be n v : Nat) (k : Int32), code + m = Y 0 0 ^ Y 0 0 → n ≤ 40 → Inv (Y 0) → Y 0 1 ≤ 9999 → 0 < Y 0 0 → v ≤ 1000000 → (v = 1000000 ∨ ∀ k, k < Y 0 0 → ai 145 k = nI (dg (Y 0 0) be k)) →
    ∃ y1 f1 g1 z, ax_res 156 37 [some (.ref 134), some (.int (nI n)), some (.int k), some (.int (nI v)), some (.int (nI code)), none, none, none] [] (hp X Y sc ai aj) = ax_res 156 160 [some (.ref 134), some (.int (nI n)), some (.int k), some (.int (nI (fsF (fD (Y 0) n) (pl (Y 0 0) m code) v be).1)), some (.int z), none, none, none] [] (hp X (upX Y 1 y1) sc (upA (upA ai 144 f1) 145 g1) aj) ∧ ((fsF (fD (Y 0) n) (pl (Y 0 0) m code) v be).1 = 1000000 ∨ ∀ k, k < Y 0 0 → g1 k = nI (dg (Y 0 0) (fsF (fD (Y 0) n) (pl (Y 0 0) m code) v be).2 k)) := by
  induction m with
  | zero =>
    intro Y ai code be n v k hc hn hI hm h1 hv hmo
    have h0 := hI.1
    have hpw : Y 0 0 ^ Y 0 0 ≤ 6 ^ 6 := Nat.le_trans (Nat.pow_le_pow_left h0 _) (Nat.pow_le_pow_right (by decide) h0)
    refine ⟨Y 1, ai 144, ai 145, nI code, ?_, ?_⟩
    · rw [pl_0, fsF_0, upA_i, upA_i, upX_i]
      simp only [q156_37, q156_39, q156_40, q156_43, ↓reduceIte, ax_bV_s, ax_bI_s, ax_bJ_s, ax_bA_s, ax_bH_s, ax_bR_s, ax_bR_n, oo_114, gf114_0, gf114_1, gf114_2, gf114_3, gf114_4, gf114_5, pf114_5, gf114_6, gf114_7, gf114_8, gf114_9, oo_119, gf119_0, gf119_1, pf119_1, gf119_2, pf119_2, oo_130, gf130_0, gf130_1, gf130_2, pf130_2, oo_134, gf134_0, gf134_1, pf134_1, gf134_2, pf134_2, gf134_3, pf134_3, gf134_4, gf134_5, pf134_5, gf134_6, gf134_7, gf134_8, gf134_9, pf134_9, gf134_10, gf134_11, gf134_12, gf134_13, gf134_14, gf134_15, gf134_16, gi120, pi120, li120, gi131, pi131, li131, gi132, pi132, li132, gi136, pi136, li136, gi138, pi138, li138, gi139, pi139, li139, gi140, pi140, li140, gi141, pi141, li141, gi142, pi142, li142, gi144, pi144, li144, gi145, pi145, li145, gj133, pj133, lj133, gj137, pj137, lj137, gj143, pj143, lj143, gj146, pj146, lj146, gA121, gAq, oo_s, gfs_0, gfs_1, gfs_2, pfs_0, pfs_1, gjs, ljs, pjs, oo_h, gfh_0, gfh_1, gfh_2, pfh_1, pfh_2, r150 h0, n_le (show Y 0 0 ^ Y 0 0 < 2 ^ 31 by omega) (show code < 2 ^ 31 by omega), show Y 0 0 ^ Y 0 0 ≤ code by omega]
    · rw [pl_0, fsF_0]; exact hmo
  | succ m ih =>
    intro Y ai code be n v k hc hn hI hm h1 hv hmo
    have h0 := hI.1
    have hpw : Y 0 0 ^ Y 0 0 ≤ 6 ^ 6 := Nat.le_trans (Nat.pow_le_pow_left h0 _) (Nat.pow_le_pow_right (by decide) h0)
    have hS := fD_le (n := n) (c := code) hI h1
    obtain ⟨f, ed, hf⟩ := r149 (X := X) (Y := Y) (sc := sc) (ai := ai) (aj := aj) (c := code) h0 h1 (by omega)
    have step : ∀ (y1 : Nat → Nat) (f g : Nat → Int32) (v be : Nat), v ≤ 1000000 → (v = 1000000 ∨ ∀ k, k < Y 0 0 → g k = nI (dg (Y 0 0) be k)) → ∃ y2 f2 g2 z, ax_res 156 37 [some (.ref 134), some (.int (nI n)), some (.int k), some (.int (nI v)), some (.int (nI (code + 1))), none, none, none] [] (hp X (upX Y 1 y1) sc (upA (upA ai 144 f) 145 g) aj) = ax_res 156 160 [some (.ref 134), some (.int (nI n)), some (.int k), some (.int (nI (fsF (fD (Y 0) n) (pl (Y 0 0) m (code + 1)) v be).1)), some (.int z), none, none, none] [] (hp X (upX Y 1 y2) sc (upA (upA ai 144 f2) 145 g2) aj) ∧ ((fsF (fD (Y 0) n) (pl (Y 0 0) m (code + 1)) v be).1 = 1000000 ∨ ∀ k, k < Y 0 0 → g2 k = nI (dg (Y 0 0) (fsF (fD (Y 0) n) (pl (Y 0 0) m (code + 1)) v be).2 k)) := by
      intro y1 f g v be hv hmo
      obtain ⟨y2, f2, g2, z, e, h2⟩ := ih (upX Y 1 y1) (upA (upA ai 144 f) 145 g) (code + 1) be n v k (by rw [upX_n (by decide)]; omega) hn (by rw [upX_n (by decide)]; exact hI) (by rw [upX_n (by decide)]; exact hm) (by rw [upX_n (by decide)]; exact h1) hv (by rw [upX_n (by decide), upA_s]; exact hmo)
      rw [upX_n (show ¬ 0 = 1 by decide)] at e h2
      rw [upX_u, upA_c (show ¬ 145 = 144 by decide), upA_u, upA_u] at e
      exact ⟨y2, f2, g2, z, e, h2⟩
    cases hp : isP (Y 0 0) code with
    | false =>
      rw [hp] at ed
      obtain ⟨y2, f2, g2, z, e, h2⟩ := step (Y 1) f (ai 145) v be hv hmo
      rw [upX_i, show upA (upA ai 144 f) 145 (ai 145) = upA ai 144 f by rw [upA_c (by decide), upA_i]] at e
      refine ⟨y2, f2, g2, z, ?_, by rw [pl_n hp]; exact h2⟩
      rw [pl_n hp, ← e, q156_37]
      simp only [q156_39, q156_40, q156_43, q156_46, q156_47, q156_49, q156_52, q156_154, q156_154b, q156_157, q156_157b, ↓reduceIte, ax_bV_s, ax_bI_s, ax_bJ_s, ax_bA_s, ax_bH_s, ax_bR_s, ax_bR_n, oo_114, gf114_0, gf114_1, gf114_2, gf114_3, gf114_4, gf114_5, pf114_5, gf114_6, gf114_7, gf114_8, gf114_9, oo_119, gf119_0, gf119_1, pf119_1, gf119_2, pf119_2, oo_130, gf130_0, gf130_1, gf130_2, pf130_2, oo_134, gf134_0, gf134_1, pf134_1, gf134_2, pf134_2, gf134_3, pf134_3, gf134_4, gf134_5, pf134_5, gf134_6, gf134_7, gf134_8, gf134_9, pf134_9, gf134_10, gf134_11, gf134_12, gf134_13, gf134_14, gf134_15, gf134_16, gi120, pi120, li120, gi131, pi131, li131, gi132, pi132, li132, gi136, pi136, li136, gi138, pi138, li138, gi139, pi139, li139, gi140, pi140, li140, gi141, pi141, li141, gi142, pi142, li142, gi144, pi144, li144, gi145, pi145, li145, gj133, pj133, lj133, gj137, pj137, lj137, gj143, pj143, lj143, gj146, pj146, lj146, gA121, gAq, oo_s, gfs_0, gfs_1, gfs_2, pfs_0, pfs_1, gjs, ljs, pjs, oo_h, gfh_0, gfh_1, gfh_2, pfh_1, pfh_2, r150 h0, n_le (show Y 0 0 ^ Y 0 0 < 2 ^ 31 by omega) (show code < 2 ^ 31 by omega), show ¬ Y 0 0 ^ Y 0 0 ≤ code by omega, ed, n_bn0, nI_add]
    | true =>
      rw [hp] at ed
      have h51 := r151 (X := X) (Y := Y) (sc := sc) (ai := upA ai 144 f) (aj := aj) (c := code) (n := n) hI h1 (by omega) (fun j hj => by rw [upA_s]; exact hf j hj)
      have hz : ∀ j, j < upX Y 1 (pasN n (dlk (Y 0 0) code (Y 0 0) (Y 0))) 0 0 → pasN n (dlh (Y 0) code) (12 + j) < 2 ^ 30 ∧ upX Y 1 (pasN n (dlk (Y 0 0) code (Y 0 0) (Y 0))) 1 (12 + j) = pasN n (dlh (Y 0) code) (12 + j) + upX Y 1 (pasN n (dlk (Y 0 0) code (Y 0 0) (Y 0))) 0 (12 + j) := by
        intro j hj
        rw [upX_n (show ¬ 0 = 1 by decide)] at hj ⊢
        rw [upX_s]
        have hg := gain (inv_dlk (c := code) hI h1) (n := n) (show j < 6 by omega)
        rw [fgt_dlk, show dlk (Y 0 0) code (Y 0 0) (Y 0) (12 + j) = Y 0 (12 + j) from if_neg (by omega)] at hg
        have hl : pasN n (dlh (Y 0) code) (12 + j) ≤ n := tS_le (by omega)
        exact ⟨by omega, hg⟩
      have ei := m156_i (X := X) (sc := sc) (ai := upA ai 144 f) (aj := aj) (Y 0 0) (upX Y 1 (pasN n (dlk (Y 0 0) code (Y 0 0) (Y 0)))) (pasN n (dlh (Y 0) code)) 0 0 1000000 (nI n) k (nI v) (nI code) (by rw [upX_n (by decide)]; omega) (by rw [upX_n (by decide)]; exact h0) (by decide) (by decide) hz
      have e0 : pasN n (dlh (Y 0) code) 0 = Y 0 0 := by rw [(inv_pasN n (inv_dlh hI h1)).2.1, dlh_0]
      have hl0 : pasN n (dlh (Y 0) code) 12 ≤ n := tS_le (b := 0) (by omega)
      obtain ⟨N', hN'⟩ : ∃ N', Y 0 0 = N' + 1 := ⟨Y 0 0 - 1, by omega⟩
      have ex : mxF (pasN n (dlh (Y 0) code)) (Y 0 0) 0 0 = mxF (pasN n (dlh (Y 0) code)) (Y 0 0 - 1) 1 (pasN n (dlh (Y 0) code) 12) := by
        rw [hN', mxF_s, Nat.add_sub_cancel, Nat.zero_max]
      have en : mnF (pasN n (dlh (Y 0) code)) (Y 0 0) 0 1000000 = mnF (pasN n (dlh (Y 0) code)) (Y 0 0 - 1) 1 (pasN n (dlh (Y 0) code) 12) := by
        rw [hN', mnF_s, Nat.add_sub_cancel, show min 1000000 (pasN n (dlh (Y 0) code) (12 + 0)) = pasN n (dlh (Y 0) code) 12 by rw [Nat.add_zero]; omega]
      have hD : mxF (pasN n (dlh (Y 0) code)) (Y 0 0 - 1) 1 (pasN n (dlh (Y 0) code) 12) - mnF (pasN n (dlh (Y 0) code)) (Y 0 0 - 1) 1 (pasN n (dlh (Y 0) code) 12) = fD (Y 0) n code := by
        unfold fD apt; rw [sx_mm, e0]
      have hle : mnF (pasN n (dlh (Y 0) code)) (Y 0 0 - 1) 1 (pasN n (dlh (Y 0) code) 12) ≤ mxF (pasN n (dlh (Y 0) code)) (Y 0 0 - 1) 1 (pasN n (dlh (Y 0) code) 12) := Nat.le_trans (mnF_le _ _ _ _).1 (mxF_ge _ _ _ _).1
      rw [ex, en] at ei
      by_cases c1 : fD (Y 0) n code < v
      · obtain ⟨g, ek, hk⟩ := r152 (X := X) (Y := upX Y 1 (pasN n (dlk (Y 0 0) code (Y 0 0) (Y 0)))) (sc := sc) (ai := upA ai 144 f) (aj := aj) (by rw [upX_n (by decide)]; exact h0)
        rw [upX_n (show ¬ 0 = 1 by decide), upA_s] at hk
        obtain ⟨y2, f2, g2, z, e, h2⟩ := step (pasN n (dlk (Y 0 0) code (Y 0 0) (Y 0))) f g (fD (Y 0) n code) code (by omega) (Or.inr (fun j hj => by rw [hk j hj, hf j hj]))
        refine ⟨y2, f2, g2, z, ?_, by rw [pl_y hp, fsF_y c1]; exact h2⟩
        rw [pl_y hp, fsF_y c1, ← e, q156_37]
        simp only [q156_39, q156_40, q156_43, q156_46, q156_47, q156_49, q156_52, q156_55, q156_56, q156_57, q156_60, q156_61, q156_63, q156_65, q156_67, q156_68, ↓reduceIte, ax_bV_s, ax_bI_s, ax_bJ_s, ax_bA_s, ax_bH_s, ax_bR_s, ax_bR_n, oo_114, gf114_0, gf114_1, gf114_2, gf114_3, gf114_4, gf114_5, pf114_5, gf114_6, gf114_7, gf114_8, gf114_9, oo_119, gf119_0, gf119_1, pf119_1, gf119_2, pf119_2, oo_130, gf130_0, gf130_1, gf130_2, pf130_2, oo_134, gf134_0, gf134_1, pf134_1, gf134_2, pf134_2, gf134_3, pf134_3, gf134_4, gf134_5, pf134_5, gf134_6, gf134_7, gf134_8, gf134_9, pf134_9, gf134_10, gf134_11, gf134_12, gf134_13, gf134_14, gf134_15, gf134_16, gi120, pi120, li120, gi131, pi131, li131, gi132, pi132, li132, gi136, pi136, li136, gi138, pi138, li138, gi139, pi139, li139, gi140, pi140, li140, gi141, pi141, li141, gi142, pi142, li142, gi144, pi144, li144, gi145, pi145, li145, gj133, pj133, lj133, gj137, pj137, lj137, gj143, pj143, lj143, gj146, pj146, lj146, gA121, gAq, oo_s, gfs_0, gfs_1, gfs_2, pfs_0, pfs_1, gjs, ljs, pjs, oo_h, gfh_0, gfh_1, gfh_2, pfh_1, pfh_2, r150 h0, n_le (show Y 0 0 ^ Y 0 0 < 2 ^ 31 by omega) (show code < 2 ^ 31 by omega), show ¬ Y 0 0 ^ Y 0 0 ≤ code by omega, ed, n_bn0, Bool.true_eq_false, h51, ei]
        simp only [q156_135, q156_137, q156_139, q156_140, q156_141, q156_144, q156_146, q156_148, q156_149, q156_150, q156_151, q156_154, q156_154b, q156_157, q156_157b, ↓reduceIte, ax_bV_s, ax_bI_s, ax_bJ_s, ax_bA_s, ax_bH_s, ax_bR_s, ax_bR_n, oo_114, gf114_0, gf114_1, gf114_2, gf114_3, gf114_4, gf114_5, pf114_5, gf114_6, gf114_7, gf114_8, gf114_9, oo_119, gf119_0, gf119_1, pf119_1, gf119_2, pf119_2, oo_130, gf130_0, gf130_1, gf130_2, pf130_2, oo_134, gf134_0, gf134_1, pf134_1, gf134_2, pf134_2, gf134_3, pf134_3, gf134_4, gf134_5, pf134_5, gf134_6, gf134_7, gf134_8, gf134_9, pf134_9, gf134_10, gf134_11, gf134_12, gf134_13, gf134_14, gf134_15, gf134_16, gi120, pi120, li120, gi131, pi131, li131, gi132, pi132, li132, gi136, pi136, li136, gi138, pi138, li138, gi139, pi139, li139, gi140, pi140, li140, gi141, pi141, li141, gi142, pi142, li142, gi144, pi144, li144, gi145, pi145, li145, gj133, pj133, lj133, gj137, pj137, lj137, gj143, pj143, lj143, gj146, pj146, lj146, gA121, gAq, oo_s, gfs_0, gfs_1, gfs_2, pfs_0, pfs_1, gjs, ljs, pjs, oo_h, gfh_0, gfh_1, gfh_2, pfh_1, pfh_2, n_sub hle, hD, n_le (show v < 2 ^ 31 by omega) (show fD (Y 0) n code < 2 ^ 31 by omega), show ¬ v ≤ fD (Y 0) n code by omega, ek, nI_add]
      · obtain ⟨y2, f2, g2, z, e, h2⟩ := step (pasN n (dlk (Y 0 0) code (Y 0 0) (Y 0))) f (ai 145) v be hv hmo
        rw [show upA (upA ai 144 f) 145 (ai 145) = upA ai 144 f by rw [upA_c (by decide), upA_i]] at e
        refine ⟨y2, f2, g2, z, ?_, by rw [pl_y hp, fsF_n c1]; exact h2⟩
        rw [pl_y hp, fsF_n c1, ← e, q156_37]
        simp only [q156_39, q156_40, q156_43, q156_46, q156_47, q156_49, q156_52, q156_55, q156_56, q156_57, q156_60, q156_61, q156_63, q156_65, q156_67, q156_68, ↓reduceIte, ax_bV_s, ax_bI_s, ax_bJ_s, ax_bA_s, ax_bH_s, ax_bR_s, ax_bR_n, oo_114, gf114_0, gf114_1, gf114_2, gf114_3, gf114_4, gf114_5, pf114_5, gf114_6, gf114_7, gf114_8, gf114_9, oo_119, gf119_0, gf119_1, pf119_1, gf119_2, pf119_2, oo_130, gf130_0, gf130_1, gf130_2, pf130_2, oo_134, gf134_0, gf134_1, pf134_1, gf134_2, pf134_2, gf134_3, pf134_3, gf134_4, gf134_5, pf134_5, gf134_6, gf134_7, gf134_8, gf134_9, pf134_9, gf134_10, gf134_11, gf134_12, gf134_13, gf134_14, gf134_15, gf134_16, gi120, pi120, li120, gi131, pi131, li131, gi132, pi132, li132, gi136, pi136, li136, gi138, pi138, li138, gi139, pi139, li139, gi140, pi140, li140, gi141, pi141, li141, gi142, pi142, li142, gi144, pi144, li144, gi145, pi145, li145, gj133, pj133, lj133, gj137, pj137, lj137, gj143, pj143, lj143, gj146, pj146, lj146, gA121, gAq, oo_s, gfs_0, gfs_1, gfs_2, pfs_0, pfs_1, gjs, ljs, pjs, oo_h, gfh_0, gfh_1, gfh_2, pfh_1, pfh_2, r150 h0, n_le (show Y 0 0 ^ Y 0 0 < 2 ^ 31 by omega) (show code < 2 ^ 31 by omega), show ¬ Y 0 0 ^ Y 0 0 ≤ code by omega, ed, n_bn0, Bool.true_eq_false, h51, ei]
        simp only [q156_135, q156_137, q156_139, q156_140, q156_141, q156_154, q156_154b, q156_157, q156_157b, ↓reduceIte, ax_bV_s, ax_bI_s, ax_bJ_s, ax_bA_s, ax_bH_s, ax_bR_s, ax_bR_n, oo_114, gf114_0, gf114_1, gf114_2, gf114_3, gf114_4, gf114_5, pf114_5, gf114_6, gf114_7, gf114_8, gf114_9, oo_119, gf119_0, gf119_1, pf119_1, gf119_2, pf119_2, oo_130, gf130_0, gf130_1, gf130_2, pf130_2, oo_134, gf134_0, gf134_1, pf134_1, gf134_2, pf134_2, gf134_3, pf134_3, gf134_4, gf134_5, pf134_5, gf134_6, gf134_7, gf134_8, gf134_9, pf134_9, gf134_10, gf134_11, gf134_12, gf134_13, gf134_14, gf134_15, gf134_16, gi120, pi120, li120, gi131, pi131, li131, gi132, pi132, li132, gi136, pi136, li136, gi138, pi138, li138, gi139, pi139, li139, gi140, pi140, li140, gi141, pi141, li141, gi142, pi142, li142, gi144, pi144, li144, gi145, pi145, li145, gj133, pj133, lj133, gj137, pj137, lj137, gj143, pj143, lj143, gj146, pj146, lj146, gA121, gAq, oo_s, gfs_0, gfs_1, gfs_2, pfs_0, pfs_1, gjs, ljs, pjs, oo_h, gfh_0, gfh_1, gfh_2, pfh_1, pfh_2, n_sub hle, hD, n_le (show v < 2 ^ 31 by omega) (show fD (Y 0) n code < 2 ^ 31 by omega), show v ≤ fD (Y 0) n code by omega, nI_add]
theorem m156_bad {n k : Int32} (h : (isI n 1 40 && decide (-1 ≤ k)) = false) : ax_res 156 0 [some (.ref 134), some (.int n), some (.int k), none, none, none, none, none] [] (hp X Y sc ai aj) = some (some (.int (-1)), hp X Y sc ai aj) := by
  simp only [q156_0, q156_1, q156_2, q156_3, q156_6, q156_9, q156_12, q156_13, q156_14, q156_17, q156_18, ↓reduceIte, ax_bV_s, ax_bI_s, ax_bJ_s, ax_bA_s, ax_bH_s, ax_bR_s, ax_bR_n, r104I (show 1 < 2 ^ 31 by decide) (show 40 < 2 ^ 31 by decide), n_bn0]
  revert h
  cases isI n 1 40 <;> by_cases h3 : -1 ≤ k <;> simp [h3]
theorem m156_none {n : Nat} {k : Int32} (hn1 : 1 ≤ n) (hn : n ≤ 40) (hk : -1 ≤ k) (h : Y 0 0 = 0) : ax_res 156 0 [some (.ref 134), some (.int (nI n)), some (.int k), none, none, none, none, none] [] (hp X Y sc ai aj) = some (some (.int (-4)), hp X Y sc ai aj) := by
  simp only [q156_0, q156_1, q156_2, q156_3, q156_6, q156_9, q156_12, q156_13, q156_14, q156_19, q156_20, q156_23, q156_24, q156_25, q156_28, q156_30, ↓reduceIte, ax_bV_s, ax_bI_s, ax_bJ_s, ax_bA_s, ax_bH_s, ax_bR_s, ax_bR_n, gwq_0, gwq_1, gwq_2, gwq_3, gwq_4, gwq_5, gwqT, gwqS, gwqP, gwqK, gwqZ, gw0_0, gw0_1, gw0_2, gw0_3, gw0_4, gw0_5, gw0T, gw0S, gw0P, gw0K, gw0Z, gw1_0, gw1_1, gw1_2, gw1_3, gw1_4, gw1_5, gw1T, gw1S, gw1P, gw1K, gw1Z, oo_114, gf114_0, gf114_1, gf114_2, gf114_3, gf114_4, gf114_5, pf114_5, gf114_6, gf114_7, gf114_8, gf114_9, oo_119, gf119_0, gf119_1, pf119_1, gf119_2, pf119_2, oo_130, gf130_0, gf130_1, gf130_2, pf130_2, oo_134, gf134_0, gf134_1, pf134_1, gf134_2, pf134_2, gf134_3, pf134_3, gf134_4, gf134_5, pf134_5, gf134_6, gf134_7, gf134_8, gf134_9, pf134_9, gf134_10, gf134_11, gf134_12, gf134_13, gf134_14, gf134_15, gf134_16, gi120, pi120, li120, gi131, pi131, li131, gi132, pi132, li132, gi136, pi136, li136, gi138, pi138, li138, gi139, pi139, li139, gi140, pi140, li140, gi141, pi141, li141, gi142, pi142, li142, gi144, pi144, li144, gi145, pi145, li145, gj133, pj133, lj133, gj137, pj137, lj137, gj143, pj143, lj143, gj146, pj146, lj146, gA121, gAq, oo_s, gfs_0, gfs_1, gfs_2, pfs_0, pfs_1, gjs, ljs, pjs, oo_h, gfh_0, gfh_1, gfh_2, pfh_1, pfh_2, r104I (show 1 < 2 ^ 31 by decide) (show 40 < 2 ^ 31 by decide), isI_nI (show n < 2 ^ 31 by omega) hn1 hn, n_bn0, Bool.true_eq_false, hk, h, n_z0]
theorem m156_ok {n : Nat} (k : Option Nat) {kk : Int32} (hk : (k = none ∧ kk = -1) ∨ ∃ j, j < 2 ^ 31 ∧ k = some j ∧ kk = nI j) (hI : Inv (Y 0)) (hm : Y 0 1 ≤ 9999) (hN : 0 < Y 0 0) (hn1 : 1 ≤ n) (hn : n ≤ 40) : ∃ y1 f1 g1, ax_res 156 0 [some (.ref 134), some (.int (nI n)), some (.int kk), none, none, none, none, none] [] (hp X Y sc ai aj) = some (some (.int (frA (Y 0) n k)), hp X (upX Y 1 y1) sc (upA (upA ai 144 f1) 145 g1) aj) := by
  have h0 := hI.1
  obtain ⟨y1, f1, g1, z, e, hg⟩ := m156_l (X := X) (sc := sc) (aj := aj) (Y 0 0 ^ Y 0 0) Y ai 0 0 n 1000000 kk (by omega) hn hI hm hN (Nat.le_refl _) (Or.inl rfl)
  obtain ⟨c, L, hL, -, -⟩ := chk_N (show 1 ≤ Y 0 0 by omega) h0
  have hS := fD_le (n := n) (c := c) hI hN
  have es : fsF (fD (Y 0) n) (pl (Y 0 0) (Y 0 0 ^ Y 0 0) 0) 1000000 0 = fsF (fD (Y 0) n) (pl (Y 0 0) (Y 0 0 ^ Y 0 0) 0) (n + 1) 0 := by
    rw [hL, fsF_y (show fD (Y 0) n c < 1000000 by omega), fsF_y (show fD (Y 0) n c < n + 1 by omega)]
  rw [es] at e hg
  have hg' : ∀ k, k < Y 0 0 → g1 k = nI (dg (Y 0 0) (fsF (fD (Y 0) n) (pl (Y 0 0) (Y 0 0 ^ Y 0 0) 0) (n + 1) 0).2 k) := by
    rcases hg with hg | hg
    · have := fsF_le (D := fD (Y 0) n) (pl (Y 0 0) (Y 0 0 ^ Y 0 0) 0) (n + 1) 0; omega
    · exact hg
  refine ⟨y1, f1, g1, ?_⟩
  rcases hk with ⟨rfl, rfl⟩ | ⟨j, hj, rfl, rfl⟩
  · simp only [q156_0, q156_1, q156_2, q156_3, q156_6, q156_9, q156_12, q156_13, q156_14, q156_19, q156_20, q156_23, q156_24, q156_25, q156_31, q156_33, q156_34, q156_35, ↓reduceIte, ax_bV_s, ax_bI_s, ax_bJ_s, ax_bA_s, ax_bH_s, ax_bR_s, ax_bR_n, gwq_0, gwq_1, gwq_2, gwq_3, gwq_4, gwq_5, gwqT, gwqS, gwqP, gwqK, gwqZ, gw0_0, gw0_1, gw0_2, gw0_3, gw0_4, gw0_5, gw0T, gw0S, gw0P, gw0K, gw0Z, gw1_0, gw1_1, gw1_2, gw1_3, gw1_4, gw1_5, gw1T, gw1S, gw1P, gw1K, gw1Z, oo_114, gf114_0, gf114_1, gf114_2, gf114_3, gf114_4, gf114_5, pf114_5, gf114_6, gf114_7, gf114_8, gf114_9, oo_119, gf119_0, gf119_1, pf119_1, gf119_2, pf119_2, oo_130, gf130_0, gf130_1, gf130_2, pf130_2, oo_134, gf134_0, gf134_1, pf134_1, gf134_2, pf134_2, gf134_3, pf134_3, gf134_4, gf134_5, pf134_5, gf134_6, gf134_7, gf134_8, gf134_9, pf134_9, gf134_10, gf134_11, gf134_12, gf134_13, gf134_14, gf134_15, gf134_16, gi120, pi120, li120, gi131, pi131, li131, gi132, pi132, li132, gi136, pi136, li136, gi138, pi138, li138, gi139, pi139, li139, gi140, pi140, li140, gi141, pi141, li141, gi142, pi142, li142, gi144, pi144, li144, gi145, pi145, li145, gj133, pj133, lj133, gj137, pj137, lj137, gj143, pj143, lj143, gj146, pj146, lj146, gA121, gAq, oo_s, gfs_0, gfs_1, gfs_2, pfs_0, pfs_1, gjs, ljs, pjs, oo_h, gfh_0, gfh_1, gfh_2, pfh_1, pfh_2, r104I (show 1 < 2 ^ 31 by decide) (show 40 < 2 ^ 31 by decide), isI_nI (show n < 2 ^ 31 by omega) hn1 hn, n_bn0, Bool.true_eq_false, Int32.le_refl, n_eq0 (show Y 0 0 < 2 ^ 31 by omega), show ¬ Y 0 0 = 0 by omega, e]
    simp only [q156_160, q156_161, q156_164, q156_165, q156_173, ↓reduceIte, ax_bV_s, ax_bI_s, ax_bJ_s, ax_bA_s, ax_bH_s, ax_bR_s, ax_bR_n, n1_0le, frA]
  · have hle : -1 ≤ nI j := Int32.le_of_lt (Int32.not_le.mp (nI_n1 hj))
    have h2 := r153 (X := X) (Y := upX Y 1 y1) (sc := sc) (ai := upA (upA ai 144 f1) 145 g1) (aj := aj) (k := j) (by rw [upX_n (by decide)]; exact h0) hj
    rw [upA_s, upX_n (show ¬ 0 = 1 by decide)] at h2
    simp only [q156_0, q156_1, q156_2, q156_3, q156_6, q156_9, q156_12, q156_13, q156_14, q156_19, q156_20, q156_23, q156_24, q156_25, q156_31, q156_33, q156_34, q156_35, ↓reduceIte, ax_bV_s, ax_bI_s, ax_bJ_s, ax_bA_s, ax_bH_s, ax_bR_s, ax_bR_n, gwq_0, gwq_1, gwq_2, gwq_3, gwq_4, gwq_5, gwqT, gwqS, gwqP, gwqK, gwqZ, gw0_0, gw0_1, gw0_2, gw0_3, gw0_4, gw0_5, gw0T, gw0S, gw0P, gw0K, gw0Z, gw1_0, gw1_1, gw1_2, gw1_3, gw1_4, gw1_5, gw1T, gw1S, gw1P, gw1K, gw1Z, oo_114, gf114_0, gf114_1, gf114_2, gf114_3, gf114_4, gf114_5, pf114_5, gf114_6, gf114_7, gf114_8, gf114_9, oo_119, gf119_0, gf119_1, pf119_1, gf119_2, pf119_2, oo_130, gf130_0, gf130_1, gf130_2, pf130_2, oo_134, gf134_0, gf134_1, pf134_1, gf134_2, pf134_2, gf134_3, pf134_3, gf134_4, gf134_5, pf134_5, gf134_6, gf134_7, gf134_8, gf134_9, pf134_9, gf134_10, gf134_11, gf134_12, gf134_13, gf134_14, gf134_15, gf134_16, gi120, pi120, li120, gi131, pi131, li131, gi132, pi132, li132, gi136, pi136, li136, gi138, pi138, li138, gi139, pi139, li139, gi140, pi140, li140, gi141, pi141, li141, gi142, pi142, li142, gi144, pi144, li144, gi145, pi145, li145, gj133, pj133, lj133, gj137, pj137, lj137, gj143, pj143, lj143, gj146, pj146, lj146, gA121, gAq, oo_s, gfs_0, gfs_1, gfs_2, pfs_0, pfs_1, gjs, ljs, pjs, oo_h, gfh_0, gfh_1, gfh_2, pfh_1, pfh_2, r104I (show 1 < 2 ^ 31 by decide) (show 40 < 2 ^ 31 by decide), isI_nI (show n < 2 ^ 31 by omega) hn1 hn, n_bn0, Bool.true_eq_false, hle, n_eq0 (show Y 0 0 < 2 ^ 31 by omega), show ¬ Y 0 0 = 0 by omega, e]
    simp only [q156_160, q156_161, q156_168, q156_169, q156_170, q156_173, ↓reduceIte, ax_bV_s, ax_bI_s, ax_bJ_s, ax_bA_s, ax_bH_s, ax_bR_s, ax_bR_n, oo_114, gf114_0, gf114_1, gf114_2, gf114_3, gf114_4, gf114_5, pf114_5, gf114_6, gf114_7, gf114_8, gf114_9, oo_119, gf119_0, gf119_1, pf119_1, gf119_2, pf119_2, oo_130, gf130_0, gf130_1, gf130_2, pf130_2, oo_134, gf134_0, gf134_1, pf134_1, gf134_2, pf134_2, gf134_3, pf134_3, gf134_4, gf134_5, pf134_5, gf134_6, gf134_7, gf134_8, gf134_9, pf134_9, gf134_10, gf134_11, gf134_12, gf134_13, gf134_14, gf134_15, gf134_16, gi120, pi120, li120, gi131, pi131, li131, gi132, pi132, li132, gi136, pi136, li136, gi138, pi138, li138, gi139, pi139, li139, gi140, pi140, li140, gi141, pi141, li141, gi142, pi142, li142, gi144, pi144, li144, gi145, pi145, li145, gj133, pj133, lj133, gj137, pj137, lj137, gj143, pj143, lj143, gj146, pj146, lj146, gA121, gAq, oo_s, gfs_0, gfs_1, gfs_2, pfs_0, pfs_1, gjs, ljs, pjs, oo_h, gfh_0, gfh_1, gfh_2, pfh_1, pfh_2, n_0le hj, h2, frA]
    by_cases c : j < Y 0 0
    · rw [if_pos c, if_pos c, hg' j c]
    · rw [if_neg c, if_neg c]
end FA
