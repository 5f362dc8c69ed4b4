/-! ===== the model: a minute, copies ===== -/
theorem pop6_S : ∀ a, a < 64 → ∀ k, k < 6 → bt a k = a / 2 ^ k % 2 := by decide +kernel
def popL (a : Nat) : Nat → Nat → Nat → Nat
  | _, 0, acc => acc
  | k, n + 1, acc => popL a (k + 1) n (acc + bt a k)
theorem popL_ok : ∀ a, a < 64 → popL a 0 6 0 = pop a := by decide +kernel
section M2
variable {X Y : Nat → Nat → Nat} {sc : Nat → Nat → Int32} {ai : Nat → Nat → Int32} {aj : Nat → Nat → Int64} {q : Nat}
/-- passesBy -/
theorem r129 {mb : Bool} (hq : q < 20) (hI : Inv (Y q)) (hm : Y q 1 < 20000) : ax_res 129 0 [some (.ref 134), some (.int (nI (36 * q))), some (.int (nI (bn mb))), none] [] (hp X Y sc ai aj) = some (none, hp X (upX Y q (pas (Y q) mb)) sc ai aj) := by
  have tailc : ∀ (Y : Nat → Nat → Nat) (v : Int32) (w : Int32), Inv (Y q) → ax_res 129 31 [some (.ref 134), some (.int (nI (36 * q))), some (.int v), some (.int w)] [] (hp X Y sc ai aj) = some (none, hp X (upX Y q (tick (Y q))) sc ai aj) := by
    intro Y v w hI
    unfold tick
    by_cases c3 : Y q 2 < 6
    · have c3' : ¬ nI (Y q 2) = -4 := by rw [← sv_of c3, sv_n4]; omega
      simp only [q129_0, q129_1, q129_2, q129_5, q129_6, q129_7, q129_10, q129_11, q129_13, q129_16, q129_17, q129_18, q129_19, q129_22, q129_25, q129_26, q129_27, q129_28, q129_31, q129_32, q129_35, q129_36, q129_37, q129_38, q129_39, q129_41, q129_44, q129_45, q129_48, q129_49, q129_51, q129_52, q129_53, q129_56, q129_57, q129_58, q129_59, q129_60, q129_61, q129_62, q129_63, q129_64, q129_65, q129_66, q129_67, q129_70, q129_71, q129_72, q129_73, q129_74, q129_75, q129_76, q129_77, q129_78, q129_79, q129_82, q129_83, q129_84, q129_85, q129_86, q129_87, q129_88, q129_89, q129_90, ↓reduceIte, ax_bV_s, ax_bI_s, ax_bJ_s, ax_bA_s, ax_bH_s, ax_bR_s, ax_bR_n, gwq_0, gwq_1, gwq_2, gwq_3, gwq_4, gwq_5, gwqT, gwqS, gwqP, gwqK, gwqZ, gw0_0, gw0_1, gw0_2, gw0_3, gw0_4, gw0_5, gw0T, gw0S, gw0P, gw0K, gw0Z, gw1_0, gw1_1, gw1_2, gw1_3, gw1_4, gw1_5, gw1T, gw1S, gw1P, gw1K, gw1Z, pwq_0, pwq_1, pwq_2, pwq_2n, pwq_3, pwq_4, pwq_5, pwqT, pwqS, pwqP, pwqK, pwqZ, pw0_0, pw0_1, pw0_2, pw0_2n, pw0_3, pw0_4, pw0_5, pw0T, pw0S, pw0P, pw0K, pw0Z, pw1_0, pw1_1, pw1_2, pw1_2n, pw1_3, pw1_4, pw1_5, pw1T, pw1S, pw1P, pw1K, pw1Z, oo_114, gf114_0, gf114_1, gf114_2, gf114_3, gf114_4, gf114_5, pf114_5, gf114_6, gf114_7, gf114_8, gf114_9, oo_119, gf119_0, gf119_1, pf119_1, gf119_2, pf119_2, oo_130, gf130_0, gf130_1, gf130_2, pf130_2, oo_134, gf134_0, gf134_1, pf134_1, gf134_2, pf134_2, gf134_3, pf134_3, gf134_4, gf134_5, pf134_5, gf134_6, gf134_7, gf134_8, gf134_9, pf134_9, gf134_10, gf134_11, gf134_12, gf134_13, gf134_14, gf134_15, gf134_16, gi120, pi120, li120, gi131, pi131, li131, gi132, pi132, li132, gi136, pi136, li136, gi138, pi138, li138, gi139, pi139, li139, gi140, pi140, li140, gi141, pi141, li141, gi142, pi142, li142, gi144, pi144, li144, gi145, pi145, li145, gj133, pj133, lj133, gj137, pj137, lj137, gj143, pj143, lj143, gj146, pj146, lj146, gA121, gAq, oo_s, gfs_0, gfs_1, gfs_2, pfs_0, pfs_1, gjs, ljs, pjs, oo_h, gfh_0, gfh_1, gfh_2, pfh_1, pfh_2, hq, sv_of c3, c3', c3, nI_add, upX_s, upX_u, if_true]
      simp [up1, show ¬ 3 = 12 + Y q 2 by omega, show ¬ 1 = 12 + Y q 2 by omega]
    · simp only [q129_0, q129_1, q129_2, q129_5, q129_6, q129_7, q129_10, q129_11, q129_13, q129_16, q129_17, q129_18, q129_19, q129_22, q129_25, q129_26, q129_27, q129_28, q129_31, q129_32, q129_35, q129_36, q129_37, q129_38, q129_39, q129_41, q129_78, q129_79, q129_82, q129_83, q129_84, q129_85, q129_86, q129_87, q129_88, q129_89, q129_90, ↓reduceIte, ax_bV_s, ax_bI_s, ax_bJ_s, ax_bA_s, ax_bH_s, ax_bR_s, ax_bR_n, gwq_0, gwq_1, gwq_2, gwq_3, gwq_4, gwq_5, gwqT, gwqS, gwqP, gwqK, gwqZ, gw0_0, gw0_1, gw0_2, gw0_3, gw0_4, gw0_5, gw0T, gw0S, gw0P, gw0K, gw0Z, gw1_0, gw1_1, gw1_2, gw1_3, gw1_4, gw1_5, gw1T, gw1S, gw1P, gw1K, gw1Z, pwq_0, pwq_1, pwq_2, pwq_2n, pwq_3, pwq_4, pwq_5, pwqT, pwqS, pwqP, pwqK, pwqZ, pw0_0, pw0_1, pw0_2, pw0_2n, pw0_3, pw0_4, pw0_5, pw0T, pw0S, pw0P, pw0K, pw0Z, pw1_0, pw1_1, pw1_2, pw1_2n, pw1_3, pw1_4, pw1_5, pw1T, pw1S, pw1P, pw1K, pw1Z, oo_114, gf114_0, gf114_1, gf114_2, gf114_3, gf114_4, gf114_5, pf114_5, gf114_6, gf114_7, gf114_8, gf114_9, oo_119, gf119_0, gf119_1, pf119_1, gf119_2, pf119_2, oo_130, gf130_0, gf130_1, gf130_2, pf130_2, oo_134, gf134_0, gf134_1, pf134_1, gf134_2, pf134_2, gf134_3, pf134_3, gf134_4, gf134_5, pf134_5, gf134_6, gf134_7, gf134_8, gf134_9, pf134_9, gf134_10, gf134_11, gf134_12, gf134_13, gf134_14, gf134_15, gf134_16, gi120, pi120, li120, gi131, pi131, li131, gi132, pi132, li132, gi136, pi136, li136, gi138, pi138, li138, gi139, pi139, li139, gi140, pi140, li140, gi141, pi141, li141, gi142, pi142, li142, gi144, pi144, li144, gi145, pi145, li145, gj133, pj133, lj133, gj137, pj137, lj137, gj143, pj143, lj143, gj146, pj146, lj146, gA121, gAq, oo_s, gfs_0, gfs_1, gfs_2, pfs_0, pfs_1, gjs, ljs, pjs, oo_h, gfh_0, gfh_1, gfh_2, pfh_1, pfh_2, hq, sv_n4, c3, not_false_eq_true, nI_add, upX_s, upX_u, if_false]
  have h126 := r126 (X := X) (Y := Y) (sc := sc) (ai := ai) (aj := aj) hq hI.1 hm (fun b hb => (hI.2.2.2.2.2 b hb).2.2.1)
  unfold pas
  cases mb with
  | true =>
    have e1 : ¬ nI (bn true) = 0 := by decide
    simp only [q129_0, q129_1, q129_2, q129_5, q129_6, q129_7, ↓reduceIte, ax_bV_s, ax_bI_s, ax_bJ_s, ax_bA_s, ax_bH_s, ax_bR_s, ax_bR_n, oo_114, gf114_0, gf114_1, gf114_2, gf114_3, gf114_4, gf114_5, pf114_5, gf114_6, gf114_7, gf114_8, gf114_9, oo_119, gf119_0, gf119_1, pf119_1, gf119_2, pf119_2, oo_130, gf130_0, gf130_1, gf130_2, pf130_2, oo_134, gf134_0, gf134_1, pf134_1, gf134_2, pf134_2, gf134_3, pf134_3, gf134_4, gf134_5, pf134_5, gf134_6, gf134_7, gf134_8, gf134_9, pf134_9, gf134_10, gf134_11, gf134_12, gf134_13, gf134_14, gf134_15, gf134_16, gi120, pi120, li120, gi131, pi131, li131, gi132, pi132, li132, gi136, pi136, li136, gi138, pi138, li138, gi139, pi139, li139, gi140, pi140, li140, gi141, pi141, li141, gi142, pi142, li142, gi144, pi144, li144, gi145, pi145, li145, gj133, pj133, lj133, gj137, pj137, lj137, gj143, pj143, lj143, gj146, pj146, lj146, gA121, gAq, oo_s, gfs_0, gfs_1, gfs_2, pfs_0, pfs_1, gjs, ljs, pjs, oo_h, gfh_0, gfh_1, gfh_2, pfh_1, pfh_2, h126, e1]
    rw [tailc Y _ _ hI]
    rfl
  | false =>
    have e1 : nI (bn false) = 0 := by decide
    by_cases c1 : trn (Y q) < 6
    · have c1' : ¬ nI (trn (Y q)) = -4 := by rw [← sv_of c1, sv_n4]; omega
      have htr := hI.tr c1
      have h21 := r114 (X := X) (Y := Y) (sc := sc) (ai := ai) (aj := aj) hq hI hm htr
      have h23 := r128 (X := X) (Y := Y) (sc := sc) (ai := ai) (aj := aj) hq hI htr
      simp only [q129_0, q129_1, q129_2, q129_5, q129_6, q129_7, q129_10, q129_11, q129_13, q129_16, q129_17, q129_18, q129_19, q129_22, q129_25, q129_26, q129_27, q129_28, q129_32, q129_35, q129_36, q129_37, q129_38, q129_39, q129_41, q129_44, q129_45, q129_48, q129_49, q129_51, q129_52, q129_53, q129_56, q129_57, q129_58, q129_59, q129_60, q129_61, q129_62, q129_63, q129_64, q129_65, q129_66, q129_67, q129_70, q129_71, q129_72, q129_73, q129_74, q129_75, q129_76, q129_77, q129_78, q129_79, q129_82, q129_83, q129_84, q129_85, q129_86, q129_87, q129_88, q129_89, q129_90, ↓reduceIte, ax_bV_s, ax_bI_s, ax_bJ_s, ax_bA_s, ax_bH_s, ax_bR_s, ax_bR_n, oo_114, gf114_0, gf114_1, gf114_2, gf114_3, gf114_4, gf114_5, pf114_5, gf114_6, gf114_7, gf114_8, gf114_9, oo_119, gf119_0, gf119_1, pf119_1, gf119_2, pf119_2, oo_130, gf130_0, gf130_1, gf130_2, pf130_2, oo_134, gf134_0, gf134_1, pf134_1, gf134_2, pf134_2, gf134_3, pf134_3, gf134_4, gf134_5, pf134_5, gf134_6, gf134_7, gf134_8, gf134_9, pf134_9, gf134_10, gf134_11, gf134_12, gf134_13, gf134_14, gf134_15, gf134_16, gi120, pi120, li120, gi131, pi131, li131, gi132, pi132, li132, gi136, pi136, li136, gi138, pi138, li138, gi139, pi139, li139, gi140, pi140, li140, gi141, pi141, li141, gi142, pi142, li142, gi144, pi144, li144, gi145, pi145, li145, gj133, pj133, lj133, gj137, pj137, lj137, gj143, pj143, lj143, gj146, pj146, lj146, gA121, gAq, oo_s, gfs_0, gfs_1, gfs_2, pfs_0, pfs_1, gjs, ljs, pjs, oo_h, gfh_0, gfh_1, gfh_2, pfh_1, pfh_2, h126, sv_of c1, e1, c1', h21, h23, n_bn0]
      cases hc : may (Y q) (trn (Y q)) with
      | true =>
        rw [if_neg (by decide), tailc _ _ _ (by rw [upX_s]; exact (inv_sit hI htr).1), upX_s, upX_u]
        simp [c1]
      | false =>
        rw [if_pos rfl, tailc Y _ _ hI]
        simp [c1]
    · simp only [q129_0, q129_1, q129_2, q129_5, q129_6, q129_7, q129_10, q129_11, q129_13, ↓reduceIte, ax_bV_s, ax_bI_s, ax_bJ_s, ax_bA_s, ax_bH_s, ax_bR_s, ax_bR_n, oo_114, gf114_0, gf114_1, gf114_2, gf114_3, gf114_4, gf114_5, pf114_5, gf114_6, gf114_7, gf114_8, gf114_9, oo_119, gf119_0, gf119_1, pf119_1, gf119_2, pf119_2, oo_130, gf130_0, gf130_1, gf130_2, pf130_2, oo_134, gf134_0, gf134_1, pf134_1, gf134_2, pf134_2, gf134_3, pf134_3, gf134_4, gf134_5, pf134_5, gf134_6, gf134_7, gf134_8, gf134_9, pf134_9, gf134_10, gf134_11, gf134_12, gf134_13, gf134_14, gf134_15, gf134_16, gi120, pi120, li120, gi131, pi131, li131, gi132, pi132, li132, gi136, pi136, li136, gi138, pi138, li138, gi139, pi139, li139, gi140, pi140, li140, gi141, pi141, li141, gi142, pi142, li142, gi144, pi144, li144, gi145, pi145, li145, gj133, pj133, lj133, gj137, pj137, lj137, gj143, pj143, lj143, gj146, pj146, lj146, gA121, gAq, oo_s, gfs_0, gfs_1, gfs_2, pfs_0, pfs_1, gjs, ljs, pjs, oo_h, gfh_0, gfh_1, gfh_2, pfh_1, pfh_2, h126, e1, sv_n4, c1, not_false_eq_true]
      rw [tailc Y _ _ hI]
      simp [c1]
/-- passes -/
theorem r130 (hq : q < 20) (hI : Inv (Y q)) (hm : Y q 1 < 20000) : ax_res 130 0 [some (.ref 134), some (.int (nI (36 * q)))] [] (hp X Y sc ai aj) = some (none, hp X (upX Y q (pas (Y q) false)) sc ai aj) := by
  have h := r129 (X := X) (Y := Y) (sc := sc) (ai := ai) (aj := aj) (mb := false) hq hI hm
  simp only [q130_0, q130_1, q130_2, q130_3, q130_6, ↓reduceIte, ax_bV_s, ax_bI_s, ax_bJ_s, ax_bA_s, ax_bH_s, ax_bR_s, ax_bR_n, oo_114, gf114_0, gf114_1, gf114_2, gf114_3, gf114_4, gf114_5, pf114_5, gf114_6, gf114_7, gf114_8, gf114_9, oo_119, gf119_0, gf119_1, pf119_1, gf119_2, pf119_2, oo_130, gf130_0, gf130_1, gf130_2, pf130_2, oo_134, gf134_0, gf134_1, pf134_1, gf134_2, pf134_2, gf134_3, pf134_3, gf134_4, gf134_5, pf134_5, gf134_6, gf134_7, gf134_8, gf134_9, pf134_9, gf134_10, gf134_11, gf134_12, gf134_13, gf134_14, gf134_15, gf134_16, gi120, pi120, li120, gi131, pi131, li131, gi132, pi132, li132, gi136, pi136, li136, gi138, pi138, li138, gi139, pi139, li139, gi140, pi140, li140, gi141, pi141, li141, gi142, pi142, li142, gi144, pi144, li144, gi145, pi145, li145, gj133, pj133, lj133, gj137, pj137, lj137, gj143, pj143, lj143, gj146, pj146, lj146, gA121, gAq, oo_s, gfs_0, gfs_1, gfs_2, pfs_0, pfs_1, gjs, ljs, pjs, oo_h, gfh_0, gfh_1, gfh_2, pfh_1, pfh_2, show nI 0 = nI (bn false) from rfl, h]
theorem r130_1 (hI : Inv (Y 1)) (hm : Y 1 1 < 20000) : ax_res 130 0 [some (.ref 134), some (.int (nI 36))] [] (hp X Y sc ai aj) = some (none, hp X (upX Y 1 (pas (Y 1) false)) sc ai aj) := r130 (q := 1) (by decide) hI hm
theorem r130_0 (hI : Inv (Y 0)) (hm : Y 0 1 < 20000) : ax_res 130 0 [some (.ref 134), some (.int (nI 0))] [] (hp X Y sc ai aj) = some (none, hp X (upX Y 0 (pas (Y 0) false)) sc ai aj) := r130 (q := 0) (by decide) hI hm
/-- goesOn -/
theorem r143_l (n : Nat) : ∀ (Y : Nat → Nat → Nat) (i k : Nat), i + n = k → k < 2 ^ 31 → Inv (Y 1) → Y 1 1 + n < 20000 → ax_res 143 2 [some (.ref 134), some (.int (nI k)), some (.int (nI i))] [] (hp X Y sc ai aj) = some (none, hp X (upX Y 1 (pasN n (Y 1))) sc ai aj) := by
  induction n with
  | zero =>
    intro Y i k hi hk hI hm
    simp only [q143_0, q143_1, q143_2, q143_3, q143_4, q143_7, q143_8, q143_10, q143_13, q143_16, q143_19, ↓reduceIte, ax_bV_s, ax_bI_s, ax_bJ_s, ax_bA_s, ax_bH_s, ax_bR_s, ax_bR_n, n_le (show k < 2 ^ 31 by omega) (show i < 2 ^ 31 by omega), show k ≤ i by omega, pasN, upX_i]
  | succ n ih =>
    intro Y i k hi hk hI hm
    have h26 := r130_1 (X := X) (Y := Y) (sc := sc) (ai := ai) (aj := aj) hI (by omega)
    obtain ⟨g1, g2, g3⟩ := inv_pas (m := false) hI
    have e := ih (upX Y 1 (pas (Y 1) false)) (i + 1) k (by omega) hk (by rw [upX_s]; exact g1) (by rw [upX_s, g3]; omega)
    rw [upX_s, upX_u] at e
    rw [q143_2]
    simp only [q143_0, q143_1, q143_3, q143_4, q143_7, q143_8, q143_10, q143_13, q143_16, q143_19, ↓reduceIte, ax_bV_s, ax_bI_s, ax_bJ_s, ax_bA_s, ax_bH_s, ax_bR_s, ax_bR_n, oo_114, gf114_0, gf114_1, gf114_2, gf114_3, gf114_4, gf114_5, pf114_5, gf114_6, gf114_7, gf114_8, gf114_9, oo_119, gf119_0, gf119_1, pf119_1, gf119_2, pf119_2, oo_130, gf130_0, gf130_1, gf130_2, pf130_2, oo_134, gf134_0, gf134_1, pf134_1, gf134_2, pf134_2, gf134_3, pf134_3, gf134_4, gf134_5, pf134_5, gf134_6, gf134_7, gf134_8, gf134_9, pf134_9, gf134_10, gf134_11, gf134_12, gf134_13, gf134_14, gf134_15, gf134_16, gi120, pi120, li120, gi131, pi131, li131, gi132, pi132, li132, gi136, pi136, li136, gi138, pi138, li138, gi139, pi139, li139, gi140, pi140, li140, gi141, pi141, li141, gi142, pi142, li142, gi144, pi144, li144, gi145, pi145, li145, gj133, pj133, lj133, gj137, pj137, lj137, gj143, pj143, lj143, gj146, pj146, lj146, gA121, gAq, oo_s, gfs_0, gfs_1, gfs_2, pfs_0, pfs_1, gjs, ljs, pjs, oo_h, gfh_0, gfh_1, gfh_2, pfh_1, pfh_2, n_le (show k < 2 ^ 31 by omega) (show i < 2 ^ 31 by omega), show ¬ k ≤ i by omega, h26, nI_add, e, pasN]
theorem r143 {n : Nat} (hI : Inv (Y 1)) (hm : Y 1 1 + n < 20000) : ax_res 143 0 [some (.ref 134), some (.int (nI n)), none] [] (hp X Y sc ai aj) = some (none, hp X (upX Y 1 (pasN n (Y 1))) sc ai aj) := by
  have e := r143_l (X := X) (sc := sc) (ai := ai) (aj := aj) n Y 0 n (by omega) (by omega) hI hm
  simp only [q143_0, q143_1, e]
/-- copyAll -/
def cpw (Y : Nat → Nat → Nat) (a b k : Nat) : Nat → Nat → Nat := fun q c => if c < 36 ∧ 36 * b ≤ 36 * q + c ∧ 36 * q + c < 36 * b + k then Y (q + a - b) c else Y q c
theorem r107_l (n : Nat) : ∀ (k a b m : Nat), k + n = 36 * m → a + m ≤ 20 → b + m ≤ 20 → (a + m ≤ b ∨ b + m ≤ a) → ax_res 107 3 [some (.ref 134), some (.int (nI (36 * a))), some (.int (nI (36 * b))), some (.int (nI (36 * m))), some (.int (nI k))] [] (hp X (cpw Y a b k) sc ai aj) = some (none, hp X (cpw Y a b (36 * m)) sc ai aj) := by
  induction n with
  | zero =>
    intro k a b m hk ha hb hd
    have e : k = 36 * m := by omega
    subst e
    simp only [q107_0, q107_1, q107_3, q107_5, q107_6, q107_9, q107_10, q107_13, q107_14, q107_16, q107_17, q107_18, q107_21, q107_22, q107_24, q107_25, q107_26, q107_27, q107_30, q107_33, ↓reduceIte, ax_bV_s, ax_bI_s, ax_bJ_s, ax_bA_s, ax_bH_s, ax_bR_s, ax_bR_n, n_le (show 36 * m < 2 ^ 31 by omega) (show 36 * m < 2 ^ 31 by omega), Nat.le_refl]
  | succ n ih =>
    intro k a b m hk ha hb hd
    have e := ih (k + 1) a b m (by omega) ha hb hd
    have g := gw (X := X) (Y := cpw Y a b k) (sc := sc) (ai := ai) (aj := aj) (q := a + k / 36) (c := k % 36) (n := 36 * a + k) (by omega) (by omega) (by omega)
    have ev : cpw Y a b k (a + k / 36) (k % 36) = Y (a + k / 36) (k % 36) := by unfold cpw; rw [if_neg (by omega)]
    rw [ev] at g
    have p := pw (X := X) (Y := cpw Y a b k) (sc := sc) (ai := ai) (aj := aj) (q := b + k / 36) (c := k % 36) (n := 36 * b + k) (v := Y (a + k / 36) (k % 36)) (by omega) (by omega) (by omega) rfl
    have ey : upX (cpw Y a b k) (b + k / 36) (up1 (cpw Y a b k (b + k / 36)) (k % 36) (Y (a + k / 36) (k % 36))) = cpw Y a b (k + 1) := by
      funext q c
      unfold upX up1 cpw
      by_cases h1 : q = b + k / 36
      · subst h1
        rw [if_pos rfl]
        by_cases h2 : c = k % 36
        · subst h2
          rw [if_pos rfl, if_pos (by omega)]
          congr 1; omega
        · rw [if_neg h2]
          by_cases h3 : c < 36 ∧ 36 * b ≤ 36 * (b + k / 36) + c ∧ 36 * (b + k / 36) + c < 36 * b + k
          · rw [if_pos h3, if_pos (by omega)]
          · rw [if_neg h3, if_neg (by omega)]
      · rw [if_neg h1]
        by_cases h3 : c < 36 ∧ 36 * b ≤ 36 * q + c ∧ 36 * q + c < 36 * b + k
        · rw [if_pos h3, if_pos (by omega)]
        · rw [if_neg h3, if_neg (by omega)]
    rw [ey] at p
    rw [q107_3]
    simp only [q107_0, q107_1, q107_5, q107_6, q107_9, q107_10, q107_13, q107_14, q107_16, q107_17, q107_18, q107_21, q107_22, q107_24, q107_25, q107_26, q107_27, q107_30, q107_33, ↓reduceIte, ax_bV_s, ax_bI_s, ax_bJ_s, ax_bA_s, ax_bH_s, ax_bR_s, ax_bR_n, oo_114, gf114_0, gf114_1, gf114_2, gf114_3, gf114_4, gf114_5, pf114_5, gf114_6, gf114_7, gf114_8, gf114_9, oo_119, gf119_0, gf119_1, pf119_1, gf119_2, pf119_2, oo_130, gf130_0, gf130_1, gf130_2, pf130_2, oo_134, gf134_0, gf134_1, pf134_1, gf134_2, pf134_2, gf134_3, pf134_3, gf134_4, gf134_5, pf134_5, gf134_6, gf134_7, gf134_8, gf134_9, pf134_9, gf134_10, gf134_11, gf134_12, gf134_13, gf134_14, gf134_15, gf134_16, gi120, pi120, li120, gi131, pi131, li131, gi132, pi132, li132, gi136, pi136, li136, gi138, pi138, li138, gi139, pi139, li139, gi140, pi140, li140, gi141, pi141, li141, gi142, pi142, li142, gi144, pi144, li144, gi145, pi145, li145, gj133, pj133, lj133, gj137, pj137, lj137, gj143, pj143, lj143, gj146, pj146, lj146, gA121, gAq, oo_s, gfs_0, gfs_1, gfs_2, pfs_0, pfs_1, gjs, ljs, pjs, oo_h, gfh_0, gfh_1, gfh_2, pfh_1, pfh_2, n_le (show 36 * m < 2 ^ 31 by omega) (show k < 2 ^ 31 by omega), show ¬ 36 * m ≤ k by omega, nI_add, g, p, e]
def cpY (Y : Nat → Nat → Nat) (a b m : Nat) : Nat → Nat → Nat := fun q => if b ≤ q ∧ q < b + m then Y (q + a - b) else Y q
theorem r107 {a b m : Nat} (ha : a + m ≤ 20) (hb : b + m ≤ 20) (hd : a + m ≤ b ∨ b + m ≤ a) : ax_res 107 0 [some (.ref 134), some (.int (nI (36 * a))), some (.int (nI (36 * b))), some (.int (nI (36 * m))), none] [] (hp X Y sc ai aj) = some (none, hp X (cpY Y a b m) sc ai aj) := by
  have e := r107_l (X := X) (Y := Y) (sc := sc) (ai := ai) (aj := aj) (36 * m) 0 a b m (by omega) ha hb hd
  have e0 : cpw Y a b 0 = Y := by funext q c; unfold cpw; rw [if_neg (by omega)]
  rw [e0] at e
  simp only [q107_0, q107_1, e]
  congr 2
  refine hp_extY (fun q c hc => ?_)
  unfold cpw cpY
  by_cases h : b ≤ q ∧ q < b + m
  · rw [if_pos (by omega), if_pos h]
  · rw [if_neg (by omega), if_neg h]
/-- tries -/
theorem r142 : ax_res 142 0 [some (.ref 134)] [] (hp X Y sc ai aj) = some (none, hp X (upX Y 1 (Y 0)) sc ai aj) := by
  have h := r107 (X := X) (Y := Y) (sc := sc) (ai := ai) (aj := aj) (a := 0) (b := 1) (m := 1) (by decide) (by decide) (by decide)
  have e : cpY Y 0 1 1 = upX Y 1 (Y 0) := by
    funext q; unfold cpY upX
    by_cases h : q = 1
    · subst h; rfl
    · rw [if_neg (by omega), if_neg h]
  rw [e] at h
  simp only [q142_0, q142_1, q142_2, q142_4, q142_6, q142_9, ↓reduceIte, ax_bV_s, ax_bI_s, ax_bJ_s, ax_bA_s, ax_bH_s, ax_bR_s, ax_bR_n, oo_114, gf114_0, gf114_1, gf114_2, gf114_3, gf114_4, gf114_5, pf114_5, gf114_6, gf114_7, gf114_8, gf114_9, oo_119, gf119_0, gf119_1, pf119_1, gf119_2, pf119_2, oo_130, gf130_0, gf130_1, gf130_2, pf130_2, oo_134, gf134_0, gf134_1, pf134_1, gf134_2, pf134_2, gf134_3, pf134_3, gf134_4, gf134_5, pf134_5, gf134_6, gf134_7, gf134_8, gf134_9, pf134_9, gf134_10, gf134_11, gf134_12, gf134_13, gf134_14, gf134_15, gf134_16, gi120, pi120, li120, gi131, pi131, li131, gi132, pi132, li132, gi136, pi136, li136, gi138, pi138, li138, gi139, pi139, li139, gi140, pi140, li140, gi141, pi141, li141, gi142, pi142, li142, gi144, pi144, li144, gi145, pi145, li145, gj133, pj133, lj133, gj137, pj137, lj137, gj143, pj143, lj143, gj146, pj146, lj146, gA121, gAq, oo_s, gfs_0, gfs_1, gfs_2, pfs_0, pfs_1, gjs, ljs, pjs, oo_h, gfh_0, gfh_1, gfh_2, pfh_1, pfh_2, show nI 0 = nI (36 * 0) from rfl, show nI 36 = nI (36 * 1) from rfl, h]
/-- ones -/
theorem r106_l (n : Nat) : ∀ (k acc a : Nat) (h : ax_H), k + n = 6 → a < 64 → ax_res 106 4 [some (.int (nI a)), some (.int (nI acc)), some (.int (nI k))] [] h = some (some (.int (nI (popL a k n acc))), h) := by
  induction n with
  | zero =>
    intro k acc a h hk ha
    simp only [q106_0, q106_1, q106_2, q106_3, q106_4, q106_5, q106_7, q106_10, q106_11, q106_12, q106_13, q106_14, q106_15, q106_16, q106_17, q106_18, q106_21, q106_24, q106_25, ↓reduceIte, ax_bV_s, ax_bI_s, ax_bJ_s, ax_bA_s, ax_bH_s, ax_bR_s, ax_bR_n, n_le (show 6 < 2 ^ 31 by decide) (show k < 2 ^ 31 by omega), show 6 ≤ k by omega, popL]
  | succ n ih =>
    intro k acc a h hk ha
    have e := ih (k + 1) (acc + bt a k) a h (by omega) ha
    rw [q106_4]
    simp only [q106_0, q106_1, q106_2, q106_3, q106_5, q106_7, q106_10, q106_11, q106_12, q106_13, q106_14, q106_15, q106_16, q106_17, q106_18, q106_21, q106_24, q106_25, ↓reduceIte, ax_bV_s, ax_bI_s, ax_bJ_s, ax_bA_s, ax_bH_s, ax_bR_s, ax_bR_n, n_le (show 6 < 2 ^ 31 by decide) (show k < 2 ^ 31 by omega), show ¬ 6 ≤ k by omega, n_bit (show a < 2 ^ 31 by omega) (show k < 32 by omega), nI_add, e, popL]
theorem r106 {a : Nat} (ha : a < 64) (h : ax_H) : ax_res 106 0 [some (.int (nI a)), none, none] [] h = some (some (.int (nI (pop a))), h) := by
  have e := r106_l 6 0 0 a h (by omega) ha
  rw [popL_ok a ha] at e
  simp only [q106_0, q106_1, q106_2, q106_3, e]
/-- allTricks -/
theorem r115_l (n : Nat) : ∀ (i acc : Nat), i + n = Y q 0 → q < 20 → Inv (Y q) → ax_res 115 4 [some (.ref 134), some (.int (nI (36 * q))), some (.int (nI acc)), some (.int (nI i))] [] (hp X Y sc ai aj) = some (some (.int (nI (acc + ones_ (Y q) i n))), hp X Y sc ai aj) := by
  induction n with
  | zero =>
    intro i acc hi hq hI
    have h0 := hI.1
    simp only [q115_0, q115_1, q115_2, q115_3, q115_4, q115_5, q115_6, q115_9, q115_10, q115_11, q115_12, q115_13, q115_16, q115_17, q115_18, q115_21, q115_22, q115_24, q115_25, q115_26, q115_27, q115_28, q115_31, q115_32, q115_33, q115_36, q115_39, q115_40, ↓reduceIte, ax_bV_s, ax_bI_s, ax_bJ_s, ax_bA_s, ax_bH_s, ax_bR_s, ax_bR_n, gwq_0, gwq_1, gwq_2, gwq_3, gwq_4, gwq_5, gwqT, gwqS, gwqP, gwqK, gwqZ, gw0_0, gw0_1, gw0_2, gw0_3, gw0_4, gw0_5, gw0T, gw0S, gw0P, gw0K, gw0Z, gw1_0, gw1_1, gw1_2, gw1_3, gw1_4, gw1_5, gw1T, gw1S, gw1P, gw1K, gw1Z, oo_114, gf114_0, gf114_1, gf114_2, gf114_3, gf114_4, gf114_5, pf114_5, gf114_6, gf114_7, gf114_8, gf114_9, oo_119, gf119_0, gf119_1, pf119_1, gf119_2, pf119_2, oo_130, gf130_0, gf130_1, gf130_2, pf130_2, oo_134, gf134_0, gf134_1, pf134_1, gf134_2, pf134_2, gf134_3, pf134_3, gf134_4, gf134_5, pf134_5, gf134_6, gf134_7, gf134_8, gf134_9, pf134_9, gf134_10, gf134_11, gf134_12, gf134_13, gf134_14, gf134_15, gf134_16, gi120, pi120, li120, gi131, pi131, li131, gi132, pi132, li132, gi136, pi136, li136, gi138, pi138, li138, gi139, pi139, li139, gi140, pi140, li140, gi141, pi141, li141, gi142, pi142, li142, gi144, pi144, li144, gi145, pi145, li145, gj133, pj133, lj133, gj137, pj137, lj137, gj143, pj143, lj143, gj146, pj146, lj146, gA121, gAq, oo_s, gfs_0, gfs_1, gfs_2, pfs_0, pfs_1, gjs, ljs, pjs, oo_h, gfh_0, gfh_1, gfh_2, pfh_1, pfh_2, hq, nI_add, n_le (show Y q 0 < 2 ^ 31 by omega) (show i < 2 ^ 31 by omega), show Y q 0 ≤ i by omega, ones_]
    rfl
  | succ n ih =>
    intro i acc hi hq hI
    have h0 := hI.1
    have h5 := hI.2.2.2.2.2 i (by omega)
    have e := ih (i + 1) (acc + pop (Y q (6 + i))) (by omega) hq hI
    rw [q115_4]
    simp only [q115_0, q115_1, q115_2, q115_3, q115_5, q115_6, q115_9, q115_10, q115_11, q115_12, q115_13, q115_16, q115_17, q115_18, q115_21, q115_22, q115_24, q115_25, q115_26, q115_27, q115_28, q115_31, q115_32, q115_33, q115_36, q115_39, q115_40, ↓reduceIte, ax_bV_s, ax_bI_s, ax_bJ_s, ax_bA_s, ax_bH_s, ax_bR_s, ax_bR_n, gwq_0, gwq_1, gwq_2, gwq_3, gwq_4, gwq_5, gwqT, gwqS, gwqP, gwqK, gwqZ, gw0_0, gw0_1, gw0_2, gw0_3, gw0_4, gw0_5, gw0T, gw0S, gw0P, gw0K, gw0Z, gw1_0, gw1_1, gw1_2, gw1_3, gw1_4, gw1_5, gw1T, gw1S, gw1P, gw1K, gw1Z, oo_114, gf114_0, gf114_1, gf114_2, gf114_3, gf114_4, gf114_5, pf114_5, gf114_6, gf114_7, gf114_8, gf114_9, oo_119, gf119_0, gf119_1, pf119_1, gf119_2, pf119_2, oo_130, gf130_0, gf130_1, gf130_2, pf130_2, oo_134, gf134_0, gf134_1, pf134_1, gf134_2, pf134_2, gf134_3, pf134_3, gf134_4, gf134_5, pf134_5, gf134_6, gf134_7, gf134_8, gf134_9, pf134_9, gf134_10, gf134_11, gf134_12, gf134_13, gf134_14, gf134_15, gf134_16, gi120, pi120, li120, gi131, pi131, li131, gi132, pi132, li132, gi136, pi136, li136, gi138, pi138, li138, gi139, pi139, li139, gi140, pi140, li140, gi141, pi141, li141, gi142, pi142, li142, gi144, pi144, li144, gi145, pi145, li145, gj133, pj133, lj133, gj137, pj137, lj137, gj143, pj143, lj143, gj146, pj146, lj146, gA121, gAq, oo_s, gfs_0, gfs_1, gfs_2, pfs_0, pfs_1, gjs, ljs, pjs, oo_h, gfh_0, gfh_1, gfh_2, pfh_1, pfh_2, hq, nI_add, n_le (show Y q 0 < 2 ^ 31 by omega) (show i < 2 ^ 31 by omega), show ¬ Y q 0 ≤ i by omega, show i < 6 by omega, r106 (show Y q (6 + i) < 64 by omega), e, ones_]
    rw [Nat.add_assoc]
theorem r115 (hq : q < 20) (hI : Inv (Y q)) : ax_res 115 0 [some (.ref 134), some (.int (nI (36 * q))), none, none] [] (hp X Y sc ai aj) = some (some (.int (nI (ones_ (Y q) 0 (Y q 0)))), hp X Y sc ai aj) := by
  have e := r115_l (X := X) (Y := Y) (sc := sc) (ai := ai) (aj := aj) (q := q) (Y q 0) 0 0 (by omega) hq hI
  rw [Nat.zero_add] at e
  simp only [q115_0, q115_1, q115_2, q115_3, e]
/-- placeOf -/
theorem r111_l (n : Nat) : ∀ (i b : Nat), i + n = Y 0 0 → Inv (Y 0) → b < 6 → ax_res 111 2 [some (.ref 134), some (.int (nI b)), some (.int (nI i))] [] (hp X Y sc ai aj) = some (some (.int (sv (plc (Y 0) b i n))), hp X Y sc ai aj) := by
  induction n with
  | zero =>
    intro i b hi hI hb
    have h0 := hI.1
    simp only [q111_0, q111_1, q111_2, q111_3, q111_4, q111_7, q111_8, q111_9, q111_12, q111_13, q111_16, q111_18, q111_19, q111_20, q111_21, q111_22, q111_25, q111_26, q111_27, q111_30, q111_33, q111_35, ↓reduceIte, ax_bV_s, ax_bI_s, ax_bJ_s, ax_bA_s, ax_bH_s, ax_bR_s, ax_bR_n, gwq_0, gwq_1, gwq_2, gwq_3, gwq_4, gwq_5, gwqT, gwqS, gwqP, gwqK, gwqZ, gw0_0, gw0_1, gw0_2, gw0_3, gw0_4, gw0_5, gw0T, gw0S, gw0P, gw0K, gw0Z, gw1_0, gw1_1, gw1_2, gw1_3, gw1_4, gw1_5, gw1T, gw1S, gw1P, gw1K, gw1Z, oo_114, gf114_0, gf114_1, gf114_2, gf114_3, gf114_4, gf114_5, pf114_5, gf114_6, gf114_7, gf114_8, gf114_9, oo_119, gf119_0, gf119_1, pf119_1, gf119_2, pf119_2, oo_130, gf130_0, gf130_1, gf130_2, pf130_2, oo_134, gf134_0, gf134_1, pf134_1, gf134_2, pf134_2, gf134_3, pf134_3, gf134_4, gf134_5, pf134_5, gf134_6, gf134_7, gf134_8, gf134_9, pf134_9, gf134_10, gf134_11, gf134_12, gf134_13, gf134_14, gf134_15, gf134_16, gi120, pi120, li120, gi131, pi131, li131, gi132, pi132, li132, gi136, pi136, li136, gi138, pi138, li138, gi139, pi139, li139, gi140, pi140, li140, gi141, pi141, li141, gi142, pi142, li142, gi144, pi144, li144, gi145, pi145, li145, gj133, pj133, lj133, gj137, pj137, lj137, gj143, pj143, lj143, gj146, pj146, lj146, gA121, gAq, oo_s, gfs_0, gfs_1, gfs_2, pfs_0, pfs_1, gjs, ljs, pjs, oo_h, gfh_0, gfh_1, gfh_2, pfh_1, pfh_2, n_le (show Y 0 0 < 2 ^ 31 by omega) (show i < 2 ^ 31 by omega), show Y 0 0 ≤ i by omega, plc]
    rfl
  | succ n ih =>
    intro i b hi hI hb
    have h0 := hI.1
    have h5 := hI.2.2.2.2.2 i (by omega)
    have e := ih (i + 1) b (by omega) hI hb
    rw [q111_2]
    simp only [q111_0, q111_1, q111_3, q111_4, q111_7, q111_8, q111_9, q111_12, q111_13, q111_16, q111_18, q111_19, q111_20, q111_21, q111_22, q111_25, q111_26, q111_27, q111_30, q111_33, q111_35, ↓reduceIte, ax_bV_s, ax_bI_s, ax_bJ_s, ax_bA_s, ax_bH_s, ax_bR_s, ax_bR_n, gwq_0, gwq_1, gwq_2, gwq_3, gwq_4, gwq_5, gwqT, gwqS, gwqP, gwqK, gwqZ, gw0_0, gw0_1, gw0_2, gw0_3, gw0_4, gw0_5, gw0T, gw0S, gw0P, gw0K, gw0Z, gw1_0, gw1_1, gw1_2, gw1_3, gw1_4, gw1_5, gw1T, gw1S, gw1P, gw1K, gw1Z, oo_114, gf114_0, gf114_1, gf114_2, gf114_3, gf114_4, gf114_5, pf114_5, gf114_6, gf114_7, gf114_8, gf114_9, oo_119, gf119_0, gf119_1, pf119_1, gf119_2, pf119_2, oo_130, gf130_0, gf130_1, gf130_2, pf130_2, oo_134, gf134_0, gf134_1, pf134_1, gf134_2, pf134_2, gf134_3, pf134_3, gf134_4, gf134_5, pf134_5, gf134_6, gf134_7, gf134_8, gf134_9, pf134_9, gf134_10, gf134_11, gf134_12, gf134_13, gf134_14, gf134_15, gf134_16, gi120, pi120, li120, gi131, pi131, li131, gi132, pi132, li132, gi136, pi136, li136, gi138, pi138, li138, gi139, pi139, li139, gi140, pi140, li140, gi141, pi141, li141, gi142, pi142, li142, gi144, pi144, li144, gi145, pi145, li145, gj133, pj133, lj133, gj137, pj137, lj137, gj143, pj143, lj143, gj146, pj146, lj146, gA121, gAq, oo_s, gfs_0, gfs_1, gfs_2, pfs_0, pfs_1, gjs, ljs, pjs, oo_h, gfh_0, gfh_1, gfh_2, pfh_1, pfh_2, n_le (show Y 0 0 < 2 ^ 31 by omega) (show i < 2 ^ 31 by omega), show ¬ Y 0 0 ≤ i by omega, nI_add, show i < 6 by omega, n_eq (show Y 0 (18 + i) < 2 ^ 31 by omega) (show b < 2 ^ 31 by omega), e, plc]
    by_cases c : Y 0 (18 + i) = b
    · rw [if_pos c, if_pos c, sv_of (by omega)]
    · rw [if_neg c, if_neg c]
theorem r111 {b : Nat} (hI : Inv (Y 0)) (hb : b < 6) : ax_res 111 0 [some (.ref 134), some (.int (nI b)), none] [] (hp X Y sc ai aj) = some (some (.int (sv (plc (Y 0) b 0 (Y 0 0)))), hp X Y sc ai aj) := by
  have e := r111_l (X := X) (Y := Y) (sc := sc) (ai := ai) (aj := aj) (Y 0 0) 0 b (by omega) hI hb
  simp only [q111_0, q111_1, e]
/-- empties, sendsOne -/
theorem r135 (hq : q < 20) : ax_res 135 0 [some (.ref 134), some (.int (nI (36 * q)))] [] (hp X Y sc ai aj) = some (none, hp X (upX Y q (emp (Y q))) sc ai aj) := by
  simp only [q135_0, q135_1, q135_4, q135_5, q135_6, q135_7, q135_9, q135_10, q135_11, q135_14, q135_15, q135_16, q135_17, q135_18, q135_19, ↓reduceIte, ax_bV_s, ax_bI_s, ax_bJ_s, ax_bA_s, ax_bH_s, ax_bR_s, ax_bR_n, pwq_0, pwq_1, pwq_2, pwq_2n, pwq_3, pwq_4, pwq_5, pwqT, pwqS, pwqP, pwqK, pwqZ, pw0_0, pw0_1, pw0_2, pw0_2n, pw0_3, pw0_4, pw0_5, pw0T, pw0S, pw0P, pw0K, pw0Z, pw1_0, pw1_1, pw1_2, pw1_2n, pw1_3, pw1_4, pw1_5, pw1T, pw1S, pw1P, pw1K, pw1Z, oo_114, gf114_0, gf114_1, gf114_2, gf114_3, gf114_4, gf114_5, pf114_5, gf114_6, gf114_7, gf114_8, gf114_9, oo_119, gf119_0, gf119_1, pf119_1, gf119_2, pf119_2, oo_130, gf130_0, gf130_1, gf130_2, pf130_2, oo_134, gf134_0, gf134_1, pf134_1, gf134_2, pf134_2, gf134_3, pf134_3, gf134_4, gf134_5, pf134_5, gf134_6, gf134_7, gf134_8, gf134_9, pf134_9, gf134_10, gf134_11, gf134_12, gf134_13, gf134_14, gf134_15, gf134_16, gi120, pi120, li120, gi131, pi131, li131, gi132, pi132, li132, gi136, pi136, li136, gi138, pi138, li138, gi139, pi139, li139, gi140, pi140, li140, gi141, pi141, li141, gi142, pi142, li142, gi144, pi144, li144, gi145, pi145, li145, gj133, pj133, lj133, gj137, pj137, lj137, gj143, pj143, lj143, gj146, pj146, lj146, gA121, gAq, oo_s, gfs_0, gfs_1, gfs_2, pfs_0, pfs_1, gjs, ljs, pjs, oo_h, gfh_0, gfh_1, gfh_2, pfh_1, pfh_2, hq, nI_add, upX_s, upX_u]
  rfl
theorem r136 {b : Nat} (hq : q < 20) (hb : b < 6) (h4 : Y q 4 < 64) : ax_res 136 0 [some (.ref 134), some (.int (nI (36 * q))), some (.int (nI b))] [] (hp X Y sc ai aj) = some (none, hp X (upX Y q (snd (Y q) b)) sc ai aj) := by
  unfold snd
  by_cases c : Y q 2 = b
  · simp only [q136_0, q136_1, q136_4, q136_5, q136_6, q136_7, q136_8, q136_9, q136_10, q136_11, q136_12, q136_13, q136_14, q136_15, q136_16, q136_17, q136_20, q136_21, q136_22, q136_23, q136_24, q136_25, q136_28, q136_29, q136_30, q136_33, ↓reduceIte, ax_bV_s, ax_bI_s, ax_bJ_s, ax_bA_s, ax_bH_s, ax_bR_s, ax_bR_n, gwq_0, gwq_1, gwq_2, gwq_3, gwq_4, gwq_5, gwqT, gwqS, gwqP, gwqK, gwqZ, gw0_0, gw0_1, gw0_2, gw0_3, gw0_4, gw0_5, gw0T, gw0S, gw0P, gw0K, gw0Z, gw1_0, gw1_1, gw1_2, gw1_3, gw1_4, gw1_5, gw1T, gw1S, gw1P, gw1K, gw1Z, pwq_0, pwq_1, pwq_2, pwq_2n, pwq_3, pwq_4, pwq_5, pwqT, pwqS, pwqP, pwqK, pwqZ, pw0_0, pw0_1, pw0_2, pw0_2n, pw0_3, pw0_4, pw0_5, pw0T, pw0S, pw0P, pw0K, pw0Z, pw1_0, pw1_1, pw1_2, pw1_2n, pw1_3, pw1_4, pw1_5, pw1T, pw1S, pw1P, pw1K, pw1Z, oo_114, gf114_0, gf114_1, gf114_2, gf114_3, gf114_4, gf114_5, pf114_5, gf114_6, gf114_7, gf114_8, gf114_9, oo_119, gf119_0, gf119_1, pf119_1, gf119_2, pf119_2, oo_130, gf130_0, gf130_1, gf130_2, pf130_2, oo_134, gf134_0, gf134_1, pf134_1, gf134_2, pf134_2, gf134_3, pf134_3, gf134_4, gf134_5, pf134_5, gf134_6, gf134_7, gf134_8, gf134_9, pf134_9, gf134_10, gf134_11, gf134_12, gf134_13, gf134_14, gf134_15, gf134_16, gi120, pi120, li120, gi131, pi131, li131, gi132, pi132, li132, gi136, pi136, li136, gi138, pi138, li138, gi139, pi139, li139, gi140, pi140, li140, gi141, pi141, li141, gi142, pi142, li142, gi144, pi144, li144, gi145, pi145, li145, gj133, pj133, lj133, gj137, pj137, lj137, gj143, pj143, lj143, gj146, pj146, lj146, gA121, gAq, oo_s, gfs_0, gfs_1, gfs_2, pfs_0, pfs_1, gjs, ljs, pjs, oo_h, gfh_0, gfh_1, gfh_2, pfh_1, pfh_2, hq, nI_add, r135 hq, n_1shl b (show b < 31 by omega), hom_S _ h4 b hb, upX_s, upX_u, up1_n (show ¬ 2 = 4 by decide), eq_true ((sv_eq hb).mpr c), if_pos c]
  · simp only [q136_0, q136_1, q136_4, q136_5, q136_6, q136_7, q136_8, q136_9, q136_10, q136_11, q136_12, q136_13, q136_14, q136_15, q136_16, q136_17, q136_20, q136_21, q136_22, q136_23, q136_24, q136_25, q136_28, q136_29, q136_30, q136_33, ↓reduceIte, ax_bV_s, ax_bI_s, ax_bJ_s, ax_bA_s, ax_bH_s, ax_bR_s, ax_bR_n, gwq_0, gwq_1, gwq_2, gwq_3, gwq_4, gwq_5, gwqT, gwqS, gwqP, gwqK, gwqZ, gw0_0, gw0_1, gw0_2, gw0_3, gw0_4, gw0_5, gw0T, gw0S, gw0P, gw0K, gw0Z, gw1_0, gw1_1, gw1_2, gw1_3, gw1_4, gw1_5, gw1T, gw1S, gw1P, gw1K, gw1Z, pwq_0, pwq_1, pwq_2, pwq_2n, pwq_3, pwq_4, pwq_5, pwqT, pwqS, pwqP, pwqK, pwqZ, pw0_0, pw0_1, pw0_2, pw0_2n, pw0_3, pw0_4, pw0_5, pw0T, pw0S, pw0P, pw0K, pw0Z, pw1_0, pw1_1, pw1_2, pw1_2n, pw1_3, pw1_4, pw1_5, pw1T, pw1S, pw1P, pw1K, pw1Z, oo_114, gf114_0, gf114_1, gf114_2, gf114_3, gf114_4, gf114_5, pf114_5, gf114_6, gf114_7, gf114_8, gf114_9, oo_119, gf119_0, gf119_1, pf119_1, gf119_2, pf119_2, oo_130, gf130_0, gf130_1, gf130_2, pf130_2, oo_134, gf134_0, gf134_1, pf134_1, gf134_2, pf134_2, gf134_3, pf134_3, gf134_4, gf134_5, pf134_5, gf134_6, gf134_7, gf134_8, gf134_9, pf134_9, gf134_10, gf134_11, gf134_12, gf134_13, gf134_14, gf134_15, gf134_16, gi120, pi120, li120, gi131, pi131, li131, gi132, pi132, li132, gi136, pi136, li136, gi138, pi138, li138, gi139, pi139, li139, gi140, pi140, li140, gi141, pi141, li141, gi142, pi142, li142, gi144, pi144, li144, gi145, pi145, li145, gj133, pj133, lj133, gj137, pj137, lj137, gj143, pj143, lj143, gj146, pj146, lj146, gA121, gAq, oo_s, gfs_0, gfs_1, gfs_2, pfs_0, pfs_1, gjs, ljs, pjs, oo_h, gfh_0, gfh_1, gfh_2, pfh_1, pfh_2, hq, nI_add, n_1shl b (show b < 31 by omega), hom_S _ h4 b hb, upX_s, upX_u, up1_n (show ¬ 2 = 4 by decide), eq_false (fun e => c ((sv_eq hb).mp e)), if_neg c]
/-- adds -/
theorem r109 {k p t : Nat} (h0 : Y 0 0 < 6) : ax_res 109 0 [some (.ref 134), some (.int (nI k)), some (.int (nI p)), some (.int (nI t)), none] [] (hp X Y sc ai aj) = some (none, hp X (upX Y 0 (addb (Y 0) k p t)) (upS sc 134 1 (nI 0)) ai aj) := by
  simp only [q109_0, q109_1, q109_4, q109_5, q109_6, q109_8, q109_9, q109_12, q109_14, q109_16, q109_17, q109_18, q109_19, q109_20, q109_23, q109_25, q109_27, q109_28, q109_29, q109_30, q109_31, q109_34, q109_36, q109_38, q109_39, q109_40, q109_41, q109_42, q109_45, q109_47, q109_49, q109_50, q109_51, q109_52, q109_53, q109_56, q109_58, q109_60, q109_61, q109_63, q109_64, q109_65, q109_68, q109_69, q109_70, q109_71, q109_72, q109_74, q109_75, q109_76, q109_77, q109_78, q109_81, q109_82, q109_83, q109_84, q109_85, q109_86, q109_87, q109_88, q109_89, q109_92, ↓reduceIte, ax_bV_s, ax_bI_s, ax_bJ_s, ax_bA_s, ax_bH_s, ax_bR_s, ax_bR_n, gwq_0, gwq_1, gwq_2, gwq_3, gwq_4, gwq_5, gwqT, gwqS, gwqP, gwqK, gwqZ, gw0_0, gw0_1, gw0_2, gw0_3, gw0_4, gw0_5, gw0T, gw0S, gw0P, gw0K, gw0Z, gw1_0, gw1_1, gw1_2, gw1_3, gw1_4, gw1_5, gw1T, gw1S, gw1P, gw1K, gw1Z, pwq_0, pwq_1, pwq_2, pwq_2n, pwq_3, pwq_4, pwq_5, pwqT, pwqS, pwqP, pwqK, pwqZ, pw0_0, pw0_1, pw0_2, pw0_2n, pw0_3, pw0_4, pw0_5, pw0T, pw0S, pw0P, pw0K, pw0Z, pw1_0, pw1_1, pw1_2, pw1_2n, pw1_3, pw1_4, pw1_5, pw1T, pw1S, pw1P, pw1K, pw1Z, oo_114, gf114_0, gf114_1, gf114_2, gf114_3, gf114_4, gf114_5, pf114_5, gf114_6, gf114_7, gf114_8, gf114_9, oo_119, gf119_0, gf119_1, pf119_1, gf119_2, pf119_2, oo_130, gf130_0, gf130_1, gf130_2, pf130_2, oo_134, gf134_0, gf134_1, pf134_1, gf134_2, pf134_2, gf134_3, pf134_3, gf134_4, gf134_5, pf134_5, gf134_6, gf134_7, gf134_8, gf134_9, pf134_9, gf134_10, gf134_11, gf134_12, gf134_13, gf134_14, gf134_15, gf134_16, gi120, pi120, li120, gi131, pi131, li131, gi132, pi132, li132, gi136, pi136, li136, gi138, pi138, li138, gi139, pi139, li139, gi140, pi140, li140, gi141, pi141, li141, gi142, pi142, li142, gi144, pi144, li144, gi145, pi145, li145, gj133, pj133, lj133, gj137, pj137, lj137, gj143, pj143, lj143, gj146, pj146, lj146, gA121, gAq, oo_s, gfs_0, gfs_1, gfs_2, pfs_0, pfs_1, gjs, ljs, pjs, oo_h, gfh_0, gfh_1, gfh_2, pfh_1, pfh_2, nI_add, h0, n_1shl _ (show Y 0 0 < 31 by omega), n_or, upX_s, upX_u]
  simp [up1, addb, show ¬ 4 = 18 + Y 0 0 by omega, show ¬ 4 = 12 + Y 0 0 by omega, show ¬ 4 = 6 + Y 0 0 by omega, show ¬ 4 = 30 + Y 0 0 by omega, show ¬ 4 = 24 + Y 0 0 by omega, show ¬ 0 = 18 + Y 0 0 by omega, show ¬ 0 = 12 + Y 0 0 by omega, show ¬ 0 = 6 + Y 0 0 by omega, show ¬ 0 = 30 + Y 0 0 by omega, show ¬ 0 = 24 + Y 0 0 by omega]
end M2
