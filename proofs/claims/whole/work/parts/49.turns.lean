/-! ===== turns ===== -/
theorem pas_see (x : Nat → Nat) (m : Bool) : ∃ s, ∀ b, b < 6 → pas x m (12 + b) = if b = s then x (12 + b) + 1 else x (12 + b) := by
  have ht : ∀ y : Nat → Nat, (∀ b, b < 6 → y (12 + b) = x (12 + b)) → ∃ s, ∀ b, b < 6 → tick y (12 + b) = if b = s then x (12 + b) + 1 else x (12 + b) := by
    intro y hy
    by_cases c : y 2 < 6
    · refine ⟨y 2, fun b hb => ?_⟩
      rw [tick_at, if_neg (by omega), if_neg (by omega)]
      by_cases e : b = y 2
      · rw [if_pos ⟨by omega, c⟩, if_pos e, ← e, hy b hb]
      · rw [if_neg (by omega), if_neg e, hy b hb]
    · refine ⟨6, fun b hb => ?_⟩
      rw [tick_at, if_neg (by omega), if_neg (by omega), if_neg (by omega), if_neg (by omega), hy b hb]
  unfold pas
  split
  · rename_i hc
    simp only [Bool.and_eq_true, decide_eq_true_eq] at hc
    refine ht _ (fun b hb => ?_)
    rw [sit_at, if_neg (by omega), if_neg (by omega), if_neg (by omega)]
  · exact ht x (fun b _ => rfl)
theorem pasN_bd (n : Nat) : ∀ (x : Nat → Nat) (b : Nat), b < 6 → x (12 + b) ≤ pasN n x (12 + b) ∧ pasN n x (12 + b) ≤ x (12 + b) + n := by
  induction n with
  | zero => intro x b _; exact ⟨Nat.le_refl _, Nat.le_refl _⟩
  | succ n ih =>
    intro x b hb
    obtain ⟨s, hs⟩ := pas_see x false
    have h1 := ih (pas x false) b hb
    have h2 := hs b hb
    rw [show pasN (n + 1) x = pasN n (pas x false) from rfl]
    split at h2 <;> omega
theorem Ag.symm' {x y : Nat → Nat} (h : Ag x y) : Ag y x := by
  intro i hi h2
  rw [← h.lo (show 0 < 6 by decide)] at h2
  exact (h i hi h2).symm
theorem fgt_0 {x : Nat → Nat} : fgt x 0 = x 0 := if_neg (by omega)
theorem fgt_1 {x : Nat → Nat} : fgt x 1 = x 1 := if_neg (by omega)
/-- a house, seen by nobody yet, where a deal is played -/
def dlh (x : Nat → Nat) (c : Nat) : Nat → Nat := dlk (x 0) c (x 0) (fgt x)
theorem dlh_0 {x : Nat → Nat} {c : Nat} : dlh x c 0 = x 0 := by unfold dlh dlk; rw [if_neg (by omega), fgt_0]
theorem dlh_1 {x : Nat → Nat} {c : Nat} : dlh x c 1 = x 1 := by unfold dlh dlk; rw [if_neg (by omega), fgt_1]
theorem dlh_see {x : Nat → Nat} {c b : Nat} (hb : b < 6) : dlh x c (12 + b) = 0 := by unfold dlh dlk; rw [if_neg (by omega)]; exact if_pos (by omega)
theorem inv_dlh {x : Nat → Nat} {c : Nat} (hI : Inv x) (hN : 0 < x 0) : Inv (dlh x c) := by
  have h := inv_dlk (c := c) (inv_fgt hI) (by rw [fgt_0]; exact hN)
  rw [fgt_0] at h
  exact h
theorem ag_dlh {x y : Nat → Nat} {c : Nat} (h : Ag x y) : Ag (dlh x c) (dlh y c) := by
  unfold dlh
  rw [← h.lo (show 0 < 6 by decide)]
  exact ag_dlk (ag_fgt h)
theorem ag_cls {x : Nat → Nat} {c : Nat} (hI : Inv x) : Ag (dlo (oF (x 0) c) (fgt x)) (dlh x c) := by
  have h := ag_dlo (c := c) (x := fgt x) (by rw [fgt_0]; exact hI.1)
  rw [fgt_0] at h
  exact h
theorem inv_cls {x : Nat → Nat} {c : Nat} (hI : Inv x) (hN : 0 < x 0) : Inv (dlo (oF (x 0) c) (fgt x)) := (ag_cls hI).symm'.inv (inv_dlh hI hN)
/-- what one sees by a deal -/
def tS (x : Nat → Nat) (n b c : Nat) : Nat := pasN n (dlh x c) (12 + b)
theorem tS_le {x : Nat → Nat} {n b c : Nat} (hb : b < 6) : tS x n b c ≤ n := by
  have h := pasN_bd n (dlh x c) b hb
  rw [dlh_see hb] at h
  unfold tS; omega
theorem tS_cls {x : Nat → Nat} {n b c : Nat} (hI : Inv x) (hN : 0 < x 0) (hb : b < x 0) : pasN n (dlo (oF (x 0) c) (fgt x)) (12 + b) = tS x n b c := by
  have h := ag_pasN n (ag_cls (c := c) hI) (inv_cls hI hN)
  have h0 := hI.1
  have e0 : pasN n (dlo (oF (x 0) c) (fgt x)) 0 = x 0 := by
    rw [(inv_pasN n (inv_cls hI hN)).2.1]; exact (if_neg (by omega) : dlo (oF (x 0) c) (fgt x) 0 = fgt x 0).trans fgt_0
  exact h.b (c := 12) (by decide) (by decide) (by rw [e0]; exact h0) (by rw [e0]; exact hb)
theorem ag_tS {x y : Nat → Nat} {n b c : Nat} (h : Ag x y) (hI : Inv x) (hN : 0 < x 0) (hb : b < x 0) : tS x n b c = tS y n b c := by
  have h2 := ag_pasN n (ag_dlh (c := c) h) (inv_dlh hI hN)
  have e0 : pasN n (dlh x c) 0 = x 0 := by rw [(inv_pasN n (inv_dlh hI hN)).2.1, dlh_0]
  exact h2.b (c := 12) (by decide) (by decide) (by rw [e0]; exact hI.1) (by rw [e0]; exact hb)
def tsF (S : Nat → Nat) : List Nat → Int32 → Nat → Int32 × Nat
  | [], mo, be => (mo, be)
  | c :: L, mo, be => if nI (S c) ≤ mo then tsF S L mo be else tsF S L (nI (S c)) c
theorem tsF_0 {S : Nat → Nat} {mo : Int32} {be : Nat} : tsF S [] mo be = (mo, be) := by rw [tsF]
theorem tsF_y {S : Nat → Nat} {c : Nat} {L : List Nat} {mo : Int32} {be : Nat} (h : nI (S c) ≤ mo) : tsF S (c :: L) mo be = tsF S L mo be := by rw [tsF, if_pos h]
theorem tsF_n {S : Nat → Nat} {c : Nat} {L : List Nat} {mo : Int32} {be : Nat} (h : ¬ nI (S c) ≤ mo) : tsF S (c :: L) mo be = tsF S L (nI (S c)) c := by rw [tsF, if_neg h]
theorem tsF_full {S : Nat → Nat} {n : Nat} (hn : n < 2 ^ 31) (hS : ∀ c, S c ≤ n) (L : List Nat) : ∀ be, tsF S L (nI n) be = (nI n, be) := by
  induction L with
  | nil => intro be; exact tsF_0
  | cons c L ih => intro be; rw [tsF_y ((n_le (by have := hS c; omega) hn).mpr (hS c))]; exact ih be
theorem nI_n1 {v : Nat} (hv : v < 2 ^ 31) : ¬ nI v ≤ -1 := by
  intro h
  rw [Int32.le_iff_toInt_le, nI_toInt hv] at h
  have : ((-1 : Int32)).toInt = -1 := by decide
  omega
theorem ne_n1 {v : Nat} (hv : v < 2 ^ 31) : ¬ nI v = -1 := fun e => nI_n1 hv (by rw [e]; exact Int32.le_refl _)
theorem tsF_nn {S : Nat → Nat} {n : Nat} (hn : n < 2 ^ 31) (hS : ∀ c, S c ≤ n) (L : List Nat) : ∀ v be, v ≤ n → ∃ v', v' ≤ n ∧ (tsF S L (nI v) be).1 = nI v' := by
  induction L with
  | nil => intro v be hv; exact ⟨v, hv, by rw [tsF_0]⟩
  | cons c L ih =>
    intro v be hv
    by_cases h : nI (S c) ≤ nI v
    · rw [tsF_y h]; exact ih v be hv
    · rw [tsF_n h]; exact ih (S c) c (hS c)
theorem tsF_ext {S T : Nat → Nat} (h : ∀ c, S c = T c) : tsF S = tsF T := by rw [show S = T from funext h]
theorem upA_c {ai : Nat → Nat → Int32} {a b : Nat} {f g : Nat → Int32} (h : ¬ a = b) : upA (upA ai a f) b g = upA (upA ai b g) a f := by
  funext k; unfold upA
  by_cases h1 : k = a <;> by_cases h2 : k = b <;> simp_all
theorem oF_lt {N c k : Nat} (h1 : 0 < N) (h6 : N ≤ 6) (hk : k < 6) : oF N c k < 2 ^ 31 := by
  unfold oF
  split
  · have := dg_lt (c := c) (k := k) h1; omega
  · omega
section TN
variable {X Y : Nat → Nat → Nat} {sc : Nat → Nat → Int32} {ai : Nat → Nat → Int32} {aj : Nat → Nat → Int64}
theorem r92_l (m : Nat) : ∀ (X : Nat → Nat → Nat) (t n b : Nat) (tb : Int32), t + m = n → n ≤ 40 → b < 6 → Inv (X 1) → X 1 1 + m < 20000 → X 1 (12 + b) ≤ 20000 → ∃ x1 r, ax_res 92 7 [some (.ref 114), some (.int (nI b)), some (.int (nI n)), some (.int tb), some (.int (nI t))] [] (hp X Y sc ai aj) = some (some (.int r), hp (upX X 1 x1) Y sc ai aj) ∧ (nI (pasN m (X 1) (12 + b)) ≤ tb → r ≤ tb) ∧ (¬ nI (pasN m (X 1) (12 + b)) ≤ tb → r = nI (pasN m (X 1) (12 + b))) := by
  induction m with
  | zero =>
    intro X t n b tb ht hn hb hI hm hs
    refine ⟨X 1, nI (X 1 (12 + b)), ?_, fun h => h, fun _ => rfl⟩
    rw [upX_i]
    simp only [q92_7, q92_9, q92_10, q92_47, q92_48, q92_51, q92_54, q92_55, q92_56, ↓reduceIte, ax_bV_s, ax_bI_s, ax_bJ_s, ax_bA_s, ax_bH_s, ax_bR_s, ax_bR_n, gh_people, gh_here, gh_sat, gh_minute, gh_draw, gh_sitter, gh_kinds, gh_prices, gh_known, gh_sights, gh_places, ga_kinds, ga_prices, ga_known, ga_sights, ga_places, oh, oo_114, gf114_0, gf114_1, gf114_2, gf114_3, gf114_4, gf114_5, pf114_5, gf114_6, gf114_7, gf114_8, gf114_9, oo_119, gf119_0, gf119_1, pf119_1, gf119_2, pf119_2, oo_130, gf130_0, gf130_1, gf130_2, pf130_2, oo_134, gf134_0, gf134_1, pf134_1, gf134_2, pf134_2, gf134_3, pf134_3, gf134_4, gf134_5, pf134_5, gf134_6, gf134_7, gf134_8, gf134_9, pf134_9, gf134_10, gf134_11, gf134_12, gf134_13, gf134_14, gf134_15, gf134_16, gi120, pi120, li120, gi131, pi131, li131, gi132, pi132, li132, gi136, pi136, li136, gi138, pi138, li138, gi139, pi139, li139, gi140, pi140, li140, gi141, pi141, li141, gi142, pi142, li142, gi144, pi144, li144, gi145, pi145, li145, gj133, pj133, lj133, gj137, pj137, lj137, gj143, pj143, lj143, gj146, pj146, lj146, gA121, gAq, oo_s, gfs_0, gfs_1, gfs_2, pfs_0, pfs_1, gjs, ljs, pjs, oo_h, gfh_0, gfh_1, gfh_2, pfh_1, pfh_2, j1, hb, n_le (show n < 2 ^ 31 by omega) (show t < 2 ^ 31 by omega), show n ≤ t by omega]
  | succ m ih =>
    intro X t n b tb ht hn hb hI hm hs
    have hbd := pasN_bd (m + 1) (X 1) b hb
    by_cases c : tb < nI (X 1 (12 + b) + n - t)
    · obtain ⟨g1, g2, g3⟩ := inv_pas (m := false) hI
      obtain ⟨s, hsee⟩ := pas_see (X 1) false
      have h2 := hsee b hb
      have h26 := r26 (X := X) (Y := Y) (sc := sc) (ai := ai) (aj := aj) (mb := false) j1 hI (by omega)
      have h3 := hI.2.2.1
      by_cases hbig : pas (X 1) false (12 + b) ≤ 20000
      · obtain ⟨x1, r, e, p1, p2⟩ := ih (upX X 1 (pas (X 1) false)) (t + 1) n b tb (by omega) hn hb (by rw [upX_s]; exact g1) (by rw [upX_s, g3]; omega) (by rw [upX_s]; exact hbig)
        rw [upX_s] at p1 p2
        rw [upX_u] at e
        refine ⟨x1, r, ?_, p1, p2⟩
        rw [q92_7]
        simp only [q92_9, q92_10, q92_13, q92_14, q92_17, q92_20, q92_21, q92_22, q92_23, q92_24, q92_26, q92_27, q92_28, q92_33, q92_34, q92_37, q92_38, q92_41, q92_44, ↓reduceIte, ax_bV_s, ax_bI_s, ax_bJ_s, ax_bA_s, ax_bH_s, ax_bR_s, ax_bR_n, gh_people, gh_here, gh_sat, gh_minute, gh_draw, gh_sitter, gh_kinds, gh_prices, gh_known, gh_sights, gh_places, ga_kinds, ga_prices, ga_known, ga_sights, ga_places, oh, oo_114, gf114_0, gf114_1, gf114_2, gf114_3, gf114_4, gf114_5, pf114_5, gf114_6, gf114_7, gf114_8, gf114_9, oo_119, gf119_0, gf119_1, pf119_1, gf119_2, pf119_2, oo_130, gf130_0, gf130_1, gf130_2, pf130_2, oo_134, gf134_0, gf134_1, pf134_1, gf134_2, pf134_2, gf134_3, pf134_3, gf134_4, gf134_5, pf134_5, gf134_6, gf134_7, gf134_8, gf134_9, pf134_9, gf134_10, gf134_11, gf134_12, gf134_13, gf134_14, gf134_15, gf134_16, gi120, pi120, li120, gi131, pi131, li131, gi132, pi132, li132, gi136, pi136, li136, gi138, pi138, li138, gi139, pi139, li139, gi140, pi140, li140, gi141, pi141, li141, gi142, pi142, li142, gi144, pi144, li144, gi145, pi145, li145, gj133, pj133, lj133, gj137, pj137, lj137, gj143, pj143, lj143, gj146, pj146, lj146, gA121, gAq, oo_s, gfs_0, gfs_1, gfs_2, pfs_0, pfs_1, gjs, ljs, pjs, oo_h, gfh_0, gfh_1, gfh_2, pfh_1, pfh_2, j1, hb, n_le (show n < 2 ^ 31 by omega) (show t < 2 ^ 31 by omega), show ¬ n ≤ t by omega, nI_add, n_sub (show t ≤ X 1 (12 + b) + n by omega), c, show nI 0 = nI (bn false) from rfl, h26, e]
      · exfalso
        have e20 : X 1 (12 + b) = 20000 := by split at h2 <;> omega
        by_cases hb0 : b < X 1 0
        · have := (hI.2.2.2.2.2 b hb0).2.1; omega
        · have hns : b = s := by
            by_cases q : b = s
            · exact q
            · rw [if_neg q] at h2; omega
          have hsit := g1.2.1
          have hx2 : pas (X 1) false 2 = b := by
            unfold pas at h2 ⊢
            by_cases cc : (!false && (decide (trn (X 1) < 6) && may (X 1) (trn (X 1)))) = true
            · rw [if_pos cc] at h2 ⊢
              rw [tick_at, if_neg (by omega), if_neg (by omega)] at h2
              rw [tick_at, if_neg (by omega), if_neg (by omega), if_neg (by omega)]
              simp only [Bool.and_eq_true, decide_eq_true_eq] at cc
              by_cases c9 : 12 + b = 12 + sit (X 1) (trn (X 1)) 2 ∧ sit (X 1) (trn (X 1)) 2 < 6
              · omega
              · rw [if_neg c9, sit_at, if_neg (by omega), if_neg (by omega), if_neg (by omega), if_pos hns] at h2; omega
            · rw [if_neg cc] at h2 ⊢
              rw [tick_at, if_neg (by omega), if_neg (by omega)] at h2
              rw [tick_at, if_neg (by omega), if_neg (by omega), if_neg (by omega)]
              by_cases c9 : 12 + b = 12 + X 1 2 ∧ X 1 2 < 6
              · omega
              · rw [if_neg c9, if_pos hns] at h2; omega
          rw [hx2, g2] at hsit
          omega
    · have hle : nI (pasN (m + 1) (X 1) (12 + b)) ≤ tb := by
        refine Int32.le_trans ?_ (Int32.not_lt.mp c)
        rw [n_le (by omega) (by omega)]; omega
      refine ⟨X 1, tb, ?_, fun _ => Int32.le_refl _, fun h => (h hle).elim⟩
      rw [upX_i, q92_7]
      simp only [q92_9, q92_10, q92_13, q92_14, q92_17, q92_20, q92_21, q92_22, q92_23, q92_24, q92_26, q92_27, q92_28, q92_31, q92_32, ↓reduceIte, ax_bV_s, ax_bI_s, ax_bJ_s, ax_bA_s, ax_bH_s, ax_bR_s, ax_bR_n, gh_people, gh_here, gh_sat, gh_minute, gh_draw, gh_sitter, gh_kinds, gh_prices, gh_known, gh_sights, gh_places, ga_kinds, ga_prices, ga_known, ga_sights, ga_places, oh, oo_114, gf114_0, gf114_1, gf114_2, gf114_3, gf114_4, gf114_5, pf114_5, gf114_6, gf114_7, gf114_8, gf114_9, oo_119, gf119_0, gf119_1, pf119_1, gf119_2, pf119_2, oo_130, gf130_0, gf130_1, gf130_2, pf130_2, oo_134, gf134_0, gf134_1, pf134_1, gf134_2, pf134_2, gf134_3, pf134_3, gf134_4, gf134_5, pf134_5, gf134_6, gf134_7, gf134_8, gf134_9, pf134_9, gf134_10, gf134_11, gf134_12, gf134_13, gf134_14, gf134_15, gf134_16, gi120, pi120, li120, gi131, pi131, li131, gi132, pi132, li132, gi136, pi136, li136, gi138, pi138, li138, gi139, pi139, li139, gi140, pi140, li140, gi141, pi141, li141, gi142, pi142, li142, gi144, pi144, li144, gi145, pi145, li145, gj133, pj133, lj133, gj137, pj137, lj137, gj143, pj143, lj143, gj146, pj146, lj146, gA121, gAq, oo_s, gfs_0, gfs_1, gfs_2, pfs_0, pfs_1, gjs, ljs, pjs, oo_h, gfh_0, gfh_1, gfh_2, pfh_1, pfh_2, j1, hb, n_le (show n < 2 ^ 31 by omega) (show t < 2 ^ 31 by omega), show ¬ n ≤ t by omega, nI_add, n_sub (show t ≤ X 1 (12 + b) + n by omega), c]
/-- seesByDeal -/
theorem r92 {c n b : Nat} {tb : Int32} (hn : n ≤ 40) (hI : Inv (X 0)) (hm : X 0 1 ≤ 9999) (hb : b < X 0 0) (ho : ∀ k, k < 6 → ai 131 k = nI (oF (X 0 0) c k)) : ∃ x1 r, ax_res 92 0 [some (.ref 114), some (.int (nI b)), some (.int (nI n)), some (.int tb), none] [] (hp X Y sc ai aj) = some (some (.int r), hp (upX X 1 x1) Y sc ai aj) ∧ (nI (tS (X 0) n b c) ≤ tb → r ≤ tb) ∧ (¬ nI (tS (X 0) n b c) ≤ tb → r = nI (tS (X 0) n b c)) := by
  have h0 := hI.1
  have hN : 0 < X 0 0 := by omega
  have e1 : dlo (oF (X 0 0) c) (fgt (X 0)) 1 = X 0 1 := (if_neg (by omega) : dlo (oF (X 0 0) c) (fgt (X 0)) 1 = fgt (X 0) 1).trans fgt_1
  have e2 : dlo (oF (X 0 0) c) (fgt (X 0)) (12 + b) = 0 := (if_neg (by omega) : dlo (oF (X 0 0) c) (fgt (X 0)) (12 + b) = fgt (X 0) (12 + b)).trans (if_pos (by omega))
  obtain ⟨x1, r, e, p1, p2⟩ := r92_l (Y := Y) (sc := sc) (ai := ai) (aj := aj) n (upX X 1 (dlo (oF (X 0 0) c) (fgt (X 0)))) 0 n b tb (by omega) hn (by omega) (by rw [upX_s]; exact inv_cls hI hN) (by rw [upX_s, e1]; omega) (by rw [upX_s, e2]; omega)
  rw [upX_s, tS_cls hI hN hb] at p1 p2
  rw [upX_u] at e
  refine ⟨x1, r, ?_, p1, p2⟩
  simp only [q92_0, q92_1, q92_4, q92_5, ↓reduceIte, ax_bV_s, ax_bI_s, ax_bJ_s, ax_bA_s, ax_bH_s, ax_bR_s, ax_bR_n, oo_114, gf114_0, gf114_1, gf114_2, gf114_3, gf114_4, gf114_5, pf114_5, gf114_6, gf114_7, gf114_8, gf114_9, oo_119, gf119_0, gf119_1, pf119_1, gf119_2, pf119_2, oo_130, gf130_0, gf130_1, gf130_2, pf130_2, oo_134, gf134_0, gf134_1, pf134_1, gf134_2, pf134_2, gf134_3, pf134_3, gf134_4, gf134_5, pf134_5, gf134_6, gf134_7, gf134_8, gf134_9, pf134_9, gf134_10, gf134_11, gf134_12, gf134_13, gf134_14, gf134_15, gf134_16, gi120, pi120, li120, gi131, pi131, li131, gi132, pi132, li132, gi136, pi136, li136, gi138, pi138, li138, gi139, pi139, li139, gi140, pi140, li140, gi141, pi141, li141, gi142, pi142, li142, gi144, pi144, li144, gi145, pi145, li145, gj133, pj133, lj133, gj137, pj137, lj137, gj143, pj143, lj143, gj146, pj146, lj146, gA121, gAq, oo_s, gfs_0, gfs_1, gfs_2, pfs_0, pfs_1, gjs, ljs, pjs, oo_h, gfh_0, gfh_1, gfh_2, pfh_1, pfh_2, r95 ho, e]
theorem r91_l (L : List Nat) : ∀ (X : Nat → Nat → Nat) (ai : Nat → Nat → Int32) (c f way be n b : Nat) (mo : Int32), chk (X 0 0) f (c :: L) = true → way + f = 720 → n ≤ 40 → Inv (X 0) → X 0 1 ≤ 9999 → b < X 0 0 → sc 130 2 = nI (X 0 0) → (∀ k, k < 6 → ai 131 k = nI (oF (X 0 0) c k)) → (mo = -1 ∨ (∃ v, v ≤ n ∧ mo = nI v) ∧ ∀ k, k < X 0 0 → ai 132 k = nI (dg (X 0 0) be k)) →
    ∃ x1 f1 g1, ax_res 91 19 [some (.ref 114), some (.int (nI b)), some (.int (nI n)), some (.int mo), some (.int (nI way)), none] [] (hp X Y sc ai aj) = some (some (.int (tsF (tS (X 0) n b) (c :: L) mo be).1), hp (upX X 1 x1) Y sc (upA (upA ai 131 f1) 132 g1) aj) ∧ ∀ k, k < X 0 0 → g1 k = nI (dg (X 0 0) (tsF (tS (X 0) n b) (c :: L) mo be).2 k) := by
  induction L with
  | nil =>
    intro X ai c f way be n b mo hc hw hn hI hm hb hs ho hmo
    have h0 := hI.1
    have hf := chk_0 hc
    have hS := tS_le (x := X 0) (n := n) (b := b) (c := c) (by omega)
    obtain ⟨x1, r, e, p1, p2⟩ := r92 (X := X) (Y := Y) (sc := sc) (ai := ai) (aj := aj) (tb := mo) hn hI hm hb ho
    have tail_ : ∀ (g : Nat → Int32) (v : Nat) (r : Int32), v ≤ n → ax_res 91 52 [some (.ref 114), some (.int (nI b)), some (.int (nI n)), some (.int (nI v)), some (.int (nI way)), some (.int r)] [] (hp (upX X 1 x1) Y sc (upA ai 132 g) aj) = some (some (.int (nI v)), hp (upX X 1 x1) Y sc (upA ai 132 g) aj) := by
      intro g v r hv
      have h3 := r3_none (X := upX X 1 x1) (Y := Y) (sc := sc) (ai := upA ai 132 g) (aj := aj) (show 1 ≤ X 0 0 by omega) h0 hs (o := oF (X 0 0) c) (fun k hk => by rw [upA_n (by decide)]; exact ho k hk) (fun k hk => oF_lt (by omega) h0 hk) (chk_1 hc)
      by_cases ce : v = n
      · simp only [q91_52, q91_53, q91_54, q91_76, q91_76b, q91_77, q91_77b, ↓reduceIte, ax_bV_s, ax_bI_s, ax_bJ_s, ax_bA_s, ax_bH_s, ax_bR_s, ax_bR_n, n_eq (show v < 2 ^ 31 by omega) (show n < 2 ^ 31 by omega), ce]
      · simp only [q91_52, q91_53, q91_54, q91_57, q91_58, q91_61, q91_64, q91_67, q91_76, q91_76b, q91_77, q91_77b, ↓reduceIte, ax_bV_s, ax_bI_s, ax_bJ_s, ax_bA_s, ax_bH_s, ax_bR_s, ax_bR_n, oo_114, gf114_0, gf114_1, gf114_2, gf114_3, gf114_4, gf114_5, pf114_5, gf114_6, gf114_7, gf114_8, gf114_9, oo_119, gf119_0, gf119_1, pf119_1, gf119_2, pf119_2, oo_130, gf130_0, gf130_1, gf130_2, pf130_2, oo_134, gf134_0, gf134_1, pf134_1, gf134_2, pf134_2, gf134_3, pf134_3, gf134_4, gf134_5, pf134_5, gf134_6, gf134_7, gf134_8, gf134_9, pf134_9, gf134_10, gf134_11, gf134_12, gf134_13, gf134_14, gf134_15, gf134_16, gi120, pi120, li120, gi131, pi131, li131, gi132, pi132, li132, gi136, pi136, li136, gi138, pi138, li138, gi139, pi139, li139, gi140, pi140, li140, gi141, pi141, li141, gi142, pi142, li142, gi144, pi144, li144, gi145, pi145, li145, gj133, pj133, lj133, gj137, pj137, lj137, gj143, pj143, lj143, gj146, pj146, lj146, gA121, gAq, oo_s, gfs_0, gfs_1, gfs_2, pfs_0, pfs_1, gjs, ljs, pjs, oo_h, gfh_0, gfh_1, gfh_2, pfh_1, pfh_2, n_eq (show v < 2 ^ 31 by omega) (show n < 2 ^ 31 by omega), ce, h3, n_z0]
    by_cases c1 : nI (tS (X 0) n b c) ≤ mo
    · rcases hmo with rfl | ⟨⟨v, hv, rfl⟩, hg⟩
      · exact (nI_n1 (by omega) c1).elim
      · have et := tail_ (ai 132) v r hv
        rw [upA_i] at et
        refine ⟨x1, ai 131, ai 132, ?_, fun k hk => by rw [tsF_y c1, tsF_0]; exact hg k hk⟩
        rw [tsF_y c1, tsF_0, upA_i, upA_i]
        simp only [q91_19, q91_21, q91_24, q91_27, q91_28, q91_29, q91_30, q91_31, q91_34, q91_36, q91_38, q91_39, ↓reduceIte, ax_bV_s, ax_bI_s, ax_bJ_s, ax_bA_s, ax_bH_s, ax_bR_s, ax_bR_n, oo_114, gf114_0, gf114_1, gf114_2, gf114_3, gf114_4, gf114_5, pf114_5, gf114_6, gf114_7, gf114_8, gf114_9, oo_119, gf119_0, gf119_1, pf119_1, gf119_2, pf119_2, oo_130, gf130_0, gf130_1, gf130_2, pf130_2, oo_134, gf134_0, gf134_1, pf134_1, gf134_2, pf134_2, gf134_3, pf134_3, gf134_4, gf134_5, pf134_5, gf134_6, gf134_7, gf134_8, gf134_9, pf134_9, gf134_10, gf134_11, gf134_12, gf134_13, gf134_14, gf134_15, gf134_16, gi120, pi120, li120, gi131, pi131, li131, gi132, pi132, li132, gi136, pi136, li136, gi138, pi138, li138, gi139, pi139, li139, gi140, pi140, li140, gi141, pi141, li141, gi142, pi142, li142, gi144, pi144, li144, gi145, pi145, li145, gj133, pj133, lj133, gj137, pj137, lj137, gj143, pj143, lj143, gj146, pj146, lj146, gA121, gAq, oo_s, gfs_0, gfs_1, gfs_2, pfs_0, pfs_1, gjs, ljs, pjs, oo_h, gfh_0, gfh_1, gfh_2, pfh_1, pfh_2, n_le (show 720 < 2 ^ 31 by decide) (show way < 2 ^ 31 by omega), show ¬ 720 ≤ way by omega, e, p1 c1, et]
    · have er := p2 c1
      subst er
      have et := tail_ (va_cpy (ai 131) (ai 132) 0 0 6) (tS (X 0) n b c) (nI (tS (X 0) n b c)) hS
      refine ⟨x1, ai 131, va_cpy (ai 131) (ai 132) 0 0 6, ?_, fun k hk => ?_⟩
      · rw [tsF_n c1, tsF_0, upA_i]
        simp only [q91_19, q91_21, q91_24, q91_27, q91_28, q91_29, q91_30, q91_31, q91_34, q91_36, q91_38, q91_39, q91_42, q91_44, q91_45, q91_46, q91_49, ↓reduceIte, ax_bV_s, ax_bI_s, ax_bJ_s, ax_bA_s, ax_bH_s, ax_bR_s, ax_bR_n, oo_114, gf114_0, gf114_1, gf114_2, gf114_3, gf114_4, gf114_5, pf114_5, gf114_6, gf114_7, gf114_8, gf114_9, oo_119, gf119_0, gf119_1, pf119_1, gf119_2, pf119_2, oo_130, gf130_0, gf130_1, gf130_2, pf130_2, oo_134, gf134_0, gf134_1, pf134_1, gf134_2, pf134_2, gf134_3, pf134_3, gf134_4, gf134_5, pf134_5, gf134_6, gf134_7, gf134_8, gf134_9, pf134_9, gf134_10, gf134_11, gf134_12, gf134_13, gf134_14, gf134_15, gf134_16, gi120, pi120, li120, gi131, pi131, li131, gi132, pi132, li132, gi136, pi136, li136, gi138, pi138, li138, gi139, pi139, li139, gi140, pi140, li140, gi141, pi141, li141, gi142, pi142, li142, gi144, pi144, li144, gi145, pi145, li145, gj133, pj133, lj133, gj137, pj137, lj137, gj143, pj143, lj143, gj146, pj146, lj146, gA121, gAq, oo_s, gfs_0, gfs_1, gfs_2, pfs_0, pfs_1, gjs, ljs, pjs, oo_h, gfh_0, gfh_1, gfh_2, pfh_1, pfh_2, n_le (show 720 < 2 ^ 31 by decide) (show way < 2 ^ 31 by omega), show ¬ 720 ≤ way by omega, e, c1, r1, et]
      · rw [tsF_n c1, tsF_0]
        unfold va_cpy
        rw [if_pos (by omega), show 0 + (k - 0) = k by omega, ho k (by omega)]
        unfold oF; rw [if_pos hk]
  | cons c' L ih =>
    intro X ai c f way be n b mo hc hw hn hI hm hb hs ho hmo
    have h0 := hI.1
    obtain ⟨gN, f', rfl, ha, hgN, hc'⟩ := chk_2 hc
    have hf := chk_0 hc'
    have hS := fun c => tS_le (x := X 0) (n := n) (b := b) (c := c) (by omega)
    obtain ⟨x1, r, e, p1, p2⟩ := r92 (X := X) (Y := Y) (sc := sc) (ai := ai) (aj := aj) (tb := mo) hn hI hm hb ho
    have tail_ : ∀ (g : Nat → Int32) (v be' : Nat) (r : Int32), v ≤ n → (∀ k, k < X 0 0 → g k = nI (dg (X 0 0) be' k)) → ∃ x2 f2 g2, ax_res 91 52 [some (.ref 114), some (.int (nI b)), some (.int (nI n)), some (.int (nI v)), some (.int (nI way)), some (.int r)] [] (hp (upX X 1 x1) Y sc (upA ai 132 g) aj) = some (some (.int (tsF (tS (X 0) n b) (c' :: L) (nI v) be').1), hp (upX X 1 x2) Y sc (upA (upA ai 131 f2) 132 g2) aj) ∧ ∀ k, k < X 0 0 → g2 k = nI (dg (X 0 0) (tsF (tS (X 0) n b) (c' :: L) (nI v) be').2 k) := by
      intro g v be' r hv hg
      by_cases ce : v = n
      · refine ⟨x1, ai 131, g, ?_, fun k hk => by rw [ce, tsF_full (by omega) hS]; exact hg k hk⟩
        rw [ce, tsF_full (by omega) hS, upA_i]
        simp only [q91_52, q91_53, q91_54, q91_76, q91_76b, q91_77, q91_77b, ↓reduceIte, ax_bV_s, ax_bI_s, ax_bJ_s, ax_bA_s, ax_bH_s, ax_bR_s, ax_bR_n]
      · obtain ⟨f3, e3, hf3⟩ := r3_some (X := upX X 1 x1) (Y := Y) (sc := sc) (ai := upA ai 132 g) (aj := aj) (show 1 ≤ X 0 0 by omega) h0 hs (o := oF (X 0 0) c) (fun k hk => by rw [upA_n (by decide)]; exact ho k hk) (fun k hk => oF_lt (by omega) h0 hk) ha
        obtain ⟨x2, f2, g2, e2, h2⟩ := ih (upX X 1 x1) (upA (upA ai 132 g) 131 f3) c' f' (way + 1) be' n b (nI v) (by rw [upX_n (by decide)]; exact hc') (by omega) hn (by rw [upX_n (by decide)]; exact hI) (by rw [upX_n (by decide)]; exact hm) (by rw [upX_n (by decide)]; exact hb) (by rw [upX_n (by decide)]; exact hs) (fun k hk => by rw [upX_n (by decide), upA_s, hf3 k hk, hgN k hk]) (Or.inr ⟨⟨v, hv, rfl⟩, fun k hk => by rw [upX_n (by decide)] at hk ⊢; rw [upA_n (by decide), upA_s]; exact hg k hk⟩)
        rw [upX_n (show ¬ 0 = 1 by decide)] at e2 h2
        rw [upX_u, upA_u, upA_c (ai := ai) (f := g) (g := f2) (show ¬ 132 = 131 by decide), upA_u] at e2
        refine ⟨x2, f2, g2, ?_, h2⟩
        simp only [q91_52, q91_53, q91_54, q91_57, q91_58, q91_61, q91_64, q91_70, q91_73, ↓reduceIte, ax_bV_s, ax_bI_s, ax_bJ_s, ax_bA_s, ax_bH_s, ax_bR_s, ax_bR_n, oo_114, gf114_0, gf114_1, gf114_2, gf114_3, gf114_4, gf114_5, pf114_5, gf114_6, gf114_7, gf114_8, gf114_9, oo_119, gf119_0, gf119_1, pf119_1, gf119_2, pf119_2, oo_130, gf130_0, gf130_1, gf130_2, pf130_2, oo_134, gf134_0, gf134_1, pf134_1, gf134_2, pf134_2, gf134_3, pf134_3, gf134_4, gf134_5, pf134_5, gf134_6, gf134_7, gf134_8, gf134_9, pf134_9, gf134_10, gf134_11, gf134_12, gf134_13, gf134_14, gf134_15, gf134_16, gi120, pi120, li120, gi131, pi131, li131, gi132, pi132, li132, gi136, pi136, li136, gi138, pi138, li138, gi139, pi139, li139, gi140, pi140, li140, gi141, pi141, li141, gi142, pi142, li142, gi144, pi144, li144, gi145, pi145, li145, gj133, pj133, lj133, gj137, pj137, lj137, gj143, pj143, lj143, gj146, pj146, lj146, gA121, gAq, oo_s, gfs_0, gfs_1, gfs_2, pfs_0, pfs_1, gjs, ljs, pjs, oo_h, gfh_0, gfh_1, gfh_2, pfh_1, pfh_2, n_eq (show v < 2 ^ 31 by omega) (show n < 2 ^ 31 by omega), ce, e3, n_z1, nI_add, e2]
    by_cases c1 : nI (tS (X 0) n b c) ≤ mo
    · rcases hmo with rfl | ⟨⟨v, hv, rfl⟩, hg⟩
      · exact (nI_n1 (by have := hS c; omega) c1).elim
      · obtain ⟨x2, f2, g2, et, h2⟩ := tail_ (ai 132) v be r hv hg
        rw [upA_i] at et
        refine ⟨x2, f2, g2, ?_, fun k hk => by rw [tsF_y c1]; exact h2 k hk⟩
        rw [tsF_y c1]
        simp only [q91_19, q91_21, q91_24, q91_27, q91_28, q91_29, q91_30, q91_31, q91_34, q91_36, q91_38, q91_39, ↓reduceIte, ax_bV_s, ax_bI_s, ax_bJ_s, ax_bA_s, ax_bH_s, ax_bR_s, ax_bR_n, oo_114, gf114_0, gf114_1, gf114_2, gf114_3, gf114_4, gf114_5, pf114_5, gf114_6, gf114_7, gf114_8, gf114_9, oo_119, gf119_0, gf119_1, pf119_1, gf119_2, pf119_2, oo_130, gf130_0, gf130_1, gf130_2, pf130_2, oo_134, gf134_0, gf134_1, pf134_1, gf134_2, pf134_2, gf134_3, pf134_3, gf134_4, gf134_5, pf134_5, gf134_6, gf134_7, gf134_8, gf134_9, pf134_9, gf134_10, gf134_11, gf134_12, gf134_13, gf134_14, gf134_15, gf134_16, gi120, pi120, li120, gi131, pi131, li131, gi132, pi132, li132, gi136, pi136, li136, gi138, pi138, li138, gi139, pi139, li139, gi140, pi140, li140, gi141, pi141, li141, gi142, pi142, li142, gi144, pi144, li144, gi145, pi145, li145, gj133, pj133, lj133, gj137, pj137, lj137, gj143, pj143, lj143, gj146, pj146, lj146, gA121, gAq, oo_s, gfs_0, gfs_1, gfs_2, pfs_0, pfs_1, gjs, ljs, pjs, oo_h, gfh_0, gfh_1, gfh_2, pfh_1, pfh_2, n_le (show 720 < 2 ^ 31 by decide) (show way < 2 ^ 31 by omega), show ¬ 720 ≤ way by omega, e, p1 c1, et]
    · have er := p2 c1
      subst er
      obtain ⟨x2, f2, g2, et, h2⟩ := tail_ (va_cpy (ai 131) (ai 132) 0 0 6) (tS (X 0) n b c) c (nI (tS (X 0) n b c)) (hS c) (fun k hk => by
        unfold va_cpy
        rw [if_pos (by omega), show 0 + (k - 0) = k by omega, ho k (by omega)]
        unfold oF; rw [if_pos hk])
      refine ⟨x2, f2, g2, ?_, fun k hk => by rw [tsF_n c1]; exact h2 k hk⟩
      rw [tsF_n c1]
      simp only [q91_19, q91_21, q91_24, q91_27, q91_28, q91_29, q91_30, q91_31, q91_34, q91_36, q91_38, q91_39, q91_42, q91_44, q91_45, q91_46, q91_49, ↓reduceIte, ax_bV_s, ax_bI_s, ax_bJ_s, ax_bA_s, ax_bH_s, ax_bR_s, ax_bR_n, oo_114, gf114_0, gf114_1, gf114_2, gf114_3, gf114_4, gf114_5, pf114_5, gf114_6, gf114_7, gf114_8, gf114_9, oo_119, gf119_0, gf119_1, pf119_1, gf119_2, pf119_2, oo_130, gf130_0, gf130_1, gf130_2, pf130_2, oo_134, gf134_0, gf134_1, pf134_1, gf134_2, pf134_2, gf134_3, pf134_3, gf134_4, gf134_5, pf134_5, gf134_6, gf134_7, gf134_8, gf134_9, pf134_9, gf134_10, gf134_11, gf134_12, gf134_13, gf134_14, gf134_15, gf134_16, gi120, pi120, li120, gi131, pi131, li131, gi132, pi132, li132, gi136, pi136, li136, gi138, pi138, li138, gi139, pi139, li139, gi140, pi140, li140, gi141, pi141, li141, gi142, pi142, li142, gi144, pi144, li144, gi145, pi145, li145, gj133, pj133, lj133, gj137, pj137, lj137, gj143, pj143, lj143, gj146, pj146, lj146, gA121, gAq, oo_s, gfs_0, gfs_1, gfs_2, pfs_0, pfs_1, gjs, ljs, pjs, oo_h, gfh_0, gfh_1, gfh_2, pfh_1, pfh_2, n_le (show 720 < 2 ^ 31 by decide) (show way < 2 ^ 31 by omega), show ¬ 720 ≤ way by omega, e, c1, r1, et]
/-- findMostSeen -/
theorem r91 {n b : Nat} (hn : n ≤ 40) (hI : Inv (X 0)) (hm : X 0 1 ≤ 9999) (hb : b < X 0 0) : ∃ x1 f1 g1, ax_res 91 0 [some (.ref 114), some (.int (nI b)), some (.int (nI n)), none, none, none] [] (hp X Y sc ai aj) = some (some (.int (tsF (tS (X 0) n b) (pl (X 0 0) (X 0 0 ^ X 0 0) 0) (-1) 0).1), hp (upX X 1 x1) Y (upS sc 130 2 (nI (X 0 0))) (upA (upA ai 131 f1) 132 g1) aj) ∧ ∀ k, k < X 0 0 → g1 k = nI (dg (X 0 0) (tsF (tS (X 0) n b) (pl (X 0 0) (X 0 0 ^ X 0 0) 0) (-1) 0).2 k) := by
  have h0 := hI.1
  obtain ⟨c, L, hL, hc, hid⟩ := chk_N (show 1 ≤ X 0 0 by omega) h0
  obtain ⟨f, e, hf⟩ := r0 (X := X) (Y := Y) (sc := sc) (ai := ai) (aj := aj) h0
  obtain ⟨x1, f1, g1, e1, h1⟩ := r91_l (Y := Y) (sc := upS sc 130 2 (nI (X 0 0))) (aj := aj) L X (upA ai 131 f) c 720 0 0 n b (-1) hc (by omega) hn hI hm hb (by rw [upS_s]) (fun k hk => by rw [upA_s, hf k hk, hid k hk]) (Or.inl rfl)
  rw [← hL] at e1 h1
  rw [upA_u] at e1
  refine ⟨x1, f1, g1, ?_, h1⟩
  simp only [q91_0, q91_1, q91_2, q91_3, q91_6, q91_7, q91_10, q91_13, q91_16, q91_17, ↓reduceIte, ax_bV_s, ax_bI_s, ax_bJ_s, ax_bA_s, ax_bH_s, ax_bR_s, ax_bR_n, gh_people, gh_here, gh_sat, gh_minute, gh_draw, gh_sitter, gh_kinds, gh_prices, gh_known, gh_sights, gh_places, ga_kinds, ga_prices, ga_known, ga_sights, ga_places, oh, oo_114, gf114_0, gf114_1, gf114_2, gf114_3, gf114_4, gf114_5, pf114_5, gf114_6, gf114_7, gf114_8, gf114_9, oo_119, gf119_0, gf119_1, pf119_1, gf119_2, pf119_2, oo_130, gf130_0, gf130_1, gf130_2, pf130_2, oo_134, gf134_0, gf134_1, pf134_1, gf134_2, pf134_2, gf134_3, pf134_3, gf134_4, gf134_5, pf134_5, gf134_6, gf134_7, gf134_8, gf134_9, pf134_9, gf134_10, gf134_11, gf134_12, gf134_13, gf134_14, gf134_15, gf134_16, gi120, pi120, li120, gi131, pi131, li131, gi132, pi132, li132, gi136, pi136, li136, gi138, pi138, li138, gi139, pi139, li139, gi140, pi140, li140, gi141, pi141, li141, gi142, pi142, li142, gi144, pi144, li144, gi145, pi145, li145, gj133, pj133, lj133, gj137, pj137, lj137, gj143, pj143, lj143, gj146, pj146, lj146, gA121, gAq, oo_s, gfs_0, gfs_1, gfs_2, pfs_0, pfs_1, gjs, ljs, pjs, oo_h, gfh_0, gfh_1, gfh_2, pfh_1, pfh_2, j0, e, e1]
/-- the answer of turns: k is -1 (none), or a place -/
def tnA (x : Nat → Nat) (n b : Nat) (k : Option Nat) : Int32 := match k with
  | none => (tsF (tS x n b) (pl (x 0) (x 0 ^ x 0) 0) (-1) 0).1
  | some j => if j < x 0 then nI (dg (x 0) (tsF (tS x n b) (pl (x 0) (x 0 ^ x 0) 0) (-1) 0).2 j) else -4
theorem s67_bad {b n k : Int32} (hI : Inv (X 0)) (h : (isB b (X 0 0) && (isI n 1 40 && decide (-1 ≤ k))) = false) : ax_res 67 0 [some (.ref 114), some (.int b), some (.int n), some (.int k), none] [] (hp X Y sc ai aj) = some (some (.int (-1)), hp X Y sc ai aj) := by
  simp only [q67_0, q67_1, q67_2, q67_5, q67_8, q67_9, q67_10, q67_12, q67_15, q67_18, q67_19, q67_20, q67_23, q67_24, ↓reduceIte, ax_bV_s, ax_bI_s, ax_bJ_s, ax_bA_s, ax_bH_s, ax_bR_s, ax_bR_n, oo_114, gf114_0, gf114_1, gf114_2, gf114_3, gf114_4, gf114_5, pf114_5, gf114_6, gf114_7, gf114_8, gf114_9, oo_119, gf119_0, gf119_1, pf119_1, gf119_2, pf119_2, oo_130, gf130_0, gf130_1, gf130_2, pf130_2, oo_134, gf134_0, gf134_1, pf134_1, gf134_2, pf134_2, gf134_3, pf134_3, gf134_4, gf134_5, pf134_5, gf134_6, gf134_7, gf134_8, gf134_9, pf134_9, gf134_10, gf134_11, gf134_12, gf134_13, gf134_14, gf134_15, gf134_16, gi120, pi120, li120, gi131, pi131, li131, gi132, pi132, li132, gi136, pi136, li136, gi138, pi138, li138, gi139, pi139, li139, gi140, pi140, li140, gi141, pi141, li141, gi142, pi142, li142, gi144, pi144, li144, gi145, pi145, li145, gj133, pj133, lj133, gj137, pj137, lj137, gj143, pj143, lj143, gj146, pj146, lj146, gA121, gAq, oo_s, gfs_0, gfs_1, gfs_2, pfs_0, pfs_1, gjs, ljs, pjs, oo_h, gfh_0, gfh_1, gfh_2, pfh_1, pfh_2, r85 hI.1, r84I (show 1 < 2 ^ 31 by decide) (show 40 < 2 ^ 31 by decide), n_bn0]
  revert h
  cases isB b (X 0 0) <;> cases isI n 1 40 <;> by_cases h3 : -1 ≤ k <;> simp [h3]
theorem s67_ok {b n : Nat} (k : Option Nat) {kk : Int32} (hk : (k = none ∧ kk = -1) ∨ ∃ j, j < 2 ^ 31 ∧ k = some j ∧ kk = nI j) (hI : Inv (X 0)) (hm : X 0 1 ≤ 9999) (hb : b < X 0 0) (hn1 : 1 ≤ n) (hn : n ≤ 40) : ∃ x1 f1 g1, ax_res 67 0 [some (.ref 114), some (.int (nI b)), some (.int (nI n)), some (.int kk), none] [] (hp X Y sc ai aj) = some (some (.int (tnA (X 0) n b k)), hp (upX X 1 x1) Y (upS sc 130 2 (nI (X 0 0))) (upA (upA ai 131 f1) 132 g1) aj) := by
  have h0 := hI.1
  obtain ⟨x1, f1, g1, e, hg⟩ := r91 (X := X) (Y := Y) (sc := sc) (ai := ai) (aj := aj) hn hI hm hb
  refine ⟨x1, f1, g1, ?_⟩
  rcases hk with ⟨rfl, rfl⟩ | ⟨j, hj, rfl, rfl⟩
  · simp only [q67_0, q67_1, q67_2, q67_5, q67_8, q67_9, q67_10, q67_12, q67_15, q67_18, q67_19, q67_20, q67_25, q67_26, q67_27, q67_28, q67_31, q67_33, q67_34, q67_35, q67_38, q67_40, q67_51, ↓reduceIte, ax_bV_s, ax_bI_s, ax_bJ_s, ax_bA_s, ax_bH_s, ax_bR_s, ax_bR_n, oo_114, gf114_0, gf114_1, gf114_2, gf114_3, gf114_4, gf114_5, pf114_5, gf114_6, gf114_7, gf114_8, gf114_9, oo_119, gf119_0, gf119_1, pf119_1, gf119_2, pf119_2, oo_130, gf130_0, gf130_1, gf130_2, pf130_2, oo_134, gf134_0, gf134_1, pf134_1, gf134_2, pf134_2, gf134_3, pf134_3, gf134_4, gf134_5, pf134_5, gf134_6, gf134_7, gf134_8, gf134_9, pf134_9, gf134_10, gf134_11, gf134_12, gf134_13, gf134_14, gf134_15, gf134_16, gi120, pi120, li120, gi131, pi131, li131, gi132, pi132, li132, gi136, pi136, li136, gi138, pi138, li138, gi139, pi139, li139, gi140, pi140, li140, gi141, pi141, li141, gi142, pi142, li142, gi144, pi144, li144, gi145, pi145, li145, gj133, pj133, lj133, gj137, pj137, lj137, gj143, pj143, lj143, gj146, pj146, lj146, gA121, gAq, oo_s, gfs_0, gfs_1, gfs_2, pfs_0, pfs_1, gjs, ljs, pjs, oo_h, gfh_0, gfh_1, gfh_2, pfh_1, pfh_2, r85 h0, isB_t (show X 0 0 ≤ 1000 by omega) hb, r84I (show 1 < 2 ^ 31 by decide) (show 40 < 2 ^ 31 by decide), isI_nI (show n < 2 ^ 31 by omega) hn1 hn, n_bn0, Bool.not_true, Int32.le_refl, e, tnA]
  · have hle : -1 ≤ nI j := Int32.le_of_lt (Int32.not_le.mp (nI_n1 hj))
    have h2 := r2 (X := upX X 1 x1) (Y := Y) (sc := upS sc 130 2 (nI (X 0 0))) (ai := upA (upA ai 131 f1) 132 g1) (aj := aj) h0 hj (by rw [upS_s])
    rw [upA_s] at h2
    simp only [q67_0, q67_1, q67_2, q67_5, q67_8, q67_9, q67_10, q67_12, q67_15, q67_18, q67_19, q67_20, q67_25, q67_26, q67_27, q67_28, q67_31, q67_33, q67_34, q67_35, q67_43, q67_44, q67_47, q67_48, q67_51, ↓reduceIte, ax_bV_s, ax_bI_s, ax_bJ_s, ax_bA_s, ax_bH_s, ax_bR_s, ax_bR_n, oo_114, gf114_0, gf114_1, gf114_2, gf114_3, gf114_4, gf114_5, pf114_5, gf114_6, gf114_7, gf114_8, gf114_9, oo_119, gf119_0, gf119_1, pf119_1, gf119_2, pf119_2, oo_130, gf130_0, gf130_1, gf130_2, pf130_2, oo_134, gf134_0, gf134_1, pf134_1, gf134_2, pf134_2, gf134_3, pf134_3, gf134_4, gf134_5, pf134_5, gf134_6, gf134_7, gf134_8, gf134_9, pf134_9, gf134_10, gf134_11, gf134_12, gf134_13, gf134_14, gf134_15, gf134_16, gi120, pi120, li120, gi131, pi131, li131, gi132, pi132, li132, gi136, pi136, li136, gi138, pi138, li138, gi139, pi139, li139, gi140, pi140, li140, gi141, pi141, li141, gi142, pi142, li142, gi144, pi144, li144, gi145, pi145, li145, gj133, pj133, lj133, gj137, pj137, lj137, gj143, pj143, lj143, gj146, pj146, lj146, gA121, gAq, oo_s, gfs_0, gfs_1, gfs_2, pfs_0, pfs_1, gjs, ljs, pjs, oo_h, gfh_0, gfh_1, gfh_2, pfh_1, pfh_2, r85 h0, isB_t (show X 0 0 ≤ 1000 by omega) hb, r84I (show 1 < 2 ^ 31 by decide) (show 40 < 2 ^ 31 by decide), isI_nI (show n < 2 ^ 31 by omega) hn1 hn, n_bn0, Bool.not_true, hle, e, ne_n1 hj, h2, tnA]
    by_cases c : j < X 0 0
    · rw [if_pos c, if_pos c, hg j c]
    · rw [if_neg c, if_neg c]
-- the model's
theorem m155_l (m : Nat) : ∀ (Y : Nat → Nat → Nat) (ai : Nat → Nat → Int32) (code be n b : Nat) (k mo : Int32), code + m = Y 0 0 ^ Y 0 0 → n ≤ 40 → Inv (Y 0) → Y 0 1 ≤ 9999 → b < Y 0 0 → (mo = -1 ∨ (∃ v, v ≤ n ∧ mo = nI v) ∧ ∀ k, k < Y 0 0 → ai 145 k = nI (dg (Y 0 0) be k)) →
    ∃ y1 f1 g1 z, ax_res 155 33 [some (.ref 134), some (.int (nI b)), some (.int (nI n)), some (.int k), some (.int mo), some (.int (nI code))] [] (hp X Y sc ai aj) = ax_res 155 83 [some (.ref 134), some (.int (nI b)), some (.int (nI n)), some (.int k), some (.int (tsF (tS (Y 0) n b) (pl (Y 0 0) m code) mo be).1), some (.int z)] [] (hp X (upX Y 1 y1) sc (upA (upA ai 144 f1) 145 g1) aj) ∧ ((tsF (tS (Y 0) n b) (pl (Y 0 0) m code) mo be).1 = -1 ∨ ∀ k, k < Y 0 0 → g1 k = nI (dg (Y 0 0) (tsF (tS (Y 0) n b) (pl (Y 0 0) m code) mo be).2 k)) := by
  induction m with
  | zero =>
    intro Y ai code be n b k mo hc hn hI hm hb hmo
    have h0 := hI.1
    have hpw : Y 0 0 ^ Y 0 0 ≤ 6 ^ 6 := Nat.le_trans (Nat.pow_le_pow_left h0 _) (Nat.pow_le_pow_right (by decide) h0)
    refine ⟨Y 1, ai 144, ai 145, nI code, ?_, ?_⟩
    · rw [pl_0, tsF_0, upA_i, upA_i, upX_i]
      simp only [q155_33, q155_35, q155_36, q155_39, ↓reduceIte, ax_bV_s, ax_bI_s, ax_bJ_s, ax_bA_s, ax_bH_s, ax_bR_s, ax_bR_n, oo_114, gf114_0, gf114_1, gf114_2, gf114_3, gf114_4, gf114_5, pf114_5, gf114_6, gf114_7, gf114_8, gf114_9, oo_119, gf119_0, gf119_1, pf119_1, gf119_2, pf119_2, oo_130, gf130_0, gf130_1, gf130_2, pf130_2, oo_134, gf134_0, gf134_1, pf134_1, gf134_2, pf134_2, gf134_3, pf134_3, gf134_4, gf134_5, pf134_5, gf134_6, gf134_7, gf134_8, gf134_9, pf134_9, gf134_10, gf134_11, gf134_12, gf134_13, gf134_14, gf134_15, gf134_16, gi120, pi120, li120, gi131, pi131, li131, gi132, pi132, li132, gi136, pi136, li136, gi138, pi138, li138, gi139, pi139, li139, gi140, pi140, li140, gi141, pi141, li141, gi142, pi142, li142, gi144, pi144, li144, gi145, pi145, li145, gj133, pj133, lj133, gj137, pj137, lj137, gj143, pj143, lj143, gj146, pj146, lj146, gA121, gAq, oo_s, gfs_0, gfs_1, gfs_2, pfs_0, pfs_1, gjs, ljs, pjs, oo_h, gfh_0, gfh_1, gfh_2, pfh_1, pfh_2, r150 h0, n_le (show Y 0 0 ^ Y 0 0 < 2 ^ 31 by omega) (show code < 2 ^ 31 by omega), show Y 0 0 ^ Y 0 0 ≤ code by omega]
    · rw [pl_0, tsF_0]
      rcases hmo with h | h
      · exact Or.inl h
      · exact Or.inr h.2
  | succ m ih =>
    intro Y ai code be n b k mo hc hn hI hm hb hmo
    have h0 := hI.1
    have h1 : 0 < Y 0 0 := by omega
    have hb6 : b < 6 := by omega
    have hpw : Y 0 0 ^ Y 0 0 ≤ 6 ^ 6 := Nat.le_trans (Nat.pow_le_pow_left h0 _) (Nat.pow_le_pow_right (by decide) h0)
    have hS := fun c => tS_le (x := Y 0) (n := n) (b := b) (c := c) hb6
    obtain ⟨f, ed, hf⟩ := r149 (X := X) (Y := Y) (sc := sc) (ai := ai) (aj := aj) (c := code) h0 h1 (by omega)
    have step : ∀ (y1 : Nat → Nat) (f g : Nat → Int32) (mo : Int32) (be : Nat), (mo = -1 ∨ (∃ v, v ≤ n ∧ mo = nI v) ∧ ∀ k, k < Y 0 0 → g k = nI (dg (Y 0 0) be k)) → ∃ y2 f2 g2 z, ax_res 155 33 [some (.ref 134), some (.int (nI b)), some (.int (nI n)), some (.int k), some (.int mo), some (.int (nI (code + 1)))] [] (hp X (upX Y 1 y1) sc (upA (upA ai 144 f) 145 g) aj) = ax_res 155 83 [some (.ref 134), some (.int (nI b)), some (.int (nI n)), some (.int k), some (.int (tsF (tS (Y 0) n b) (pl (Y 0 0) m (code + 1)) mo be).1), some (.int z)] [] (hp X (upX Y 1 y2) sc (upA (upA ai 144 f2) 145 g2) aj) ∧ ((tsF (tS (Y 0) n b) (pl (Y 0 0) m (code + 1)) mo be).1 = -1 ∨ ∀ k, k < Y 0 0 → g2 k = nI (dg (Y 0 0) (tsF (tS (Y 0) n b) (pl (Y 0 0) m (code + 1)) mo be).2 k)) := by
      intro y1 f g mo be hmo
      obtain ⟨y2, f2, g2, z, e, h2⟩ := ih (upX Y 1 y1) (upA (upA ai 144 f) 145 g) (code + 1) be n b k mo (by rw [upX_n (by decide)]; omega) hn (by rw [upX_n (by decide)]; exact hI) (by rw [upX_n (by decide)]; exact hm) (by rw [upX_n (by decide)]; exact hb) (by rw [upX_n (by decide), upA_s]; exact hmo)
      rw [upX_n (show ¬ 0 = 1 by decide)] at e h2
      rw [upX_u, upA_c (show ¬ 145 = 144 by decide), upA_u, upA_u] at e
      exact ⟨y2, f2, g2, z, e, h2⟩
    cases hp : isP (Y 0 0) code with
    | false =>
      rw [hp] at ed
      obtain ⟨y2, f2, g2, z, e, h2⟩ := step (Y 1) f (ai 145) mo be hmo
      rw [upX_i, show upA (upA ai 144 f) 145 (ai 145) = upA ai 144 f by rw [upA_c (by decide), upA_i]] at e
      refine ⟨y2, f2, g2, z, ?_, by rw [pl_n hp]; exact h2⟩
      rw [pl_n hp, ← e, q155_33]
      simp only [q155_35, q155_36, q155_39, q155_42, q155_43, q155_45, q155_48, q155_77, q155_80, ↓reduceIte, ax_bV_s, ax_bI_s, ax_bJ_s, ax_bA_s, ax_bH_s, ax_bR_s, ax_bR_n, oo_114, gf114_0, gf114_1, gf114_2, gf114_3, gf114_4, gf114_5, pf114_5, gf114_6, gf114_7, gf114_8, gf114_9, oo_119, gf119_0, gf119_1, pf119_1, gf119_2, pf119_2, oo_130, gf130_0, gf130_1, gf130_2, pf130_2, oo_134, gf134_0, gf134_1, pf134_1, gf134_2, pf134_2, gf134_3, pf134_3, gf134_4, gf134_5, pf134_5, gf134_6, gf134_7, gf134_8, gf134_9, pf134_9, gf134_10, gf134_11, gf134_12, gf134_13, gf134_14, gf134_15, gf134_16, gi120, pi120, li120, gi131, pi131, li131, gi132, pi132, li132, gi136, pi136, li136, gi138, pi138, li138, gi139, pi139, li139, gi140, pi140, li140, gi141, pi141, li141, gi142, pi142, li142, gi144, pi144, li144, gi145, pi145, li145, gj133, pj133, lj133, gj137, pj137, lj137, gj143, pj143, lj143, gj146, pj146, lj146, gA121, gAq, oo_s, gfs_0, gfs_1, gfs_2, pfs_0, pfs_1, gjs, ljs, pjs, oo_h, gfh_0, gfh_1, gfh_2, pfh_1, pfh_2, r150 h0, n_le (show Y 0 0 ^ Y 0 0 < 2 ^ 31 by omega) (show code < 2 ^ 31 by omega), show ¬ Y 0 0 ^ Y 0 0 ≤ code by omega, ed, n_bn0, nI_add]
    | true =>
      rw [hp] at ed
      have h51 := r151 (X := X) (Y := Y) (sc := sc) (ai := upA ai 144 f) (aj := aj) (c := code) (n := n) hI h1 (by omega) (fun j hj => by rw [upA_s]; exact hf j hj)
      have hg := gain (inv_dlk (c := code) hI h1) (n := n) hb6
      rw [fgt_dlk, show dlk (Y 0 0) code (Y 0 0) (Y 0) (12 + b) = Y 0 (12 + b) from if_neg (by omega)] at hg
      have h54 := fun (a : Nat → Nat → Int32) => r154 (X := X) (Y := upX Y 1 (pasN n (dlk (Y 0 0) code (Y 0 0) (Y 0)))) (sc := sc) (ai := a) (aj := aj) (g := tS (Y 0) n b code) hb6 (by rw [upX_s, upX_n (by decide)]; exact hg)
      by_cases c1 : nI (tS (Y 0) n b code) ≤ mo
      · obtain ⟨y2, f2, g2, z, e, h2⟩ := step (pasN n (dlk (Y 0 0) code (Y 0 0) (Y 0))) f (ai 145) mo be hmo
        rw [show upA (upA ai 144 f) 145 (ai 145) = upA ai 144 f by rw [upA_c (by decide), upA_i]] at e
        refine ⟨y2, f2, g2, z, ?_, by rw [pl_y hp, tsF_y c1]; exact h2⟩
        rw [pl_y hp, tsF_y c1, ← e, q155_33]
        simp only [q155_35, q155_36, q155_39, q155_42, q155_43, q155_45, q155_48, q155_51, q155_52, q155_53, q155_56, q155_57, q155_58, q155_61, q155_63, q155_77, q155_80, ↓reduceIte, ax_bV_s, ax_bI_s, ax_bJ_s, ax_bA_s, ax_bH_s, ax_bR_s, ax_bR_n, oo_114, gf114_0, gf114_1, gf114_2, gf114_3, gf114_4, gf114_5, pf114_5, gf114_6, gf114_7, gf114_8, gf114_9, oo_119, gf119_0, gf119_1, pf119_1, gf119_2, pf119_2, oo_130, gf130_0, gf130_1, gf130_2, pf130_2, oo_134, gf134_0, gf134_1, pf134_1, gf134_2, pf134_2, gf134_3, pf134_3, gf134_4, gf134_5, pf134_5, gf134_6, gf134_7, gf134_8, gf134_9, pf134_9, gf134_10, gf134_11, gf134_12, gf134_13, gf134_14, gf134_15, gf134_16, gi120, pi120, li120, gi131, pi131, li131, gi132, pi132, li132, gi136, pi136, li136, gi138, pi138, li138, gi139, pi139, li139, gi140, pi140, li140, gi141, pi141, li141, gi142, pi142, li142, gi144, pi144, li144, gi145, pi145, li145, gj133, pj133, lj133, gj137, pj137, lj137, gj143, pj143, lj143, gj146, pj146, lj146, gA121, gAq, oo_s, gfs_0, gfs_1, gfs_2, pfs_0, pfs_1, gjs, ljs, pjs, oo_h, gfh_0, gfh_1, gfh_2, pfh_1, pfh_2, r150 h0, n_le (show Y 0 0 ^ Y 0 0 < 2 ^ 31 by omega) (show code < 2 ^ 31 by omega), show ¬ Y 0 0 ^ Y 0 0 ≤ code by omega, ed, n_bn0, Bool.true_eq_false, h51, h54, c1, nI_add]
      · obtain ⟨g, ek, hk⟩ := r152 (X := X) (Y := upX Y 1 (pasN n (dlk (Y 0 0) code (Y 0 0) (Y 0)))) (sc := sc) (ai := upA ai 144 f) (aj := aj) (by rw [upX_n (by decide)]; exact h0)
        rw [upX_n (show ¬ 0 = 1 by decide), upA_s] at hk
        obtain ⟨y2, f2, g2, z, e, h2⟩ := step (pasN n (dlk (Y 0 0) code (Y 0 0) (Y 0))) f g (nI (tS (Y 0) n b code)) code (Or.inr ⟨⟨_, hS code, rfl⟩, fun j hj => by rw [hk j hj, hf j hj]⟩)
        refine ⟨y2, f2, g2, z, ?_, by rw [pl_y hp, tsF_n c1]; exact h2⟩
        rw [pl_y hp, tsF_n c1, ← e, q155_33]
        simp only [q155_35, q155_36, q155_39, q155_42, q155_43, q155_45, q155_48, q155_51, q155_52, q155_53, q155_56, q155_57, q155_58, q155_61, q155_63, q155_66, q155_67, q155_68, q155_71, q155_73, q155_74, q155_77, q155_80, ↓reduceIte, ax_bV_s, ax_bI_s, ax_bJ_s, ax_bA_s, ax_bH_s, ax_bR_s, ax_bR_n, oo_114, gf114_0, gf114_1, gf114_2, gf114_3, gf114_4, gf114_5, pf114_5, gf114_6, gf114_7, gf114_8, gf114_9, oo_119, gf119_0, gf119_1, pf119_1, gf119_2, pf119_2, oo_130, gf130_0, gf130_1, gf130_2, pf130_2, oo_134, gf134_0, gf134_1, pf134_1, gf134_2, pf134_2, gf134_3, pf134_3, gf134_4, gf134_5, pf134_5, gf134_6, gf134_7, gf134_8, gf134_9, pf134_9, gf134_10, gf134_11, gf134_12, gf134_13, gf134_14, gf134_15, gf134_16, gi120, pi120, li120, gi131, pi131, li131, gi132, pi132, li132, gi136, pi136, li136, gi138, pi138, li138, gi139, pi139, li139, gi140, pi140, li140, gi141, pi141, li141, gi142, pi142, li142, gi144, pi144, li144, gi145, pi145, li145, gj133, pj133, lj133, gj137, pj137, lj137, gj143, pj143, lj143, gj146, pj146, lj146, gA121, gAq, oo_s, gfs_0, gfs_1, gfs_2, pfs_0, pfs_1, gjs, ljs, pjs, oo_h, gfh_0, gfh_1, gfh_2, pfh_1, pfh_2, r150 h0, n_le (show Y 0 0 ^ Y 0 0 < 2 ^ 31 by omega) (show code < 2 ^ 31 by omega), show ¬ Y 0 0 ^ Y 0 0 ≤ code by omega, ed, n_bn0, Bool.true_eq_false, h51, h54, c1, ek, nI_add]
theorem m155_bad {b n k : Int32} (hI : Inv (Y 0)) (h : (isB b (Y 0 0) && (isI n 1 40 && decide (-1 ≤ k))) = false) : ax_res 155 0 [some (.ref 134), some (.int b), some (.int n), some (.int k), none, none] [] (hp X Y sc ai aj) = some (some (.int (-1)), hp X Y sc ai aj) := by
  simp only [q155_0, q155_1, q155_2, q155_5, q155_8, q155_9, q155_10, q155_11, q155_14, q155_17, q155_20, q155_21, q155_22, q155_25, q155_26, ↓reduceIte, ax_bV_s, ax_bI_s, ax_bJ_s, ax_bA_s, ax_bH_s, ax_bR_s, ax_bR_n, oo_114, gf114_0, gf114_1, gf114_2, gf114_3, gf114_4, gf114_5, pf114_5, gf114_6, gf114_7, gf114_8, gf114_9, oo_119, gf119_0, gf119_1, pf119_1, gf119_2, pf119_2, oo_130, gf130_0, gf130_1, gf130_2, pf130_2, oo_134, gf134_0, gf134_1, pf134_1, gf134_2, pf134_2, gf134_3, pf134_3, gf134_4, gf134_5, pf134_5, gf134_6, gf134_7, gf134_8, gf134_9, pf134_9, gf134_10, gf134_11, gf134_12, gf134_13, gf134_14, gf134_15, gf134_16, gi120, pi120, li120, gi131, pi131, li131, gi132, pi132, li132, gi136, pi136, li136, gi138, pi138, li138, gi139, pi139, li139, gi140, pi140, li140, gi141, pi141, li141, gi142, pi142, li142, gi144, pi144, li144, gi145, pi145, li145, gj133, pj133, lj133, gj137, pj137, lj137, gj143, pj143, lj143, gj146, pj146, lj146, gA121, gAq, oo_s, gfs_0, gfs_1, gfs_2, pfs_0, pfs_1, gjs, ljs, pjs, oo_h, gfh_0, gfh_1, gfh_2, pfh_1, pfh_2, r108 hI.1, r104I (show 1 < 2 ^ 31 by decide) (show 40 < 2 ^ 31 by decide), n_bn0]
  revert h
  cases isB b (Y 0 0) <;> cases isI n 1 40 <;> by_cases h3 : -1 ≤ k <;> simp [h3]
theorem m155_ok {b n : Nat} (k : Option Nat) {kk : Int32} (hk : (k = none ∧ kk = -1) ∨ ∃ j, j < 2 ^ 31 ∧ k = some j ∧ kk = nI j) (hI : Inv (Y 0)) (hm : Y 0 1 ≤ 9999) (hb : b < Y 0 0) (hn1 : 1 ≤ n) (hn : n ≤ 40) : ∃ y1 f1 g1, ax_res 155 0 [some (.ref 134), some (.int (nI b)), some (.int (nI n)), some (.int kk), none, none] [] (hp X Y sc ai aj) = some (some (.int (tnA (Y 0) n b k)), hp X (upX Y 1 y1) sc (upA (upA ai 144 f1) 145 g1) aj) := by
  have h0 := hI.1
  have hS := fun c => tS_le (x := Y 0) (n := n) (b := b) (c := c) (by omega)
  obtain ⟨y1, f1, g1, z, e, hg⟩ := m155_l (X := X) (sc := sc) (aj := aj) (Y 0 0 ^ Y 0 0) Y ai 0 0 n b kk (-1) (by omega) hn hI hm hb (Or.inl rfl)
  obtain ⟨c, L, hL, -, -⟩ := chk_N (show 1 ≤ Y 0 0 by omega) h0
  have hg' : ∀ k, k < Y 0 0 → g1 k = nI (dg (Y 0 0) (tsF (tS (Y 0) n b) (pl (Y 0 0) (Y 0 0 ^ Y 0 0) 0) (-1) 0).2 k) := by
    rcases hg with hg | hg
    · rw [hL, tsF_n (nI_n1 (by have := hS c; omega))] at hg
      obtain ⟨v', hv, ev⟩ := tsF_nn (n := n) (by omega) hS L (tS (Y 0) n b c) c (hS c)
      rw [ev] at hg
      exact (ne_n1 (by omega) hg).elim
    · exact hg
  refine ⟨y1, f1, g1, ?_⟩
  rcases hk with ⟨rfl, rfl⟩ | ⟨j, hj, rfl, rfl⟩
  · simp only [q155_0, q155_1, q155_2, q155_5, q155_8, q155_9, q155_10, q155_11, q155_14, q155_17, q155_20, q155_21, q155_22, q155_27, q155_28, q155_30, q155_31, ↓reduceIte, ax_bV_s, ax_bI_s, ax_bJ_s, ax_bA_s, ax_bH_s, ax_bR_s, ax_bR_n, oo_114, gf114_0, gf114_1, gf114_2, gf114_3, gf114_4, gf114_5, pf114_5, gf114_6, gf114_7, gf114_8, gf114_9, oo_119, gf119_0, gf119_1, pf119_1, gf119_2, pf119_2, oo_130, gf130_0, gf130_1, gf130_2, pf130_2, oo_134, gf134_0, gf134_1, pf134_1, gf134_2, pf134_2, gf134_3, pf134_3, gf134_4, gf134_5, pf134_5, gf134_6, gf134_7, gf134_8, gf134_9, pf134_9, gf134_10, gf134_11, gf134_12, gf134_13, gf134_14, gf134_15, gf134_16, gi120, pi120, li120, gi131, pi131, li131, gi132, pi132, li132, gi136, pi136, li136, gi138, pi138, li138, gi139, pi139, li139, gi140, pi140, li140, gi141, pi141, li141, gi142, pi142, li142, gi144, pi144, li144, gi145, pi145, li145, gj133, pj133, lj133, gj137, pj137, lj137, gj143, pj143, lj143, gj146, pj146, lj146, gA121, gAq, oo_s, gfs_0, gfs_1, gfs_2, pfs_0, pfs_1, gjs, ljs, pjs, oo_h, gfh_0, gfh_1, gfh_2, pfh_1, pfh_2, r108 h0, isB_t (show Y 0 0 ≤ 1000 by omega) hb, r104I (show 1 < 2 ^ 31 by decide) (show 40 < 2 ^ 31 by decide), isI_nI (show n < 2 ^ 31 by omega) hn1 hn, n_bn0, Bool.true_eq_false, Int32.le_refl, e]
    simp only [q155_83, q155_84, q155_87, q155_89, q155_97, ↓reduceIte, ax_bV_s, ax_bI_s, ax_bJ_s, ax_bA_s, ax_bH_s, ax_bR_s, ax_bR_n, n1_0le, tnA]
  · have hle : -1 ≤ nI j := Int32.le_of_lt (Int32.not_le.mp (nI_n1 hj))
    have h2 := r153 (X := X) (Y := upX Y 1 y1) (sc := sc) (ai := upA (upA ai 144 f1) 145 g1) (aj := aj) (k := j) (by rw [upX_n (by decide)]; exact h0) hj
    rw [upA_s, upX_n (show ¬ 0 = 1 by decide)] at h2
    simp only [q155_0, q155_1, q155_2, q155_5, q155_8, q155_9, q155_10, q155_11, q155_14, q155_17, q155_20, q155_21, q155_22, q155_27, q155_28, q155_30, q155_31, ↓reduceIte, ax_bV_s, ax_bI_s, ax_bJ_s, ax_bA_s, ax_bH_s, ax_bR_s, ax_bR_n, oo_114, gf114_0, gf114_1, gf114_2, gf114_3, gf114_4, gf114_5, pf114_5, gf114_6, gf114_7, gf114_8, gf114_9, oo_119, gf119_0, gf119_1, pf119_1, gf119_2, pf119_2, oo_130, gf130_0, gf130_1, gf130_2, pf130_2, oo_134, gf134_0, gf134_1, pf134_1, gf134_2, pf134_2, gf134_3, pf134_3, gf134_4, gf134_5, pf134_5, gf134_6, gf134_7, gf134_8, gf134_9, pf134_9, gf134_10, gf134_11, gf134_12, gf134_13, gf134_14, gf134_15, gf134_16, gi120, pi120, li120, gi131, pi131, li131, gi132, pi132, li132, gi136, pi136, li136, gi138, pi138, li138, gi139, pi139, li139, gi140, pi140, li140, gi141, pi141, li141, gi142, pi142, li142, gi144, pi144, li144, gi145, pi145, li145, gj133, pj133, lj133, gj137, pj137, lj137, gj143, pj143, lj143, gj146, pj146, lj146, gA121, gAq, oo_s, gfs_0, gfs_1, gfs_2, pfs_0, pfs_1, gjs, ljs, pjs, oo_h, gfh_0, gfh_1, gfh_2, pfh_1, pfh_2, r108 h0, isB_t (show Y 0 0 ≤ 1000 by omega) hb, r104I (show 1 < 2 ^ 31 by decide) (show 40 < 2 ^ 31 by decide), isI_nI (show n < 2 ^ 31 by omega) hn1 hn, n_bn0, Bool.true_eq_false, hle, e]
    simp only [q155_83, q155_84, q155_92, q155_93, q155_94, q155_97, ↓reduceIte, ax_bV_s, ax_bI_s, ax_bJ_s, ax_bA_s, ax_bH_s, ax_bR_s, ax_bR_n, oo_114, gf114_0, gf114_1, gf114_2, gf114_3, gf114_4, gf114_5, pf114_5, gf114_6, gf114_7, gf114_8, gf114_9, oo_119, gf119_0, gf119_1, pf119_1, gf119_2, pf119_2, oo_130, gf130_0, gf130_1, gf130_2, pf130_2, oo_134, gf134_0, gf134_1, pf134_1, gf134_2, pf134_2, gf134_3, pf134_3, gf134_4, gf134_5, pf134_5, gf134_6, gf134_7, gf134_8, gf134_9, pf134_9, gf134_10, gf134_11, gf134_12, gf134_13, gf134_14, gf134_15, gf134_16, gi120, pi120, li120, gi131, pi131, li131, gi132, pi132, li132, gi136, pi136, li136, gi138, pi138, li138, gi139, pi139, li139, gi140, pi140, li140, gi141, pi141, li141, gi142, pi142, li142, gi144, pi144, li144, gi145, pi145, li145, gj133, pj133, lj133, gj137, pj137, lj137, gj143, pj143, lj143, gj146, pj146, lj146, gA121, gAq, oo_s, gfs_0, gfs_1, gfs_2, pfs_0, pfs_1, gjs, ljs, pjs, oo_h, gfh_0, gfh_1, gfh_2, pfh_1, pfh_2, n_0le hj, h2, tnA]
    by_cases c : j < Y 0 0
    · rw [if_pos c, if_pos c, hg' j c]
    · rw [if_neg c, if_neg c]
end TN
