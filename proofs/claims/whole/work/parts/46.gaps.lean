/-! ===== gaps ===== -/
theorem pigeon (n : Nat) : ∀ (f : Nat → Nat) (M : Nat), (∀ i, i < n → 1 ≤ f i ∧ f i ≤ M) → (∀ i j, i < j → j < n → ¬ f i = f j) → n ≤ M := by
  induction n with
  | zero => intro f M _ _; omega
  | succ n ih =>
    intro f M hr hd
    have hv := hr n (by omega)
    have h := ih (fun i => if f n < f i then f i - 1 else f i) (M - 1) (fun i hi => ?_) (fun i j hij hj => ?_)
    · omega
    · have h1 := hr i (by omega)
      have h2 := hd i n hi (by omega)
      show 1 ≤ (if f n < f i then f i - 1 else f i) ∧ (if f n < f i then f i - 1 else f i) ≤ M - 1
      by_cases c : f n < f i
      · rw [if_pos c]; omega
      · rw [if_neg c]; omega
    · have h1 := hd i j hij (by omega)
      have h2 := hd i n (by omega) (by omega)
      have h3 := hd j n hj (by omega)
      show ¬ (if f n < f i then f i - 1 else f i) = (if f n < f j then f j - 1 else f j)
      by_cases c1 : f n < f i <;> by_cases c2 : f n < f j
      · rw [if_pos c1, if_pos c2]; omega
      · rw [if_pos c1, if_neg c2]; omega
      · rw [if_neg c1, if_pos c2]; omega
      · rw [if_neg c1, if_neg c2]; omega
def tv (v : Int64) : Nat := v.toInt.toNat
theorem tv_of {v : Int64} {la : Nat} (hla : la ≤ 99) (h1 : lN 1 ≤ v) (h2 : v ≤ lN la) : v = lN (tv v) ∧ 1 ≤ tv v ∧ tv v ≤ la := by
  rw [Int64.le_iff_toInt_le, l_toInt (by decide)] at h1
  rw [Int64.le_iff_toInt_le, l_toInt (by omega)] at h2
  have e : v = lN (tv v) := by
    apply Int64.toInt_inj.mp
    unfold tv
    rw [l_toInt (by omega)]; omega
  unfold tv
  exact ⟨e, by omega, by omega⟩
def dpF (g : Nat → Int64) (v : Int64) : Nat → Nat → Bool
  | 0, _ => false
  | m + 1, e => if g e = v then true else dpF g v m (e + 1)
theorem dpF_0 {g : Nat → Int64} {v : Int64} {e : Nat} : dpF g v 0 e = false := by rw [dpF]
theorem dpF_s {g : Nat → Int64} {v : Int64} {m e : Nat} : dpF g v (m + 1) e = if g e = v then true else dpF g v m (e + 1) := by rw [dpF]
theorem dpF_f {g : Nat → Int64} {v : Int64} (m : Nat) : ∀ e, dpF g v m e = false → ∀ j, e ≤ j → j < e + m → ¬ g j = v := by
  induction m with
  | zero => intro e _ j h1 h2; omega
  | succ m ih =>
    intro e h j h1 h2
    rw [dpF_s] at h
    by_cases c : g e = v
    · rw [if_pos c] at h; cases h
    · rw [if_neg c] at h
      by_cases c2 : j = e
      · rw [c2]; exact c
      · exact ih (e + 1) h j (by omega) (by omega)
theorem dpF_c {g g' : Nat → Int64} {v : Int64} (m : Nat) : ∀ e, (∀ j, j < e + m → g j = g' j) → dpF g v m e = dpF g' v m e := by
  induction m with
  | zero => intro e _; rw [dpF_0, dpF_0]
  | succ m ih => intro e h; rw [dpF_s, dpF_s, h e (by omega), ih (e + 1) (fun j hj => h j (by omega))]
def tkF (g : Nat → Int64) (la : Nat) : Nat → Nat → Nat → Option Nat
  | 0, _, gr => some gr
  | m + 1, k, gr => if (lN 1 ≤ g k ∧ g k ≤ lN la) ∧ dpF g (g k) k 0 = false then tkF g la m (k + 1) (max gr (tv (g k))) else none
theorem tkF_0 {g : Nat → Int64} {la k gr : Nat} : tkF g la 0 k gr = some gr := by rw [tkF]
theorem tkF_y {g : Nat → Int64} {la m k gr : Nat} (h : (lN 1 ≤ g k ∧ g k ≤ lN la) ∧ dpF g (g k) k 0 = false) : tkF g la (m + 1) k gr = tkF g la m (k + 1) (max gr (tv (g k))) := by rw [tkF, if_pos h]
theorem tkF_n {g : Nat → Int64} {la m k gr : Nat} (h : ¬ ((lN 1 ≤ g k ∧ g k ≤ lN la) ∧ dpF g (g k) k 0 = false)) : tkF g la (m + 1) k gr = none := by rw [tkF, if_neg h]
theorem tkF_c {g g' : Nat → Int64} {la : Nat} (m : Nat) : ∀ k gr, (∀ j, j < k + m → g j = g' j) → tkF g la m k gr = tkF g' la m k gr := by
  induction m with
  | zero => intro k gr _; rw [tkF_0, tkF_0]
  | succ m ih =>
    intro k gr h
    have e := h k (by omega)
    have ed := dpF_c (v := g k) k 0 (fun j hj => h j (by omega))
    by_cases c : (lN 1 ≤ g k ∧ g k ≤ lN la) ∧ dpF g (g k) k 0 = false
    · rw [tkF_y c, tkF_y (g := g') (by rw [← e, ← ed]; exact c), ← e]
      exact ih (k + 1) _ (fun j hj => h j (by omega))
    · rw [tkF_n c, tkF_n (g := g') (by rw [← e, ← ed]; exact c)]
theorem tkF_p {g : Nat → Int64} {la : Nat} (hla : la ≤ 99) (m : Nat) : ∀ k gr G, tkF g la m k gr = some G → gr ≤ G ∧ (gr ≤ la → G ≤ la) ∧ ∀ j, k ≤ j → j < k + m → (g j = lN (tv (g j)) ∧ 1 ≤ tv (g j) ∧ tv (g j) ≤ G ∧ ∀ e, e < j → ¬ g e = g j) := by
  induction m with
  | zero =>
    intro k gr G h
    rw [tkF_0] at h
    cases h
    exact ⟨Nat.le_refl _, id, fun j h1 h2 => by omega⟩
  | succ m ih =>
    intro k gr G h
    by_cases c : (lN 1 ≤ g k ∧ g k ≤ lN la) ∧ dpF g (g k) k 0 = false
    · rw [tkF_y c] at h
      obtain ⟨a1, a2, a3⟩ := ih (k + 1) _ G h
      obtain ⟨b1, b2, b3⟩ := tv_of hla c.1.1 c.1.2
      refine ⟨by omega, fun hq => a2 (by omega), fun j h1 h2 => ?_⟩
      by_cases cj : j = k
      · subst cj
        exact ⟨b1, b2, by omega, fun e he => dpF_f j 0 c.2 e (by omega) (by omega)⟩
      · exact a3 j (by omega) (by omega)
    · rw [tkF_n c] at h; cases h
theorem tkF_n_le {g : Nat → Int64} {la n G : Nat} (hla : la ≤ 99) (h : tkF g la n 0 0 = some G) : n ≤ G ∧ G ≤ la := by
  obtain ⟨-, a2, a3⟩ := tkF_p hla n 0 0 G h
  refine ⟨pigeon n (fun j => tv (g j)) G (fun i hi => ⟨(a3 i (by omega) (by omega)).2.1, (a3 i (by omega) (by omega)).2.2.1⟩) (fun i j hij hj e => ?_), a2 (by omega)⟩
  have q1 := (a3 i (by omega) (by omega)).1
  have q2 := a3 j (by omega) (by omega)
  exact q2.2.2.2 i hij (by rw [q1, q2.1]; exact congrArg lN e)
def chs (M : Nat) : Nat → Nat
  | 0 => 1
  | i + 1 => chs M i * (M - i) / (i + 1)
theorem chs_0 {M : Nat} : chs M 0 = 1 := by rw [chs]
theorem chs_s {M i : Nat} : chs M (i + 1) = chs M i * (M - i) / (i + 1) := by rw [chs]
def ffl (M : Nat) : Nat → Nat
  | 0 => 1
  | i + 1 => ffl M i * (M - i)
theorem ffl_s {M i : Nat} : ffl M (i + 1) = ffl M i * (M - i) := by rw [ffl]
def fct : Nat → Nat
  | 0 => 1
  | i + 1 => fct i * (i + 1)
theorem chs_ok : ∀ M, M < 100 → ∀ n, n < 9 → chs M n < 2 ^ 40 ∧ chs M n * fct n = ffl M n ∧ ffl M n < 2 ^ 60 ∧ (n ≤ M → 0 < chs M n) ∧ 0 < fct n := by decide +kernel
theorem frc_c {G M n w : Nat} (hG : G < 100) (hM : M < 100) (hn : n < 9) : frc (ffl G n) (ffl M n) w = frc (chs G n) (chs M n) w := by
  obtain ⟨-, a2, -, -, a5⟩ := chs_ok G hG n hn
  obtain ⟨-, b2, -, -, -⟩ := chs_ok M hM n hn
  unfold frc
  rw [← a2, ← b2, Nat.gcd_mul_right]
  split
  · exact Nat.mul_div_mul_right _ _ a5
  · exact Nat.mul_div_mul_right _ _ a5
def gpA (g : Nat → Int64) (n m w : Nat) : Int64 := match tkF g (if m = 0 then 99 else m) n 0 0 with
  | none => -2
  | some G => if m = 0 then lN G else lN (frc (chs G n) (chs m n) w)
theorem gpA_n {g : Nat → Int64} {n m w : Nat} (h : tkF g (if m = 0 then 99 else m) n 0 0 = none) : gpA g n m w = -2 := by unfold gpA; rw [h]
theorem gpA_y {g : Nat → Int64} {n m w G : Nat} (h : tkF g (if m = 0 then 99 else m) n 0 0 = some G) : gpA g n m w = if m = 0 then lN G else lN (frc (chs G n) (chs m n) w) := by unfold gpA; rw [h]
theorem gpA_c {g g' : Nat → Int64} {n m w : Nat} (h : ∀ j, j < n → g j = g' j) : gpA g n m w = gpA g' n m w := by
  unfold gpA
  rw [tkF_c n 0 0 (fun j hj => h j (by omega))]
def tkA (o : Option Nat) : Int32 := match o with
  | none => -2
  | some G => nI G
theorem max_n2 {v : Nat} (hv : v ≤ 99) : ax_max (-2) (nI v) = nI (max 0 v) := by
  unfold ax_max
  have h : (-2 : Int32) < nI v := by rw [Int32.lt_iff_toInt_lt, nI_toInt (by omega)]; show (-2 : Int) < v; omega
  rw [if_pos h, Nat.zero_max]
section GP
variable {X Y : Nat → Nat → Nat} {sc : Nat → Nat → Int32} {ai : Nat → Nat → Int32} {aj : Nat → Nat → Int64} {s : Nat}
theorem r38_l (m : Nat) : ∀ (e k i : Nat), e + m = k → i + k < 24 → s < 4 → ax_res 38 2 [some (.ref (sh s)), some (.int (nI i)), some (.int (nI (i + k))), some (.int (nI (i + e)))] [] (hp X Y sc ai aj) = some (some (.int (nI (bn (dpF (fun j => aj (si s) (i + j)) (aj (si s) (i + k)) m e)))), hp X Y sc ai aj) := by
  induction m with
  | zero =>
    intro e k i he hi hs
    rw [dpF_0]
    simp only [q38_2, q38_3, q38_4, q38_31, q38_32, ↓reduceIte, ax_bV_s, ax_bI_s, ax_bJ_s, ax_bA_s, ax_bH_s, ax_bR_s, ax_bR_n, ax_fit1_0, ax_fit1_1, ax_fitb, n_le (show i + k < 2 ^ 31 by omega) (show i + e < 2 ^ 31 by omega), show i + k ≤ i + e by omega]
    rfl
  | succ m ih =>
    intro e k i he hi hs
    have e1 := ih (e + 1) k i (by omega) hi hs
    rw [q38_2, dpF_s]
    by_cases c : aj (si s) (i + e) = aj (si s) (i + k)
    · rw [if_pos c]
      simp only [q38_3, q38_4, q38_7, q38_8, q38_11, q38_12, q38_13, q38_14, q38_17, q38_18, q38_19, q38_20, q38_23, q38_24, ↓reduceIte, ax_bV_s, ax_bI_s, ax_bJ_s, ax_bA_s, ax_bH_s, ax_bR_s, ax_bR_n, oo_114, gf114_0, gf114_1, gf114_2, gf114_3, gf114_4, gf114_5, pf114_5, gf114_6, gf114_7, gf114_8, gf114_9, oo_119, gf119_0, gf119_1, pf119_1, gf119_2, pf119_2, oo_130, gf130_0, gf130_1, gf130_2, pf130_2, oo_134, gf134_0, gf134_1, pf134_1, gf134_2, pf134_2, gf134_3, pf134_3, gf134_4, gf134_5, pf134_5, gf134_6, gf134_7, gf134_8, gf134_9, pf134_9, gf134_10, gf134_11, gf134_12, gf134_13, gf134_14, gf134_15, gf134_16, gi120, pi120, li120, gi131, pi131, li131, gi132, pi132, li132, gi136, pi136, li136, gi138, pi138, li138, gi139, pi139, li139, gi140, pi140, li140, gi141, pi141, li141, gi142, pi142, li142, gi144, pi144, li144, gi145, pi145, li145, gj133, pj133, lj133, gj137, pj137, lj137, gj143, pj143, lj143, gj146, pj146, lj146, gA121, gAq, oo_s, gfs_0, gfs_1, gfs_2, pfs_0, pfs_1, gjs, ljs, pjs, oo_h, gfh_0, gfh_1, gfh_2, pfh_1, pfh_2, ax_fit1_0, ax_fit1_1, ax_fitb, hs, n_le (show i + k < 2 ^ 31 by omega) (show i + e < 2 ^ 31 by omega), show ¬ i + k ≤ i + e by omega, show i + e < 24 by omega, show i + k < 24 by omega, lg_cmp_eq, c]
      rfl
    · rw [if_neg c, ← e1]
      simp only [q38_3, q38_4, q38_7, q38_8, q38_11, q38_12, q38_13, q38_14, q38_17, q38_18, q38_19, q38_20, q38_25, q38_28, ↓reduceIte, ax_bV_s, ax_bI_s, ax_bJ_s, ax_bA_s, ax_bH_s, ax_bR_s, ax_bR_n, oo_114, gf114_0, gf114_1, gf114_2, gf114_3, gf114_4, gf114_5, pf114_5, gf114_6, gf114_7, gf114_8, gf114_9, oo_119, gf119_0, gf119_1, pf119_1, gf119_2, pf119_2, oo_130, gf130_0, gf130_1, gf130_2, pf130_2, oo_134, gf134_0, gf134_1, pf134_1, gf134_2, pf134_2, gf134_3, pf134_3, gf134_4, gf134_5, pf134_5, gf134_6, gf134_7, gf134_8, gf134_9, pf134_9, gf134_10, gf134_11, gf134_12, gf134_13, gf134_14, gf134_15, gf134_16, gi120, pi120, li120, gi131, pi131, li131, gi132, pi132, li132, gi136, pi136, li136, gi138, pi138, li138, gi139, pi139, li139, gi140, pi140, li140, gi141, pi141, li141, gi142, pi142, li142, gi144, pi144, li144, gi145, pi145, li145, gj133, pj133, lj133, gj137, pj137, lj137, gj143, pj143, lj143, gj146, pj146, lj146, gA121, gAq, oo_s, gfs_0, gfs_1, gfs_2, pfs_0, pfs_1, gjs, ljs, pjs, oo_h, gfh_0, gfh_1, gfh_2, pfh_1, pfh_2, hs, n_le (show i + k < 2 ^ 31 by omega) (show i + e < 2 ^ 31 by omega), show ¬ i + k ≤ i + e by omega, show i + e < 24 by omega, show i + k < 24 by omega, lg_cmp_eq, c, nI_add, Nat.add_assoc]
/-- isToldBefore -/
theorem r38 {k i : Nat} (hi : i + k < 24) (hs : s < 4) : ax_res 38 0 [some (.ref (sh s)), some (.int (nI i)), some (.int (nI (i + k))), none] [] (hp X Y sc ai aj) = some (some (.int (nI (bn (dpF (fun j => aj (si s) (i + j)) (aj (si s) (i + k)) k 0)))), hp X Y sc ai aj) := by
  have e := r38_l (X := X) (Y := Y) (sc := sc) (ai := ai) (aj := aj) (s := s) k 0 k i (by omega) hi hs
  rw [Nat.add_zero] at e
  simp only [q38_0, q38_1, e]
theorem r37_l (m : Nat) : ∀ (k n i la gr : Nat) (G : Int32), k + m = n → 1 ≤ n → i + n ≤ 24 → s < 4 → la ≤ 99 → gr ≤ 99 → (k = 0 ∧ G = -2 ∧ gr = 0 ∨ 1 ≤ k ∧ G = nI gr) → ax_res 37 7 [some (.ref (sh s)), some (.int (nI i)), some (.int (nI n)), some (.int (nI la)), some (.int G), some (.int (nI (i + k)))] [] (hp X Y sc ai aj) = some (some (.int (tkA (tkF (fun j => aj (si s) (i + j)) la m k gr))), hp X Y sc ai aj) := by
  induction m with
  | zero =>
    intro k n i la gr G hk hn hi hs hla hgr hG
    rcases hG with ⟨h1, -, -⟩ | ⟨-, rfl⟩
    · omega
    · rw [tkF_0]
      simp only [q37_7, q37_9, q37_10, q37_11, q37_12, q37_74, q37_76, ↓reduceIte, ax_bV_s, ax_bI_s, ax_bJ_s, ax_bA_s, ax_bH_s, ax_bR_s, ax_bR_n, nI_add, n_le (show i + n < 2 ^ 31 by omega) (show i + k < 2 ^ 31 by omega), show i + n ≤ i + k by omega]
      rfl
  | succ m ih =>
    intro k n i la gr G hk hn hi hs hla hgr hG
    have h38 := r38 (X := X) (Y := Y) (sc := sc) (ai := ai) (aj := aj) (s := s) (k := k) (i := i) (by omega) hs
    rw [q37_7]
    by_cases c1 : aj (si s) (i + k) < lN 1
    · rw [tkF_n (fun h => by have := h.1.1; exact (lg_le_not_lt this) c1)]
      simp only [q37_9, q37_10, q37_11, q37_12, q37_15, q37_16, q37_19, q37_21, q37_22, q37_23, q37_24, q37_50, q37_52, ↓reduceIte, ax_bV_s, ax_bI_s, ax_bJ_s, ax_bA_s, ax_bH_s, ax_bR_s, ax_bR_n, oo_114, gf114_0, gf114_1, gf114_2, gf114_3, gf114_4, gf114_5, pf114_5, gf114_6, gf114_7, gf114_8, gf114_9, oo_119, gf119_0, gf119_1, pf119_1, gf119_2, pf119_2, oo_130, gf130_0, gf130_1, gf130_2, pf130_2, oo_134, gf134_0, gf134_1, pf134_1, gf134_2, pf134_2, gf134_3, pf134_3, gf134_4, gf134_5, pf134_5, gf134_6, gf134_7, gf134_8, gf134_9, pf134_9, gf134_10, gf134_11, gf134_12, gf134_13, gf134_14, gf134_15, gf134_16, gi120, pi120, li120, gi131, pi131, li131, gi132, pi132, li132, gi136, pi136, li136, gi138, pi138, li138, gi139, pi139, li139, gi140, pi140, li140, gi141, pi141, li141, gi142, pi142, li142, gi144, pi144, li144, gi145, pi145, li145, gj133, pj133, lj133, gj137, pj137, lj137, gj143, pj143, lj143, gj146, pj146, lj146, gA121, gAq, oo_s, gfs_0, gfs_1, gfs_2, pfs_0, pfs_1, gjs, ljs, pjs, oo_h, gfh_0, gfh_1, gfh_2, pfh_1, pfh_2, hs, nI_add, n_le (show i + n < 2 ^ 31 by omega) (show i + k < 2 ^ 31 by omega), show ¬ i + n ≤ i + k by omega, show i + k < 24 by omega, lg_cmp_lt, c1]
      rfl
    · by_cases c2 : lN la < aj (si s) (i + k)
      · rw [tkF_n (fun h => by have := h.1.2; exact (lg_le_not_lt this) c2)]
        simp only [q37_9, q37_10, q37_11, q37_12, q37_15, q37_16, q37_19, q37_21, q37_22, q37_23, q37_24, q37_27, q37_28, q37_31, q37_33, q37_34, q37_35, q37_36, q37_37, q37_50, q37_52, ↓reduceIte, ax_bV_s, ax_bI_s, ax_bJ_s, ax_bA_s, ax_bH_s, ax_bR_s, ax_bR_n, oo_114, gf114_0, gf114_1, gf114_2, gf114_3, gf114_4, gf114_5, pf114_5, gf114_6, gf114_7, gf114_8, gf114_9, oo_119, gf119_0, gf119_1, pf119_1, gf119_2, pf119_2, oo_130, gf130_0, gf130_1, gf130_2, pf130_2, oo_134, gf134_0, gf134_1, pf134_1, gf134_2, pf134_2, gf134_3, pf134_3, gf134_4, gf134_5, pf134_5, gf134_6, gf134_7, gf134_8, gf134_9, pf134_9, gf134_10, gf134_11, gf134_12, gf134_13, gf134_14, gf134_15, gf134_16, gi120, pi120, li120, gi131, pi131, li131, gi132, pi132, li132, gi136, pi136, li136, gi138, pi138, li138, gi139, pi139, li139, gi140, pi140, li140, gi141, pi141, li141, gi142, pi142, li142, gi144, pi144, li144, gi145, pi145, li145, gj133, pj133, lj133, gj137, pj137, lj137, gj143, pj143, lj143, gj146, pj146, lj146, gA121, gAq, oo_s, gfs_0, gfs_1, gfs_2, pfs_0, pfs_1, gjs, ljs, pjs, oo_h, gfh_0, gfh_1, gfh_2, pfh_1, pfh_2, hs, nI_add, n_le (show i + n < 2 ^ 31 by omega) (show i + k < 2 ^ 31 by omega), show ¬ i + n ≤ i + k by omega, show i + k < 24 by omega, lg_cmp_lt, c1, nI_l (show la < 2 ^ 31 by omega), lg_cmp_gt, c2]
        rfl
      · have d1 : lN 1 ≤ aj (si s) (i + k) := Int64.not_lt.mp c1
        have d2 : aj (si s) (i + k) ≤ lN la := Int64.not_lt.mp c2
        obtain ⟨b1, b2, b3⟩ := tv_of hla d1 d2
        cases c3 : dpF (fun j => aj (si s) (i + j)) (aj (si s) (i + k)) k 0 with
        | true =>
          rw [c3] at h38
          rw [tkF_n (fun h => by have := h.2; rw [c3] at this; exact Bool.noConfusion this)]
          simp only [q37_9, q37_10, q37_11, q37_12, q37_15, q37_16, q37_19, q37_21, q37_22, q37_23, q37_24, q37_27, q37_28, q37_31, q37_33, q37_34, q37_35, q37_36, q37_37, q37_40, q37_41, q37_42, q37_44, q37_47, q37_50, q37_52, ↓reduceIte, ax_bV_s, ax_bI_s, ax_bJ_s, ax_bA_s, ax_bH_s, ax_bR_s, ax_bR_n, oo_114, gf114_0, gf114_1, gf114_2, gf114_3, gf114_4, gf114_5, pf114_5, gf114_6, gf114_7, gf114_8, gf114_9, oo_119, gf119_0, gf119_1, pf119_1, gf119_2, pf119_2, oo_130, gf130_0, gf130_1, gf130_2, pf130_2, oo_134, gf134_0, gf134_1, pf134_1, gf134_2, pf134_2, gf134_3, pf134_3, gf134_4, gf134_5, pf134_5, gf134_6, gf134_7, gf134_8, gf134_9, pf134_9, gf134_10, gf134_11, gf134_12, gf134_13, gf134_14, gf134_15, gf134_16, gi120, pi120, li120, gi131, pi131, li131, gi132, pi132, li132, gi136, pi136, li136, gi138, pi138, li138, gi139, pi139, li139, gi140, pi140, li140, gi141, pi141, li141, gi142, pi142, li142, gi144, pi144, li144, gi145, pi145, li145, gj133, pj133, lj133, gj137, pj137, lj137, gj143, pj143, lj143, gj146, pj146, lj146, gA121, gAq, oo_s, gfs_0, gfs_1, gfs_2, pfs_0, pfs_1, gjs, ljs, pjs, oo_h, gfh_0, gfh_1, gfh_2, pfh_1, pfh_2, hs, nI_add, n_le (show i + n < 2 ^ 31 by omega) (show i + k < 2 ^ 31 by omega), show ¬ i + n ≤ i + k by omega, show i + k < 24 by omega, lg_cmp_lt, c1, nI_l (show la < 2 ^ 31 by omega), lg_cmp_gt, c2, h38, n_bn0, Bool.true_eq_false]
          rfl
        | false =>
          rw [c3] at h38
          have e32 : (aj (si s) (i + k)).toInt32 = nI (tv (aj (si s) (i + k))) := by rw [b1, lN_i, ← b1]
          have emx : ax_max G (nI (tv (aj (si s) (i + k)))) = nI (max gr (tv (aj (si s) (i + k)))) := by
            rcases hG with ⟨-, rfl, rfl⟩ | ⟨-, rfl⟩
            · exact max_n2 (by omega)
            · exact n_max (by omega) (by omega)
          have e := ih (k + 1) n i la (max gr (tv (aj (si s) (i + k)))) (nI (max gr (tv (aj (si s) (i + k))))) (by omega) hn hi hs hla (by omega) (Or.inr ⟨by omega, rfl⟩)
          rw [← Nat.add_assoc] at e
          rw [tkF_y (g := fun j => aj (si s) (i + j)) (k := k) ⟨⟨d1, d2⟩, c3⟩, ← e]
          simp only [q37_9, q37_10, q37_11, q37_12, q37_15, q37_16, q37_19, q37_21, q37_22, q37_23, q37_24, q37_27, q37_28, q37_31, q37_33, q37_34, q37_35, q37_36, q37_37, q37_40, q37_41, q37_42, q37_44, q37_47, q37_53, q37_55, q37_56, q37_59, q37_61, q37_62, q37_63, q37_66, q37_68, q37_71, ↓reduceIte, ax_bV_s, ax_bI_s, ax_bJ_s, ax_bA_s, ax_bH_s, ax_bR_s, ax_bR_n, oo_114, gf114_0, gf114_1, gf114_2, gf114_3, gf114_4, gf114_5, pf114_5, gf114_6, gf114_7, gf114_8, gf114_9, oo_119, gf119_0, gf119_1, pf119_1, gf119_2, pf119_2, oo_130, gf130_0, gf130_1, gf130_2, pf130_2, oo_134, gf134_0, gf134_1, pf134_1, gf134_2, pf134_2, gf134_3, pf134_3, gf134_4, gf134_5, pf134_5, gf134_6, gf134_7, gf134_8, gf134_9, pf134_9, gf134_10, gf134_11, gf134_12, gf134_13, gf134_14, gf134_15, gf134_16, gi120, pi120, li120, gi131, pi131, li131, gi132, pi132, li132, gi136, pi136, li136, gi138, pi138, li138, gi139, pi139, li139, gi140, pi140, li140, gi141, pi141, li141, gi142, pi142, li142, gi144, pi144, li144, gi145, pi145, li145, gj133, pj133, lj133, gj137, pj137, lj137, gj143, pj143, lj143, gj146, pj146, lj146, gA121, gAq, oo_s, gfs_0, gfs_1, gfs_2, pfs_0, pfs_1, gjs, ljs, pjs, oo_h, gfh_0, gfh_1, gfh_2, pfh_1, pfh_2, hs, nI_add, n_le (show i + n < 2 ^ 31 by omega) (show i + k < 2 ^ 31 by omega), show ¬ i + n ≤ i + k by omega, show i + k < 24 by omega, lg_cmp_lt, c1, nI_l (show la < 2 ^ 31 by omega), lg_cmp_gt, c2, h38, n_bn0, e32, emx]
/-- greatestTicket -/
theorem r37 {n i la : Nat} (hn : 1 ≤ n) (hi : i + n ≤ 24) (hs : s < 4) (hla : la ≤ 99) : ax_res 37 0 [some (.ref (sh s)), some (.int (nI i)), some (.int (nI n)), some (.int (nI la)), none, none] [] (hp X Y sc ai aj) = some (some (.int (tkA (tkF (fun j => aj (si s) (i + j)) la n 0 0))), hp X Y sc ai aj) := by
  have e := r37_l (X := X) (Y := Y) (sc := sc) (ai := ai) (aj := aj) (s := s) n 0 n i la 0 (-2) (by omega) hn hi hs hla (by omega) (Or.inl ⟨rfl, rfl, rfl⟩)
  rw [Nat.add_zero] at e
  simp only [q37_0, q37_2, q37_4, q37_5, e]
theorem r101_l (m : Nat) : ∀ (i M n : Nat) (h : ax_H), i + m = n → n ≤ M → M ≤ 99 → n ≤ 8 → ax_res 101 5 [some (.int (nI M)), some (.int (nI n)), some (.long (lN (chs M i))), none, some (.int (nI i))] [] h = some (some (.long (lN (chs M n))), h) := by
  induction m with
  | zero =>
    intro i M n h hi hn hM h8
    have e : i = n := by omega
    subst e
    simp only [q101_5, q101_7, q101_8, q101_31, q101_32, ↓reduceIte, ax_bV_s, ax_bI_s, ax_bJ_s, ax_bA_s, ax_bH_s, ax_bR_s, ax_bR_n, n_le (show i < 2 ^ 31 by omega) (show i < 2 ^ 31 by omega), Nat.le_refl]
  | succ m ih =>
    intro i M n h hi hn hM h8
    have e := ih (i + 1) M n h (by omega) hn hM h8
    have hb := (chs_ok M (by omega) i (by omega)).1
    have hb2 : chs M i * (M - i) ≤ 2 ^ 40 * 99 := Nat.mul_le_mul (by omega) (by omega)
    rw [chs_s] at e
    rw [q101_5]
    simp only [q101_7, q101_8, q101_11, q101_12, q101_13, q101_15, q101_16, q101_17, q101_18, q101_20, q101_21, q101_22, q101_23, q101_24, q101_25, q101_28, ↓reduceIte, ax_bV_s, ax_bI_s, ax_bJ_s, ax_bA_s, ax_bH_s, ax_bR_s, ax_bR_n, n_le (show n < 2 ^ 31 by omega) (show i < 2 ^ 31 by omega), show ¬ n ≤ i by omega, n_sub (show i ≤ M by omega), nI_add, nI_l (show M - i < 2 ^ 31 by omega), nI_l (show i + 1 < 2 ^ 31 by omega), lN_mul, l_ne0 (show 0 < i + 1 by omega) (show i + 1 < 2 ^ 63 by omega), not_false_eq_true, pk_lDiv (show chs M i * (M - i) < 2 ^ 63 by omega) (show 0 < i + 1 by omega) (show i + 1 < 2 ^ 63 by omega), e]
/-- choices -/
theorem r101 {M n : Nat} (h : ax_H) (hn : n ≤ M) (hM : M ≤ 99) (h8 : n ≤ 8) : ax_res 101 0 [some (.int (nI M)), some (.int (nI n)), none, none, none] [] h = some (some (.long (lN (chs M n))), h) := by
  have e := r101_l n 0 M n h (by omega) hn hM h8
  rw [chs_0] at e
  simp only [q101_0, q101_1, q101_2, q101_3, e]
def gpOk (t l n m w : Int32) : Bool := (isI t 0 3 && isI l 0 3) && (isI n 1 8 && (isI m 0 99 && (isI w 0 1 && !(decide (m = 0) && decide (w = nI 1)))))
theorem s78_bad {t l i n m w : Int32} (h : gpOk t l n m w = false) : ax_res 78 0 [some (.ref 114), some (.int t), some (.int l), some (.int i), some (.int n), some (.int m), some (.int w), none, none, none] [] (hp X Y sc ai aj) = some (some (.long (-1)), hp X Y sc ai aj) := by
  simp only [q78_0, q78_1, q78_2, q78_5, q78_8, q78_10, q78_11, q78_13, q78_16, q78_19, q78_22, q78_23, q78_25, q78_26, q78_28, q78_31, q78_34, q78_36, q78_37, q78_38, q78_41, q78_44, q78_46, q78_49, q78_51, q78_52, q78_55, q78_58, ↓reduceIte, ax_bV_s, ax_bI_s, ax_bJ_s, ax_bA_s, ax_bH_s, ax_bR_s, ax_bR_n, oo_114, gf114_0, gf114_1, gf114_2, gf114_3, gf114_4, gf114_5, pf114_5, gf114_6, gf114_7, gf114_8, gf114_9, oo_119, gf119_0, gf119_1, pf119_1, gf119_2, pf119_2, oo_130, gf130_0, gf130_1, gf130_2, pf130_2, oo_134, gf134_0, gf134_1, pf134_1, gf134_2, pf134_2, gf134_3, pf134_3, gf134_4, gf134_5, pf134_5, gf134_6, gf134_7, gf134_8, gf134_9, pf134_9, gf134_10, gf134_11, gf134_12, gf134_13, gf134_14, gf134_15, gf134_16, gi120, pi120, li120, gi131, pi131, li131, gi132, pi132, li132, gi136, pi136, li136, gi138, pi138, li138, gi139, pi139, li139, gi140, pi140, li140, gi141, pi141, li141, gi142, pi142, li142, gi144, pi144, li144, gi145, pi145, li145, gj133, pj133, lj133, gj137, pj137, lj137, gj143, pj143, lj143, gj146, pj146, lj146, gA121, gAq, oo_s, gfs_0, gfs_1, gfs_2, pfs_0, pfs_1, gjs, ljs, pjs, oo_h, gfh_0, gfh_1, gfh_2, pfh_1, pfh_2, r87, r84I (show 1 < 2 ^ 31 by decide) (show 8 < 2 ^ 31 by decide), r84I (show 0 < 2 ^ 31 by decide) (show 99 < 2 ^ 31 by decide), r84I (show 0 < 2 ^ 31 by decide) (show 1 < 2 ^ 31 by decide), n_bn0]
  revert h
  unfold gpOk
  cases (isI t 0 3 && isI l 0 3) <;> cases isI n 1 8 <;> cases isI m 0 99 <;> cases isI w 0 1 <;> by_cases h5 : m = 0 <;> by_cases h6 : w = nI 1 <;> simp [h5, h6]
theorem gp_mw {m w : Nat} (hm : m ≤ 99) (hw : w ≤ 1) (h : ¬ (m = 0 ∧ w = 1)) : ¬ (nI m = 0 ∧ nI w = nI 1) := by
  rw [n_eq0 (by omega), n_eq (by omega) (by decide)]; exact h
theorem s78_head {t l n m w z : Nat} {i : Int32} (ht : t < 4) (hl : l < 4) (hn1 : 1 ≤ n) (hn : n ≤ 8) (hm : m ≤ 99) (hw : w ≤ 1) (hmw : ¬ (m = 0 ∧ w = 1)) (h1 : sc (sh t) 1 = nI z) (hz : z ≤ 24) : ax_res 78 0 [some (.ref 114), some (.int (nI t)), some (.int (nI l)), some (.int i), some (.int (nI n)), some (.int (nI m)), some (.int (nI w)), none, none, none] [] (hp X Y sc ai aj) = ax_res 78 78 [some (.ref 114), some (.int (nI t)), some (.int (nI l)), some (.int i), some (.int (nI n)), some (.int (nI m)), some (.int (nI w)), some (.ref (sh t)), some (.int (fltA (sc (sh t) 0) (nI l) i (nI n) z)), none] [] (hp X Y sc ai aj) := by
  have hq := gp_mw hm hw hmw
  simp only [q78_0, q78_1, q78_2, q78_5, q78_8, q78_10, q78_11, q78_13, q78_16, q78_23, q78_25, q78_26, q78_28, q78_31, q78_34, q78_36, q78_37, q78_38, q78_41, q78_44, q78_46, q78_49, q78_51, q78_52, q78_59, q78_60, q78_63, q78_64, q78_65, q78_67, q78_69, q78_70, q78_71, q78_73, q78_76, ↓reduceIte, ax_bV_s, ax_bI_s, ax_bJ_s, ax_bA_s, ax_bH_s, ax_bR_s, ax_bR_n, oo_114, gf114_0, gf114_1, gf114_2, gf114_3, gf114_4, gf114_5, pf114_5, gf114_6, gf114_7, gf114_8, gf114_9, oo_119, gf119_0, gf119_1, pf119_1, gf119_2, pf119_2, oo_130, gf130_0, gf130_1, gf130_2, pf130_2, oo_134, gf134_0, gf134_1, pf134_1, gf134_2, pf134_2, gf134_3, pf134_3, gf134_4, gf134_5, pf134_5, gf134_6, gf134_7, gf134_8, gf134_9, pf134_9, gf134_10, gf134_11, gf134_12, gf134_13, gf134_14, gf134_15, gf134_16, gi120, pi120, li120, gi131, pi131, li131, gi132, pi132, li132, gi136, pi136, li136, gi138, pi138, li138, gi139, pi139, li139, gi140, pi140, li140, gi141, pi141, li141, gi142, pi142, li142, gi144, pi144, li144, gi145, pi145, li145, gj133, pj133, lj133, gj137, pj137, lj137, gj143, pj143, lj143, gj146, pj146, lj146, gA121, gAq, oo_s, gfs_0, gfs_1, gfs_2, pfs_0, pfs_1, gjs, ljs, pjs, oo_h, gfh_0, gfh_1, gfh_2, pfh_1, pfh_2, ht, r87, isI_nI (show t < 2 ^ 31 by omega) (Nat.zero_le t) (show t ≤ 3 by omega), isI_nI (show l < 2 ^ 31 by omega) (Nat.zero_le l) (show l ≤ 3 by omega), Bool.and_self, r84I (show 1 < 2 ^ 31 by decide) (show 8 < 2 ^ 31 by decide), isI_nI (show n < 2 ^ 31 by omega) hn1 hn, r84I (show 0 < 2 ^ 31 by decide) (show 99 < 2 ^ 31 by decide), isI_nI (show m < 2 ^ 31 by omega) (Nat.zero_le m) hm, r84I (show 0 < 2 ^ 31 by decide) (show 1 < 2 ^ 31 by decide), isI_nI (show w < 2 ^ 31 by omega) (Nat.zero_le w) hw, n_bn0, Bool.not_true, r35 ht h1 hz]
  by_cases a1 : nI m = 0
  · by_cases a2 : nI w = nI 1
    · exact (hq ⟨a1, a2⟩).elim
    · simp only [↓reduceIte, ax_bV_s, ax_bI_s, ax_bJ_s, ax_bA_s, ax_bH_s, ax_bR_s, ax_bR_n, a1, a2]
  · simp only [↓reduceIte, ax_bV_s, ax_bI_s, ax_bJ_s, ax_bA_s, ax_bH_s, ax_bR_s, ax_bR_n, a1]
theorem s78_flt {t l n m w z : Nat} {i : Int32} (ht : t < 4) (hl : l < 4) (hn1 : 1 ≤ n) (hn : n ≤ 8) (hm : m ≤ 99) (hw : w ≤ 1) (hmw : ¬ (m = 0 ∧ w = 1)) (h1 : sc (sh t) 1 = nI z) (hz : z ≤ 24) (hf : ¬ fltA (sc (sh t) 0) (nI l) i (nI n) z = nI 0) : ax_res 78 0 [some (.ref 114), some (.int (nI t)), some (.int (nI l)), some (.int i), some (.int (nI n)), some (.int (nI m)), some (.int (nI w)), none, none, none] [] (hp X Y sc ai aj) = some (some (.long (fltA (sc (sh t) 0) (nI l) i (nI n) z).toInt64), hp X Y sc ai aj) := by
  have hf' : ¬ fltA (sc (sh t) 0) (nI l) i (nI n) z = 0 := by rw [← nI_0]; exact hf
  rw [s78_head ht hl hn1 hn hm hw hmw h1 hz]
  simp only [q78_78, q78_80, q78_83, q78_85, q78_86, ↓reduceIte, ax_bV_s, ax_bI_s, ax_bJ_s, ax_bA_s, ax_bH_s, ax_bR_s, ax_bR_n, hf']
theorem s78_ok {t l n m w z i : Nat} (ht : t < 4) (hl : l < 4) (hn1 : 1 ≤ n) (hn : n ≤ 8) (hm : m ≤ 99) (hw : w ≤ 1) (hmw : ¬ (m = 0 ∧ w = 1)) (h0 : sc (sh t) 0 = nI l) (h1 : sc (sh t) 1 = nI z) (hz : z ≤ 24) (hi : i + n ≤ z) : ax_res 78 0 [some (.ref 114), some (.int (nI t)), some (.int (nI l)), some (.int (nI i)), some (.int (nI n)), some (.int (nI m)), some (.int (nI w)), none, none, none] [] (hp X Y sc ai aj) = some (some (.long (gpA (fun j => aj (si t) (i + j)) n m w)), hp X Y sc ai aj) := by
  have hf : fltA (sc (sh t) 0) (nI l) (nI i) (nI n) z = nI 0 := by
    rw [h0, fltA_h hl, hold_nI (by omega) (by omega), decide_eq_true (by omega), if_pos rfl]
  rw [s78_head ht hl hn1 hn hm hw hmw h1 hz, hf]
  have mid : ax_res 78 78 [some (.ref 114), some (.int (nI t)), some (.int (nI l)), some (.int (nI i)), some (.int (nI n)), some (.int (nI m)), some (.int (nI w)), some (.ref (sh t)), some (.int (nI 0)), none] [] (hp X Y sc ai aj) = ax_res 78 109 [some (.ref 114), some (.int (nI t)), some (.int (nI l)), some (.int (nI i)), some (.int (nI n)), some (.int (nI m)), some (.int (nI w)), some (.ref (sh t)), some (.int (nI 0)), some (.int (tkA (tkF (fun j => aj (si t) (i + j)) (if m = 0 then 99 else m) n 0 0)))] [] (hp X Y sc ai aj) := by
    by_cases c : m = 0
    · subst c
      simp only [q78_78, q78_80, q78_87, q78_89, q78_90, q78_92, q78_94, q78_97, q78_99, q78_104, q78_107, ↓reduceIte, ax_bV_s, ax_bI_s, ax_bJ_s, ax_bA_s, ax_bH_s, ax_bR_s, ax_bR_n, oo_114, gf114_0, gf114_1, gf114_2, gf114_3, gf114_4, gf114_5, pf114_5, gf114_6, gf114_7, gf114_8, gf114_9, oo_119, gf119_0, gf119_1, pf119_1, gf119_2, pf119_2, oo_130, gf130_0, gf130_1, gf130_2, pf130_2, oo_134, gf134_0, gf134_1, pf134_1, gf134_2, pf134_2, gf134_3, pf134_3, gf134_4, gf134_5, pf134_5, gf134_6, gf134_7, gf134_8, gf134_9, pf134_9, gf134_10, gf134_11, gf134_12, gf134_13, gf134_14, gf134_15, gf134_16, gi120, pi120, li120, gi131, pi131, li131, gi132, pi132, li132, gi136, pi136, li136, gi138, pi138, li138, gi139, pi139, li139, gi140, pi140, li140, gi141, pi141, li141, gi142, pi142, li142, gi144, pi144, li144, gi145, pi145, li145, gj133, pj133, lj133, gj137, pj137, lj137, gj143, pj143, lj143, gj146, pj146, lj146, gA121, gAq, oo_s, gfs_0, gfs_1, gfs_2, pfs_0, pfs_1, gjs, ljs, pjs, oo_h, gfh_0, gfh_1, gfh_2, pfh_1, pfh_2, ht, n_z0, r37 (la := 99) hn1 (show i + n ≤ 24 by omega) ht (by decide)]
    · have c' : ¬ nI m = 0 := by rw [n_eq0 (by omega)]; exact c
      simp only [q78_78, q78_80, q78_87, q78_89, q78_90, q78_92, q78_94, q78_102, q78_104, q78_107, ↓reduceIte, ax_bV_s, ax_bI_s, ax_bJ_s, ax_bA_s, ax_bH_s, ax_bR_s, ax_bR_n, oo_114, gf114_0, gf114_1, gf114_2, gf114_3, gf114_4, gf114_5, pf114_5, gf114_6, gf114_7, gf114_8, gf114_9, oo_119, gf119_0, gf119_1, pf119_1, gf119_2, pf119_2, oo_130, gf130_0, gf130_1, gf130_2, pf130_2, oo_134, gf134_0, gf134_1, pf134_1, gf134_2, pf134_2, gf134_3, pf134_3, gf134_4, gf134_5, pf134_5, gf134_6, gf134_7, gf134_8, gf134_9, pf134_9, gf134_10, gf134_11, gf134_12, gf134_13, gf134_14, gf134_15, gf134_16, gi120, pi120, li120, gi131, pi131, li131, gi132, pi132, li132, gi136, pi136, li136, gi138, pi138, li138, gi139, pi139, li139, gi140, pi140, li140, gi141, pi141, li141, gi142, pi142, li142, gi144, pi144, li144, gi145, pi145, li145, gj133, pj133, lj133, gj137, pj137, lj137, gj143, pj143, lj143, gj146, pj146, lj146, gA121, gAq, oo_s, gfs_0, gfs_1, gfs_2, pfs_0, pfs_1, gjs, ljs, pjs, oo_h, gfh_0, gfh_1, gfh_2, pfh_1, pfh_2, ht, n_z0, c', c, r37 (la := m) hn1 (show i + n ≤ 24 by omega) ht hm]
  rw [mid]
  cases hk : tkF (fun j => aj (si t) (i + j)) (if m = 0 then 99 else m) n 0 0 with
  | none =>
    rw [gpA_n hk]
    simp only [q78_109, q78_111, q78_114, q78_117, ↓reduceIte, ax_bV_s, ax_bI_s, ax_bJ_s, ax_bA_s, ax_bH_s, ax_bR_s, ax_bR_n, tkA, show ¬ (0 : Int32) ≤ -2 by decide]
  | some G =>
    rw [gpA_y hk]
    obtain ⟨k1, k2⟩ := tkF_n_le (by split <;> omega) hk
    by_cases c : m = 0
    · subst c
      rw [if_pos rfl] at k2
      simp only [q78_109, q78_111, q78_118, q78_120, q78_123, q78_125, q78_126, ↓reduceIte, ax_bV_s, ax_bI_s, ax_bJ_s, ax_bA_s, ax_bH_s, ax_bR_s, ax_bR_n, tkA, n_0le (show G < 2 ^ 31 by omega), n_z0, nI_l (show G < 2 ^ 31 by omega)]
    · rw [if_neg c] at k2
      have c' : ¬ nI m = 0 := by rw [n_eq0 (by omega)]; exact c
      have q1 := chs_ok G (by omega) n (by omega)
      have q2 := chs_ok m (by omega) n (by omega)
      simp only [q78_109, q78_111, q78_118, q78_120, q78_127, q78_129, q78_131, q78_134, q78_136, q78_138, q78_141, q78_143, q78_146, ↓reduceIte, ax_bV_s, ax_bI_s, ax_bJ_s, ax_bA_s, ax_bH_s, ax_bR_s, ax_bR_n, tkA, n_0le (show G < 2 ^ 31 by omega), c', c, r101 (M := G) (n := n) _ k1 (show G ≤ 99 by omega) hn, r101 (M := m) (n := n) _ (show n ≤ m by omega) hm hn, r102 (show chs G n < 2 ^ 49 by omega) (show chs m n < 2 ^ 49 by omega) (q2.2.2.2.1 (by omega)) hw]
-- the model's
theorem m173_bad {t l i n m w : Int32} (h : gpOk t l n m w = false) : ax_res 173 0 [some (.ref 134), some (.int t), some (.int l), some (.int i), some (.int n), some (.int m), some (.int w), none, none, none, none, none, none, none, none] [] (hp X Y sc ai aj) = some (some (.long (-1)), hp X Y sc ai aj) := by
  simp only [q173_0, q173_1, q173_2, q173_5, q173_8, q173_10, q173_11, q173_12, q173_15, q173_18, q173_21, q173_23, q173_24, q173_25, q173_28, q173_31, q173_34, q173_36, q173_37, q173_38, q173_39, q173_42, q173_45, q173_47, q173_50, q173_52, q173_53, q173_56, q173_59, ↓reduceIte, ax_bV_s, ax_bI_s, ax_bJ_s, ax_bA_s, ax_bH_s, ax_bR_s, ax_bR_n, oo_114, gf114_0, gf114_1, gf114_2, gf114_3, gf114_4, gf114_5, pf114_5, gf114_6, gf114_7, gf114_8, gf114_9, oo_119, gf119_0, gf119_1, pf119_1, gf119_2, pf119_2, oo_130, gf130_0, gf130_1, gf130_2, pf130_2, oo_134, gf134_0, gf134_1, pf134_1, gf134_2, pf134_2, gf134_3, pf134_3, gf134_4, gf134_5, pf134_5, gf134_6, gf134_7, gf134_8, gf134_9, pf134_9, gf134_10, gf134_11, gf134_12, gf134_13, gf134_14, gf134_15, gf134_16, gi120, pi120, li120, gi131, pi131, li131, gi132, pi132, li132, gi136, pi136, li136, gi138, pi138, li138, gi139, pi139, li139, gi140, pi140, li140, gi141, pi141, li141, gi142, pi142, li142, gi144, pi144, li144, gi145, pi145, li145, gj133, pj133, lj133, gj137, pj137, lj137, gj143, pj143, lj143, gj146, pj146, lj146, gA121, gAq, oo_s, gfs_0, gfs_1, gfs_2, pfs_0, pfs_1, gjs, ljs, pjs, oo_h, gfh_0, gfh_1, gfh_2, pfh_1, pfh_2, r168, r104I (show 1 < 2 ^ 31 by decide) (show 8 < 2 ^ 31 by decide), r104I (show 0 < 2 ^ 31 by decide) (show 99 < 2 ^ 31 by decide), r104I (show 0 < 2 ^ 31 by decide) (show 1 < 2 ^ 31 by decide), n_bn0]
  revert h
  unfold gpOk
  cases (isI t 0 3 && isI l 0 3) <;> cases isI n 1 8 <;> cases isI m 0 99 <;> cases isI w 0 1 <;> by_cases h5 : m = 0 <;> by_cases h6 : w = nI 1 <;> simp [h5, h6]
theorem m173_head {t l n m w : Nat} {i f : Int32} (ht : t < 4) (hl : l < 4) (hn1 : 1 ≤ n) (hn : n ≤ 8) (hm : m ≤ 99) (hw : w ≤ 1) (hmw : ¬ (m = 0 ∧ w = 1)) (h : ax_res 169 0 [some (.ref 134), some (.int (nI t)), some (.int (nI l)), some (.int i), some (.int (nI n))] [] (hp X Y sc ai aj) = some (some (.int f), hp X Y sc ai aj)) : ax_res 173 0 [some (.ref 134), some (.int (nI t)), some (.int (nI l)), some (.int i), some (.int (nI n)), some (.int (nI m)), some (.int (nI w)), none, none, none, none, none, none, none, none] [] (hp X Y sc ai aj) = ax_res 173 71 [some (.ref 134), some (.int (nI t)), some (.int (nI l)), some (.int i), some (.int (nI n)), some (.int (nI m)), some (.int (nI w)), some (.int f), none, none, none, none, none, none, none] [] (hp X Y sc ai aj) := by
  have hq := gp_mw hm hw hmw
  simp only [q173_0, q173_1, q173_2, q173_5, q173_8, q173_10, q173_11, q173_12, q173_15, q173_18, q173_21, q173_23, q173_24, q173_25, q173_28, q173_31, q173_34, q173_36, q173_37, q173_38, q173_39, q173_42, q173_45, q173_47, q173_50, q173_52, q173_53, q173_60, q173_61, q173_62, q173_63, q173_64, q173_66, q173_69, ↓reduceIte, ax_bV_s, ax_bI_s, ax_bJ_s, ax_bA_s, ax_bH_s, ax_bR_s, ax_bR_n, oo_114, gf114_0, gf114_1, gf114_2, gf114_3, gf114_4, gf114_5, pf114_5, gf114_6, gf114_7, gf114_8, gf114_9, oo_119, gf119_0, gf119_1, pf119_1, gf119_2, pf119_2, oo_130, gf130_0, gf130_1, gf130_2, pf130_2, oo_134, gf134_0, gf134_1, pf134_1, gf134_2, pf134_2, gf134_3, pf134_3, gf134_4, gf134_5, pf134_5, gf134_6, gf134_7, gf134_8, gf134_9, pf134_9, gf134_10, gf134_11, gf134_12, gf134_13, gf134_14, gf134_15, gf134_16, gi120, pi120, li120, gi131, pi131, li131, gi132, pi132, li132, gi136, pi136, li136, gi138, pi138, li138, gi139, pi139, li139, gi140, pi140, li140, gi141, pi141, li141, gi142, pi142, li142, gi144, pi144, li144, gi145, pi145, li145, gj133, pj133, lj133, gj137, pj137, lj137, gj143, pj143, lj143, gj146, pj146, lj146, gA121, gAq, oo_s, gfs_0, gfs_1, gfs_2, pfs_0, pfs_1, gjs, ljs, pjs, oo_h, gfh_0, gfh_1, gfh_2, pfh_1, pfh_2, r168, isI_nI (show t < 2 ^ 31 by omega) (Nat.zero_le t) (show t ≤ 3 by omega), isI_nI (show l < 2 ^ 31 by omega) (Nat.zero_le l) (show l ≤ 3 by omega), Bool.and_self, r104I (show 1 < 2 ^ 31 by decide) (show 8 < 2 ^ 31 by decide), isI_nI (show n < 2 ^ 31 by omega) hn1 hn, r104I (show 0 < 2 ^ 31 by decide) (show 99 < 2 ^ 31 by decide), isI_nI (show m < 2 ^ 31 by omega) (Nat.zero_le m) hm, r104I (show 0 < 2 ^ 31 by decide) (show 1 < 2 ^ 31 by decide), isI_nI (show w < 2 ^ 31 by omega) (Nat.zero_le w) hw, n_bn0, Bool.true_eq_false, h]
  by_cases a1 : nI m = 0
  · by_cases a2 : nI w = nI 1
    · exact (hq ⟨a1, a2⟩).elim
    · simp only [↓reduceIte, ax_bV_s, ax_bI_s, ax_bJ_s, ax_bA_s, ax_bH_s, ax_bR_s, ax_bR_n, a1, a2]
  · simp only [↓reduceIte, ax_bV_s, ax_bI_s, ax_bJ_s, ax_bA_s, ax_bH_s, ax_bR_s, ax_bR_n, a1]
theorem m173_flt {t l n m w : Nat} {i f : Int32} (ht : t < 4) (hl : l < 4) (hn1 : 1 ≤ n) (hn : n ≤ 8) (hm : m ≤ 99) (hw : w ≤ 1) (hmw : ¬ (m = 0 ∧ w = 1)) (hf : f < 0) (h : ax_res 169 0 [some (.ref 134), some (.int (nI t)), some (.int (nI l)), some (.int i), some (.int (nI n))] [] (hp X Y sc ai aj) = some (some (.int f), hp X Y sc ai aj)) : ax_res 173 0 [some (.ref 134), some (.int (nI t)), some (.int (nI l)), some (.int i), some (.int (nI n)), some (.int (nI m)), some (.int (nI w)), none, none, none, none, none, none, none, none] [] (hp X Y sc ai aj) = some (some (.long f.toInt64), hp X Y sc ai aj) := by
  rw [m173_head ht hl hn1 hn hm hw hmw h]
  simp only [q173_71, q173_73, q173_76, q173_78, q173_79, ↓reduceIte, ax_bV_s, ax_bI_s, ax_bJ_s, ax_bA_s, ax_bH_s, ax_bR_s, ax_bR_n, Int32.not_le.mpr hf]
theorem m173_i (q : Nat) : ∀ (e k i t : Nat) (l n m w f : Int32) (mo v : Int64), e + q = k → i + k < 24 → t < 4 → ax_res 173 139 [some (.ref 134), some (.int (nI t)), some (.int l), some (.int (nI i)), some (.int n), some (.int m), some (.int w), some (.int f), some (.long mo), none, some (.int (nI k)), some (.long v), none, some (.int (nI e)), none] [] (hp X Y sc ai aj) = if dpF (fun j => aj 137 (24 * t + i + j)) v q e = true then some (some (.long (-2)), hp X Y sc ai aj) else ax_res 173 176 [some (.ref 134), some (.int (nI t)), some (.int l), some (.int (nI i)), some (.int n), some (.int m), some (.int w), some (.int f), some (.long mo), none, some (.int (nI k)), some (.long v), none, some (.int (nI k)), none] [] (hp X Y sc ai aj) := by
  induction q with
  | zero =>
    intro e k i t l n m w f mo v he hi ht
    have e0 : e = k := by omega
    subst e0
    rw [dpF_0, if_neg (by decide)]
    simp only [q173_139, q173_141, q173_143, ↓reduceIte, ax_bV_s, ax_bI_s, ax_bJ_s, ax_bA_s, ax_bH_s, ax_bR_s, ax_bR_n, n_le (show e < 2 ^ 31 by omega) (show e < 2 ^ 31 by omega), Nat.le_refl]
  | succ q ih =>
    intro e k i t l n m w f mo v he hi ht
    have e1 := ih (e + 1) k i t l n m w f mo v (by omega) hi ht
    rw [q173_139, dpF_s]
    by_cases c : aj 137 (24 * t + i + e) = v
    · rw [if_pos c, if_pos rfl]
      simp only [q173_141, q173_143, q173_146, q173_147, q173_150, q173_152, q173_153, q173_154, q173_155, q173_156, q173_158, q173_159, q173_160, q173_162, q173_163, q173_166, q173_169, ↓reduceIte, ax_bV_s, ax_bI_s, ax_bJ_s, ax_bA_s, ax_bH_s, ax_bR_s, ax_bR_n, oo_114, gf114_0, gf114_1, gf114_2, gf114_3, gf114_4, gf114_5, pf114_5, gf114_6, gf114_7, gf114_8, gf114_9, oo_119, gf119_0, gf119_1, pf119_1, gf119_2, pf119_2, oo_130, gf130_0, gf130_1, gf130_2, pf130_2, oo_134, gf134_0, gf134_1, pf134_1, gf134_2, pf134_2, gf134_3, pf134_3, gf134_4, gf134_5, pf134_5, gf134_6, gf134_7, gf134_8, gf134_9, pf134_9, gf134_10, gf134_11, gf134_12, gf134_13, gf134_14, gf134_15, gf134_16, gi120, pi120, li120, gi131, pi131, li131, gi132, pi132, li132, gi136, pi136, li136, gi138, pi138, li138, gi139, pi139, li139, gi140, pi140, li140, gi141, pi141, li141, gi142, pi142, li142, gi144, pi144, li144, gi145, pi145, li145, gj133, pj133, lj133, gj137, pj137, lj137, gj143, pj143, lj143, gj146, pj146, lj146, gA121, gAq, oo_s, gfs_0, gfs_1, gfs_2, pfs_0, pfs_1, gjs, ljs, pjs, oo_h, gfh_0, gfh_1, gfh_2, pfh_1, pfh_2, n_le (show k < 2 ^ 31 by omega) (show e < 2 ^ 31 by omega), show ¬ k ≤ e by omega, pk_mul, nI_add, show 24 * t + i + e < 96 by omega, lg_cmp_eq, c]
    · rw [if_neg c, ← e1]
      simp only [q173_141, q173_143, q173_146, q173_147, q173_150, q173_152, q173_153, q173_154, q173_155, q173_156, q173_158, q173_159, q173_160, q173_162, q173_163, q173_170, q173_173, ↓reduceIte, ax_bV_s, ax_bI_s, ax_bJ_s, ax_bA_s, ax_bH_s, ax_bR_s, ax_bR_n, oo_114, gf114_0, gf114_1, gf114_2, gf114_3, gf114_4, gf114_5, pf114_5, gf114_6, gf114_7, gf114_8, gf114_9, oo_119, gf119_0, gf119_1, pf119_1, gf119_2, pf119_2, oo_130, gf130_0, gf130_1, gf130_2, pf130_2, oo_134, gf134_0, gf134_1, pf134_1, gf134_2, pf134_2, gf134_3, pf134_3, gf134_4, gf134_5, pf134_5, gf134_6, gf134_7, gf134_8, gf134_9, pf134_9, gf134_10, gf134_11, gf134_12, gf134_13, gf134_14, gf134_15, gf134_16, gi120, pi120, li120, gi131, pi131, li131, gi132, pi132, li132, gi136, pi136, li136, gi138, pi138, li138, gi139, pi139, li139, gi140, pi140, li140, gi141, pi141, li141, gi142, pi142, li142, gi144, pi144, li144, gi145, pi145, li145, gj133, pj133, lj133, gj137, pj137, lj137, gj143, pj143, lj143, gj146, pj146, lj146, gA121, gAq, oo_s, gfs_0, gfs_1, gfs_2, pfs_0, pfs_1, gjs, ljs, pjs, oo_h, gfh_0, gfh_1, gfh_2, pfh_1, pfh_2, n_le (show k < 2 ^ 31 by omega) (show e < 2 ^ 31 by omega), show ¬ k ≤ e by omega, pk_mul, nI_add, show 24 * t + i + e < 96 by omega, lg_cmp_eq, c]
theorem m173_l (q : Nat) : ∀ (k i t n m gr : Nat) (l w f : Int32), k + q = n → i + n ≤ 24 → t < 4 → m ≤ 99 → gr ≤ 99 → ax_res 173 86 [some (.ref 134), some (.int (nI t)), some (.int l), some (.int (nI i)), some (.int (nI n)), some (.int (nI m)), some (.int w), some (.int f), some (.long (lN gr)), none, some (.int (nI k)), none, none, none, none] [] (hp X Y sc ai aj) = match tkF (fun j => aj 137 (24 * t + i + j)) (if m = 0 then 99 else m) q k gr with
    | none => some (some (.long (-2)), hp X Y sc ai aj)
    | some G => ax_res 173 199 [some (.ref 134), some (.int (nI t)), some (.int l), some (.int (nI i)), some (.int (nI n)), some (.int (nI m)), some (.int w), some (.int f), some (.long (lN G)), none, some (.int (nI n)), none, none, none, none] [] (hp X Y sc ai aj) := by
  induction q with
  | zero =>
    intro k i t n m gr l w f hk hi ht hm hgr
    have e0 : k = n := by omega
    subst e0
    rw [tkF_0]
    simp only [q173_86, q173_88, q173_90, ↓reduceIte, ax_bV_s, ax_bI_s, ax_bJ_s, ax_bA_s, ax_bH_s, ax_bR_s, ax_bR_n, n_le (show k < 2 ^ 31 by omega) (show k < 2 ^ 31 by omega), Nat.le_refl]
  | succ q ih =>
    intro k i t n m gr l w f hk hi ht hm hgr
    have hla : (if m = 0 then 99 else m) ≤ 99 := by split <;> omega
    have head : ax_res 173 86 [some (.ref 134), some (.int (nI t)), some (.int l), some (.int (nI i)), some (.int (nI n)), some (.int (nI m)), some (.int w), some (.int f), some (.long (lN gr)), none, some (.int (nI k)), none, none, none, none] [] (hp X Y sc ai aj) = if nI (bn (decide (¬ aj 137 (24 * t + i + k) < lN 1 ∧ ¬ lN (if m = 0 then 99 else m) < aj 137 (24 * t + i + k)))) = 0 then some (some (.long (-2)), hp X Y sc ai aj) else ax_res 173 136 [some (.ref 134), some (.int (nI t)), some (.int l), some (.int (nI i)), some (.int (nI n)), some (.int (nI m)), some (.int w), some (.int f), some (.long (lN gr)), none, some (.int (nI k)), some (.long (aj 137 (24 * t + i + k))), none, none, none] [] (hp X Y sc ai aj) := by
      rw [q173_86]
      by_cases c : m = 0
      · subst c
        simp only [q173_88, q173_90, q173_93, q173_94, q173_97, q173_99, q173_100, q173_101, q173_102, q173_103, q173_105, q173_106, q173_107, q173_109, q173_111, q173_112, q173_114, q173_117, q173_120, q173_126, q173_129, q173_132, q173_135, ↓reduceIte, ax_bV_s, ax_bI_s, ax_bJ_s, ax_bA_s, ax_bH_s, ax_bR_s, ax_bR_n, oo_114, gf114_0, gf114_1, gf114_2, gf114_3, gf114_4, gf114_5, pf114_5, gf114_6, gf114_7, gf114_8, gf114_9, oo_119, gf119_0, gf119_1, pf119_1, gf119_2, pf119_2, oo_130, gf130_0, gf130_1, gf130_2, pf130_2, oo_134, gf134_0, gf134_1, pf134_1, gf134_2, pf134_2, gf134_3, pf134_3, gf134_4, gf134_5, pf134_5, gf134_6, gf134_7, gf134_8, gf134_9, pf134_9, gf134_10, gf134_11, gf134_12, gf134_13, gf134_14, gf134_15, gf134_16, gi120, pi120, li120, gi131, pi131, li131, gi132, pi132, li132, gi136, pi136, li136, gi138, pi138, li138, gi139, pi139, li139, gi140, pi140, li140, gi141, pi141, li141, gi142, pi142, li142, gi144, pi144, li144, gi145, pi145, li145, gj133, pj133, lj133, gj137, pj137, lj137, gj143, pj143, lj143, gj146, pj146, lj146, gA121, gAq, oo_s, gfs_0, gfs_1, gfs_2, pfs_0, pfs_1, gjs, ljs, pjs, oo_h, gfh_0, gfh_1, gfh_2, pfh_1, pfh_2, n_le (show n < 2 ^ 31 by omega) (show k < 2 ^ 31 by omega), show ¬ n ≤ k by omega, pk_mul, nI_add, show 24 * t + i + k < 96 by omega, n_z0, r104]
      · have c' : ¬ nI m = 0 := by rw [n_eq0 (by omega)]; exact c
        simp only [q173_88, q173_90, q173_93, q173_94, q173_97, q173_99, q173_100, q173_101, q173_102, q173_103, q173_105, q173_106, q173_107, q173_109, q173_111, q173_112, q173_114, q173_123, q173_125, q173_126, q173_129, q173_132, q173_135, ↓reduceIte, ax_bV_s, ax_bI_s, ax_bJ_s, ax_bA_s, ax_bH_s, ax_bR_s, ax_bR_n, oo_114, gf114_0, gf114_1, gf114_2, gf114_3, gf114_4, gf114_5, pf114_5, gf114_6, gf114_7, gf114_8, gf114_9, oo_119, gf119_0, gf119_1, pf119_1, gf119_2, pf119_2, oo_130, gf130_0, gf130_1, gf130_2, pf130_2, oo_134, gf134_0, gf134_1, pf134_1, gf134_2, pf134_2, gf134_3, pf134_3, gf134_4, gf134_5, pf134_5, gf134_6, gf134_7, gf134_8, gf134_9, pf134_9, gf134_10, gf134_11, gf134_12, gf134_13, gf134_14, gf134_15, gf134_16, gi120, pi120, li120, gi131, pi131, li131, gi132, pi132, li132, gi136, pi136, li136, gi138, pi138, li138, gi139, pi139, li139, gi140, pi140, li140, gi141, pi141, li141, gi142, pi142, li142, gi144, pi144, li144, gi145, pi145, li145, gj133, pj133, lj133, gj137, pj137, lj137, gj143, pj143, lj143, gj146, pj146, lj146, gA121, gAq, oo_s, gfs_0, gfs_1, gfs_2, pfs_0, pfs_1, gjs, ljs, pjs, oo_h, gfh_0, gfh_1, gfh_2, pfh_1, pfh_2, n_le (show n < 2 ^ 31 by omega) (show k < 2 ^ 31 by omega), show ¬ n ≤ k by omega, pk_mul, nI_add, show 24 * t + i + k < 96 by omega, c', c, nI_l (show m < 2 ^ 31 by omega), r104]
    rw [head]
    by_cases c1 : ¬ aj 137 (24 * t + i + k) < lN 1 ∧ ¬ lN (if m = 0 then 99 else m) < aj 137 (24 * t + i + k)
    · have d1 : lN 1 ≤ aj 137 (24 * t + i + k) := Int64.not_lt.mp c1.1
      have d2 : aj 137 (24 * t + i + k) ≤ lN (if m = 0 then 99 else m) := Int64.not_lt.mp c1.2
      obtain ⟨b1, b2, b3⟩ := tv_of hla d1 d2
      rw [decide_eq_true c1, if_neg (by decide)]
      simp only [q173_136, q173_137, m173_i (X := X) (Y := Y) (sc := sc) (ai := ai) (aj := aj) k 0 k i t l (nI n) (nI m) w f (lN gr) (aj 137 (24 * t + i + k)) (by omega) (by omega) ht]
      cases c3 : dpF (fun j => aj 137 (24 * t + i + j)) (aj 137 (24 * t + i + k)) k 0 with
      | true =>
        rw [if_pos rfl, tkF_n (fun h => by have := h.2; rw [c3] at this; exact Bool.noConfusion this)]
      | false =>
        rw [if_neg (by decide), tkF_y (g := fun j => aj 137 (24 * t + i + j)) (k := k) ⟨⟨d1, d2⟩, c3⟩]
        have e := ih (k + 1) i t n m (max gr (tv (aj 137 (24 * t + i + k)))) l w f (by omega) hi ht hm (by omega)
        rw [← e]
        by_cases c4 : tv (aj 137 (24 * t + i + k)) ≤ gr
        · have c4' : aj 137 (24 * t + i + k) ≤ lN gr := by rw [b1, l_le (by omega) (by omega)]; exact c4
          rw [show max gr (tv (aj 137 (24 * t + i + k))) = gr by omega]
          simp only [q173_176, q173_178, q173_180, q173_181, q173_189, q173_191, q173_193, q173_196, ↓reduceIte, ax_bV_s, ax_bI_s, ax_bJ_s, ax_bA_s, ax_bH_s, ax_bR_s, ax_bR_n, lg_cmp_le, c4', nI_add]
        · have c4' : ¬ aj 137 (24 * t + i + k) ≤ lN gr := by rw [b1, l_le (by omega) (by omega)]; exact c4
          rw [show max gr (tv (aj 137 (24 * t + i + k))) = tv (aj 137 (24 * t + i + k)) by omega, ← b1]
          simp only [q173_176, q173_178, q173_180, q173_181, q173_184, q173_186, q173_191, q173_193, q173_196, ↓reduceIte, ax_bV_s, ax_bI_s, ax_bJ_s, ax_bA_s, ax_bH_s, ax_bR_s, ax_bR_n, lg_cmp_le, c4', nI_add]
    · rw [decide_eq_false c1, if_pos (by decide), tkF_n (g := fun j => aj 137 (24 * t + i + j)) (k := k) (fun h => c1 ⟨lg_le_not_lt h.1.1, lg_le_not_lt h.1.2⟩)]
theorem m173_p (q : Nat) : ∀ (k n m G : Nat) (t l i w f : Int32) (h : ax_H), k + q = n → n ≤ G → n ≤ m → G ≤ 99 → m ≤ 99 → ax_res 173 216 [some (.ref 134), some (.int t), some (.int l), some (.int i), some (.int (nI n)), some (.int (nI m)), some (.int w), some (.int f), some (.long (lN G)), none, some (.long (lN (ffl G k))), none, some (.long (lN (ffl m k))), none, some (.int (nI k))] [] h = ax_res 173 251 [some (.ref 134), some (.int t), some (.int l), some (.int i), some (.int (nI n)), some (.int (nI m)), some (.int w), some (.int f), some (.long (lN G)), none, some (.long (lN (ffl G n))), none, some (.long (lN (ffl m n))), none, some (.int (nI n))] [] h := by
  induction q with
  | zero =>
    intro k n m G t l i w f h hk hG hm _ _
    have e0 : k = n := by omega
    subst e0
    simp only [q173_216, q173_218, q173_220, ↓reduceIte, ax_bV_s, ax_bI_s, ax_bJ_s, ax_bA_s, ax_bH_s, ax_bR_s, ax_bR_n, n_le (show k < 2 ^ 31 by omega) (show k < 2 ^ 31 by omega), Nat.le_refl]
  | succ q ih =>
    intro k n m G t l i w f h hk hG hm hG9 hm9
    have e := ih (k + 1) n m G t l i w f h (by omega) hG hm hG9 hm9
    rw [ffl_s, ffl_s] at e
    rw [q173_216]
    simp only [q173_218, q173_220, q173_223, q173_225, q173_227, q173_229, q173_230, q173_231, q173_232, q173_234, q173_236, q173_238, q173_240, q173_241, q173_242, q173_243, q173_245, q173_248, ↓reduceIte, ax_bV_s, ax_bI_s, ax_bJ_s, ax_bA_s, ax_bH_s, ax_bR_s, ax_bR_n, n_le (show n < 2 ^ 31 by omega) (show k < 2 ^ 31 by omega), show ¬ n ≤ k by omega, nI_l (show k < 2 ^ 31 by omega), lN_sub (show k ≤ G by omega), n_sub (show k ≤ m by omega), nI_l (show m - k < 2 ^ 31 by omega), lN_mul, nI_add, e]
theorem m173_ok {t l n m w z i : Nat} (ht : t < 4) (hl : l < 4) (hn1 : 1 ≤ n) (hn : n ≤ 8) (hm : m ≤ 99) (hw : w ≤ 1) (hmw : ¬ (m = 0 ∧ w = 1)) (h0 : ai 139 t = nI l) (h1 : ai 138 t = nI z) (hz : z ≤ 24) (hi : i + n ≤ z) : ax_res 173 0 [some (.ref 134), some (.int (nI t)), some (.int (nI l)), some (.int (nI i)), some (.int (nI n)), some (.int (nI m)), some (.int (nI w)), none, none, none, none, none, none, none, none] [] (hp X Y sc ai aj) = some (some (.long (gpA (fun j => aj 137 (24 * t + i + j)) n m w)), hp X Y sc ai aj) := by
  have h9 := r169 (X := X) (Y := Y) (sc := sc) (ai := ai) (aj := aj) (la := nI l) (i := nI i) (n := nI n) ht h1 hz h0 hl
  rw [fltA_h hl, hold_nI (by omega) (by omega), decide_eq_true hi, if_pos rfl] at h9
  rw [m173_head ht hl hn1 hn hm hw hmw h9]
  have e := m173_l (X := X) (Y := Y) (sc := sc) (ai := ai) (aj := aj) n 0 i t n m 0 (nI l) (nI w) (nI 0) (by omega) (by omega) ht hm (by omega)
  simp only [q173_71, q173_73, q173_80, q173_81, q173_83, q173_84, ↓reduceIte, ax_bV_s, ax_bI_s, ax_bJ_s, ax_bA_s, ax_bH_s, ax_bR_s, ax_bR_n, n_0le (show 0 < 2 ^ 31 by decide), e]
  cases hk : tkF (fun j => aj 137 (24 * t + i + j)) (if m = 0 then 99 else m) n 0 0 with
  | none => rw [gpA_n hk]
  | some G =>
    rw [gpA_y hk]
    obtain ⟨k1, k2⟩ := tkF_n_le (by split <;> omega) hk
    by_cases c : m = 0
    · subst c
      simp only [q173_199, q173_201, q173_204, q173_206, ↓reduceIte, ax_bV_s, ax_bI_s, ax_bJ_s, ax_bA_s, ax_bH_s, ax_bR_s, ax_bR_n, n_z0]
    · rw [if_neg c] at k2
      have c' : ¬ nI m = 0 := by rw [n_eq0 (by omega)]; exact c
      have q1 := chs_ok G (by omega) n (by omega)
      have q2 := chs_ok m (by omega) n (by omega)
      have f0 : 0 < ffl m n := by rw [← q2.2.1]; exact Nat.mul_pos (q2.2.2.2.1 (by omega)) q2.2.2.2.2
      have ep := m173_p n 0 n m G (nI t) (nI l) (nI i) (nI w) (nI 0) (hp X Y sc ai aj) (by omega) k1 (by omega) (by omega) hm
      rw [show ffl G 0 = 1 from rfl, show ffl m 0 = 1 from rfl] at ep
      simp only [q173_199, q173_201, q173_207, q173_208, q173_210, q173_211, q173_213, q173_214, ↓reduceIte, ax_bV_s, ax_bI_s, ax_bJ_s, ax_bA_s, ax_bH_s, ax_bR_s, ax_bR_n, c', c, ep]
      simp only [q173_251, q173_252, q173_254, q173_256, q173_258, q173_261, ↓reduceIte, ax_bV_s, ax_bI_s, ax_bJ_s, ax_bA_s, ax_bH_s, ax_bR_s, ax_bR_n, oo_114, gf114_0, gf114_1, gf114_2, gf114_3, gf114_4, gf114_5, pf114_5, gf114_6, gf114_7, gf114_8, gf114_9, oo_119, gf119_0, gf119_1, pf119_1, gf119_2, pf119_2, oo_130, gf130_0, gf130_1, gf130_2, pf130_2, oo_134, gf134_0, gf134_1, pf134_1, gf134_2, pf134_2, gf134_3, pf134_3, gf134_4, gf134_5, pf134_5, gf134_6, gf134_7, gf134_8, gf134_9, pf134_9, gf134_10, gf134_11, gf134_12, gf134_13, gf134_14, gf134_15, gf134_16, gi120, pi120, li120, gi131, pi131, li131, gi132, pi132, li132, gi136, pi136, li136, gi138, pi138, li138, gi139, pi139, li139, gi140, pi140, li140, gi141, pi141, li141, gi142, pi142, li142, gi144, pi144, li144, gi145, pi145, li145, gj133, pj133, lj133, gj137, pj137, lj137, gj143, pj143, lj143, gj146, pj146, lj146, gA121, gAq, oo_s, gfs_0, gfs_1, gfs_2, pfs_0, pfs_1, gjs, ljs, pjs, oo_h, gfh_0, gfh_1, gfh_2, pfh_1, pfh_2, r163 (show ffl G n < 2 ^ 63 by omega) (show ffl m n < 2 ^ 63 by omega) f0 hw, frc_c (show G < 100 by omega) (show m < 100 by omega) (show n < 9 by omega)]
end GP
