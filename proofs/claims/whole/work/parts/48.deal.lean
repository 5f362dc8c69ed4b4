/-! ===== deals ===== -/
def dg (N c k : Nat) : Nat := c / N ^ (N - 1 - k) % N
def dlS (N : Nat) : Nat → Nat → Nat → Nat
  | 0, _, set => set
  | m + 1, left, set => dlS N m (left / N) (set ||| 2 ^ (left % N))
theorem dlS_0 {N left set : Nat} : dlS N 0 left set = set := by rw [dlS]
theorem dlS_s {N m left set : Nat} : dlS N (m + 1) left set = dlS N m (left / N) (set ||| 2 ^ (left % N)) := by rw [dlS]
def isP (N c : Nat) : Bool := Nat.beq (dlS N N c 0) (2 ^ N - 1)
/-- the deals among the codes from c on -/
def pl (N : Nat) : Nat → Nat → List Nat
  | 0, _ => []
  | m + 1, c => bif isP N c then c :: pl N m (c + 1) else pl N m (c + 1)
theorem pl_0 {N c : Nat} : pl N 0 c = [] := by rw [pl]
theorem pl_y {N m c : Nat} (h : isP N c = true) : pl N (m + 1) c = c :: pl N m (c + 1) := by rw [pl, h]; rfl
theorem pl_n {N m c : Nat} (h : isP N c = false) : pl N (m + 1) c = pl N m (c + 1) := by rw [pl, h]; rfl
def swp (o : Nat → Nat) (i j : Nat) : Nat → Nat := up1 (up1 o i (o j)) j (o i)
def ri (o : Nat → Nat) : Nat → Nat
  | 0 => 0
  | k + 1 => if o k ≤ o (k + 1) then k + 1 else ri o k
theorem ri_0 {o : Nat → Nat} : ri o 0 = 0 := by rw [ri]
theorem ri_s {o : Nat → Nat} {k : Nat} : ri o (k + 1) = if o k ≤ o (k + 1) then k + 1 else ri o k := by rw [ri]
theorem ri_le (o : Nat → Nat) (k : Nat) : ri o k ≤ k := by
  induction k with
  | zero => rw [ri_0]; omega
  | succ k ih => rw [ri_s]; split <;> omega
def ab (o : Nat → Nat) (r : Nat) : Nat → Nat
  | 0 => 0
  | a + 1 => if a + 1 ≤ r then a + 1 else if o r ≤ o (a + 1) then a + 1 else ab o r a
theorem ab_0 {o : Nat → Nat} {r : Nat} : ab o r 0 = 0 := by rw [ab]
theorem ab_s {o : Nat → Nat} {r a : Nat} : ab o r (a + 1) = if a + 1 ≤ r then a + 1 else if o r ≤ o (a + 1) then a + 1 else ab o r a := by rw [ab]
theorem ab_le (o : Nat → Nat) (r a : Nat) : ab o r a ≤ a := by
  induction a with
  | zero => rw [ab_0]; omega
  | succ a ih => rw [ab_s]; split; omega; split <;> omega
def rv : Nat → Nat → Nat → (Nat → Nat) → Nat → Nat
  | 0, _, _, o => o
  | m + 1, lo, hi, o => if lo < hi then rv m (lo + 1) (hi - 1) (swp o lo hi) else o
theorem rv_0 {lo hi : Nat} {o : Nat → Nat} : rv 0 lo hi o = o := by rw [rv]
theorem rv_s {m lo hi : Nat} {o : Nat → Nat} : rv (m + 1) lo hi o = if lo < hi then rv m (lo + 1) (hi - 1) (swp o lo hi) else o := by rw [rv]
def adv (N : Nat) (o : Nat → Nat) : Option (Nat → Nat) := match ri o (N - 1) with
  | 0 => none
  | r + 1 => some (rv 6 (r + 1) (N - 1) (swp o r (ab o r (N - 1))))
def oF (N c k : Nat) : Nat := if k < N then dg N c k else k
def eqN (N : Nat) (f : Nat → Nat) (c : Nat) : Bool := Nat.beq (f 0) (oF N c 0) && (Nat.beq (f 1) (oF N c 1) && (Nat.beq (f 2) (oF N c 2) && (Nat.beq (f 3) (oF N c 3) && (Nat.beq (f 4) (oF N c 4) && Nat.beq (f 5) (oF N c 5)))))
theorem eqN_i {N c : Nat} {f : Nat → Nat} (h : eqN N f c = true) : ∀ k, k < 6 → f k = oF N c k := by
  unfold eqN at h
  simp only [Bool.and_eq_true, Nat.beq_eq] at h
  obtain ⟨h0, h1, h2, h3, h4, h5⟩ := h
  intro k hk
  rcases (show k = 0 ∨ k = 1 ∨ k = 2 ∨ k = 3 ∨ k = 4 ∨ k = 5 by omega) with rfl | rfl | rfl | rfl | rfl | rfl <;> assumption
def okN (N : Nat) (g : Option (Nat → Nat)) (c : Nat) : Bool := match g with
  | none => false
  | some f => eqN N f c
def chk (N : Nat) : Nat → List Nat → Bool
  | 0, _ => false
  | f + 1, L => match L with
    | [] => false
    | c :: L' => match L' with
      | [] => (adv N (oF N c)).isNone
      | c' :: _ => okN N (adv N (oF N c)) c' && chk N f L'
theorem chk_1 {N f c : Nat} (h : chk N f [c] = true) : adv N (oF N c) = none := by
  cases f with
  | zero => rw [chk] at h; cases h
  | succ f => rw [chk] at h; exact Option.isNone_iff_eq_none.mp h
theorem chk_2 {N f c c' : Nat} {L : List Nat} (h : chk N f (c :: c' :: L) = true) : ∃ g f', f = f' + 1 ∧ adv N (oF N c) = some g ∧ (∀ k, k < 6 → g k = oF N c' k) ∧ chk N f' (c' :: L) = true := by
  cases f with
  | zero => rw [chk] at h; cases h
  | succ f =>
    rw [chk] at h
    rw [Bool.and_eq_true] at h
    cases hg : adv N (oF N c) with
    | none => rw [hg] at h; exact absurd (show (false : Bool) = true from h.1) (by decide)
    | some g =>
      rw [hg] at h
      exact ⟨g, f, rfl, rfl, eqN_i h.1, h.2⟩
theorem chk_0 {N f : Nat} {L : List Nat} (h : chk N f L = true) : 0 < f := by
  cases f with
  | zero => rw [chk] at h; cases h
  | succ f => omega
def hdI (N : Nat) (L : List Nat) : Bool := match L with
  | [] => false
  | c :: _ => eqN N (fun k => k) c
theorem chk_1_ : (chk 1 720 (pl 1 1 0) && hdI 1 (pl 1 1 0)) = true := by decide +kernel
theorem chk_2_ : (chk 2 720 (pl 2 4 0) && hdI 2 (pl 2 4 0)) = true := by decide +kernel
theorem chk_3_ : (chk 3 720 (pl 3 27 0) && hdI 3 (pl 3 27 0)) = true := by decide +kernel
theorem chk_4_ : (chk 4 720 (pl 4 256 0) && hdI 4 (pl 4 256 0)) = true := by decide +kernel
theorem chk_5_ : (chk 5 720 (pl 5 3125 0) && hdI 5 (pl 5 3125 0)) = true := by decide +kernel
theorem chk_6_ : (chk 6 720 (pl 6 46656 0) && hdI 6 (pl 6 46656 0)) = true := by decide +kernel
theorem chk_N {N : Nat} (h1 : 1 ≤ N) (h6 : N ≤ 6) : ∃ c L, pl N (N ^ N) 0 = c :: L ∧ chk N 720 (c :: L) = true ∧ ∀ k, k < 6 → oF N c k = k := by
  have h : (chk N 720 (pl N (N ^ N) 0) && hdI N (pl N (N ^ N) 0)) = true := by
    rcases (show N = 1 ∨ N = 2 ∨ N = 3 ∨ N = 4 ∨ N = 5 ∨ N = 6 by omega) with rfl | rfl | rfl | rfl | rfl | rfl
    · exact chk_1_
    · exact chk_2_
    · exact chk_3_
    · exact chk_4_
    · exact chk_5_
    · exact chk_6_
  rw [Bool.and_eq_true] at h
  cases hL : pl N (N ^ N) 0 with
  | nil => rw [hL] at h; exact absurd (show (false : Bool) = true from h.2) (by decide)
  | cons c L =>
    rw [hL] at h
    exact ⟨c, L, rfl, h.1, fun k hk => (eqN_i (f := fun k => k) h.2 k hk).symm⟩
theorem dlS_lt {N : Nat} (h1 : 0 < N) (h6 : N ≤ 6) (m : Nat) : ∀ (left set : Nat), set < 2 ^ N → dlS N m left set < 2 ^ N := by
  induction m with
  | zero => intro left set h; rw [dlS_0]; exact h
  | succ m ih => intro left set h; rw [dlS_s]; exact ih _ _ (or_lt N h6 set h _ (Nat.mod_lt _ h1))
/-- a house where a deal is played -/
def dlk (N c k : Nat) (x : Nat → Nat) : Nat → Nat := fun i => if 18 ≤ i ∧ i < 18 + k then dg N c (i - 18) else x i
theorem dlk_0 {N c : Nat} {x : Nat → Nat} : dlk N c 0 x = x := by funext i; unfold dlk; rw [if_neg (by omega)]
theorem dlk_s {N c k : Nat} {x : Nat → Nat} : up1 (dlk N c k x) (18 + k) (dg N c k) = dlk N c (k + 1) x := by
  funext i
  unfold up1 dlk
  by_cases h : i = 18 + k
  · rw [if_pos h, if_pos (by omega)]; congr 1; omega
  · rw [if_neg h]
    by_cases h2 : 18 ≤ i ∧ i < 18 + k
    · rw [if_pos h2, if_pos (by omega)]
    · rw [if_neg h2, if_neg (by omega)]
theorem dg_lt {N c k : Nat} (h : 0 < N) : dg N c k < N := Nat.mod_lt _ h
theorem inv_dlk {c : Nat} {x : Nat → Nat} (h : Inv x) (hN : 0 < x 0) : Inv (dlk (x 0) c (x 0) x) := by
  have h0 := h.1
  have e : ∀ i, ¬ (18 ≤ i ∧ i < 18 + x 0) → dlk (x 0) c (x 0) x i = x i := fun i hi => if_neg hi
  refine inv_same h (e 0 (by omega)) (e 1 (by omega)) ?_ ?_ ?_ ?_ (fun b hb => ?_)
  · rw [e 2 (by omega)]; exact h.2.1
  · rw [e 3 (by omega)]; exact h.2.2.1
  · rw [e 4 (by omega)]; exact h.2.2.2.1
  · rw [e 5 (by omega)]; exact h.2.2.2.2.1
  · have g := h.2.2.2.2.2 b hb
    rw [e (6 + b) (by omega), e (12 + b) (by omega), e (24 + b) (by omega), e (30 + b) (by omega)]
    refine ⟨g.1, g.2.1, ?_, g.2.2.2⟩
    unfold dlk; rw [if_pos (by omega)]; exact dg_lt hN
theorem fgt_dlk {N c k : Nat} {x : Nat → Nat} : fgt (dlk N c k x) = dlk N c k (fgt x) := by
  funext i
  show (if 12 ≤ i ∧ i < 18 then 0 else if 18 ≤ i ∧ i < 18 + k then dg N c (i - 18) else x i) = if 18 ≤ i ∧ i < 18 + k then dg N c (i - 18) else if 12 ≤ i ∧ i < 18 then 0 else x i
  by_cases h : 12 ≤ i ∧ i < 18
  · rw [if_pos h, if_neg (by omega), if_pos h]
  · rw [if_neg h, if_neg h]
theorem ag_dlk {N c : Nat} {x y : Nat → Nat} (h : Ag x y) : Ag (dlk N c N x) (dlk N c N y) := by
  intro i hi h2
  have e0 : dlk N c N x 0 = x 0 := if_neg (by omega)
  rw [e0] at h2
  unfold dlk
  by_cases c1 : 18 ≤ i ∧ i < 18 + N
  · rw [if_pos c1, if_pos c1]
  · rw [if_neg c1, if_neg c1]; exact h i hi h2
theorem ag_fgt {x y : Nat → Nat} (h : Ag x y) : Ag (fgt x) (fgt y) := by
  intro i hi h2
  have e0 : fgt x 0 = x 0 := if_neg (by omega)
  rw [e0] at h2
  unfold fgt
  by_cases c1 : 12 ≤ i ∧ i < 18
  · rw [if_pos c1, if_pos c1]
  · rw [if_neg c1, if_neg c1]; exact h i hi h2
/-- the class's, where all six places are dealt -/
def dlo (o : Nat → Nat) (x : Nat → Nat) : Nat → Nat := fun i => if 18 ≤ i ∧ i < 24 then o (i - 18) else x i
theorem ag_dlo {c : Nat} {x : Nat → Nat} (h0 : x 0 ≤ 6) : Ag (dlo (oF (x 0) c) x) (dlk (x 0) c (x 0) x) := by
  intro i hi h2
  have e0 : dlo (oF (x 0) c) x 0 = x 0 := if_neg (by omega)
  rw [e0] at h2
  unfold dlo dlk oF
  by_cases c1 : 18 ≤ i ∧ i < 24
  · rw [if_pos c1, if_pos (by omega), if_pos (by omega)]
  · rw [if_neg c1, if_neg (by omega)]
theorem n_N2 {N : Nat} (h1 : 1 ≤ N) (h6 : N ≤ 6) : nI N - nI 2 = dn (N - 1) := by
  rcases (show N = 1 ∨ N = 2 ∨ N = 3 ∨ N = 4 ∨ N = 5 ∨ N = 6 by omega) with rfl | rfl | rfl | rfl | rfl | rfl <;> decide
section DL
variable {X Y : Nat → Nat → Nat} {sc : Nat → Nat → Int32} {ai : Nat → Nat → Int32} {aj : Nat → Nat → Int64}
theorem upA_i {a : Nat} : upA ai a (ai a) = ai := by funext k; unfold upA; by_cases h : k = a <;> simp [h]
/-- begin -/
theorem r0_l (m : Nat) : ∀ (ai : Nat → Nat → Int32) (k : Nat) (v : Int32), k + m = 6 → (∀ j, j < k → ai 131 j = nI j) → ∃ f, ax_res 0 12 [some (.ref 130), some (.int v), some (.int (nI k))] [] (hp X Y sc ai aj) = some (none, hp X Y sc (upA ai 131 f) aj) ∧ ∀ j, j < 6 → f j = nI j := by
  induction m with
  | zero =>
    intro ai k v hk hj
    refine ⟨ai 131, ?_, fun j hj2 => hj j (by omega)⟩
    rw [upA_i]
    simp only [q0_12, q0_13, q0_15, q0_31, ↓reduceIte, ax_bV_s, ax_bI_s, ax_bJ_s, ax_bA_s, ax_bH_s, ax_bR_s, ax_bR_n, n_le (show 6 < 2 ^ 31 by decide) (show k < 2 ^ 31 by omega), show 6 ≤ k by omega]
  | succ m ih =>
    intro ai k v hk hj
    obtain ⟨f, e, hf⟩ := ih (upA ai 131 (upd (ai 131) k (nI k))) (k + 1) v (by omega) (fun j hj2 => by
      rw [upA_s]
      unfold upd
      by_cases c : j = k
      · rw [if_pos c, c]
      · rw [if_neg c]; exact hj j (by omega))
    rw [upA_u] at e
    refine ⟨f, ?_, hf⟩
    rw [q0_12]
    simp only [q0_13, q0_15, q0_18, q0_19, q0_22, q0_23, q0_24, q0_25, q0_28, ↓reduceIte, ax_bV_s, ax_bI_s, ax_bJ_s, ax_bA_s, ax_bH_s, ax_bR_s, ax_bR_n, oo_114, gf114_0, gf114_1, gf114_2, gf114_3, gf114_4, gf114_5, pf114_5, gf114_6, gf114_7, gf114_8, gf114_9, oo_119, gf119_0, gf119_1, pf119_1, gf119_2, pf119_2, oo_130, gf130_0, gf130_1, gf130_2, pf130_2, oo_134, gf134_0, gf134_1, pf134_1, gf134_2, pf134_2, gf134_3, pf134_3, gf134_4, gf134_5, pf134_5, gf134_6, gf134_7, gf134_8, gf134_9, pf134_9, gf134_10, gf134_11, gf134_12, gf134_13, gf134_14, gf134_15, gf134_16, gi120, pi120, li120, gi131, pi131, li131, gi132, pi132, li132, gi136, pi136, li136, gi138, pi138, li138, gi139, pi139, li139, gi140, pi140, li140, gi141, pi141, li141, gi142, pi142, li142, gi144, pi144, li144, gi145, pi145, li145, gj133, pj133, lj133, gj137, pj137, lj137, gj143, pj143, lj143, gj146, pj146, lj146, gA121, gAq, oo_s, gfs_0, gfs_1, gfs_2, pfs_0, pfs_1, gjs, ljs, pjs, oo_h, gfh_0, gfh_1, gfh_2, pfh_1, pfh_2, n_le (show 6 < 2 ^ 31 by decide) (show k < 2 ^ 31 by omega), show ¬ 6 ≤ k by omega, show k < 6 by omega, nI_add, e]
theorem r0 {N : Nat} (hN : N ≤ 6) : ∃ f, ax_res 0 0 [some (.ref 130), some (.int (nI N)), none] [] (hp X Y sc ai aj) = some (none, hp X Y (upS sc 130 2 (nI N)) (upA ai 131 f) aj) ∧ ∀ j, j < 6 → f j = nI j := by
  obtain ⟨f, e, hf⟩ := r0_l (X := X) (Y := Y) (sc := upS sc 130 2 (nI N)) (aj := aj) 6 ai 0 (nI N) (by omega) (fun j hj => by omega)
  refine ⟨f, ?_, hf⟩
  simp only [q0_0, q0_1, q0_2, q0_4, q0_7, q0_10, q0_11, ↓reduceIte, ax_bV_s, ax_bI_s, ax_bJ_s, ax_bA_s, ax_bH_s, ax_bR_s, ax_bR_n, oo_114, gf114_0, gf114_1, gf114_2, gf114_3, gf114_4, gf114_5, pf114_5, gf114_6, gf114_7, gf114_8, gf114_9, oo_119, gf119_0, gf119_1, pf119_1, gf119_2, pf119_2, oo_130, gf130_0, gf130_1, gf130_2, pf130_2, oo_134, gf134_0, gf134_1, pf134_1, gf134_2, pf134_2, gf134_3, pf134_3, gf134_4, gf134_5, pf134_5, gf134_6, gf134_7, gf134_8, gf134_9, pf134_9, gf134_10, gf134_11, gf134_12, gf134_13, gf134_14, gf134_15, gf134_16, gi120, pi120, li120, gi131, pi131, li131, gi132, pi132, li132, gi136, pi136, li136, gi138, pi138, li138, gi139, pi139, li139, gi140, pi140, li140, gi141, pi141, li141, gi142, pi142, li142, gi144, pi144, li144, gi145, pi145, li145, gj133, pj133, lj133, gj137, pj137, lj137, gj143, pj143, lj143, gj146, pj146, lj146, gA121, gAq, oo_s, gfs_0, gfs_1, gfs_2, pfs_0, pfs_1, gjs, ljs, pjs, oo_h, gfh_0, gfh_1, gfh_2, pfh_1, pfh_2, n_min (show N < 2 ^ 31 by omega) (show 6 < 2 ^ 31 by decide), show min N 6 = N by omega, e]
/-- keep -/
theorem r1 : ax_res 1 0 [some (.ref 130)] [] (hp X Y sc ai aj) = some (none, hp X Y sc (upA ai 132 (va_cpy (ai 131) (ai 132) 0 0 6)) aj) := by
  have h : ax_cpyI (hp X Y sc ai aj) 131 132 (nI 0) (nI 0) (nI 6) = some (hp X Y sc (upA ai 132 (va_cpy (ai 131) (ai 132) 0 0 6)) aj) :=
    cpI (f := ai 131) (g := ai 132) (n := 6) (hp_o (by decide)) (hp_o (by decide)) (Nat.le_of_ble_eq_true rfl) (Nat.le_of_ble_eq_true rfl) (by decide) (hp_up (by decide) (by rw [upA_s]; rfl) rfl (fun b hb => by rw [upA_n hb]))
  simp only [q1_0, q1_1, q1_4, q1_5, q1_6, q1_9, q1_10, q1_12, q1_15, ↓reduceIte, ax_bV_s, ax_bI_s, ax_bJ_s, ax_bA_s, ax_bH_s, ax_bR_s, ax_bR_n, oo_114, gf114_0, gf114_1, gf114_2, gf114_3, gf114_4, gf114_5, pf114_5, gf114_6, gf114_7, gf114_8, gf114_9, oo_119, gf119_0, gf119_1, pf119_1, gf119_2, pf119_2, oo_130, gf130_0, gf130_1, gf130_2, pf130_2, oo_134, gf134_0, gf134_1, pf134_1, gf134_2, pf134_2, gf134_3, pf134_3, gf134_4, gf134_5, pf134_5, gf134_6, gf134_7, gf134_8, gf134_9, pf134_9, gf134_10, gf134_11, gf134_12, gf134_13, gf134_14, gf134_15, gf134_16, gi120, pi120, li120, gi131, pi131, li131, gi132, pi132, li132, gi136, pi136, li136, gi138, pi138, li138, gi139, pi139, li139, gi140, pi140, li140, gi141, pi141, li141, gi142, pi142, li142, gi144, pi144, li144, gi145, pi145, li145, gj133, pj133, lj133, gj137, pj137, lj137, gj143, pj143, lj143, gj146, pj146, lj146, gA121, gAq, oo_s, gfs_0, gfs_1, gfs_2, pfs_0, pfs_1, gjs, ljs, pjs, oo_h, gfh_0, gfh_1, gfh_2, pfh_1, pfh_2, h]
/-- keptAt -/
theorem r2 {N k : Nat} (hN : N ≤ 6) (hk : k < 2 ^ 31) (h : sc 130 2 = nI N) : ax_res 2 0 [some (.ref 130), some (.int (nI k))] [] (hp X Y sc ai aj) = some (some (.int (if k < N then ai 132 k else -4)), hp X Y sc ai aj) := by
  by_cases c : k < N
  · simp only [q2_0, q2_1, q2_4, q2_5, q2_6, q2_9, q2_12, q2_13, q2_16, q2_17, q2_18, q2_21, q2_23, ↓reduceIte, ax_bV_s, ax_bI_s, ax_bJ_s, ax_bA_s, ax_bH_s, ax_bR_s, ax_bR_n, oo_114, gf114_0, gf114_1, gf114_2, gf114_3, gf114_4, gf114_5, pf114_5, gf114_6, gf114_7, gf114_8, gf114_9, oo_119, gf119_0, gf119_1, pf119_1, gf119_2, pf119_2, oo_130, gf130_0, gf130_1, gf130_2, pf130_2, oo_134, gf134_0, gf134_1, pf134_1, gf134_2, pf134_2, gf134_3, pf134_3, gf134_4, gf134_5, pf134_5, gf134_6, gf134_7, gf134_8, gf134_9, pf134_9, gf134_10, gf134_11, gf134_12, gf134_13, gf134_14, gf134_15, gf134_16, gi120, pi120, li120, gi131, pi131, li131, gi132, pi132, li132, gi136, pi136, li136, gi138, pi138, li138, gi139, pi139, li139, gi140, pi140, li140, gi141, pi141, li141, gi142, pi142, li142, gi144, pi144, li144, gi145, pi145, li145, gj133, pj133, lj133, gj137, pj137, lj137, gj143, pj143, lj143, gj146, pj146, lj146, gA121, gAq, oo_s, gfs_0, gfs_1, gfs_2, pfs_0, pfs_1, gjs, ljs, pjs, oo_h, gfh_0, gfh_1, gfh_2, pfh_1, pfh_2, h, n_lt0 hk, n_le (show N < 2 ^ 31 by omega) hk, show ¬ N ≤ k by omega, show k < 6 by omega, c]
  · simp only [q2_0, q2_1, q2_4, q2_5, q2_6, q2_9, q2_21, q2_23, ↓reduceIte, ax_bV_s, ax_bI_s, ax_bJ_s, ax_bA_s, ax_bH_s, ax_bR_s, ax_bR_n, oo_114, gf114_0, gf114_1, gf114_2, gf114_3, gf114_4, gf114_5, pf114_5, gf114_6, gf114_7, gf114_8, gf114_9, oo_119, gf119_0, gf119_1, pf119_1, gf119_2, pf119_2, oo_130, gf130_0, gf130_1, gf130_2, pf130_2, oo_134, gf134_0, gf134_1, pf134_1, gf134_2, pf134_2, gf134_3, pf134_3, gf134_4, gf134_5, pf134_5, gf134_6, gf134_7, gf134_8, gf134_9, pf134_9, gf134_10, gf134_11, gf134_12, gf134_13, gf134_14, gf134_15, gf134_16, gi120, pi120, li120, gi131, pi131, li131, gi132, pi132, li132, gi136, pi136, li136, gi138, pi138, li138, gi139, pi139, li139, gi140, pi140, li140, gi141, pi141, li141, gi142, pi142, li142, gi144, pi144, li144, gi145, pi145, li145, gj133, pj133, lj133, gj137, pj137, lj137, gj143, pj143, lj143, gj146, pj146, lj146, gA121, gAq, oo_s, gfs_0, gfs_1, gfs_2, pfs_0, pfs_1, gjs, ljs, pjs, oo_h, gfh_0, gfh_1, gfh_2, pfh_1, pfh_2, h, n_lt0 hk, n_le (show N < 2 ^ 31 by omega) hk, show N ≤ k by omega, c]
/-- swap -/
theorem r4 {i j : Nat} {o : Nat → Nat} (hi : i < 6) (hj : j < 6) (ho : ∀ k, k < 6 → ai 131 k = nI (o k)) : ∃ f, ax_res 4 0 [some (.ref 130), some (.int (nI i)), some (.int (nI j)), none] [] (hp X Y sc ai aj) = some (none, hp X Y sc (upA ai 131 f) aj) ∧ ∀ k, k < 6 → f k = nI (swp o i j k) := by
  refine ⟨upd (upd (ai 131) i (ai 131 j)) j (ai 131 i), ?_, fun k hk => ?_⟩
  · simp only [q4_0, q4_1, q4_4, q4_5, q4_6, q4_7, q4_8, q4_11, q4_12, q4_13, q4_16, q4_17, q4_18, q4_19, q4_20, q4_23, q4_24, q4_25, q4_26, ↓reduceIte, ax_bV_s, ax_bI_s, ax_bJ_s, ax_bA_s, ax_bH_s, ax_bR_s, ax_bR_n, oo_114, gf114_0, gf114_1, gf114_2, gf114_3, gf114_4, gf114_5, pf114_5, gf114_6, gf114_7, gf114_8, gf114_9, oo_119, gf119_0, gf119_1, pf119_1, gf119_2, pf119_2, oo_130, gf130_0, gf130_1, gf130_2, pf130_2, oo_134, gf134_0, gf134_1, pf134_1, gf134_2, pf134_2, gf134_3, pf134_3, gf134_4, gf134_5, pf134_5, gf134_6, gf134_7, gf134_8, gf134_9, pf134_9, gf134_10, gf134_11, gf134_12, gf134_13, gf134_14, gf134_15, gf134_16, gi120, pi120, li120, gi131, pi131, li131, gi132, pi132, li132, gi136, pi136, li136, gi138, pi138, li138, gi139, pi139, li139, gi140, pi140, li140, gi141, pi141, li141, gi142, pi142, li142, gi144, pi144, li144, gi145, pi145, li145, gj133, pj133, lj133, gj137, pj137, lj137, gj143, pj143, lj143, gj146, pj146, lj146, gA121, gAq, oo_s, gfs_0, gfs_1, gfs_2, pfs_0, pfs_1, gjs, ljs, pjs, oo_h, gfh_0, gfh_1, gfh_2, pfh_1, pfh_2, hi, hj, upA_s, upA_u]
  · unfold upd swp up1
    by_cases c : k = j
    · rw [if_pos c, if_pos c, ho i hi]
    · rw [if_neg c, if_neg c]
      by_cases c2 : k = i
      · rw [if_pos c2, if_pos c2, ho j hj]
      · rw [if_neg c2, if_neg c2, ho k hk]
theorem r3_a {o : Nat → Nat} (ho : ∀ k, k < 6 → ai 131 k = nI (o k)) (hl : ∀ k, k < 6 → o k < 2 ^ 31) (k : Nat) : k ≤ 5 → ax_res 3 7 [some (.ref 130), some (.int (dn k)), none, none, none] [] (hp X Y sc ai aj) = ax_res 3 34 [some (.ref 130), some (.int (dn (ri o k))), none, none, none] [] (hp X Y sc ai aj) := by
  induction k with
  | zero =>
    intro _
    rw [ri_0, dn_0]
    simp only [q3_7, q3_8, ↓reduceIte, ax_bV_s, ax_bI_s, ax_bJ_s, ax_bA_s, ax_bH_s, ax_bR_s, ax_bR_n, n1_lt0]
  | succ k ih =>
    intro hk
    rw [ri_s, dn_s]
    by_cases c : o k ≤ o (k + 1)
    · rw [if_pos c, dn_s]
      simp only [q3_7, q3_8, q3_11, q3_12, q3_15, q3_16, q3_17, q3_18, q3_21, q3_22, q3_23, q3_24, q3_25, ↓reduceIte, ax_bV_s, ax_bI_s, ax_bJ_s, ax_bA_s, ax_bH_s, ax_bR_s, ax_bR_n, oo_114, gf114_0, gf114_1, gf114_2, gf114_3, gf114_4, gf114_5, pf114_5, gf114_6, gf114_7, gf114_8, gf114_9, oo_119, gf119_0, gf119_1, pf119_1, gf119_2, pf119_2, oo_130, gf130_0, gf130_1, gf130_2, pf130_2, oo_134, gf134_0, gf134_1, pf134_1, gf134_2, pf134_2, gf134_3, pf134_3, gf134_4, gf134_5, pf134_5, gf134_6, gf134_7, gf134_8, gf134_9, pf134_9, gf134_10, gf134_11, gf134_12, gf134_13, gf134_14, gf134_15, gf134_16, gi120, pi120, li120, gi131, pi131, li131, gi132, pi132, li132, gi136, pi136, li136, gi138, pi138, li138, gi139, pi139, li139, gi140, pi140, li140, gi141, pi141, li141, gi142, pi142, li142, gi144, pi144, li144, gi145, pi145, li145, gj133, pj133, lj133, gj137, pj137, lj137, gj143, pj143, lj143, gj146, pj146, lj146, gA121, gAq, oo_s, gfs_0, gfs_1, gfs_2, pfs_0, pfs_1, gjs, ljs, pjs, oo_h, gfh_0, gfh_1, gfh_2, pfh_1, pfh_2, n_lt0 (show k < 2 ^ 31 by omega), show k < 6 by omega, nI_add, show k + 1 < 6 by omega, ho k (by omega), ho (k + 1) (by omega), n_le (hl k (by omega)) (hl (k + 1) (by omega)), c]
    · rw [if_neg c, ← ih (by omega), q3_7]
      simp only [q3_8, q3_11, q3_12, q3_15, q3_16, q3_17, q3_18, q3_21, q3_22, q3_23, q3_24, q3_25, q3_28, q3_31, ↓reduceIte, ax_bV_s, ax_bI_s, ax_bJ_s, ax_bA_s, ax_bH_s, ax_bR_s, ax_bR_n, oo_114, gf114_0, gf114_1, gf114_2, gf114_3, gf114_4, gf114_5, pf114_5, gf114_6, gf114_7, gf114_8, gf114_9, oo_119, gf119_0, gf119_1, pf119_1, gf119_2, pf119_2, oo_130, gf130_0, gf130_1, gf130_2, pf130_2, oo_134, gf134_0, gf134_1, pf134_1, gf134_2, pf134_2, gf134_3, pf134_3, gf134_4, gf134_5, pf134_5, gf134_6, gf134_7, gf134_8, gf134_9, pf134_9, gf134_10, gf134_11, gf134_12, gf134_13, gf134_14, gf134_15, gf134_16, gi120, pi120, li120, gi131, pi131, li131, gi132, pi132, li132, gi136, pi136, li136, gi138, pi138, li138, gi139, pi139, li139, gi140, pi140, li140, gi141, pi141, li141, gi142, pi142, li142, gi144, pi144, li144, gi145, pi145, li145, gj133, pj133, lj133, gj137, pj137, lj137, gj143, pj143, lj143, gj146, pj146, lj146, gA121, gAq, oo_s, gfs_0, gfs_1, gfs_2, pfs_0, pfs_1, gjs, ljs, pjs, oo_h, gfh_0, gfh_1, gfh_2, pfh_1, pfh_2, n_lt0 (show k < 2 ^ 31 by omega), show k < 6 by omega, nI_add, show k + 1 < 6 by omega, ho k (by omega), ho (k + 1) (by omega), n_le (hl k (by omega)) (hl (k + 1) (by omega)), c, dn_dec]
theorem r3_b {o : Nat → Nat} {r : Nat} (ho : ∀ k, k < 6 → ai 131 k = nI (o k)) (hl : ∀ k, k < 6 → o k < 2 ^ 31) (a : Nat) : a ≤ 5 → r ≤ a → ax_res 3 47 [some (.ref 130), some (.int (nI r)), some (.int (nI a)), none, none] [] (hp X Y sc ai aj) = ax_res 3 73 [some (.ref 130), some (.int (nI r)), some (.int (nI (ab o r a))), none, none] [] (hp X Y sc ai aj) := by
  induction a with
  | zero =>
    intro _ hr
    rw [ab_0]
    simp only [q3_47, q3_48, q3_49, ↓reduceIte, ax_bV_s, ax_bI_s, ax_bJ_s, ax_bA_s, ax_bH_s, ax_bR_s, ax_bR_n, n_le (show 0 < 2 ^ 31 by decide) (show r < 2 ^ 31 by omega), Nat.zero_le]
  | succ a ih =>
    intro ha hr
    rw [ab_s]
    by_cases c : a + 1 ≤ r
    · rw [if_pos c]
      simp only [q3_47, q3_48, q3_49, ↓reduceIte, ax_bV_s, ax_bI_s, ax_bJ_s, ax_bA_s, ax_bH_s, ax_bR_s, ax_bR_n, n_le (show a + 1 < 2 ^ 31 by omega) (show r < 2 ^ 31 by omega), c]
    · rw [if_neg c]
      by_cases c2 : o r ≤ o (a + 1)
      · rw [if_pos c2]
        simp only [q3_47, q3_48, q3_49, q3_52, q3_53, q3_56, q3_57, q3_58, q3_59, q3_62, q3_63, q3_64, ↓reduceIte, ax_bV_s, ax_bI_s, ax_bJ_s, ax_bA_s, ax_bH_s, ax_bR_s, ax_bR_n, oo_114, gf114_0, gf114_1, gf114_2, gf114_3, gf114_4, gf114_5, pf114_5, gf114_6, gf114_7, gf114_8, gf114_9, oo_119, gf119_0, gf119_1, pf119_1, gf119_2, pf119_2, oo_130, gf130_0, gf130_1, gf130_2, pf130_2, oo_134, gf134_0, gf134_1, pf134_1, gf134_2, pf134_2, gf134_3, pf134_3, gf134_4, gf134_5, pf134_5, gf134_6, gf134_7, gf134_8, gf134_9, pf134_9, gf134_10, gf134_11, gf134_12, gf134_13, gf134_14, gf134_15, gf134_16, gi120, pi120, li120, gi131, pi131, li131, gi132, pi132, li132, gi136, pi136, li136, gi138, pi138, li138, gi139, pi139, li139, gi140, pi140, li140, gi141, pi141, li141, gi142, pi142, li142, gi144, pi144, li144, gi145, pi145, li145, gj133, pj133, lj133, gj137, pj137, lj137, gj143, pj143, lj143, gj146, pj146, lj146, gA121, gAq, oo_s, gfs_0, gfs_1, gfs_2, pfs_0, pfs_1, gjs, ljs, pjs, oo_h, gfh_0, gfh_1, gfh_2, pfh_1, pfh_2, n_le (show a + 1 < 2 ^ 31 by omega) (show r < 2 ^ 31 by omega), c, show a + 1 < 6 by omega, show r < 6 by omega, ho (a + 1) (by omega), ho r (by omega), n_le (hl r (by omega)) (hl (a + 1) (by omega)), c2]
      · rw [if_neg c2, ← ih (by omega) (by omega), q3_47]
        simp only [q3_48, q3_49, q3_52, q3_53, q3_56, q3_57, q3_58, q3_59, q3_62, q3_63, q3_64, q3_67, q3_70, ↓reduceIte, ax_bV_s, ax_bI_s, ax_bJ_s, ax_bA_s, ax_bH_s, ax_bR_s, ax_bR_n, oo_114, gf114_0, gf114_1, gf114_2, gf114_3, gf114_4, gf114_5, pf114_5, gf114_6, gf114_7, gf114_8, gf114_9, oo_119, gf119_0, gf119_1, pf119_1, gf119_2, pf119_2, oo_130, gf130_0, gf130_1, gf130_2, pf130_2, oo_134, gf134_0, gf134_1, pf134_1, gf134_2, pf134_2, gf134_3, pf134_3, gf134_4, gf134_5, pf134_5, gf134_6, gf134_7, gf134_8, gf134_9, pf134_9, gf134_10, gf134_11, gf134_12, gf134_13, gf134_14, gf134_15, gf134_16, gi120, pi120, li120, gi131, pi131, li131, gi132, pi132, li132, gi136, pi136, li136, gi138, pi138, li138, gi139, pi139, li139, gi140, pi140, li140, gi141, pi141, li141, gi142, pi142, li142, gi144, pi144, li144, gi145, pi145, li145, gj133, pj133, lj133, gj137, pj137, lj137, gj143, pj143, lj143, gj146, pj146, lj146, gA121, gAq, oo_s, gfs_0, gfs_1, gfs_2, pfs_0, pfs_1, gjs, ljs, pjs, oo_h, gfh_0, gfh_1, gfh_2, pfh_1, pfh_2, n_le (show a + 1 < 2 ^ 31 by omega) (show r < 2 ^ 31 by omega), c, show a + 1 < 6 by omega, show r < 6 by omega, ho (a + 1) (by omega), ho r (by omega), n_le (hl r (by omega)) (hl (a + 1) (by omega)), c2, dn_dec, dn_s]
theorem r3_c (m : Nat) : ∀ (ai : Nat → Nat → Int32) (o : Nat → Nat) (lo hi : Nat) (r a : Int32), (∀ k, k < 6 → ai 131 k = nI (o k)) → hi < 6 → lo < 7 → hi ≤ lo + m → ∃ f, ax_res 3 91 [some (.ref 130), some (.int r), some (.int a), some (.int (nI lo)), some (.int (nI hi))] [] (hp X Y sc ai aj) = some (some (.int (nI 1)), hp X Y sc (upA ai 131 f) aj) ∧ ∀ k, k < 6 → f k = nI (rv m lo hi o k) := by
  induction m with
  | zero =>
    intro ai o lo hi r a ho hh hl hm
    refine ⟨ai 131, ?_, fun k hk => by rw [rv_0]; exact ho k hk⟩
    rw [upA_i]
    simp only [q3_91, q3_92, q3_94, q3_113, q3_114, ↓reduceIte, ax_bV_s, ax_bI_s, ax_bJ_s, ax_bA_s, ax_bH_s, ax_bR_s, ax_bR_n, ax_fit1_0, ax_fit1_1, ax_fitb, n_le (show hi < 2 ^ 31 by omega) (show lo < 2 ^ 31 by omega), show hi ≤ lo by omega]
  | succ m ih =>
    intro ai o lo hi r a ho hh hl hm
    by_cases c : lo < hi
    · obtain ⟨f, e, hf⟩ := r4 (X := X) (Y := Y) (sc := sc) (ai := ai) (aj := aj) (i := lo) (j := hi) (o := o) (by omega) hh ho
      obtain ⟨f2, e2, hf2⟩ := ih (upA ai 131 f) (swp o lo hi) (lo + 1) (hi - 1) r a (fun k hk => by rw [upA_s]; exact hf k hk) (by omega) (by omega) (by omega)
      rw [upA_u] at e2
      have ed : dn hi = nI (hi - 1) := by unfold dn; rw [if_neg (by omega)]
      refine ⟨f2, ?_, fun k hk => by rw [rv_s, if_pos c]; exact hf2 k hk⟩
      rw [q3_91]
      simp only [q3_92, q3_94, q3_97, q3_98, q3_99, q3_101, q3_104, q3_107, q3_110, ↓reduceIte, ax_bV_s, ax_bI_s, ax_bJ_s, ax_bA_s, ax_bH_s, ax_bR_s, ax_bR_n, oo_114, gf114_0, gf114_1, gf114_2, gf114_3, gf114_4, gf114_5, pf114_5, gf114_6, gf114_7, gf114_8, gf114_9, oo_119, gf119_0, gf119_1, pf119_1, gf119_2, pf119_2, oo_130, gf130_0, gf130_1, gf130_2, pf130_2, oo_134, gf134_0, gf134_1, pf134_1, gf134_2, pf134_2, gf134_3, pf134_3, gf134_4, gf134_5, pf134_5, gf134_6, gf134_7, gf134_8, gf134_9, pf134_9, gf134_10, gf134_11, gf134_12, gf134_13, gf134_14, gf134_15, gf134_16, gi120, pi120, li120, gi131, pi131, li131, gi132, pi132, li132, gi136, pi136, li136, gi138, pi138, li138, gi139, pi139, li139, gi140, pi140, li140, gi141, pi141, li141, gi142, pi142, li142, gi144, pi144, li144, gi145, pi145, li145, gj133, pj133, lj133, gj137, pj137, lj137, gj143, pj143, lj143, gj146, pj146, lj146, gA121, gAq, oo_s, gfs_0, gfs_1, gfs_2, pfs_0, pfs_1, gjs, ljs, pjs, oo_h, gfh_0, gfh_1, gfh_2, pfh_1, pfh_2, n_le (show hi < 2 ^ 31 by omega) (show lo < 2 ^ 31 by omega), show ¬ hi ≤ lo by omega, e, nI_add, dn_dec, ed, e2]
    · refine ⟨ai 131, ?_, fun k hk => by rw [rv_s, if_neg c]; exact ho k hk⟩
      rw [upA_i]
      simp only [q3_91, q3_92, q3_94, q3_113, q3_114, ↓reduceIte, ax_bV_s, ax_bI_s, ax_bJ_s, ax_bA_s, ax_bH_s, ax_bR_s, ax_bR_n, ax_fit1_0, ax_fit1_1, ax_fitb, n_le (show hi < 2 ^ 31 by omega) (show lo < 2 ^ 31 by omega), show hi ≤ lo by omega]
/-- advance -/
theorem r3_none {N : Nat} {o : Nat → Nat} (h1 : 1 ≤ N) (h6 : N ≤ 6) (hs : sc 130 2 = nI N) (ho : ∀ k, k < 6 → ai 131 k = nI (o k)) (hl : ∀ k, k < 6 → o k < 2 ^ 31) (ha : adv N o = none) : ax_res 3 0 [some (.ref 130), none, none, none, none] [] (hp X Y sc ai aj) = some (some (.int (nI 0)), hp X Y sc ai aj) := by
  have e := r3_a (X := X) (Y := Y) (sc := sc) (aj := aj) ho hl (N - 1) (by omega)
  simp only [q3_0, q3_1, q3_4, q3_5, q3_6, ↓reduceIte, ax_bV_s, ax_bI_s, ax_bJ_s, ax_bA_s, ax_bH_s, ax_bR_s, ax_bR_n, oo_114, gf114_0, gf114_1, gf114_2, gf114_3, gf114_4, gf114_5, pf114_5, gf114_6, gf114_7, gf114_8, gf114_9, oo_119, gf119_0, gf119_1, pf119_1, gf119_2, pf119_2, oo_130, gf130_0, gf130_1, gf130_2, pf130_2, oo_134, gf134_0, gf134_1, pf134_1, gf134_2, pf134_2, gf134_3, pf134_3, gf134_4, gf134_5, pf134_5, gf134_6, gf134_7, gf134_8, gf134_9, pf134_9, gf134_10, gf134_11, gf134_12, gf134_13, gf134_14, gf134_15, gf134_16, gi120, pi120, li120, gi131, pi131, li131, gi132, pi132, li132, gi136, pi136, li136, gi138, pi138, li138, gi139, pi139, li139, gi140, pi140, li140, gi141, pi141, li141, gi142, pi142, li142, gi144, pi144, li144, gi145, pi145, li145, gj133, pj133, lj133, gj137, pj137, lj137, gj143, pj143, lj143, gj146, pj146, lj146, gA121, gAq, oo_s, gfs_0, gfs_1, gfs_2, pfs_0, pfs_1, gjs, ljs, pjs, oo_h, gfh_0, gfh_1, gfh_2, pfh_1, pfh_2, hs, n_N2 h1 h6, e]
  unfold adv at ha
  cases hr : ri o (N - 1) with
  | zero => simp only [q3_34, q3_35, q3_38, q3_39, ↓reduceIte, ax_bV_s, ax_bI_s, ax_bJ_s, ax_bA_s, ax_bH_s, ax_bR_s, ax_bR_n, ax_fit1_0, ax_fit1_1, ax_fitb, dn_0, n1_0le]
  | succ r => rw [hr] at ha; cases ha
theorem r3_some {N : Nat} {o g : Nat → Nat} (h1 : 1 ≤ N) (h6 : N ≤ 6) (hs : sc 130 2 = nI N) (ho : ∀ k, k < 6 → ai 131 k = nI (o k)) (hl : ∀ k, k < 6 → o k < 2 ^ 31) (ha : adv N o = some g) : ∃ f, ax_res 3 0 [some (.ref 130), none, none, none, none] [] (hp X Y sc ai aj) = some (some (.int (nI 1)), hp X Y sc (upA ai 131 f) aj) ∧ ∀ k, k < 6 → f k = nI (g k) := by
  have e := r3_a (X := X) (Y := Y) (sc := sc) (aj := aj) ho hl (N - 1) (by omega)
  have hri := ri_le o (N - 1)
  unfold adv at ha
  cases hr : ri o (N - 1) with
  | zero => rw [hr] at ha; cases ha
  | succ r =>
    rw [hr] at ha hri e
    simp only [Option.some.injEq] at ha
    have eb := r3_b (X := X) (Y := Y) (sc := sc) (aj := aj) (r := r) ho hl (N - 1) (by omega) (by omega)
    have hab := ab_le o r (N - 1)
    obtain ⟨f, e4, hf⟩ := r4 (X := X) (Y := Y) (sc := sc) (ai := ai) (aj := aj) (i := r) (j := ab o r (N - 1)) (o := o) (by omega) (by omega) ho
    obtain ⟨f2, e2, hf2⟩ := r3_c (X := X) (Y := Y) (sc := sc) (aj := aj) 6 (upA ai 131 f) (swp o r (ab o r (N - 1))) (r + 1) (N - 1) (nI r) (nI (ab o r (N - 1))) (fun k hk => by rw [upA_s]; exact hf k hk) (by omega) (by omega) (by omega)
    rw [upA_u] at e2
    refine ⟨f2, ?_, fun k hk => by rw [← ha]; exact hf2 k hk⟩
    simp only [q3_0, q3_1, q3_4, q3_5, q3_6, ↓reduceIte, ax_bV_s, ax_bI_s, ax_bJ_s, ax_bA_s, ax_bH_s, ax_bR_s, ax_bR_n, oo_114, gf114_0, gf114_1, gf114_2, gf114_3, gf114_4, gf114_5, pf114_5, gf114_6, gf114_7, gf114_8, gf114_9, oo_119, gf119_0, gf119_1, pf119_1, gf119_2, pf119_2, oo_130, gf130_0, gf130_1, gf130_2, pf130_2, oo_134, gf134_0, gf134_1, pf134_1, gf134_2, pf134_2, gf134_3, pf134_3, gf134_4, gf134_5, pf134_5, gf134_6, gf134_7, gf134_8, gf134_9, pf134_9, gf134_10, gf134_11, gf134_12, gf134_13, gf134_14, gf134_15, gf134_16, gi120, pi120, li120, gi131, pi131, li131, gi132, pi132, li132, gi136, pi136, li136, gi138, pi138, li138, gi139, pi139, li139, gi140, pi140, li140, gi141, pi141, li141, gi142, pi142, li142, gi144, pi144, li144, gi145, pi145, li145, gj133, pj133, lj133, gj137, pj137, lj137, gj143, pj143, lj143, gj146, pj146, lj146, gA121, gAq, oo_s, gfs_0, gfs_1, gfs_2, pfs_0, pfs_1, gjs, ljs, pjs, oo_h, gfh_0, gfh_1, gfh_2, pfh_1, pfh_2, hs, n_N2 h1 h6, e]
    simp only [q3_34, q3_35, q3_40, q3_41, q3_44, q3_45, q3_46, ↓reduceIte, ax_bV_s, ax_bI_s, ax_bJ_s, ax_bA_s, ax_bH_s, ax_bR_s, ax_bR_n, oo_114, gf114_0, gf114_1, gf114_2, gf114_3, gf114_4, gf114_5, pf114_5, gf114_6, gf114_7, gf114_8, gf114_9, oo_119, gf119_0, gf119_1, pf119_1, gf119_2, pf119_2, oo_130, gf130_0, gf130_1, gf130_2, pf130_2, oo_134, gf134_0, gf134_1, pf134_1, gf134_2, pf134_2, gf134_3, pf134_3, gf134_4, gf134_5, pf134_5, gf134_6, gf134_7, gf134_8, gf134_9, pf134_9, gf134_10, gf134_11, gf134_12, gf134_13, gf134_14, gf134_15, gf134_16, gi120, pi120, li120, gi131, pi131, li131, gi132, pi132, li132, gi136, pi136, li136, gi138, pi138, li138, gi139, pi139, li139, gi140, pi140, li140, gi141, pi141, li141, gi142, pi142, li142, gi144, pi144, li144, gi145, pi145, li145, gj133, pj133, lj133, gj137, pj137, lj137, gj143, pj143, lj143, gj146, pj146, lj146, gA121, gAq, oo_s, gfs_0, gfs_1, gfs_2, pfs_0, pfs_1, gjs, ljs, pjs, oo_h, gfh_0, gfh_1, gfh_2, pfh_1, pfh_2, hs, dn_s, n_0le (show r < 2 ^ 31 by omega), n_sub (show 1 ≤ N by omega), eb]
    simp only [q3_73, q3_74, q3_75, q3_76, q3_79, q3_80, q3_81, q3_82, q3_83, q3_84, q3_87, q3_88, q3_89, ↓reduceIte, ax_bV_s, ax_bI_s, ax_bJ_s, ax_bA_s, ax_bH_s, ax_bR_s, ax_bR_n, oo_114, gf114_0, gf114_1, gf114_2, gf114_3, gf114_4, gf114_5, pf114_5, gf114_6, gf114_7, gf114_8, gf114_9, oo_119, gf119_0, gf119_1, pf119_1, gf119_2, pf119_2, oo_130, gf130_0, gf130_1, gf130_2, pf130_2, oo_134, gf134_0, gf134_1, pf134_1, gf134_2, pf134_2, gf134_3, pf134_3, gf134_4, gf134_5, pf134_5, gf134_6, gf134_7, gf134_8, gf134_9, pf134_9, gf134_10, gf134_11, gf134_12, gf134_13, gf134_14, gf134_15, gf134_16, gi120, pi120, li120, gi131, pi131, li131, gi132, pi132, li132, gi136, pi136, li136, gi138, pi138, li138, gi139, pi139, li139, gi140, pi140, li140, gi141, pi141, li141, gi142, pi142, li142, gi144, pi144, li144, gi145, pi145, li145, gj133, pj133, lj133, gj137, pj137, lj137, gj143, pj143, lj143, gj146, pj146, lj146, gA121, gAq, oo_s, gfs_0, gfs_1, gfs_2, pfs_0, pfs_1, gjs, ljs, pjs, oo_h, gfh_0, gfh_1, gfh_2, pfh_1, pfh_2, hs, e4, nI_add, n_sub (show 1 ≤ N by omega), e2]
/-- startTrialByDeal -/
theorem r95 {o : Nat → Nat} (ho : ∀ k, k < 6 → ai 131 k = nI (o k)) : ax_res 95 0 [some (.ref 114)] [] (hp X Y sc ai aj) = some (none, hp (upX X 1 (dlo o (fgt (X 0)))) Y sc ai aj) := by
  have h11 := r11 (X := upX X 1 (X 0)) (Y := Y) (sc := sc) (ai := ai) (aj := aj) j1
  rw [upX_s, upX_u] at h11
  have er : va_cpy (ai 131) (hrow (fgt (X 0)) 18) 0 0 6 = hrow (dlo o (fgt (X 0))) 18 := by
    funext i; unfold va_cpy hrow dlo; by_cases hi : i < 6
    · rw [if_pos (by omega), if_pos hi, if_pos (by omega), show 0 + (i - 0) = i by omega, ho i hi]; congr 2; omega
    · rw [if_neg (by omega), if_neg hi, if_neg hi]
  have en : ∀ d, d + 6 ≤ 18 ∨ 24 ≤ d → hrow (dlo o (fgt (X 0))) d = hrow (fgt (X 0)) d := by
    intro d hd
    funext i; unfold hrow dlo; by_cases hi : i < 6
    · rw [if_pos hi, if_pos hi, if_neg (by omega)]
    · rw [if_neg hi, if_neg hi]
  have hc : ax_cpyI (hp (upX X 1 (fgt (X 0))) Y sc ai aj) 131 (ha 1 5) (nI 0) (nI 0) (nI 6) = some (hp (upX X 1 (dlo o (fgt (X 0)))) Y sc ai aj) := by
    refine cpI (f := ai 131) (g := hrow (fgt (X 0)) 18) (n := 6) (hp_o (by decide)) (by rw [hp_h (k := 5) j1 (by decide), upX_s]; rfl) (Nat.le_of_ble_eq_true rfl) (ha_lt j1 (by decide)) (by decide) ?_
    rw [er]
    have hu := hp_uh (X := upX X 1 (fgt (X 0))) (Y := Y) (sc := sc) (ai := ai) (aj := aj) (j := 1) (k := 5) (x := dlo o (fgt (X 0))) j1 (by decide) (fun i hi h0 => by
      rw [upX_s]
      rcases (show i = 0 ∨ i = 1 ∨ i = 2 ∨ i = 3 ∨ i = 4 by omega) with rfl | rfl | rfl | rfl | rfl
      · simp [hcell, dlo]
      · simp only [hcell]; rw [en _ (by omega)]
      · simp only [hcell]; rw [en _ (by omega)]
      · simp only [hcell]; rw [en _ (by omega)]
      · simp only [hcell]; rw [en _ (by omega)])
    rw [upX_u] at hu
    exact hu
  simp only [q95_0, q95_1, q95_4, q95_5, q95_8, q95_11, q95_12, q95_15, q95_18, q95_19, q95_20, q95_23, q95_26, q95_27, q95_29, q95_32, ↓reduceIte, ax_bV_s, ax_bI_s, ax_bJ_s, ax_bA_s, ax_bH_s, ax_bR_s, ax_bR_n, gh_people, gh_here, gh_sat, gh_minute, gh_draw, gh_sitter, gh_kinds, gh_prices, gh_known, gh_sights, gh_places, ga_kinds, ga_prices, ga_known, ga_sights, ga_places, oh, oo_114, gf114_0, gf114_1, gf114_2, gf114_3, gf114_4, gf114_5, pf114_5, gf114_6, gf114_7, gf114_8, gf114_9, oo_119, gf119_0, gf119_1, pf119_1, gf119_2, pf119_2, oo_130, gf130_0, gf130_1, gf130_2, pf130_2, oo_134, gf134_0, gf134_1, pf134_1, gf134_2, pf134_2, gf134_3, pf134_3, gf134_4, gf134_5, pf134_5, gf134_6, gf134_7, gf134_8, gf134_9, pf134_9, gf134_10, gf134_11, gf134_12, gf134_13, gf134_14, gf134_15, gf134_16, gi120, pi120, li120, gi131, pi131, li131, gi132, pi132, li132, gi136, pi136, li136, gi138, pi138, li138, gi139, pi139, li139, gi140, pi140, li140, gi141, pi141, li141, gi142, pi142, li142, gi144, pi144, li144, gi145, pi145, li145, gj133, pj133, lj133, gj137, pj137, lj137, gj143, pj143, lj143, gj146, pj146, lj146, gA121, gAq, oo_s, gfs_0, gfs_1, gfs_2, pfs_0, pfs_1, gjs, ljs, pjs, oo_h, gfh_0, gfh_1, gfh_2, pfh_1, pfh_2, j1, r89, h11, hc]
-- the model's
theorem r149_l (m : Nat) : ∀ (ai : Nat → Nat → Int32) (left set : Nat) (code : Int32), m ≤ Y 0 0 → Y 0 0 ≤ 6 → 0 < Y 0 0 → left < 2 ^ 31 → set < 2 ^ Y 0 0 → ∃ f, ax_res 149 14 [some (.ref 134), some (.int code), some (.int (nI left)), some (.int (nI set)), some (.int (dn m))] [] (hp X Y sc ai aj) = some (some (.int (nI (bn (Nat.beq (dlS (Y 0 0) m left set) (2 ^ Y 0 0 - 1))))), hp X Y sc (upA ai 144 f) aj) ∧ (∀ j, j < m → f j = nI (left / Y 0 0 ^ (m - 1 - j) % Y 0 0)) ∧ ∀ j, m ≤ j → f j = ai 144 j := by
  induction m with
  | zero =>
    intro ai left set code hm h6 h1 hl hs
    have h64 : 2 ^ Y 0 0 ≤ 2 ^ 6 := Nat.pow_le_pow_right (by decide) h6
    have hp0 : 0 < 2 ^ Y 0 0 := Nat.pow_pos (by decide)
    refine ⟨ai 144, ?_, fun j hj => by omega, fun j _ => rfl⟩
    rw [upA_i, dlS_0, dn_0]
    simp only [q149_14, q149_16, q149_61, q149_62, q149_63, q149_64, q149_67, q149_68, q149_69, q149_70, q149_71, q149_72, q149_75, q149_76, q149_79, q149_80, ↓reduceIte, ax_bV_s, ax_bI_s, ax_bJ_s, ax_bA_s, ax_bH_s, ax_bR_s, ax_bR_n, gwq_0, gwq_1, gwq_2, gwq_3, gwq_4, gwq_5, gwqT, gwqS, gwqP, gwqK, gwqZ, gw0_0, gw0_1, gw0_2, gw0_3, gw0_4, gw0_5, gw0T, gw0S, gw0P, gw0K, gw0Z, gw1_0, gw1_1, gw1_2, gw1_3, gw1_4, gw1_5, gw1T, gw1S, gw1P, gw1K, gw1Z, oo_114, gf114_0, gf114_1, gf114_2, gf114_3, gf114_4, gf114_5, pf114_5, gf114_6, gf114_7, gf114_8, gf114_9, oo_119, gf119_0, gf119_1, pf119_1, gf119_2, pf119_2, oo_130, gf130_0, gf130_1, gf130_2, pf130_2, oo_134, gf134_0, gf134_1, pf134_1, gf134_2, pf134_2, gf134_3, pf134_3, gf134_4, gf134_5, pf134_5, gf134_6, gf134_7, gf134_8, gf134_9, pf134_9, gf134_10, gf134_11, gf134_12, gf134_13, gf134_14, gf134_15, gf134_16, gi120, pi120, li120, gi131, pi131, li131, gi132, pi132, li132, gi136, pi136, li136, gi138, pi138, li138, gi139, pi139, li139, gi140, pi140, li140, gi141, pi141, li141, gi142, pi142, li142, gi144, pi144, li144, gi145, pi145, li145, gj133, pj133, lj133, gj137, pj137, lj137, gj143, pj143, lj143, gj146, pj146, lj146, gA121, gAq, oo_s, gfs_0, gfs_1, gfs_2, pfs_0, pfs_1, gjs, ljs, pjs, oo_h, gfh_0, gfh_1, gfh_2, pfh_1, pfh_2, ax_fit1_0, ax_fit1_1, ax_fitb, n1_lt0, n_1shl _ (show Y 0 0 < 31 by omega), n_sub (show 1 ≤ 2 ^ Y 0 0 by omega), n_eq (show set < 2 ^ 31 by omega) (show 2 ^ Y 0 0 - 1 < 2 ^ 31 by omega)]
    by_cases c : set = 2 ^ Y 0 0 - 1
    · rw [if_pos c, Nat.beq_eq.mpr c]; rfl
    · rw [if_neg c, show Nat.beq set (2 ^ Y 0 0 - 1) = false by cases hb : Nat.beq set (2 ^ Y 0 0 - 1); rfl; exact absurd (Nat.beq_eq.mp hb) c]; rfl
  | succ m ih =>
    intro ai left set code hm h6 h1 hl hs
    have hr := Nat.mod_lt left h1
    have hd : left / Y 0 0 ≤ left := Nat.div_le_self _ _
    have erem : nI left - nI (left / Y 0 0) * nI (Y 0 0) = nI (left % Y 0 0) := by rw [← n_div hl h1 (show Y 0 0 < 2 ^ 31 by omega), n_rem hl h1 (show Y 0 0 < 2 ^ 31 by omega)]
    obtain ⟨f, e, hf1, hf2⟩ := ih (upA ai 144 (upd (ai 144) m (nI (left % Y 0 0)))) (left / Y 0 0) (set ||| 2 ^ (left % Y 0 0)) code (by omega) h6 h1 (by omega) (or_lt _ h6 _ hs _ hr)
    rw [upA_u] at e
    rw [upA_s] at hf2
    refine ⟨f, ?_, fun j hj => ?_, fun j hj => ?_⟩
    · rw [dlS_s, ← e, q149_14, dn_s]
      simp only [q149_16, q149_19, q149_20, q149_23, q149_25, q149_26, q149_27, q149_30, q149_31, q149_32, q149_33, q149_34, q149_35, q149_36, q149_37, q149_40, q149_42, q149_43, q149_44, q149_45, q149_46, q149_47, q149_48, q149_51, q149_52, q149_53, q149_54, q149_55, q149_58, ↓reduceIte, ax_bV_s, ax_bI_s, ax_bJ_s, ax_bA_s, ax_bH_s, ax_bR_s, ax_bR_n, gwq_0, gwq_1, gwq_2, gwq_3, gwq_4, gwq_5, gwqT, gwqS, gwqP, gwqK, gwqZ, gw0_0, gw0_1, gw0_2, gw0_3, gw0_4, gw0_5, gw0T, gw0S, gw0P, gw0K, gw0Z, gw1_0, gw1_1, gw1_2, gw1_3, gw1_4, gw1_5, gw1T, gw1S, gw1P, gw1K, gw1Z, oo_114, gf114_0, gf114_1, gf114_2, gf114_3, gf114_4, gf114_5, pf114_5, gf114_6, gf114_7, gf114_8, gf114_9, oo_119, gf119_0, gf119_1, pf119_1, gf119_2, pf119_2, oo_130, gf130_0, gf130_1, gf130_2, pf130_2, oo_134, gf134_0, gf134_1, pf134_1, gf134_2, pf134_2, gf134_3, pf134_3, gf134_4, gf134_5, pf134_5, gf134_6, gf134_7, gf134_8, gf134_9, pf134_9, gf134_10, gf134_11, gf134_12, gf134_13, gf134_14, gf134_15, gf134_16, gi120, pi120, li120, gi131, pi131, li131, gi132, pi132, li132, gi136, pi136, li136, gi138, pi138, li138, gi139, pi139, li139, gi140, pi140, li140, gi141, pi141, li141, gi142, pi142, li142, gi144, pi144, li144, gi145, pi145, li145, gj133, pj133, lj133, gj137, pj137, lj137, gj143, pj143, lj143, gj146, pj146, lj146, gA121, gAq, oo_s, gfs_0, gfs_1, gfs_2, pfs_0, pfs_1, gjs, ljs, pjs, oo_h, gfh_0, gfh_1, gfh_2, pfh_1, pfh_2, n_lt0 (show m < 2 ^ 31 by omega), n_ne0 h1 (show Y 0 0 < 2 ^ 31 by omega), not_false_eq_true, n_div hl h1 (show Y 0 0 < 2 ^ 31 by omega), erem, show m < 6 by omega, upA_s, show upd (ai 144) m (nI (left % Y 0 0)) m = nI (left % Y 0 0) from if_pos rfl, n_1shl _ (show left % Y 0 0 < 31 by omega), n_or, dn_dec]
    · by_cases c : j = m
      · subst c
        rw [hf2 j (by omega), show j + 1 - 1 - j = 0 by omega, Nat.pow_zero, Nat.div_one]
        unfold upd; rw [if_pos rfl]
      · rw [hf1 j (by omega), Nat.div_div_eq_div_mul, ← Nat.pow_succ', show (m - 1 - j).succ = m + 1 - 1 - j by omega]
    · rw [hf2 j (by omega)]
      unfold upd; rw [if_neg (by omega)]
/-- deals -/
theorem r149 {c : Nat} (h6 : Y 0 0 ≤ 6) (h1 : 0 < Y 0 0) (hc : c < 2 ^ 31) : ∃ f, ax_res 149 0 [some (.ref 134), some (.int (nI c)), none, none, none] [] (hp X Y sc ai aj) = some (some (.int (nI (bn (isP (Y 0 0) c)))), hp X Y sc (upA ai 144 f) aj) ∧ ∀ j, j < Y 0 0 → f j = nI (dg (Y 0 0) c j) := by
  obtain ⟨f, e, hf, -⟩ := r149_l (X := X) (Y := Y) (sc := sc) (aj := aj) (Y 0 0) ai c 0 (nI c) (by omega) h6 h1 hc (Nat.pow_pos (by decide))
  have ed : dn (Y 0 0) = nI (Y 0 0 - 1) := by unfold dn; rw [if_neg (by omega)]
  rw [ed] at e
  refine ⟨f, ?_, hf⟩
  simp only [q149_0, q149_1, q149_2, q149_3, q149_4, q149_5, q149_8, q149_9, q149_10, q149_11, q149_12, ↓reduceIte, ax_bV_s, ax_bI_s, ax_bJ_s, ax_bA_s, ax_bH_s, ax_bR_s, ax_bR_n, gwq_0, gwq_1, gwq_2, gwq_3, gwq_4, gwq_5, gwqT, gwqS, gwqP, gwqK, gwqZ, gw0_0, gw0_1, gw0_2, gw0_3, gw0_4, gw0_5, gw0T, gw0S, gw0P, gw0K, gw0Z, gw1_0, gw1_1, gw1_2, gw1_3, gw1_4, gw1_5, gw1T, gw1S, gw1P, gw1K, gw1Z, oo_114, gf114_0, gf114_1, gf114_2, gf114_3, gf114_4, gf114_5, pf114_5, gf114_6, gf114_7, gf114_8, gf114_9, oo_119, gf119_0, gf119_1, pf119_1, gf119_2, pf119_2, oo_130, gf130_0, gf130_1, gf130_2, pf130_2, oo_134, gf134_0, gf134_1, pf134_1, gf134_2, pf134_2, gf134_3, pf134_3, gf134_4, gf134_5, pf134_5, gf134_6, gf134_7, gf134_8, gf134_9, pf134_9, gf134_10, gf134_11, gf134_12, gf134_13, gf134_14, gf134_15, gf134_16, gi120, pi120, li120, gi131, pi131, li131, gi132, pi132, li132, gi136, pi136, li136, gi138, pi138, li138, gi139, pi139, li139, gi140, pi140, li140, gi141, pi141, li141, gi142, pi142, li142, gi144, pi144, li144, gi145, pi145, li145, gj133, pj133, lj133, gj137, pj137, lj137, gj143, pj143, lj143, gj146, pj146, lj146, gA121, gAq, oo_s, gfs_0, gfs_1, gfs_2, pfs_0, pfs_1, gjs, ljs, pjs, oo_h, gfh_0, gfh_1, gfh_2, pfh_1, pfh_2, n_sub (show 1 ≤ Y 0 0 by omega), e]
  rfl
/-- codes -/
theorem r150_l (m : Nat) : ∀ (k acc : Nat), k + m = Y 0 0 → Y 0 0 ≤ 6 → ax_res 150 4 [some (.ref 134), some (.int (nI acc)), some (.int (nI k))] [] (hp X Y sc ai aj) = some (some (.int (nI (acc * Y 0 0 ^ m))), hp X Y sc ai aj) := by
  induction m with
  | zero =>
    intro k acc hk h6
    simp only [q150_4, q150_5, q150_6, q150_9, q150_10, q150_11, q150_29, q150_30, ↓reduceIte, ax_bV_s, ax_bI_s, ax_bJ_s, ax_bA_s, ax_bH_s, ax_bR_s, ax_bR_n, gwq_0, gwq_1, gwq_2, gwq_3, gwq_4, gwq_5, gwqT, gwqS, gwqP, gwqK, gwqZ, gw0_0, gw0_1, gw0_2, gw0_3, gw0_4, gw0_5, gw0T, gw0S, gw0P, gw0K, gw0Z, gw1_0, gw1_1, gw1_2, gw1_3, gw1_4, gw1_5, gw1T, gw1S, gw1P, gw1K, gw1Z, oo_114, gf114_0, gf114_1, gf114_2, gf114_3, gf114_4, gf114_5, pf114_5, gf114_6, gf114_7, gf114_8, gf114_9, oo_119, gf119_0, gf119_1, pf119_1, gf119_2, pf119_2, oo_130, gf130_0, gf130_1, gf130_2, pf130_2, oo_134, gf134_0, gf134_1, pf134_1, gf134_2, pf134_2, gf134_3, pf134_3, gf134_4, gf134_5, pf134_5, gf134_6, gf134_7, gf134_8, gf134_9, pf134_9, gf134_10, gf134_11, gf134_12, gf134_13, gf134_14, gf134_15, gf134_16, gi120, pi120, li120, gi131, pi131, li131, gi132, pi132, li132, gi136, pi136, li136, gi138, pi138, li138, gi139, pi139, li139, gi140, pi140, li140, gi141, pi141, li141, gi142, pi142, li142, gi144, pi144, li144, gi145, pi145, li145, gj133, pj133, lj133, gj137, pj137, lj137, gj143, pj143, lj143, gj146, pj146, lj146, gA121, gAq, oo_s, gfs_0, gfs_1, gfs_2, pfs_0, pfs_1, gjs, ljs, pjs, oo_h, gfh_0, gfh_1, gfh_2, pfh_1, pfh_2, n_le (show Y 0 0 < 2 ^ 31 by omega) (show k < 2 ^ 31 by omega), show Y 0 0 ≤ k by omega, Nat.pow_zero, Nat.mul_one]
  | succ m ih =>
    intro k acc hk h6
    have e := ih (k + 1) (acc * Y 0 0) (by omega) h6
    rw [Nat.mul_assoc, ← Nat.pow_succ'] at e
    rw [q150_4]
    simp only [q150_5, q150_6, q150_9, q150_10, q150_11, q150_14, q150_15, q150_16, q150_19, q150_20, q150_21, q150_22, q150_23, q150_26, ↓reduceIte, ax_bV_s, ax_bI_s, ax_bJ_s, ax_bA_s, ax_bH_s, ax_bR_s, ax_bR_n, gwq_0, gwq_1, gwq_2, gwq_3, gwq_4, gwq_5, gwqT, gwqS, gwqP, gwqK, gwqZ, gw0_0, gw0_1, gw0_2, gw0_3, gw0_4, gw0_5, gw0T, gw0S, gw0P, gw0K, gw0Z, gw1_0, gw1_1, gw1_2, gw1_3, gw1_4, gw1_5, gw1T, gw1S, gw1P, gw1K, gw1Z, oo_114, gf114_0, gf114_1, gf114_2, gf114_3, gf114_4, gf114_5, pf114_5, gf114_6, gf114_7, gf114_8, gf114_9, oo_119, gf119_0, gf119_1, pf119_1, gf119_2, pf119_2, oo_130, gf130_0, gf130_1, gf130_2, pf130_2, oo_134, gf134_0, gf134_1, pf134_1, gf134_2, pf134_2, gf134_3, pf134_3, gf134_4, gf134_5, pf134_5, gf134_6, gf134_7, gf134_8, gf134_9, pf134_9, gf134_10, gf134_11, gf134_12, gf134_13, gf134_14, gf134_15, gf134_16, gi120, pi120, li120, gi131, pi131, li131, gi132, pi132, li132, gi136, pi136, li136, gi138, pi138, li138, gi139, pi139, li139, gi140, pi140, li140, gi141, pi141, li141, gi142, pi142, li142, gi144, pi144, li144, gi145, pi145, li145, gj133, pj133, lj133, gj137, pj137, lj137, gj143, pj143, lj143, gj146, pj146, lj146, gA121, gAq, oo_s, gfs_0, gfs_1, gfs_2, pfs_0, pfs_1, gjs, ljs, pjs, oo_h, gfh_0, gfh_1, gfh_2, pfh_1, pfh_2, n_le (show Y 0 0 < 2 ^ 31 by omega) (show k < 2 ^ 31 by omega), show ¬ Y 0 0 ≤ k by omega, pk_mul, nI_add, e]
theorem r150 (h6 : Y 0 0 ≤ 6) : ax_res 150 0 [some (.ref 134), none, none] [] (hp X Y sc ai aj) = some (some (.int (nI (Y 0 0 ^ Y 0 0))), hp X Y sc ai aj) := by
  have e := r150_l (X := X) (Y := Y) (sc := sc) (ai := ai) (aj := aj) (Y 0 0) 0 1 (by omega) h6
  rw [Nat.one_mul] at e
  simp only [q150_0, q150_1, q150_2, q150_3, e]
/-- triesDealt -/
theorem r151_l (m : Nat) : ∀ (Y : Nat → Nat → Nat) (k c n : Nat), k + m = Y 0 0 → Inv (Y 0) → 0 < Y 0 0 → Y 0 1 + n < 20000 → Y 1 = dlk (Y 0 0) c k (Y 0) → (∀ j, j < Y 0 0 → ai 144 j = nI (dg (Y 0 0) c j)) → ax_res 151 6 [some (.ref 134), some (.int (nI n)), some (.int (nI k))] [] (hp X Y sc ai aj) = some (none, hp X (upX Y 1 (pasN n (dlk (Y 0 0) c (Y 0 0) (Y 0)))) sc ai aj) := by
  induction m with
  | zero =>
    intro Y k c n hk hI h1 hm hy hd
    have h0 := hI.1
    have ek : k = Y 0 0 := by omega
    have e1 : Y 1 1 = Y 0 1 := by rw [hy]; exact if_neg (by omega)
    have h43 := r143 (X := X) (Y := Y) (sc := sc) (ai := ai) (aj := aj) (n := n) (by rw [hy, ek]; exact inv_dlk hI h1) (by rw [e1]; exact hm)
    rw [hy, ek] at h43
    simp only [q151_6, q151_7, q151_8, q151_11, q151_12, q151_13, q151_37, q151_38, q151_39, q151_42, ↓reduceIte, ax_bV_s, ax_bI_s, ax_bJ_s, ax_bA_s, ax_bH_s, ax_bR_s, ax_bR_n, gwq_0, gwq_1, gwq_2, gwq_3, gwq_4, gwq_5, gwqT, gwqS, gwqP, gwqK, gwqZ, gw0_0, gw0_1, gw0_2, gw0_3, gw0_4, gw0_5, gw0T, gw0S, gw0P, gw0K, gw0Z, gw1_0, gw1_1, gw1_2, gw1_3, gw1_4, gw1_5, gw1T, gw1S, gw1P, gw1K, gw1Z, oo_114, gf114_0, gf114_1, gf114_2, gf114_3, gf114_4, gf114_5, pf114_5, gf114_6, gf114_7, gf114_8, gf114_9, oo_119, gf119_0, gf119_1, pf119_1, gf119_2, pf119_2, oo_130, gf130_0, gf130_1, gf130_2, pf130_2, oo_134, gf134_0, gf134_1, pf134_1, gf134_2, pf134_2, gf134_3, pf134_3, gf134_4, gf134_5, pf134_5, gf134_6, gf134_7, gf134_8, gf134_9, pf134_9, gf134_10, gf134_11, gf134_12, gf134_13, gf134_14, gf134_15, gf134_16, gi120, pi120, li120, gi131, pi131, li131, gi132, pi132, li132, gi136, pi136, li136, gi138, pi138, li138, gi139, pi139, li139, gi140, pi140, li140, gi141, pi141, li141, gi142, pi142, li142, gi144, pi144, li144, gi145, pi145, li145, gj133, pj133, lj133, gj137, pj137, lj137, gj143, pj143, lj143, gj146, pj146, lj146, gA121, gAq, oo_s, gfs_0, gfs_1, gfs_2, pfs_0, pfs_1, gjs, ljs, pjs, oo_h, gfh_0, gfh_1, gfh_2, pfh_1, pfh_2, n_le (show Y 0 0 < 2 ^ 31 by omega) (show k < 2 ^ 31 by omega), show Y 0 0 ≤ k by omega, h43]
  | succ m ih =>
    intro Y k c n hk hI h1 hm hy hd
    have h0 := hI.1
    have e := ih (upX Y 1 (dlk (Y 0 0) c (k + 1) (Y 0))) (k + 1) c n (by rw [upX_n (by decide)]; omega) (by rw [upX_n (by decide)]; exact hI) (by rw [upX_n (by decide)]; exact h1) (by rw [upX_n (by decide)]; exact hm) (by rw [upX_s, upX_n (by decide)]) (fun j hj => by rw [upX_n (by decide)] at hj ⊢; exact hd j hj)
    rw [upX_n (show ¬ 0 = 1 by decide), upX_u] at e
    have es : up1 (Y 1) (18 + k) (dg (Y 0 0) c k) = dlk (Y 0 0) c (k + 1) (Y 0) := by rw [hy]; exact dlk_s
    rw [q151_6]
    simp only [q151_7, q151_8, q151_11, q151_12, q151_13, q151_16, q151_17, q151_20, q151_22, q151_23, q151_24, q151_25, q151_28, q151_29, q151_30, q151_31, q151_34, ↓reduceIte, ax_bV_s, ax_bI_s, ax_bJ_s, ax_bA_s, ax_bH_s, ax_bR_s, ax_bR_n, gwq_0, gwq_1, gwq_2, gwq_3, gwq_4, gwq_5, gwqT, gwqS, gwqP, gwqK, gwqZ, gw0_0, gw0_1, gw0_2, gw0_3, gw0_4, gw0_5, gw0T, gw0S, gw0P, gw0K, gw0Z, gw1_0, gw1_1, gw1_2, gw1_3, gw1_4, gw1_5, gw1T, gw1S, gw1P, gw1K, gw1Z, pwq_0, pwq_1, pwq_2, pwq_2n, pwq_3, pwq_4, pwq_5, pwqT, pwqS, pwqP, pwqK, pwqZ, pw0_0, pw0_1, pw0_2, pw0_2n, pw0_3, pw0_4, pw0_5, pw0T, pw0S, pw0P, pw0K, pw0Z, pw1_0, pw1_1, pw1_2, pw1_2n, pw1_3, pw1_4, pw1_5, pw1T, pw1S, pw1P, pw1K, pw1Z, oo_114, gf114_0, gf114_1, gf114_2, gf114_3, gf114_4, gf114_5, pf114_5, gf114_6, gf114_7, gf114_8, gf114_9, oo_119, gf119_0, gf119_1, pf119_1, gf119_2, pf119_2, oo_130, gf130_0, gf130_1, gf130_2, pf130_2, oo_134, gf134_0, gf134_1, pf134_1, gf134_2, pf134_2, gf134_3, pf134_3, gf134_4, gf134_5, pf134_5, gf134_6, gf134_7, gf134_8, gf134_9, pf134_9, gf134_10, gf134_11, gf134_12, gf134_13, gf134_14, gf134_15, gf134_16, gi120, pi120, li120, gi131, pi131, li131, gi132, pi132, li132, gi136, pi136, li136, gi138, pi138, li138, gi139, pi139, li139, gi140, pi140, li140, gi141, pi141, li141, gi142, pi142, li142, gi144, pi144, li144, gi145, pi145, li145, gj133, pj133, lj133, gj137, pj137, lj137, gj143, pj143, lj143, gj146, pj146, lj146, gA121, gAq, oo_s, gfs_0, gfs_1, gfs_2, pfs_0, pfs_1, gjs, ljs, pjs, oo_h, gfh_0, gfh_1, gfh_2, pfh_1, pfh_2, n_le (show Y 0 0 < 2 ^ 31 by omega) (show k < 2 ^ 31 by omega), show ¬ Y 0 0 ≤ k by omega, show k < 6 by omega, hd k (by omega), nI_add, es, e]
theorem r151 {c n : Nat} (hI : Inv (Y 0)) (h1 : 0 < Y 0 0) (hm : Y 0 1 + n < 20000) (hd : ∀ j, j < Y 0 0 → ai 144 j = nI (dg (Y 0 0) c j)) : ax_res 151 0 [some (.ref 134), some (.int (nI n)), none] [] (hp X Y sc ai aj) = some (none, hp X (upX Y 1 (pasN n (dlk (Y 0 0) c (Y 0 0) (Y 0)))) sc ai aj) := by
  have e := r151_l (X := X) (sc := sc) (ai := ai) (aj := aj) (Y 0 0) (upX Y 1 (Y 0)) 0 c n (by rw [upX_n (by decide)]; omega) (by rw [upX_n (by decide)]; exact hI) (by rw [upX_n (by decide)]; exact h1) (by rw [upX_n (by decide)]; exact hm) (by rw [upX_s, upX_n (by decide), dlk_0]) (fun j hj => by rw [upX_n (by decide)] at hj ⊢; exact hd j hj)
  rw [upX_n (show ¬ 0 = 1 by decide), upX_u] at e
  simp only [q151_0, q151_1, q151_4, q151_5, ↓reduceIte, ax_bV_s, ax_bI_s, ax_bJ_s, ax_bA_s, ax_bH_s, ax_bR_s, ax_bR_n, oo_114, gf114_0, gf114_1, gf114_2, gf114_3, gf114_4, gf114_5, pf114_5, gf114_6, gf114_7, gf114_8, gf114_9, oo_119, gf119_0, gf119_1, pf119_1, gf119_2, pf119_2, oo_130, gf130_0, gf130_1, gf130_2, pf130_2, oo_134, gf134_0, gf134_1, pf134_1, gf134_2, pf134_2, gf134_3, pf134_3, gf134_4, gf134_5, pf134_5, gf134_6, gf134_7, gf134_8, gf134_9, pf134_9, gf134_10, gf134_11, gf134_12, gf134_13, gf134_14, gf134_15, gf134_16, gi120, pi120, li120, gi131, pi131, li131, gi132, pi132, li132, gi136, pi136, li136, gi138, pi138, li138, gi139, pi139, li139, gi140, pi140, li140, gi141, pi141, li141, gi142, pi142, li142, gi144, pi144, li144, gi145, pi145, li145, gj133, pj133, lj133, gj137, pj137, lj137, gj143, pj143, lj143, gj146, pj146, lj146, gA121, gAq, oo_s, gfs_0, gfs_1, gfs_2, pfs_0, pfs_1, gjs, ljs, pjs, oo_h, gfh_0, gfh_1, gfh_2, pfh_1, pfh_2, r142, e]
/-- keepsDealt -/
theorem r152_l (m : Nat) : ∀ (ai : Nat → Nat → Int32) (k : Nat), k + m = Y 0 0 → Y 0 0 ≤ 6 → (∀ j, j < k → ai 145 j = ai 144 j) → ∃ f, ax_res 152 2 [some (.ref 134), some (.int (nI k))] [] (hp X Y sc ai aj) = some (none, hp X Y sc (upA ai 145 f) aj) ∧ ∀ j, j < Y 0 0 → f j = ai 144 j := by
  induction m with
  | zero =>
    intro ai k hk h6 hj
    refine ⟨ai 145, ?_, fun j hj2 => hj j (by omega)⟩
    rw [upA_i]
    simp only [q152_2, q152_3, q152_4, q152_7, q152_8, q152_9, q152_30, ↓reduceIte, ax_bV_s, ax_bI_s, ax_bJ_s, ax_bA_s, ax_bH_s, ax_bR_s, ax_bR_n, gwq_0, gwq_1, gwq_2, gwq_3, gwq_4, gwq_5, gwqT, gwqS, gwqP, gwqK, gwqZ, gw0_0, gw0_1, gw0_2, gw0_3, gw0_4, gw0_5, gw0T, gw0S, gw0P, gw0K, gw0Z, gw1_0, gw1_1, gw1_2, gw1_3, gw1_4, gw1_5, gw1T, gw1S, gw1P, gw1K, gw1Z, oo_114, gf114_0, gf114_1, gf114_2, gf114_3, gf114_4, gf114_5, pf114_5, gf114_6, gf114_7, gf114_8, gf114_9, oo_119, gf119_0, gf119_1, pf119_1, gf119_2, pf119_2, oo_130, gf130_0, gf130_1, gf130_2, pf130_2, oo_134, gf134_0, gf134_1, pf134_1, gf134_2, pf134_2, gf134_3, pf134_3, gf134_4, gf134_5, pf134_5, gf134_6, gf134_7, gf134_8, gf134_9, pf134_9, gf134_10, gf134_11, gf134_12, gf134_13, gf134_14, gf134_15, gf134_16, gi120, pi120, li120, gi131, pi131, li131, gi132, pi132, li132, gi136, pi136, li136, gi138, pi138, li138, gi139, pi139, li139, gi140, pi140, li140, gi141, pi141, li141, gi142, pi142, li142, gi144, pi144, li144, gi145, pi145, li145, gj133, pj133, lj133, gj137, pj137, lj137, gj143, pj143, lj143, gj146, pj146, lj146, gA121, gAq, oo_s, gfs_0, gfs_1, gfs_2, pfs_0, pfs_1, gjs, ljs, pjs, oo_h, gfh_0, gfh_1, gfh_2, pfh_1, pfh_2, n_le (show Y 0 0 < 2 ^ 31 by omega) (show k < 2 ^ 31 by omega), show Y 0 0 ≤ k by omega]
  | succ m ih =>
    intro ai k hk h6 hj
    obtain ⟨f, e, hf⟩ := ih (upA ai 145 (upd (ai 145) k (ai 144 k))) (k + 1) (by omega) h6 (fun j hj2 => by
      rw [upA_s, upA_n (by decide)]
      unfold upd
      by_cases c : j = k
      · rw [if_pos c, c]
      · rw [if_neg c]; exact hj j (by omega))
    rw [upA_u, upA_n (show ¬ 144 = 145 by decide)] at *
    refine ⟨f, ?_, hf⟩
    rw [q152_2]
    simp only [q152_3, q152_4, q152_7, q152_8, q152_9, q152_12, q152_13, q152_16, q152_17, q152_18, q152_21, q152_22, q152_23, q152_24, q152_27, ↓reduceIte, ax_bV_s, ax_bI_s, ax_bJ_s, ax_bA_s, ax_bH_s, ax_bR_s, ax_bR_n, gwq_0, gwq_1, gwq_2, gwq_3, gwq_4, gwq_5, gwqT, gwqS, gwqP, gwqK, gwqZ, gw0_0, gw0_1, gw0_2, gw0_3, gw0_4, gw0_5, gw0T, gw0S, gw0P, gw0K, gw0Z, gw1_0, gw1_1, gw1_2, gw1_3, gw1_4, gw1_5, gw1T, gw1S, gw1P, gw1K, gw1Z, oo_114, gf114_0, gf114_1, gf114_2, gf114_3, gf114_4, gf114_5, pf114_5, gf114_6, gf114_7, gf114_8, gf114_9, oo_119, gf119_0, gf119_1, pf119_1, gf119_2, pf119_2, oo_130, gf130_0, gf130_1, gf130_2, pf130_2, oo_134, gf134_0, gf134_1, pf134_1, gf134_2, pf134_2, gf134_3, pf134_3, gf134_4, gf134_5, pf134_5, gf134_6, gf134_7, gf134_8, gf134_9, pf134_9, gf134_10, gf134_11, gf134_12, gf134_13, gf134_14, gf134_15, gf134_16, gi120, pi120, li120, gi131, pi131, li131, gi132, pi132, li132, gi136, pi136, li136, gi138, pi138, li138, gi139, pi139, li139, gi140, pi140, li140, gi141, pi141, li141, gi142, pi142, li142, gi144, pi144, li144, gi145, pi145, li145, gj133, pj133, lj133, gj137, pj137, lj137, gj143, pj143, lj143, gj146, pj146, lj146, gA121, gAq, oo_s, gfs_0, gfs_1, gfs_2, pfs_0, pfs_1, gjs, ljs, pjs, oo_h, gfh_0, gfh_1, gfh_2, pfh_1, pfh_2, n_le (show Y 0 0 < 2 ^ 31 by omega) (show k < 2 ^ 31 by omega), show ¬ Y 0 0 ≤ k by omega, show k < 6 by omega, nI_add, e]
theorem r152 (h6 : Y 0 0 ≤ 6) : ∃ f, ax_res 152 0 [some (.ref 134), none] [] (hp X Y sc ai aj) = some (none, hp X Y sc (upA ai 145 f) aj) ∧ ∀ j, j < Y 0 0 → f j = ai 144 j := by
  obtain ⟨f, e, hf⟩ := r152_l (X := X) (Y := Y) (sc := sc) (aj := aj) (Y 0 0) ai 0 (by omega) h6 (fun j hj => by omega)
  refine ⟨f, ?_, hf⟩
  simp only [q152_0, q152_1, e]
/-- dealtTo -/
theorem r153 {k : Nat} (h6 : Y 0 0 ≤ 6) (hk : k < 2 ^ 31) : ax_res 153 0 [some (.ref 134), some (.int (nI k))] [] (hp X Y sc ai aj) = some (some (.int (if k < Y 0 0 then ai 145 k else -4)), hp X Y sc ai aj) := by
  by_cases c : k < Y 0 0
  · simp only [q153_0, q153_1, q153_2, q153_5, q153_6, q153_7, q153_10, q153_11, q153_14, q153_15, q153_16, q153_19, q153_21, ↓reduceIte, ax_bV_s, ax_bI_s, ax_bJ_s, ax_bA_s, ax_bH_s, ax_bR_s, ax_bR_n, gwq_0, gwq_1, gwq_2, gwq_3, gwq_4, gwq_5, gwqT, gwqS, gwqP, gwqK, gwqZ, gw0_0, gw0_1, gw0_2, gw0_3, gw0_4, gw0_5, gw0T, gw0S, gw0P, gw0K, gw0Z, gw1_0, gw1_1, gw1_2, gw1_3, gw1_4, gw1_5, gw1T, gw1S, gw1P, gw1K, gw1Z, oo_114, gf114_0, gf114_1, gf114_2, gf114_3, gf114_4, gf114_5, pf114_5, gf114_6, gf114_7, gf114_8, gf114_9, oo_119, gf119_0, gf119_1, pf119_1, gf119_2, pf119_2, oo_130, gf130_0, gf130_1, gf130_2, pf130_2, oo_134, gf134_0, gf134_1, pf134_1, gf134_2, pf134_2, gf134_3, pf134_3, gf134_4, gf134_5, pf134_5, gf134_6, gf134_7, gf134_8, gf134_9, pf134_9, gf134_10, gf134_11, gf134_12, gf134_13, gf134_14, gf134_15, gf134_16, gi120, pi120, li120, gi131, pi131, li131, gi132, pi132, li132, gi136, pi136, li136, gi138, pi138, li138, gi139, pi139, li139, gi140, pi140, li140, gi141, pi141, li141, gi142, pi142, li142, gi144, pi144, li144, gi145, pi145, li145, gj133, pj133, lj133, gj137, pj137, lj137, gj143, pj143, lj143, gj146, pj146, lj146, gA121, gAq, oo_s, gfs_0, gfs_1, gfs_2, pfs_0, pfs_1, gjs, ljs, pjs, oo_h, gfh_0, gfh_1, gfh_2, pfh_1, pfh_2, n_le (show Y 0 0 < 2 ^ 31 by omega) hk, show ¬ Y 0 0 ≤ k by omega, show k < 6 by omega, c]
  · simp only [q153_0, q153_1, q153_2, q153_5, q153_6, q153_7, q153_19, q153_21, ↓reduceIte, ax_bV_s, ax_bI_s, ax_bJ_s, ax_bA_s, ax_bH_s, ax_bR_s, ax_bR_n, gwq_0, gwq_1, gwq_2, gwq_3, gwq_4, gwq_5, gwqT, gwqS, gwqP, gwqK, gwqZ, gw0_0, gw0_1, gw0_2, gw0_3, gw0_4, gw0_5, gw0T, gw0S, gw0P, gw0K, gw0Z, gw1_0, gw1_1, gw1_2, gw1_3, gw1_4, gw1_5, gw1T, gw1S, gw1P, gw1K, gw1Z, oo_114, gf114_0, gf114_1, gf114_2, gf114_3, gf114_4, gf114_5, pf114_5, gf114_6, gf114_7, gf114_8, gf114_9, oo_119, gf119_0, gf119_1, pf119_1, gf119_2, pf119_2, oo_130, gf130_0, gf130_1, gf130_2, pf130_2, oo_134, gf134_0, gf134_1, pf134_1, gf134_2, pf134_2, gf134_3, pf134_3, gf134_4, gf134_5, pf134_5, gf134_6, gf134_7, gf134_8, gf134_9, pf134_9, gf134_10, gf134_11, gf134_12, gf134_13, gf134_14, gf134_15, gf134_16, gi120, pi120, li120, gi131, pi131, li131, gi132, pi132, li132, gi136, pi136, li136, gi138, pi138, li138, gi139, pi139, li139, gi140, pi140, li140, gi141, pi141, li141, gi142, pi142, li142, gi144, pi144, li144, gi145, pi145, li145, gj133, pj133, lj133, gj137, pj137, lj137, gj143, pj143, lj143, gj146, pj146, lj146, gA121, gAq, oo_s, gfs_0, gfs_1, gfs_2, pfs_0, pfs_1, gjs, ljs, pjs, oo_h, gfh_0, gfh_1, gfh_2, pfh_1, pfh_2, n_le (show Y 0 0 < 2 ^ 31 by omega) hk, show Y 0 0 ≤ k by omega, c]
end DL
