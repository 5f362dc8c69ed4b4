/-! ===== fractions, miss ===== -/
theorem l_ne0 {b : Nat} (h0 : 0 < b) (hb : b < 2 ^ 63) : ¬ lN b = 0 := by
  rw [show (0 : Int64) = lN 0 from rfl, l_eq hb (by decide)]; omega
theorem gcd_step (a b : Nat) : Nat.gcd a b = Nat.gcd b (a % b) := by
  rw [Nat.gcd_comm a b, Nat.gcd_rec b a, Nat.gcd_comm (a % b) b]
theorem mod_half {a b : Nat} (h : b ≤ a) (hb : 0 < b) : 2 * (a % b) ≤ a := by
  have h1 := Nat.mod_lt a hb
  have h2 := Nat.div_add_mod a b
  have h3 : 1 ≤ a / b := (Nat.one_le_div_iff hb).mpr h
  have h4 : b * 1 ≤ b * (a / b) := Nat.mul_le_mul_left b h3
  omega
section FR
variable {h : ax_H}
theorem r103_l (m : Nat) : ∀ (st a b : Nat), st + m = 100 → b ≤ a → a * b < 2 ^ m → a < 2 ^ 62 → 0 < a → ax_res 103 3 [some (.long (lN a)), none, some (.long (lN b)), none, some (.int (nI st)), none, none] [] h = some (some (.long (lN (Nat.gcd a b))), h) := by
  induction m with
  | zero =>
    intro st a b hst hab hp2 ha h0
    have hb : b = 0 := by
      rcases Nat.eq_zero_or_pos b with e | e
      · exact e
      · have := Nat.mul_pos h0 e; omega
    subst hb
    simp only [q103_3, q103_5, q103_7, q103_32, q103_33, q103_34, q103_35, q103_38, q103_39, q103_43, ↓reduceIte, ax_bV_s, ax_bI_s, ax_bJ_s, ax_bA_s, ax_bH_s, ax_bR_s, ax_bR_n, n_le (show 100 < 2 ^ 31 by decide) (show st < 2 ^ 31 by omega), show 100 ≤ st by omega, lg_cmp_le, l_le (show a < 2 ^ 63 by omega) (show 0 < 2 ^ 63 by decide), show ¬ a ≤ 0 by omega, Nat.gcd_zero_right]
  | succ m ih =>
    intro st a b hst hab hp2 ha h0
    by_cases c : b = 0
    · subst c
      rw [q103_3]
      simp only [q103_5, q103_7, q103_10, q103_11, q103_12, q103_13, q103_32, q103_33, q103_34, q103_35, q103_38, q103_39, q103_43, ↓reduceIte, ax_bV_s, ax_bI_s, ax_bJ_s, ax_bA_s, ax_bH_s, ax_bR_s, ax_bR_n, n_le (show 100 < 2 ^ 31 by decide) (show st < 2 ^ 31 by omega), show ¬ 100 ≤ st by omega, lg_cmp_eq, lg_cmp_le, l_le (show a < 2 ^ 63 by omega) (show 0 < 2 ^ 63 by decide), show ¬ a ≤ 0 by omega, Nat.gcd_zero_right]
    · have hb : 0 < b := by omega
      have hr := Nat.mod_lt a hb
      have hh := mod_half hab hb
      have hq : b * (a % b) < 2 ^ m := by
        have h1 : b * (2 * (a % b)) ≤ b * a := Nat.mul_le_mul_left b hh
        have h2 : b * (2 * (a % b)) = 2 * (b * (a % b)) := Nat.mul_left_comm b 2 (a % b)
        rw [Nat.mul_comm a b, Nat.pow_succ] at hp2
        omega
      have e := ih (st + 1) b (a % b) (by omega) (by omega) hq (by omega) hb
      rw [← gcd_step] at e
      rw [q103_3]
      simp only [q103_5, q103_7, q103_10, q103_11, q103_12, q103_13, q103_16, q103_17, q103_18, q103_19, q103_21, q103_22, q103_23, q103_25, q103_26, q103_29, ↓reduceIte, ax_bV_s, ax_bI_s, ax_bJ_s, ax_bA_s, ax_bH_s, ax_bR_s, ax_bR_n, n_le (show 100 < 2 ^ 31 by decide) (show st < 2 ^ 31 by omega), show ¬ 100 ≤ st by omega, lg_cmp_eq, l_eq (show b < 2 ^ 63 by omega) (show 0 < 2 ^ 63 by decide), c, l_ne0 hb (show b < 2 ^ 63 by omega), not_false_eq_true, pk_lRem (show a < 2 ^ 63 by omega) hb (show b < 2 ^ 63 by omega), nI_add, e]
/-- commonDivisor -/
theorem r103 {a b : Nat} (ha : a < 2 ^ 49) (hb : b < 2 ^ 49) (h0 : 0 < b) : ax_res 103 0 [some (.long (lN a)), none, some (.long (lN b)), none, none, none, none] [] h = some (some (.long (lN (Nat.gcd a b))), h) := by
  by_cases c : b ≤ a
  · have hq : a * b < 2 ^ 100 := by
      have h1 : a * b ≤ 2 ^ 49 * 2 ^ 49 := Nat.mul_le_mul (by omega) (by omega)
      rw [← Nat.pow_add] at h1
      exact Nat.lt_of_le_of_lt h1 (by decide)
    have e := r103_l (h := h) 100 0 a b (by omega) c hq (by omega) (by omega)
    simp only [q103_0, q103_1, e]
  · have hq : b * a < 2 ^ 99 := by
      have h1 : b * a ≤ 2 ^ 49 * 2 ^ 49 := Nat.mul_le_mul (by omega) (by omega)
      rw [← Nat.pow_add] at h1
      exact Nat.lt_of_le_of_lt h1 (by decide)
    have e := r103_l (h := h) 99 1 b a (by omega) (by omega) hq (by omega) h0
    rw [Nat.gcd_comm b a] at e
    simp only [q103_0, q103_1]
    rw [q103_3]
    simp only [q103_5, q103_7, q103_10, q103_11, q103_12, q103_13, q103_16, q103_17, q103_18, q103_19, q103_21, q103_22, q103_23, q103_25, q103_26, q103_29, ↓reduceIte, ax_bV_s, ax_bI_s, ax_bJ_s, ax_bA_s, ax_bH_s, ax_bR_s, ax_bR_n, n_le (show 100 < 2 ^ 31 by decide) (show 0 < 2 ^ 31 by decide), show ¬ 100 ≤ 0 by decide, lg_cmp_eq, l_eq (show b < 2 ^ 63 by omega) (show 0 < 2 ^ 63 by decide), show ¬ b = 0 by omega, l_ne0 h0 (show b < 2 ^ 63 by omega), not_false_eq_true, pk_lRem (show a < 2 ^ 63 by omega) h0 (show b < 2 ^ 63 by omega), Nat.mod_eq_of_lt (show a < b by omega), nI_add, Nat.zero_add, e]
def frc (a b w : Nat) : Nat := (if w = 0 then a else b) / Nat.gcd a b
/-- partOfFraction -/
theorem r102 {a b w : Nat} (ha : a < 2 ^ 49) (hb : b < 2 ^ 49) (h0 : 0 < b) (hw : w ≤ 1) : ax_res 102 0 [some (.long (lN a)), none, some (.long (lN b)), none, some (.int (nI w)), none, none] [] h = some (some (.long (lN (frc a b w))), h) := by
  have hg : 0 < Nat.gcd a b := Nat.gcd_pos_of_pos_right a h0
  have hg2 : Nat.gcd a b ≤ b := Nat.gcd_le_right a h0
  have z := l_ne0 hg (by omega)
  unfold frc
  rcases (show w = 0 ∨ w = 1 by omega) with rfl | rfl
  · simp only [q102_0, q102_1, q102_2, q102_5, q102_7, q102_9, q102_12, q102_13, q102_16, q102_17, q102_19, q102_20, ↓reduceIte, ax_bV_s, ax_bI_s, ax_bJ_s, ax_bA_s, ax_bH_s, ax_bR_s, ax_bR_n, r103 ha hb h0, n_z0, z, not_false_eq_true, pk_lDiv (show a < 2 ^ 63 by omega) hg (show Nat.gcd a b < 2 ^ 63 by omega)]
  · simp only [q102_0, q102_1, q102_2, q102_5, q102_7, q102_9, q102_12, q102_13, q102_16, q102_17, q102_19, q102_20, ↓reduceIte, ax_bV_s, ax_bI_s, ax_bJ_s, ax_bA_s, ax_bH_s, ax_bR_s, ax_bR_n, r103 ha hb h0, n_z1, z, not_false_eq_true, pk_lDiv (show b < 2 ^ 63 by omega) hg (show Nat.gcd a b < 2 ^ 63 by omega), show ¬ 1 = 0 by decide]
theorem r163_l (b : Nat) : ∀ (a : Nat) (u v : Int64) (w : Int32), a < 2 ^ 63 → b < 2 ^ 63 → ax_res 163 6 [some (.ref 134), some (.long u), none, some (.long v), none, some (.int w), some (.long (lN a)), none, some (.long (lN b)), none, none, none] [] h = ax_res 163 31 [some (.ref 134), some (.long u), none, some (.long v), none, some (.int w), some (.long (lN (Nat.gcd a b))), none, some (.long (lN 0)), none, none, none] [] h := by
  induction b using Nat.strongRecOn with
  | ind b ih =>
    intro a u v w ha hb
    by_cases c : b = 0
    · subst c
      simp only [q163_6, q163_8, q163_9, q163_10, ↓reduceIte, ax_bV_s, ax_bI_s, ax_bJ_s, ax_bA_s, ax_bH_s, ax_bR_s, ax_bR_n, lg_cmp_eq, Nat.gcd_zero_right]
    · have h0 : 0 < b := by omega
      have hr := Nat.mod_lt a h0
      have e := ih (a % b) hr b u v w hb (by omega)
      rw [← gcd_step] at e
      rw [q163_6]
      simp only [q163_8, q163_9, q163_10, q163_13, q163_15, q163_17, q163_18, q163_20, q163_22, q163_24, q163_26, q163_28, ↓reduceIte, ax_bV_s, ax_bI_s, ax_bJ_s, ax_bA_s, ax_bH_s, ax_bR_s, ax_bR_n, lg_cmp_eq, l_eq hb (show 0 < 2 ^ 63 by decide), c, l_ne0 h0 hb, not_false_eq_true, pk_lRem ha h0 hb, e]
/-- partOf -/
theorem r163 {a b w : Nat} (ha : a < 2 ^ 63) (hb : b < 2 ^ 63) (h0 : 0 < b) (hw : w ≤ 1) : ax_res 163 0 [some (.ref 134), some (.long (lN a)), none, some (.long (lN b)), none, some (.int (nI w)), none, none, none, none, none, none] [] h = some (some (.long (lN (frc a b w))), h) := by
  have hg : 0 < Nat.gcd a b := Nat.gcd_pos_of_pos_right a h0
  have hg2 : Nat.gcd a b ≤ b := Nat.gcd_le_right a h0
  have z := l_ne0 hg (by omega)
  have e := r163_l (h := h) b a (lN a) (lN b) (nI w) ha hb
  unfold frc
  simp only [q163_0, q163_1, q163_3, q163_4, e]
  rcases (show w = 0 ∨ w = 1 by omega) with rfl | rfl
  · simp only [q163_31, q163_33, q163_36, q163_37, q163_39, q163_40, q163_47, ↓reduceIte, ax_bV_s, ax_bI_s, ax_bJ_s, ax_bA_s, ax_bH_s, ax_bR_s, ax_bR_n, n_z0, z, not_false_eq_true, pk_lDiv ha hg (show Nat.gcd a b < 2 ^ 63 by omega)]
  · simp only [q163_31, q163_33, q163_43, q163_44, q163_46, q163_47, ↓reduceIte, ax_bV_s, ax_bI_s, ax_bJ_s, ax_bA_s, ax_bH_s, ax_bR_s, ax_bR_n, n_z1, z, not_false_eq_true, pk_lDiv hb hg (show Nat.gcd a b < 2 ^ 63 by omega), show ¬ 1 = 0 by decide]
/-- power -/
theorem r100_l (m : Nat) : ∀ (i a e acc : Nat), i + m = e → a < 2 ^ 31 → e < 2 ^ 31 → ax_res 100 5 [some (.int (nI a)), some (.int (nI e)), some (.long (lN acc)), none, some (.int (nI i))] [] h = some (some (.long (lN (acc * a ^ m))), h) := by
  induction m with
  | zero =>
    intro i a e acc hi ha he
    simp only [q100_5, q100_7, q100_8, q100_22, q100_23, ↓reduceIte, ax_bV_s, ax_bI_s, ax_bJ_s, ax_bA_s, ax_bH_s, ax_bR_s, ax_bR_n, n_le (show e < 2 ^ 31 by omega) (show i < 2 ^ 31 by omega), show e ≤ i by omega, Nat.pow_zero, Nat.mul_one]
  | succ m ih =>
    intro i a e acc hi ha he
    have e1 := ih (i + 1) a e (acc * a) (by omega) ha he
    rw [q100_5]
    simp only [q100_7, q100_8, q100_11, q100_12, q100_13, q100_14, q100_15, q100_16, q100_19, ↓reduceIte, ax_bV_s, ax_bI_s, ax_bJ_s, ax_bA_s, ax_bH_s, ax_bR_s, ax_bR_n, n_le (show e < 2 ^ 31 by omega) (show i < 2 ^ 31 by omega), show ¬ e ≤ i by omega, nI_l ha, lN_mul, nI_add, e1]
    rw [Nat.pow_succ, Nat.mul_comm (a ^ m) a, Nat.mul_assoc]
theorem r100 {a e : Nat} (ha : a < 2 ^ 31) (he : e < 2 ^ 31) : ax_res 100 0 [some (.int (nI a)), some (.int (nI e)), none, none, none] [] h = some (some (.long (lN (a ^ e))), h) := by
  have e1 := r100_l (h := h) e 0 a e 1 (by omega) ha he
  rw [Nat.one_mul] at e1
  simp only [q100_0, q100_1, q100_2, q100_3, e1]
end FR
/-- n minutes, those of a set missed -/
def msN (set : Nat) : Nat → Nat → (Nat → Nat) → Nat → Nat
  | 0, _, x => x
  | n + 1, t, x => msN set n (t + 1) (pas x (set.testBit t))
theorem msN_0 {set t : Nat} {x : Nat → Nat} : msN set 0 t x = x := by rw [msN]
theorem msN_s {set n t : Nat} {x : Nat → Nat} : msN set (n + 1) t x = msN set n (t + 1) (pas x (set.testBit t)) := by rw [msN]
theorem ag_msN (set n : Nat) : ∀ (t : Nat) {x y : Nat → Nat}, Ag x y → Inv x → Ag (msN set n t x) (msN set n t y) := by
  induction n with
  | zero => intro t x y h _; rw [msN_0, msN_0]; exact h
  | succ n ih => intro t x y h hI; rw [msN_s, msN_s]; exact ih (t + 1) (ag_pas h hI _) (inv_pas hI).1
theorem inv_msN (set n : Nat) : ∀ (t : Nat) {x : Nat → Nat}, Inv x → Inv (msN set n t x) := by
  induction n with
  | zero => intro t x h; rw [msN_0]; exact h
  | succ n ih => intro t x h; rw [msN_s]; exact ih (t + 1) (inv_pas h).1
def msW (x : Nat → Nat) (b n s : Nat) : Bool := decide (msN s n 0 x 2 = b)
def wgt (n c s : Nat) : Nat := c ^ pop s * (10 - c) ^ (n - pop s)
def msF (W : Nat → Bool) (n c : Nat) : Nat → Nat → Nat → Nat
  | 0, _, acc => acc
  | m + 1, s, acc => msF W n c m (s + 1) (acc + if W s = true then wgt n c s else 0)
theorem msF_0 {W : Nat → Bool} {n c s acc : Nat} : msF W n c 0 s acc = acc := by rw [msF]
theorem msF_s {W : Nat → Bool} {n c m s acc : Nat} : msF W n c (m + 1) s acc = msF W n c m (s + 1) (acc + if W s = true then wgt n c s else 0) := by rw [msF]
theorem pop_n : ∀ n, n < 9 → ∀ s, s < 2 ^ n → pop s ≤ n := by decide +kernel
theorem wgt_le {n c s : Nat} (hn : n ≤ 8) (hc : c ≤ 10) (hs : s < 2 ^ n) : wgt n c s ≤ 10 ^ 8 := by
  have hp := pop_n n (by omega) s hs
  unfold wgt
  have h1 : c ^ pop s ≤ 10 ^ pop s := Nat.pow_le_pow_left hc _
  have h2 : (10 - c) ^ (n - pop s) ≤ 10 ^ (n - pop s) := Nat.pow_le_pow_left (by omega) _
  have h3 := Nat.mul_le_mul h1 h2
  rw [← Nat.pow_add, show pop s + (n - pop s) = n by omega] at h3
  exact Nat.le_trans h3 (Nat.pow_le_pow_right (by decide) hn)
theorem msF_le {W : Nat → Bool} {n c : Nat} (hn : n ≤ 8) (hc : c ≤ 10) (m : Nat) : ∀ (s acc : Nat), s + m ≤ 2 ^ n → msF W n c m s acc ≤ acc + m * 10 ^ 8 := by
  induction m with
  | zero => intro s acc _; rw [msF_0]; omega
  | succ m ih =>
    intro s acc hs
    rw [msF_s]
    have h1 := ih (s + 1) (acc + if W s = true then wgt n c s else 0) (by omega)
    have h2 := wgt_le hn hc (show s < 2 ^ n by omega)
    have h3 : (if W s = true then wgt n c s else 0) ≤ 10 ^ 8 := by split <;> omega
    omega
def msA (x : Nat → Nat) (b n c w : Nat) : Int32 := nI (frc (msF (msW x b n) n c (2 ^ n) 0 0) (10 ^ n) w)
/-- the ways of a set, one by one -/
def wyF (c d set : Nat) : Nat → Nat → Nat → Nat
  | 0, _, acc => acc
  | m + 1, k, acc => wyF c d set m (k + 1) (acc * if set.testBit k = true then c else d)
theorem wyF_0 {c d set k acc : Nat} : wyF c d set 0 k acc = acc := by rw [wyF]
theorem wyF_s {c d set m k acc : Nat} : wyF c d set (m + 1) k acc = wyF c d set m (k + 1) (acc * if set.testBit k = true then c else d) := by rw [wyF]
def cntB (set : Nat) : Nat → Nat → Nat
  | 0, _ => 0
  | m + 1, k => (if set.testBit k = true then 1 else 0) + cntB set m (k + 1)
theorem cntB_le (set m : Nat) : ∀ k, cntB set m k ≤ m := by
  induction m with
  | zero => intro k; rw [cntB]; omega
  | succ m ih => intro k; have := ih (k + 1); rw [cntB]; split <;> omega
theorem wyF_eq (c d set m : Nat) : ∀ (k acc : Nat), wyF c d set m k acc = acc * (c ^ cntB set m k * d ^ (m - cntB set m k)) := by
  induction m with
  | zero => intro k acc; rw [wyF_0, cntB]; simp
  | succ m ih =>
    intro k acc
    have h := cntB_le set m (k + 1)
    rw [wyF_s, ih, cntB]
    split
    · rw [show m + 1 - (1 + cntB set m (k + 1)) = m - cntB set m (k + 1) by omega, Nat.add_comm 1, Nat.pow_succ, Nat.mul_assoc, Nat.mul_comm (c ^ cntB set m (k + 1)) c, Nat.mul_assoc]
    · rw [Nat.zero_add, show m + 1 - cntB set m (k + 1) = (m - cntB set m (k + 1)) + 1 by omega, Nat.pow_succ, Nat.mul_assoc, Nat.mul_left_comm d, Nat.mul_comm d]
theorem cnt_pop : ∀ n, n < 9 → ∀ s, s < 2 ^ n → cntB s n 0 = pop s := by decide +kernel
theorem wy_wgt {n c s : Nat} (hn : n ≤ 8) (hs : s < 2 ^ n) : wyF c (10 - c) s n 0 1 = wgt n c s := by
  rw [wyF_eq, cnt_pop n (by omega) s hs, Nat.one_mul]; rfl
theorem bt_bn (s k : Nat) : bt s k = bn (s.testBit k) := by unfold bt; cases s.testBit k <;> rfl
theorem pow_8 {n : Nat} (h : n ≤ 8) : 2 ^ n ≤ 256 := Nat.le_trans (Nat.pow_le_pow_right (by decide) h) (by decide)
theorem ten_8 {n : Nat} (h : n ≤ 8) : 10 ^ n ≤ 10 ^ 8 := Nat.pow_le_pow_right (by decide) h
section MS
variable {X Y : Nat → Nat → Nat} {sc : Nat → Nat → Int32} {ai : Nat → Nat → Int32} {aj : Nat → Nat → Int64}
theorem r97_l (m : Nat) : ∀ (X : Nat → Nat → Nat) (t s b n : Nat), t + m = n → n ≤ 8 → s < 2 ^ 31 → b < 6 → Inv (X 1) → X 1 1 + m < 20000 → ∃ x1, ax_res 97 7 [some (.ref 114), some (.int (nI s)), some (.int (nI b)), some (.int (nI n)), some (.int (nI t))] [] (hp X Y sc ai aj) = some (some (.int (nI (bn (decide (msN s m t (X 1) 2 = b))))), hp (upX X 1 x1) Y sc ai aj) := by
  induction m with
  | zero =>
    intro X t s b n ht hn hs hb hI hm
    refine ⟨X 1, ?_⟩
    rw [msN_0, upX_i]
    simp only [q97_7, q97_9, q97_10, q97_41, q97_42, q97_45, q97_48, q97_49, q97_52, q97_53, q97_56, q97_57, ↓reduceIte, ax_bV_s, ax_bI_s, ax_bJ_s, ax_bA_s, ax_bH_s, ax_bR_s, ax_bR_n, gh_people, gh_here, gh_sat, gh_minute, gh_draw, gh_sitter, gh_kinds, gh_prices, gh_known, gh_sights, gh_places, ga_kinds, ga_prices, ga_known, ga_sights, ga_places, oh, oo_114, gf114_0, gf114_1, gf114_2, gf114_3, gf114_4, gf114_5, pf114_5, gf114_6, gf114_7, gf114_8, gf114_9, oo_119, gf119_0, gf119_1, pf119_1, gf119_2, pf119_2, oo_130, gf130_0, gf130_1, gf130_2, pf130_2, oo_134, gf134_0, gf134_1, pf134_1, gf134_2, pf134_2, gf134_3, pf134_3, gf134_4, gf134_5, pf134_5, gf134_6, gf134_7, gf134_8, gf134_9, pf134_9, gf134_10, gf134_11, gf134_12, gf134_13, gf134_14, gf134_15, gf134_16, gi120, pi120, li120, gi131, pi131, li131, gi132, pi132, li132, gi136, pi136, li136, gi138, pi138, li138, gi139, pi139, li139, gi140, pi140, li140, gi141, pi141, li141, gi142, pi142, li142, gi144, pi144, li144, gi145, pi145, li145, gj133, pj133, lj133, gj137, pj137, lj137, gj143, pj143, lj143, gj146, pj146, lj146, gA121, gAq, oo_s, gfs_0, gfs_1, gfs_2, pfs_0, pfs_1, gjs, ljs, pjs, oo_h, gfh_0, gfh_1, gfh_2, pfh_1, pfh_2, ax_fit1_0, ax_fit1_1, ax_fitb, j1, n_le (show n < 2 ^ 31 by omega) (show t < 2 ^ 31 by omega), show n ≤ t by omega, sv_eq hb]
    by_cases c : X 1 2 = b <;> simp [c, bn]
  | succ m ih =>
    intro X t s b n ht hn hs hb hI hm
    obtain ⟨g1, g2, g3⟩ := inv_pas (m := s.testBit t) hI
    have h26 := r26 (X := X) (Y := Y) (sc := sc) (ai := ai) (aj := aj) (mb := s.testBit t) j1 hI (by omega)
    obtain ⟨x1, e⟩ := ih (upX X 1 (pas (X 1) (s.testBit t))) (t + 1) s b n (by omega) hn hs hb (by rw [upX_s]; exact g1) (by rw [upX_s, g3]; omega)
    rw [upX_s, upX_u] at e
    refine ⟨x1, ?_⟩
    rw [q97_7, msN_s]
    cases c : s.testBit t with
    | true =>
      rw [c] at h26 e
      rw [show bn true = 1 from rfl] at h26
      simp only [q97_9, q97_10, q97_13, q97_14, q97_17, q97_18, q97_20, q97_21, q97_22, q97_23, q97_24, q97_27, q97_28, q97_32, q97_35, q97_38, ↓reduceIte, ax_bV_s, ax_bI_s, ax_bJ_s, ax_bA_s, ax_bH_s, ax_bR_s, ax_bR_n, gh_people, gh_here, gh_sat, gh_minute, gh_draw, gh_sitter, gh_kinds, gh_prices, gh_known, gh_sights, gh_places, ga_kinds, ga_prices, ga_known, ga_sights, ga_places, oh, oo_114, gf114_0, gf114_1, gf114_2, gf114_3, gf114_4, gf114_5, pf114_5, gf114_6, gf114_7, gf114_8, gf114_9, oo_119, gf119_0, gf119_1, pf119_1, gf119_2, pf119_2, oo_130, gf130_0, gf130_1, gf130_2, pf130_2, oo_134, gf134_0, gf134_1, pf134_1, gf134_2, pf134_2, gf134_3, pf134_3, gf134_4, gf134_5, pf134_5, gf134_6, gf134_7, gf134_8, gf134_9, pf134_9, gf134_10, gf134_11, gf134_12, gf134_13, gf134_14, gf134_15, gf134_16, gi120, pi120, li120, gi131, pi131, li131, gi132, pi132, li132, gi136, pi136, li136, gi138, pi138, li138, gi139, pi139, li139, gi140, pi140, li140, gi141, pi141, li141, gi142, pi142, li142, gi144, pi144, li144, gi145, pi145, li145, gj133, pj133, lj133, gj137, pj137, lj137, gj143, pj143, lj143, gj146, pj146, lj146, gA121, gAq, oo_s, gfs_0, gfs_1, gfs_2, pfs_0, pfs_1, gjs, ljs, pjs, oo_h, gfh_0, gfh_1, gfh_2, pfh_1, pfh_2, j1, n_le (show n < 2 ^ 31 by omega) (show t < 2 ^ 31 by omega), show ¬ n ≤ t by omega, n_bit hs (show t < 32 by omega), n_bt1, c, h26, nI_add, e]
    | false =>
      rw [c] at h26 e
      simp only [q97_9, q97_10, q97_13, q97_14, q97_17, q97_18, q97_20, q97_21, q97_22, q97_23, q97_24, q97_31, q97_32, q97_35, q97_38, ↓reduceIte, ax_bV_s, ax_bI_s, ax_bJ_s, ax_bA_s, ax_bH_s, ax_bR_s, ax_bR_n, gh_people, gh_here, gh_sat, gh_minute, gh_draw, gh_sitter, gh_kinds, gh_prices, gh_known, gh_sights, gh_places, ga_kinds, ga_prices, ga_known, ga_sights, ga_places, oh, oo_114, gf114_0, gf114_1, gf114_2, gf114_3, gf114_4, gf114_5, pf114_5, gf114_6, gf114_7, gf114_8, gf114_9, oo_119, gf119_0, gf119_1, pf119_1, gf119_2, pf119_2, oo_130, gf130_0, gf130_1, gf130_2, pf130_2, oo_134, gf134_0, gf134_1, pf134_1, gf134_2, pf134_2, gf134_3, pf134_3, gf134_4, gf134_5, pf134_5, gf134_6, gf134_7, gf134_8, gf134_9, pf134_9, gf134_10, gf134_11, gf134_12, gf134_13, gf134_14, gf134_15, gf134_16, gi120, pi120, li120, gi131, pi131, li131, gi132, pi132, li132, gi136, pi136, li136, gi138, pi138, li138, gi139, pi139, li139, gi140, pi140, li140, gi141, pi141, li141, gi142, pi142, li142, gi144, pi144, li144, gi145, pi145, li145, gj133, pj133, lj133, gj137, pj137, lj137, gj143, pj143, lj143, gj146, pj146, lj146, gA121, gAq, oo_s, gfs_0, gfs_1, gfs_2, pfs_0, pfs_1, gjs, ljs, pjs, oo_h, gfh_0, gfh_1, gfh_2, pfh_1, pfh_2, j1, n_le (show n < 2 ^ 31 by omega) (show t < 2 ^ 31 by omega), show ¬ n ≤ t by omega, n_bit hs (show t < 32 by omega), n_bt1, c, Bool.false_eq_true, show nI 0 = nI (bn false) from rfl, h26, nI_add, e]
/-- sitsMissing -/
theorem r97 {s b n : Nat} (hn : n ≤ 8) (hs : s < 2 ^ 31) (hb : b < 6) (hI : Inv (X 0)) (hm : X 0 1 ≤ 9999) : ∃ x1, ax_res 97 0 [some (.ref 114), some (.int (nI s)), some (.int (nI b)), some (.int (nI n)), none] [] (hp X Y sc ai aj) = some (some (.int (nI (bn (msW (X 0) b n s)))), hp (upX X 1 x1) Y sc ai aj) := by
  obtain ⟨x1, e⟩ := r97_l (Y := Y) (sc := sc) (ai := ai) (aj := aj) n (upX X 1 (X 0)) 0 s b n (by omega) hn hs hb (by rw [upX_s]; exact hI) (by rw [upX_s]; omega)
  rw [upX_s, upX_u] at e
  refine ⟨x1, ?_⟩
  simp only [q97_0, q97_1, q97_4, q97_5, ↓reduceIte, ax_bV_s, ax_bI_s, ax_bJ_s, ax_bA_s, ax_bH_s, ax_bR_s, ax_bR_n, oo_114, gf114_0, gf114_1, gf114_2, gf114_3, gf114_4, gf114_5, pf114_5, gf114_6, gf114_7, gf114_8, gf114_9, oo_119, gf119_0, gf119_1, pf119_1, gf119_2, pf119_2, oo_130, gf130_0, gf130_1, gf130_2, pf130_2, oo_134, gf134_0, gf134_1, pf134_1, gf134_2, pf134_2, gf134_3, pf134_3, gf134_4, gf134_5, pf134_5, gf134_6, gf134_7, gf134_8, gf134_9, pf134_9, gf134_10, gf134_11, gf134_12, gf134_13, gf134_14, gf134_15, gf134_16, gi120, pi120, li120, gi131, pi131, li131, gi132, pi132, li132, gi136, pi136, li136, gi138, pi138, li138, gi139, pi139, li139, gi140, pi140, li140, gi141, pi141, li141, gi142, pi142, li142, gi144, pi144, li144, gi145, pi145, li145, gj133, pj133, lj133, gj137, pj137, lj137, gj143, pj143, lj143, gj146, pj146, lj146, gA121, gAq, oo_s, gfs_0, gfs_1, gfs_2, pfs_0, pfs_1, gjs, ljs, pjs, oo_h, gfh_0, gfh_1, gfh_2, pfh_1, pfh_2, r89, e]
  rfl
theorem s74_l (m : Nat) : ∀ (X : Nat → Nat → Nat) (s b n c w acc : Nat), s + m = 2 ^ n → n ≤ 8 → c ≤ 10 → w ≤ 1 → b < X 0 0 → acc + m * 10 ^ 8 ≤ 256 * 10 ^ 8 → Inv (X 0) → X 0 1 ≤ 9999 → ∃ x1, ax_res 74 48 [some (.ref 114), some (.int (nI b)), some (.int (nI n)), some (.int (nI c)), some (.int (nI w)), some (.long (lN acc)), none, some (.int (nI s)), none, none, none] [] (hp X Y sc ai aj) = some (some (.int (nI (frc (msF (msW (X 0) b n) n c m s acc) (10 ^ n) w))), hp (upX X 1 x1) Y sc ai aj) := by
  induction m with
  | zero =>
    intro X s b n c w acc hs hn hc hw hb ha hI hm
    have h8 := pow_8 hn
    have t8 := ten_8 hn
    have tp : 0 < 10 ^ n := Nat.pow_pos (by decide)
    refine ⟨X 1, ?_⟩
    rw [msF_0, upX_i]
    simp only [q74_48, q74_50, q74_51, q74_52, q74_53, q74_114, q74_116, q74_118, q74_119, q74_122, q74_124, q74_127, q74_128, ↓reduceIte, ax_bV_s, ax_bI_s, ax_bJ_s, ax_bA_s, ax_bH_s, ax_bR_s, ax_bR_n, n_1shl n (show n < 31 by omega), n_le (show 2 ^ n < 2 ^ 31 by omega) (show s < 2 ^ 31 by omega), show 2 ^ n ≤ s by omega, r100 (show 10 < 2 ^ 31 by decide) (show n < 2 ^ 31 by omega), r102 (show acc < 2 ^ 49 by omega) (show 10 ^ n < 2 ^ 49 by omega) tp hw, lN_i]
  | succ m ih =>
    intro X s b n c w acc hs hn hc hw hb ha hI hm
    have h0 := hI.1
    have h8 := pow_8 hn
    have hs2 : s < 2 ^ n := by omega
    have hpn := pop_n n (by omega) s hs2
    have hwl := wgt_le hn hc hs2
    obtain ⟨x1, h97⟩ := r97 (X := X) (Y := Y) (sc := sc) (ai := ai) (aj := aj) (s := s) (b := b) hn (by omega) (by omega) hI hm
    have step : ∀ (x1 : Nat → Nat) (a : Nat), a = acc + (if msW (X 0) b n s = true then wgt n c s else 0) → ∃ x2, ax_res 74 48 [some (.ref 114), some (.int (nI b)), some (.int (nI n)), some (.int (nI c)), some (.int (nI w)), some (.long (lN a)), none, some (.int (nI (s + 1))), none, none, none] [] (hp (upX X 1 x1) Y sc ai aj) = some (some (.int (nI (frc (msF (msW (X 0) b n) n c m (s + 1) a) (10 ^ n) w))), hp (upX X 1 x2) Y sc ai aj) := by
      intro x1 a hq
      have hq2 : a ≤ acc + 10 ^ 8 := by rw [hq]; split <;> omega
      obtain ⟨x2, e⟩ := ih (upX X 1 x1) (s + 1) b n c w a (by omega) hn hc hw (by rw [upX_n (by decide)]; exact hb) (by omega) (by rw [upX_n (by decide)]; exact hI) (by rw [upX_n (by decide)]; exact hm)
      rw [upX_n (show ¬ 0 = 1 by decide), upX_u] at e
      exact ⟨x2, e⟩
    have ew : c ^ pop s * (10 - c) ^ (n - pop s) = wgt n c s := rfl
    rw [msF_s]
    by_cases c1 : wgt n c s = 0
    · obtain ⟨x2, e⟩ := step (X 1) acc (by rw [c1]; split <;> rfl)
      rw [upX_i] at e
      refine ⟨x2, ?_⟩
      rw [q74_48, c1, show (acc + if msW (X 0) b n s = true then 0 else 0) = acc by split <;> rfl]
      simp only [q74_50, q74_51, q74_52, q74_53, q74_56, q74_58, q74_61, q74_63, q74_64, q74_66, q74_69, q74_71, q74_72, q74_73, q74_74, q74_76, q74_77, q74_80, q74_81, q74_83, q74_85, q74_86, q74_87, q74_108, q74_111, ↓reduceIte, ax_bV_s, ax_bI_s, ax_bJ_s, ax_bA_s, ax_bH_s, ax_bR_s, ax_bR_n, n_1shl n (show n < 31 by omega), n_le (show 2 ^ n < 2 ^ 31 by omega) (show s < 2 ^ 31 by omega), show ¬ 2 ^ n ≤ s by omega, r179 _ s (show s < 256 by omega), r100 (show c < 2 ^ 31 by omega) (show pop s < 2 ^ 31 by omega), n_sub hc, n_sub hpn, r100 (show 10 - c < 2 ^ 31 by omega) (show n - pop s < 2 ^ 31 by omega), lN_mul, ew, c1, lg_cmp_le, l_le (show 0 < 2 ^ 63 by decide) (show 0 < 2 ^ 63 by decide), Nat.le_refl, nI_add, e]
    · cases c2 : msW (X 0) b n s with
      | true =>
        obtain ⟨x2, e⟩ := step x1 (acc + wgt n c s) (by rw [if_pos c2])
        refine ⟨x2, ?_⟩
        rw [q74_48, if_pos rfl]
        simp only [q74_50, q74_51, q74_52, q74_53, q74_56, q74_58, q74_61, q74_63, q74_64, q74_66, q74_69, q74_71, q74_72, q74_73, q74_74, q74_76, q74_77, q74_80, q74_81, q74_83, q74_85, q74_86, q74_87, q74_90, q74_91, q74_93, q74_94, q74_95, q74_98, q74_101, q74_103, q74_105, q74_106, q74_108, q74_111, ↓reduceIte, ax_bV_s, ax_bI_s, ax_bJ_s, ax_bA_s, ax_bH_s, ax_bR_s, ax_bR_n, oo_114, gf114_0, gf114_1, gf114_2, gf114_3, gf114_4, gf114_5, pf114_5, gf114_6, gf114_7, gf114_8, gf114_9, oo_119, gf119_0, gf119_1, pf119_1, gf119_2, pf119_2, oo_130, gf130_0, gf130_1, gf130_2, pf130_2, oo_134, gf134_0, gf134_1, pf134_1, gf134_2, pf134_2, gf134_3, pf134_3, gf134_4, gf134_5, pf134_5, gf134_6, gf134_7, gf134_8, gf134_9, pf134_9, gf134_10, gf134_11, gf134_12, gf134_13, gf134_14, gf134_15, gf134_16, gi120, pi120, li120, gi131, pi131, li131, gi132, pi132, li132, gi136, pi136, li136, gi138, pi138, li138, gi139, pi139, li139, gi140, pi140, li140, gi141, pi141, li141, gi142, pi142, li142, gi144, pi144, li144, gi145, pi145, li145, gj133, pj133, lj133, gj137, pj137, lj137, gj143, pj143, lj143, gj146, pj146, lj146, gA121, gAq, oo_s, gfs_0, gfs_1, gfs_2, pfs_0, pfs_1, gjs, ljs, pjs, oo_h, gfh_0, gfh_1, gfh_2, pfh_1, pfh_2, n_1shl n (show n < 31 by omega), n_le (show 2 ^ n < 2 ^ 31 by omega) (show s < 2 ^ 31 by omega), show ¬ 2 ^ n ≤ s by omega, r179 _ s (show s < 256 by omega), r100 (show c < 2 ^ 31 by omega) (show pop s < 2 ^ 31 by omega), n_sub hc, n_sub hpn, r100 (show 10 - c < 2 ^ 31 by omega) (show n - pop s < 2 ^ 31 by omega), lN_mul, ew, lg_cmp_le, l_le (show wgt n c s < 2 ^ 63 by omega) (show 0 < 2 ^ 63 by decide), show ¬ wgt n c s ≤ 0 by omega, h97, c2, n_bn0, Bool.true_eq_false, lN_add, nI_add, e]
      | false =>
        obtain ⟨x2, e⟩ := step x1 acc (by rw [if_neg (by rw [c2]; decide)]; rfl)
        refine ⟨x2, ?_⟩
        rw [q74_48, if_neg (by decide)]
        simp only [q74_50, q74_51, q74_52, q74_53, q74_56, q74_58, q74_61, q74_63, q74_64, q74_66, q74_69, q74_71, q74_72, q74_73, q74_74, q74_76, q74_77, q74_80, q74_81, q74_83, q74_85, q74_86, q74_87, q74_90, q74_91, q74_93, q74_94, q74_95, q74_98, q74_108, q74_111, ↓reduceIte, ax_bV_s, ax_bI_s, ax_bJ_s, ax_bA_s, ax_bH_s, ax_bR_s, ax_bR_n, oo_114, gf114_0, gf114_1, gf114_2, gf114_3, gf114_4, gf114_5, pf114_5, gf114_6, gf114_7, gf114_8, gf114_9, oo_119, gf119_0, gf119_1, pf119_1, gf119_2, pf119_2, oo_130, gf130_0, gf130_1, gf130_2, pf130_2, oo_134, gf134_0, gf134_1, pf134_1, gf134_2, pf134_2, gf134_3, pf134_3, gf134_4, gf134_5, pf134_5, gf134_6, gf134_7, gf134_8, gf134_9, pf134_9, gf134_10, gf134_11, gf134_12, gf134_13, gf134_14, gf134_15, gf134_16, gi120, pi120, li120, gi131, pi131, li131, gi132, pi132, li132, gi136, pi136, li136, gi138, pi138, li138, gi139, pi139, li139, gi140, pi140, li140, gi141, pi141, li141, gi142, pi142, li142, gi144, pi144, li144, gi145, pi145, li145, gj133, pj133, lj133, gj137, pj137, lj137, gj143, pj143, lj143, gj146, pj146, lj146, gA121, gAq, oo_s, gfs_0, gfs_1, gfs_2, pfs_0, pfs_1, gjs, ljs, pjs, oo_h, gfh_0, gfh_1, gfh_2, pfh_1, pfh_2, n_1shl n (show n < 31 by omega), n_le (show 2 ^ n < 2 ^ 31 by omega) (show s < 2 ^ 31 by omega), show ¬ 2 ^ n ≤ s by omega, r179 _ s (show s < 256 by omega), r100 (show c < 2 ^ 31 by omega) (show pop s < 2 ^ 31 by omega), n_sub hc, n_sub hpn, r100 (show 10 - c < 2 ^ 31 by omega) (show n - pop s < 2 ^ 31 by omega), lN_mul, ew, lg_cmp_le, l_le (show wgt n c s < 2 ^ 63 by omega) (show 0 < 2 ^ 63 by decide), show ¬ wgt n c s ≤ 0 by omega, h97, c2, n_bn0, nI_add, Nat.add_zero, e]
theorem s74_bad {b n c w : Int32} (hI : Inv (X 0)) (h : (isB b (X 0 0) && (isI n 0 8 && (isI c 0 10 && isI w 0 1))) = false) : ax_res 74 0 [some (.ref 114), some (.int b), some (.int n), some (.int c), some (.int w), none, none, none, none, none, none] [] (hp X Y sc ai aj) = some (some (.int (-1)), hp X Y sc ai aj) := by
  simp only [q74_0, q74_1, q74_2, q74_5, q74_8, q74_9, q74_10, q74_12, q74_15, q74_18, q74_19, q74_20, q74_21, q74_22, q74_24, q74_27, q74_30, q74_32, q74_33, q74_34, q74_37, q74_40, q74_41, ↓reduceIte, ax_bV_s, ax_bI_s, ax_bJ_s, ax_bA_s, ax_bH_s, ax_bR_s, ax_bR_n, oo_114, gf114_0, gf114_1, gf114_2, gf114_3, gf114_4, gf114_5, pf114_5, gf114_6, gf114_7, gf114_8, gf114_9, oo_119, gf119_0, gf119_1, pf119_1, gf119_2, pf119_2, oo_130, gf130_0, gf130_1, gf130_2, pf130_2, oo_134, gf134_0, gf134_1, pf134_1, gf134_2, pf134_2, gf134_3, pf134_3, gf134_4, gf134_5, pf134_5, gf134_6, gf134_7, gf134_8, gf134_9, pf134_9, gf134_10, gf134_11, gf134_12, gf134_13, gf134_14, gf134_15, gf134_16, gi120, pi120, li120, gi131, pi131, li131, gi132, pi132, li132, gi136, pi136, li136, gi138, pi138, li138, gi139, pi139, li139, gi140, pi140, li140, gi141, pi141, li141, gi142, pi142, li142, gi144, pi144, li144, gi145, pi145, li145, gj133, pj133, lj133, gj137, pj137, lj137, gj143, pj143, lj143, gj146, pj146, lj146, gA121, gAq, oo_s, gfs_0, gfs_1, gfs_2, pfs_0, pfs_1, gjs, ljs, pjs, oo_h, gfh_0, gfh_1, gfh_2, pfh_1, pfh_2, r85 hI.1, r84I (show 0 < 2 ^ 31 by decide) (show 8 < 2 ^ 31 by decide), r84I (show 0 < 2 ^ 31 by decide) (show 10 < 2 ^ 31 by decide), r84I (show 0 < 2 ^ 31 by decide) (show 1 < 2 ^ 31 by decide), n_bn0]
  revert h
  cases isB b (X 0 0) <;> cases isI n 0 8 <;> cases isI c 0 10 <;> cases isI w 0 1 <;> simp
theorem s74_ok {b n c w : Nat} (hI : Inv (X 0)) (hm : X 0 1 ≤ 9999) (hb : b < X 0 0) (hn : n ≤ 8) (hc : c ≤ 10) (hw : w ≤ 1) : ∃ x1, ax_res 74 0 [some (.ref 114), some (.int (nI b)), some (.int (nI n)), some (.int (nI c)), some (.int (nI w)), none, none, none, none, none, none] [] (hp X Y sc ai aj) = some (some (.int (msA (X 0) b n c w)), hp (upX X 1 x1) Y sc ai aj) := by
  have h0 := hI.1
  have h8 := pow_8 hn
  obtain ⟨x1, e⟩ := s74_l (Y := Y) (sc := sc) (ai := ai) (aj := aj) (2 ^ n) X 0 b n c w 0 (by omega) hn hc hw hb (by omega) hI hm
  refine ⟨x1, ?_⟩
  simp only [q74_0, q74_1, q74_2, q74_5, q74_8, q74_9, q74_10, q74_12, q74_15, q74_20, q74_21, q74_22, q74_24, q74_27, q74_30, q74_32, q74_33, q74_34, q74_37, q74_42, q74_43, q74_45, q74_46, ↓reduceIte, ax_bV_s, ax_bI_s, ax_bJ_s, ax_bA_s, ax_bH_s, ax_bR_s, ax_bR_n, oo_114, gf114_0, gf114_1, gf114_2, gf114_3, gf114_4, gf114_5, pf114_5, gf114_6, gf114_7, gf114_8, gf114_9, oo_119, gf119_0, gf119_1, pf119_1, gf119_2, pf119_2, oo_130, gf130_0, gf130_1, gf130_2, pf130_2, oo_134, gf134_0, gf134_1, pf134_1, gf134_2, pf134_2, gf134_3, pf134_3, gf134_4, gf134_5, pf134_5, gf134_6, gf134_7, gf134_8, gf134_9, pf134_9, gf134_10, gf134_11, gf134_12, gf134_13, gf134_14, gf134_15, gf134_16, gi120, pi120, li120, gi131, pi131, li131, gi132, pi132, li132, gi136, pi136, li136, gi138, pi138, li138, gi139, pi139, li139, gi140, pi140, li140, gi141, pi141, li141, gi142, pi142, li142, gi144, pi144, li144, gi145, pi145, li145, gj133, pj133, lj133, gj137, pj137, lj137, gj143, pj143, lj143, gj146, pj146, lj146, gA121, gAq, oo_s, gfs_0, gfs_1, gfs_2, pfs_0, pfs_1, gjs, ljs, pjs, oo_h, gfh_0, gfh_1, gfh_2, pfh_1, pfh_2, r85 h0, isB_t (show X 0 0 ≤ 1000 by omega) hb, r84I (show 0 < 2 ^ 31 by decide) (show 8 < 2 ^ 31 by decide), isI_nI (show n < 2 ^ 31 by omega) (Nat.zero_le n) hn, r84I (show 0 < 2 ^ 31 by decide) (show 10 < 2 ^ 31 by decide), isI_nI (show c < 2 ^ 31 by omega) (Nat.zero_le c) hc, r84I (show 0 < 2 ^ 31 by decide) (show 1 < 2 ^ 31 by decide), isI_nI (show w < 2 ^ 31 by omega) (Nat.zero_le w) hw, n_bn0, Bool.not_true, e]
  rfl
-- the model's
theorem m164_l1 (m : Nat) : ∀ (k n d : Nat) (b c w : Int32) (u : Int64) (h : ax_H), k + m = n → n ≤ 8 → ax_res 164 54 [some (.ref 134), some (.int b), some (.int (nI n)), some (.int c), some (.int w), some (.long u), none, some (.long (lN d)), none, some (.int (nI k)), none, none, none] [] h = ax_res 164 74 [some (.ref 134), some (.int b), some (.int (nI n)), some (.int c), some (.int w), some (.long u), none, some (.long (lN (d * 10 ^ m))), none, some (.int (nI n)), none, none, none] [] h := by
  induction m with
  | zero =>
    intro k n d b c w u h hk hn
    have e : k = n := by omega
    subst e
    simp only [q164_54, q164_56, q164_57, ↓reduceIte, ax_bV_s, ax_bI_s, ax_bJ_s, ax_bA_s, ax_bH_s, ax_bR_s, ax_bR_n, n_le (show k < 2 ^ 31 by omega) (show k < 2 ^ 31 by omega), Nat.le_refl, Nat.pow_zero, Nat.mul_one]
  | succ m ih =>
    intro k n d b c w u h hk hn
    have e := ih (k + 1) n (d * 10) b c w u h (by omega) hn
    rw [Nat.mul_assoc, show 10 * 10 ^ m = 10 ^ (m + 1) by rw [Nat.pow_succ, Nat.mul_comm]] at e
    rw [q164_54]
    simp only [q164_56, q164_57, q164_60, q164_62, q164_65, q164_66, q164_68, q164_71, ↓reduceIte, ax_bV_s, ax_bI_s, ax_bJ_s, ax_bA_s, ax_bH_s, ax_bR_s, ax_bR_n, n_le (show n < 2 ^ 31 by omega) (show k < 2 ^ 31 by omega), show ¬ n ≤ k by omega, lN_mul, nI_add, e]
theorem m164_l2 (m : Nat) : ∀ (Y : Nat → Nat → Nat) (k n c s wy : Nat) (b w : Int32) (u d : Int64), k + m = n → n ≤ 8 → c ≤ 10 → s < 2 ^ 31 → Inv (Y 1) → Y 1 1 + m < 20000 → ax_res 164 95 [some (.ref 134), some (.int b), some (.int (nI n)), some (.int (nI c)), some (.int w), some (.long u), none, some (.long d), none, some (.int (nI s)), some (.long (lN wy)), none, some (.int (nI k))] [] (hp X Y sc ai aj) = ax_res 164 145 [some (.ref 134), some (.int b), some (.int (nI n)), some (.int (nI c)), some (.int w), some (.long u), none, some (.long d), none, some (.int (nI s)), some (.long (lN (wyF c (10 - c) s m k wy))), none, some (.int (nI n))] [] (hp X (upX Y 1 (msN s m k (Y 1))) sc ai aj) := by
  induction m with
  | zero =>
    intro Y k n c s wy b w u d hk hn hc hs hI hm
    have e : k = n := by omega
    subst e
    rw [msN_0, wyF_0, upX_i]
    simp only [q164_95, q164_97, q164_98, ↓reduceIte, ax_bV_s, ax_bI_s, ax_bJ_s, ax_bA_s, ax_bH_s, ax_bR_s, ax_bR_n, n_le (show k < 2 ^ 31 by omega) (show k < 2 ^ 31 by omega), Nat.le_refl]
  | succ m ih =>
    intro Y k n c s wy b w u d hk hn hc hs hI hm
    obtain ⟨g1, g2, g3⟩ := inv_pas (m := s.testBit k) hI
    have h29 := r129 (X := X) (Y := Y) (sc := sc) (ai := ai) (aj := aj) (q := 1) (mb := s.testBit k) q1 hI (by omega)
    rw [show 36 * 1 = 36 from rfl] at h29
    have e := ih (upX Y 1 (pas (Y 1) (s.testBit k))) (k + 1) n c s (wy * if s.testBit k = true then c else 10 - c) b w u d (by omega) hn hc hs (by rw [upX_s]; exact g1) (by rw [upX_s, g3]; omega)
    rw [upX_s, upX_u] at e
    rw [q164_95, msN_s, wyF_s]
    have h5 := r105 (a := s) (k := k) hs (show k < 32 by omega)
    rw [bt_bn] at h5
    cases ct : s.testBit k with
    | true =>
      rw [ct] at h29 e h5
      rw [if_pos rfl] at e
      rw [if_pos rfl]
      simp only [q164_97, q164_98, q164_101, q164_103, q164_105, q164_107, q164_110, q164_113, q164_114, q164_115, q164_123, q164_124, q164_126, q164_127, q164_129, q164_131, q164_133, q164_136, q164_139, q164_142, ↓reduceIte, ax_bV_s, ax_bI_s, ax_bJ_s, ax_bA_s, ax_bH_s, ax_bR_s, ax_bR_n, oo_114, gf114_0, gf114_1, gf114_2, gf114_3, gf114_4, gf114_5, pf114_5, gf114_6, gf114_7, gf114_8, gf114_9, oo_119, gf119_0, gf119_1, pf119_1, gf119_2, pf119_2, oo_130, gf130_0, gf130_1, gf130_2, pf130_2, oo_134, gf134_0, gf134_1, pf134_1, gf134_2, pf134_2, gf134_3, pf134_3, gf134_4, gf134_5, pf134_5, gf134_6, gf134_7, gf134_8, gf134_9, pf134_9, gf134_10, gf134_11, gf134_12, gf134_13, gf134_14, gf134_15, gf134_16, gi120, pi120, li120, gi131, pi131, li131, gi132, pi132, li132, gi136, pi136, li136, gi138, pi138, li138, gi139, pi139, li139, gi140, pi140, li140, gi141, pi141, li141, gi142, pi142, li142, gi144, pi144, li144, gi145, pi145, li145, gj133, pj133, lj133, gj137, pj137, lj137, gj143, pj143, lj143, gj146, pj146, lj146, gA121, gAq, oo_s, gfs_0, gfs_1, gfs_2, pfs_0, pfs_1, gjs, ljs, pjs, oo_h, gfh_0, gfh_1, gfh_2, pfh_1, pfh_2, n_le (show n < 2 ^ 31 by omega) (show k < 2 ^ 31 by omega), show ¬ n ≤ k by omega, h5, n_bn0, Bool.true_eq_false, nI_l (show c < 2 ^ 31 by omega), lN_mul, h29, nI_add, e]
    | false =>
      rw [ct] at h29 e h5
      rw [if_neg (by decide)] at e
      rw [if_neg (by decide)]
      simp only [q164_97, q164_98, q164_101, q164_103, q164_105, q164_107, q164_110, q164_118, q164_120, q164_121, q164_122, q164_123, q164_124, q164_126, q164_127, q164_129, q164_131, q164_133, q164_136, q164_139, q164_142, ↓reduceIte, ax_bV_s, ax_bI_s, ax_bJ_s, ax_bA_s, ax_bH_s, ax_bR_s, ax_bR_n, oo_114, gf114_0, gf114_1, gf114_2, gf114_3, gf114_4, gf114_5, pf114_5, gf114_6, gf114_7, gf114_8, gf114_9, oo_119, gf119_0, gf119_1, pf119_1, gf119_2, pf119_2, oo_130, gf130_0, gf130_1, gf130_2, pf130_2, oo_134, gf134_0, gf134_1, pf134_1, gf134_2, pf134_2, gf134_3, pf134_3, gf134_4, gf134_5, pf134_5, gf134_6, gf134_7, gf134_8, gf134_9, pf134_9, gf134_10, gf134_11, gf134_12, gf134_13, gf134_14, gf134_15, gf134_16, gi120, pi120, li120, gi131, pi131, li131, gi132, pi132, li132, gi136, pi136, li136, gi138, pi138, li138, gi139, pi139, li139, gi140, pi140, li140, gi141, pi141, li141, gi142, pi142, li142, gi144, pi144, li144, gi145, pi145, li145, gj133, pj133, lj133, gj137, pj137, lj137, gj143, pj143, lj143, gj146, pj146, lj146, gA121, gAq, oo_s, gfs_0, gfs_1, gfs_2, pfs_0, pfs_1, gjs, ljs, pjs, oo_h, gfh_0, gfh_1, gfh_2, pfh_1, pfh_2, n_le (show n < 2 ^ 31 by omega) (show k < 2 ^ 31 by omega), show ¬ n ≤ k by omega, h5, n_bn0, n_sub hc, nI_l (show 10 - c < 2 ^ 31 by omega), lN_mul, h29, nI_add, e]
theorem m164_l (m : Nat) : ∀ (Y : Nat → Nat → Nat) (s b n c w acc : Nat), s + m = 2 ^ n → n ≤ 8 → c ≤ 10 → w ≤ 1 → b < Y 0 0 → acc + m * 10 ^ 8 ≤ 256 * 10 ^ 8 → Inv (Y 0) → Y 0 1 ≤ 9999 → ∃ y1, ax_res 164 77 [some (.ref 134), some (.int (nI b)), some (.int (nI n)), some (.int (nI c)), some (.int (nI w)), some (.long (lN acc)), none, some (.long (lN (10 ^ n))), none, some (.int (nI s)), none, none, none] [] (hp X Y sc ai aj) = some (some (.int (nI (frc (msF (msW (Y 0) b n) n c m s acc) (10 ^ n) w))), hp X (upX Y 1 y1) sc ai aj) := by
  induction m with
  | zero =>
    intro Y s b n c w acc hs hn hc hw hb ha hI hm
    have h8 := pow_8 hn
    have t8 := ten_8 hn
    have tp : 0 < 10 ^ n := Nat.pow_pos (by decide)
    refine ⟨Y 1, ?_⟩
    rw [msF_0, upX_i]
    simp only [q164_77, q164_79, q164_80, q164_81, q164_82, q164_173, q164_174, q164_176, q164_178, q164_180, q164_183, q164_184, ↓reduceIte, ax_bV_s, ax_bI_s, ax_bJ_s, ax_bA_s, ax_bH_s, ax_bR_s, ax_bR_n, oo_114, gf114_0, gf114_1, gf114_2, gf114_3, gf114_4, gf114_5, pf114_5, gf114_6, gf114_7, gf114_8, gf114_9, oo_119, gf119_0, gf119_1, pf119_1, gf119_2, pf119_2, oo_130, gf130_0, gf130_1, gf130_2, pf130_2, oo_134, gf134_0, gf134_1, pf134_1, gf134_2, pf134_2, gf134_3, pf134_3, gf134_4, gf134_5, pf134_5, gf134_6, gf134_7, gf134_8, gf134_9, pf134_9, gf134_10, gf134_11, gf134_12, gf134_13, gf134_14, gf134_15, gf134_16, gi120, pi120, li120, gi131, pi131, li131, gi132, pi132, li132, gi136, pi136, li136, gi138, pi138, li138, gi139, pi139, li139, gi140, pi140, li140, gi141, pi141, li141, gi142, pi142, li142, gi144, pi144, li144, gi145, pi145, li145, gj133, pj133, lj133, gj137, pj137, lj137, gj143, pj143, lj143, gj146, pj146, lj146, gA121, gAq, oo_s, gfs_0, gfs_1, gfs_2, pfs_0, pfs_1, gjs, ljs, pjs, oo_h, gfh_0, gfh_1, gfh_2, pfh_1, pfh_2, n_1shl n (show n < 31 by omega), n_le (show 2 ^ n < 2 ^ 31 by omega) (show s < 2 ^ 31 by omega), show 2 ^ n ≤ s by omega, r163 (show acc < 2 ^ 63 by omega) (show 10 ^ n < 2 ^ 63 by omega) tp hw, lN_i]
  | succ m ih =>
    intro Y s b n c w acc hs hn hc hw hb ha hI hm
    have h0 := hI.1
    have hb6 : b < 6 := by omega
    have h8 := pow_8 hn
    have hs2 : s < 2 ^ n := by omega
    have hwl := wgt_le hn hc hs2
    have el := m164_l2 (X := X) (sc := sc) (ai := ai) (aj := aj) n (upX Y 1 (Y 0)) 0 n c s 1 (nI b) (nI w) (lN acc) (lN (10 ^ n)) (by omega) hn hc (by omega) (by rw [upX_s]; exact hI) (by rw [upX_s]; omega)
    rw [upX_s, upX_u, wy_wgt hn hs2] at el
    have hq2 : (if msW (Y 0) b n s = true then wgt n c s else 0) ≤ 10 ^ 8 := by split <;> omega
    obtain ⟨y2, e⟩ := ih (upX Y 1 (msN s n 0 (Y 0))) (s + 1) b n c w (acc + if msW (Y 0) b n s = true then wgt n c s else 0) (by omega) hn hc hw (by rw [upX_n (by decide)]; exact hb) (by omega) (by rw [upX_n (by decide)]; exact hI) (by rw [upX_n (by decide)]; exact hm)
    rw [upX_n (show ¬ 0 = 1 by decide), upX_u] at e
    refine ⟨y2, ?_⟩
    rw [q164_77, msF_s]
    simp only [q164_79, q164_80, q164_81, q164_82, q164_85, q164_86, q164_88, q164_89, q164_92, q164_93, ↓reduceIte, ax_bV_s, ax_bI_s, ax_bJ_s, ax_bA_s, ax_bH_s, ax_bR_s, ax_bR_n, oo_114, gf114_0, gf114_1, gf114_2, gf114_3, gf114_4, gf114_5, pf114_5, gf114_6, gf114_7, gf114_8, gf114_9, oo_119, gf119_0, gf119_1, pf119_1, gf119_2, pf119_2, oo_130, gf130_0, gf130_1, gf130_2, pf130_2, oo_134, gf134_0, gf134_1, pf134_1, gf134_2, pf134_2, gf134_3, pf134_3, gf134_4, gf134_5, pf134_5, gf134_6, gf134_7, gf134_8, gf134_9, pf134_9, gf134_10, gf134_11, gf134_12, gf134_13, gf134_14, gf134_15, gf134_16, gi120, pi120, li120, gi131, pi131, li131, gi132, pi132, li132, gi136, pi136, li136, gi138, pi138, li138, gi139, pi139, li139, gi140, pi140, li140, gi141, pi141, li141, gi142, pi142, li142, gi144, pi144, li144, gi145, pi145, li145, gj133, pj133, lj133, gj137, pj137, lj137, gj143, pj143, lj143, gj146, pj146, lj146, gA121, gAq, oo_s, gfs_0, gfs_1, gfs_2, pfs_0, pfs_1, gjs, ljs, pjs, oo_h, gfh_0, gfh_1, gfh_2, pfh_1, pfh_2, n_1shl n (show n < 31 by omega), n_le (show 2 ^ n < 2 ^ 31 by omega) (show s < 2 ^ 31 by omega), show ¬ 2 ^ n ≤ s by omega, r142, el]
    by_cases c2 : msN s n 0 (Y 0) 2 = b
    · rw [show msW (Y 0) b n s = true from decide_eq_true c2, if_pos rfl] at e ⊢
      simp only [q164_145, q164_147, q164_148, q164_151, q164_153, q164_154, q164_155, q164_158, q164_160, q164_164, q164_165, q164_167, q164_170, ↓reduceIte, ax_bV_s, ax_bI_s, ax_bJ_s, ax_bA_s, ax_bH_s, ax_bR_s, ax_bR_n, gwq_0, gwq_1, gwq_2, gwq_3, gwq_4, gwq_5, gwqT, gwqS, gwqP, gwqK, gwqZ, gw0_0, gw0_1, gw0_2, gw0_3, gw0_4, gw0_5, gw0T, gw0S, gw0P, gw0K, gw0Z, gw1_0, gw1_1, gw1_2, gw1_3, gw1_4, gw1_5, gw1T, gw1S, gw1P, gw1K, gw1Z, oo_114, gf114_0, gf114_1, gf114_2, gf114_3, gf114_4, gf114_5, pf114_5, gf114_6, gf114_7, gf114_8, gf114_9, oo_119, gf119_0, gf119_1, pf119_1, gf119_2, pf119_2, oo_130, gf130_0, gf130_1, gf130_2, pf130_2, oo_134, gf134_0, gf134_1, pf134_1, gf134_2, pf134_2, gf134_3, pf134_3, gf134_4, gf134_5, pf134_5, gf134_6, gf134_7, gf134_8, gf134_9, pf134_9, gf134_10, gf134_11, gf134_12, gf134_13, gf134_14, gf134_15, gf134_16, gi120, pi120, li120, gi131, pi131, li131, gi132, pi132, li132, gi136, pi136, li136, gi138, pi138, li138, gi139, pi139, li139, gi140, pi140, li140, gi141, pi141, li141, gi142, pi142, li142, gi144, pi144, li144, gi145, pi145, li145, gj133, pj133, lj133, gj137, pj137, lj137, gj143, pj143, lj143, gj146, pj146, lj146, gA121, gAq, oo_s, gfs_0, gfs_1, gfs_2, pfs_0, pfs_1, gjs, ljs, pjs, oo_h, gfh_0, gfh_1, gfh_2, pfh_1, pfh_2, upX_s, sv_eq hb6, c2, lN_add, nI_add, e]
    · rw [show msW (Y 0) b n s = false from decide_eq_false c2, if_neg (by decide)] at e ⊢
      simp only [q164_145, q164_147, q164_148, q164_151, q164_153, q164_154, q164_155, q164_163, q164_164, q164_165, q164_167, q164_170, ↓reduceIte, ax_bV_s, ax_bI_s, ax_bJ_s, ax_bA_s, ax_bH_s, ax_bR_s, ax_bR_n, gwq_0, gwq_1, gwq_2, gwq_3, gwq_4, gwq_5, gwqT, gwqS, gwqP, gwqK, gwqZ, gw0_0, gw0_1, gw0_2, gw0_3, gw0_4, gw0_5, gw0T, gw0S, gw0P, gw0K, gw0Z, gw1_0, gw1_1, gw1_2, gw1_3, gw1_4, gw1_5, gw1T, gw1S, gw1P, gw1K, gw1Z, oo_114, gf114_0, gf114_1, gf114_2, gf114_3, gf114_4, gf114_5, pf114_5, gf114_6, gf114_7, gf114_8, gf114_9, oo_119, gf119_0, gf119_1, pf119_1, gf119_2, pf119_2, oo_130, gf130_0, gf130_1, gf130_2, pf130_2, oo_134, gf134_0, gf134_1, pf134_1, gf134_2, pf134_2, gf134_3, pf134_3, gf134_4, gf134_5, pf134_5, gf134_6, gf134_7, gf134_8, gf134_9, pf134_9, gf134_10, gf134_11, gf134_12, gf134_13, gf134_14, gf134_15, gf134_16, gi120, pi120, li120, gi131, pi131, li131, gi132, pi132, li132, gi136, pi136, li136, gi138, pi138, li138, gi139, pi139, li139, gi140, pi140, li140, gi141, pi141, li141, gi142, pi142, li142, gi144, pi144, li144, gi145, pi145, li145, gj133, pj133, lj133, gj137, pj137, lj137, gj143, pj143, lj143, gj146, pj146, lj146, gA121, gAq, oo_s, gfs_0, gfs_1, gfs_2, pfs_0, pfs_1, gjs, ljs, pjs, oo_h, gfh_0, gfh_1, gfh_2, pfh_1, pfh_2, upX_s, sv_eq hb6, c2, lN_add, nI_add, e]
theorem m164_bad {b n c w : Int32} (hI : Inv (Y 0)) (h : (isB b (Y 0 0) && (isI n 0 8 && (isI c 0 10 && isI w 0 1))) = false) : ax_res 164 0 [some (.ref 134), some (.int b), some (.int n), some (.int c), some (.int w), none, none, none, none, none, none, none, none] [] (hp X Y sc ai aj) = some (some (.int (-1)), hp X Y sc ai aj) := by
  simp only [q164_0, q164_1, q164_2, q164_5, q164_8, q164_9, q164_10, q164_11, q164_14, q164_17, q164_20, q164_21, q164_22, q164_23, q164_26, q164_29, q164_32, q164_34, q164_35, q164_36, q164_37, q164_40, q164_43, q164_44, ↓reduceIte, ax_bV_s, ax_bI_s, ax_bJ_s, ax_bA_s, ax_bH_s, ax_bR_s, ax_bR_n, oo_114, gf114_0, gf114_1, gf114_2, gf114_3, gf114_4, gf114_5, pf114_5, gf114_6, gf114_7, gf114_8, gf114_9, oo_119, gf119_0, gf119_1, pf119_1, gf119_2, pf119_2, oo_130, gf130_0, gf130_1, gf130_2, pf130_2, oo_134, gf134_0, gf134_1, pf134_1, gf134_2, pf134_2, gf134_3, pf134_3, gf134_4, gf134_5, pf134_5, gf134_6, gf134_7, gf134_8, gf134_9, pf134_9, gf134_10, gf134_11, gf134_12, gf134_13, gf134_14, gf134_15, gf134_16, gi120, pi120, li120, gi131, pi131, li131, gi132, pi132, li132, gi136, pi136, li136, gi138, pi138, li138, gi139, pi139, li139, gi140, pi140, li140, gi141, pi141, li141, gi142, pi142, li142, gi144, pi144, li144, gi145, pi145, li145, gj133, pj133, lj133, gj137, pj137, lj137, gj143, pj143, lj143, gj146, pj146, lj146, gA121, gAq, oo_s, gfs_0, gfs_1, gfs_2, pfs_0, pfs_1, gjs, ljs, pjs, oo_h, gfh_0, gfh_1, gfh_2, pfh_1, pfh_2, r108 hI.1, r104I (show 0 < 2 ^ 31 by decide) (show 8 < 2 ^ 31 by decide), r104I (show 0 < 2 ^ 31 by decide) (show 10 < 2 ^ 31 by decide), r104I (show 0 < 2 ^ 31 by decide) (show 1 < 2 ^ 31 by decide), n_bn0]
  revert h
  cases isB b (Y 0 0) <;> cases isI n 0 8 <;> cases isI c 0 10 <;> cases isI w 0 1 <;> simp
theorem m164_ok {b n c w : Nat} (hI : Inv (Y 0)) (hm : Y 0 1 ≤ 9999) (hb : b < Y 0 0) (hn : n ≤ 8) (hc : c ≤ 10) (hw : w ≤ 1) : ∃ y1, ax_res 164 0 [some (.ref 134), some (.int (nI b)), some (.int (nI n)), some (.int (nI c)), some (.int (nI w)), none, none, none, none, none, none, none, none] [] (hp X Y sc ai aj) = some (some (.int (msA (Y 0) b n c w)), hp X (upX Y 1 y1) sc ai aj) := by
  have h0 := hI.1
  have h8 := pow_8 hn
  obtain ⟨y1, e⟩ := m164_l (X := X) (sc := sc) (ai := ai) (aj := aj) (2 ^ n) Y 0 b n c w 0 (by omega) hn hc hw hb (by omega) hI hm
  have e1 := m164_l1 n 0 n 1 (nI b) (nI c) (nI w) (lN 0) (hp X Y sc ai aj) (by omega) hn
  rw [Nat.one_mul] at e1
  refine ⟨y1, ?_⟩
  simp only [q164_0, q164_1, q164_2, q164_5, q164_8, q164_9, q164_10, q164_11, q164_14, q164_17, q164_20, q164_21, q164_22, q164_23, q164_26, q164_29, q164_32, q164_34, q164_35, q164_36, q164_37, q164_40, q164_45, q164_46, q164_48, q164_49, q164_51, q164_52, ↓reduceIte, ax_bV_s, ax_bI_s, ax_bJ_s, ax_bA_s, ax_bH_s, ax_bR_s, ax_bR_n, oo_114, gf114_0, gf114_1, gf114_2, gf114_3, gf114_4, gf114_5, pf114_5, gf114_6, gf114_7, gf114_8, gf114_9, oo_119, gf119_0, gf119_1, pf119_1, gf119_2, pf119_2, oo_130, gf130_0, gf130_1, gf130_2, pf130_2, oo_134, gf134_0, gf134_1, pf134_1, gf134_2, pf134_2, gf134_3, pf134_3, gf134_4, gf134_5, pf134_5, gf134_6, gf134_7, gf134_8, gf134_9, pf134_9, gf134_10, gf134_11, gf134_12, gf134_13, gf134_14, gf134_15, gf134_16, gi120, pi120, li120, gi131, pi131, li131, gi132, pi132, li132, gi136, pi136, li136, gi138, pi138, li138, gi139, pi139, li139, gi140, pi140, li140, gi141, pi141, li141, gi142, pi142, li142, gi144, pi144, li144, gi145, pi145, li145, gj133, pj133, lj133, gj137, pj137, lj137, gj143, pj143, lj143, gj146, pj146, lj146, gA121, gAq, oo_s, gfs_0, gfs_1, gfs_2, pfs_0, pfs_1, gjs, ljs, pjs, oo_h, gfh_0, gfh_1, gfh_2, pfh_1, pfh_2, r108 h0, isB_t (show Y 0 0 ≤ 1000 by omega) hb, r104I (show 0 < 2 ^ 31 by decide) (show 8 < 2 ^ 31 by decide), isI_nI (show n < 2 ^ 31 by omega) (Nat.zero_le n) hn, r104I (show 0 < 2 ^ 31 by decide) (show 10 < 2 ^ 31 by decide), isI_nI (show c < 2 ^ 31 by omega) (Nat.zero_le c) hc, r104I (show 0 < 2 ^ 31 by decide) (show 1 < 2 ^ 31 by decide), isI_nI (show w < 2 ^ 31 by omega) (Nat.zero_le w) hw, n_bn0, Bool.true_eq_false, e1]
  simp only [q164_74, q164_75, e]
  rfl
end MS
