/-! ===== the class's House: copies, marks, how far apart ===== -/
def cpr (x y : Nat → Nat) (c : Nat) : Nat → Nat := fun i => if c ≤ i ∧ i < c + 6 then y i else x i
def fgt (x : Nat → Nat) : Nat → Nat := fun i => if 12 ≤ i ∧ i < 18 then 0 else x i
theorem n_min {a b : Nat} (ha : a < 2 ^ 31) (hb : b < 2 ^ 31) : ax_min (nI a) (nI b) = nI (min a b) := by
  unfold ax_min
  by_cases h : b < a
  · rw [if_pos ((n_lt hb ha).mpr h)]; congr 1; omega
  · rw [if_neg (fun e => h ((n_lt hb ha).mp e))]; congr 1; omega
theorem n_max {a b : Nat} (ha : a < 2 ^ 31) (hb : b < 2 ^ 31) : ax_max (nI a) (nI b) = nI (max a b) := by
  unfold ax_max
  by_cases h : a < b
  · rw [if_pos ((n_lt ha hb).mpr h)]; congr 1; omega
  · rw [if_neg (fun e => h ((n_lt ha hb).mp e))]; congr 1; omega
def mkF (x : Nat → Nat) : Nat → Nat → Nat → Nat
  | _, 0, acc => acc
  | i, n + 1, acc => mkF x (i + 1) n (acc * 32 + x (6 + i))
def mark0 (x : Nat → Nat) : Nat := ((x 1 % x 0 * 5 + x 1 % 5) * 5 + min (x 3) 4) * 7 + min (x 2) 6
def mark_ (x : Nat → Nat) : Nat := mkF x 0 (x 0) (mark0 x)
def sxF (x : Nat → Nat) : Nat → Nat → Nat → Nat → Nat
  | _, 0, a, b => a - b
  | i, n + 1, a, b => sxF x (i + 1) n (max a (x (12 + i))) (min b (x (12 + i)))
section H4
variable {X Y : Nat → Nat → Nat} {sc : Nat → Nat → Int32} {ai : Nat → Nat → Int32} {aj : Nat → Nat → Int64} {j : Nat}
theorem hcell_ext {x y : Nat → Nat} (h : ∀ i, i < 36 → x i = y i) (j k : Nat) : hcell x j k = hcell y j k := by
  have e : ∀ c, c ≤ 30 → hrow x c = hrow y c := fun c hc => by
    funext i; unfold hrow; by_cases hi : i < 6
    · rw [if_pos hi, if_pos hi, h _ (by omega)]
    · rw [if_neg hi, if_neg hi]
  unfold hcell
  split
  · rw [h 0 (by omega), h 1 (by omega), h 2 (by omega), h 3 (by omega), h 4 (by omega), h 5 (by omega)]
  · rw [e 24 (by omega)]
  · rw [e 30 (by omega)]
  · rw [e 6 (by omega)]
  · rw [e 12 (by omega)]
  · rw [e 18 (by omega)]
theorem hp_ext {x y : Nat → Nat} (h : ∀ i, i < 36 → x i = y i) : hp (upX X j x) Y sc ai aj = hp (upX X j y) Y sc ai aj := by
  funext a
  unfold hp
  by_cases h1 : a < 114
  · rw [if_pos h1, if_pos h1]
    by_cases h2 : a / 6 = j
    · rw [h2, upX_s, upX_s]; exact hcell_ext h _ _
    · rw [upX_n h2, upX_n h2]
  · rw [if_neg h1, if_neg h1]
theorem cpr_row {x y : Nat → Nat} {c : Nat} : va_cpy (hrow y c) (hrow x c) 0 0 6 = hrow (cpr x y c) c := by
  funext i; unfold va_cpy hrow cpr; by_cases hi : i < 6
  · rw [if_pos (by omega), if_pos (by omega), if_pos hi, if_pos (by omega)]; congr 2; omega
  · rw [if_neg (by omega), if_neg hi, if_neg hi]
theorem cpr_n {x y : Nat → Nat} {c d : Nat} (h : c + 6 ≤ d ∨ d + 6 ≤ c) : hrow (cpr x y c) d = hrow x d := by
  funext i; unfold hrow cpr; by_cases hi : i < 6
  · rw [if_pos hi, if_pos hi, if_neg (by omega)]
  · rw [if_neg hi, if_neg hi]
theorem cpI {h : ax_H} {a0 a1 n : Nat} {f g : Nat → Int32} {h' : ax_H} (e0 : h a0 = .inl (0, n, .inl f)) (e1 : h a1 = .inl (0, n, .inl g)) (l0 : a0 < ax_NC) (l1 : a1 < ax_NC) (hn : 6 ≤ n) (hh : ax_up h a1 (.inl (0, n, .inl (va_cpy f g 0 0 6))) = h') : ax_cpyI h a0 a1 (nI 0) (nI 0) (nI 6) = some h' := by
  unfold ax_cpyI
  rw [e0, e1]
  simp only [l0, l1, true_and]
  have c1 : (nI 0).toNatClampNeg = 0 := by decide
  have c2 : (nI 6).toNatClampNeg = 6 := by decide
  have c3 : ¬ nI 0 < 0 := by decide
  have c4 : ¬ nI 6 < 0 := by decide
  rw [c1, c2, if_pos ⟨c3, c3, c4, by omega, by omega⟩, hh]
theorem pc_kinds {o : Nat} (hj : j < 19) (ho : o < 19) : ax_cpyI (hp X Y sc ai aj) (ha o 1) (ha j 1) (nI 0) (nI 0) (nI 6) = some (hp (upX X j (cpr (X j) (X o) 24)) Y sc ai aj) := by
  refine cpI (f := hrow (X o) 24) (g := hrow (X j) 24) (hp_h (k := 1) ho (by decide)) (hp_h (k := 1) hj (by decide)) (ha_lt ho (by decide)) (ha_lt hj (by decide)) (by decide) ?_
  rw [cpr_row]
  refine hp_uh (k := 1) (x := cpr (X j) (X o) 24) hj (by decide) (fun i hi h0 => ?_)
  rcases (show i = 0 ∨ i = 2 ∨ i = 3 ∨ i = 4 ∨ i = 5 by omega) with rfl | rfl | rfl | rfl | rfl
  · simp [hcell, cpr]
  · simp only [hcell]; rw [cpr_n (by omega)]
  · simp only [hcell]; rw [cpr_n (by omega)]
  · simp only [hcell]; rw [cpr_n (by omega)]
  · simp only [hcell]; rw [cpr_n (by omega)]
theorem pc_prices {o : Nat} (hj : j < 19) (ho : o < 19) : ax_cpyI (hp X Y sc ai aj) (ha o 2) (ha j 2) (nI 0) (nI 0) (nI 6) = some (hp (upX X j (cpr (X j) (X o) 30)) Y sc ai aj) := by
  refine cpI (f := hrow (X o) 30) (g := hrow (X j) 30) (hp_h (k := 2) ho (by decide)) (hp_h (k := 2) hj (by decide)) (ha_lt ho (by decide)) (ha_lt hj (by decide)) (by decide) ?_
  rw [cpr_row]
  refine hp_uh (k := 2) (x := cpr (X j) (X o) 30) hj (by decide) (fun i hi h0 => ?_)
  rcases (show i = 0 ∨ i = 1 ∨ i = 3 ∨ i = 4 ∨ i = 5 by omega) with rfl | rfl | rfl | rfl | rfl
  · simp [hcell, cpr]
  · simp only [hcell]; rw [cpr_n (by omega)]
  · simp only [hcell]; rw [cpr_n (by omega)]
  · simp only [hcell]; rw [cpr_n (by omega)]
  · simp only [hcell]; rw [cpr_n (by omega)]
theorem pc_known {o : Nat} (hj : j < 19) (ho : o < 19) : ax_cpyI (hp X Y sc ai aj) (ha o 3) (ha j 3) (nI 0) (nI 0) (nI 6) = some (hp (upX X j (cpr (X j) (X o) 6)) Y sc ai aj) := by
  refine cpI (f := hrow (X o) 6) (g := hrow (X j) 6) (hp_h (k := 3) ho (by decide)) (hp_h (k := 3) hj (by decide)) (ha_lt ho (by decide)) (ha_lt hj (by decide)) (by decide) ?_
  rw [cpr_row]
  refine hp_uh (k := 3) (x := cpr (X j) (X o) 6) hj (by decide) (fun i hi h0 => ?_)
  rcases (show i = 0 ∨ i = 1 ∨ i = 2 ∨ i = 4 ∨ i = 5 by omega) with rfl | rfl | rfl | rfl | rfl
  · simp [hcell, cpr]
  · simp only [hcell]; rw [cpr_n (by omega)]
  · simp only [hcell]; rw [cpr_n (by omega)]
  · simp only [hcell]; rw [cpr_n (by omega)]
  · simp only [hcell]; rw [cpr_n (by omega)]
theorem pc_sights {o : Nat} (hj : j < 19) (ho : o < 19) : ax_cpyI (hp X Y sc ai aj) (ha o 4) (ha j 4) (nI 0) (nI 0) (nI 6) = some (hp (upX X j (cpr (X j) (X o) 12)) Y sc ai aj) := by
  refine cpI (f := hrow (X o) 12) (g := hrow (X j) 12) (hp_h (k := 4) ho (by decide)) (hp_h (k := 4) hj (by decide)) (ha_lt ho (by decide)) (ha_lt hj (by decide)) (by decide) ?_
  rw [cpr_row]
  refine hp_uh (k := 4) (x := cpr (X j) (X o) 12) hj (by decide) (fun i hi h0 => ?_)
  rcases (show i = 0 ∨ i = 1 ∨ i = 2 ∨ i = 3 ∨ i = 5 by omega) with rfl | rfl | rfl | rfl | rfl
  · simp [hcell, cpr]
  · simp only [hcell]; rw [cpr_n (by omega)]
  · simp only [hcell]; rw [cpr_n (by omega)]
  · simp only [hcell]; rw [cpr_n (by omega)]
  · simp only [hcell]; rw [cpr_n (by omega)]
theorem pc_places {o : Nat} (hj : j < 19) (ho : o < 19) : ax_cpyI (hp X Y sc ai aj) (ha o 5) (ha j 5) (nI 0) (nI 0) (nI 6) = some (hp (upX X j (cpr (X j) (X o) 18)) Y sc ai aj) := by
  refine cpI (f := hrow (X o) 18) (g := hrow (X j) 18) (hp_h (k := 5) ho (by decide)) (hp_h (k := 5) hj (by decide)) (ha_lt ho (by decide)) (ha_lt hj (by decide)) (by decide) ?_
  rw [cpr_row]
  refine hp_uh (k := 5) (x := cpr (X j) (X o) 18) hj (by decide) (fun i hi h0 => ?_)
  rcases (show i = 0 ∨ i = 1 ∨ i = 2 ∨ i = 3 ∨ i = 4 by omega) with rfl | rfl | rfl | rfl | rfl
  · simp [hcell, cpr]
  · simp only [hcell]; rw [cpr_n (by omega)]
  · simp only [hcell]; rw [cpr_n (by omega)]
  · simp only [hcell]; rw [cpr_n (by omega)]
  · simp only [hcell]; rw [cpr_n (by omega)]
/-- takeFrom -/
theorem r9 {o : Nat} (hj : j < 19) (ho : o < 19) (hne : ¬ o = j) : ax_res 9 0 [some (.ref (ha j 0)), some (.ref (ha o 0))] [] (hp X Y sc ai aj) = some (none, hp (upX X j (X o)) Y sc ai aj) := by
  simp only [q9_0, q9_1, q9_2, q9_5, q9_8, q9_9, q9_12, q9_13, q9_14, q9_17, q9_18, q9_20, q9_23, q9_24, q9_27, q9_28, q9_29, q9_32, q9_33, q9_35, q9_38, q9_39, q9_42, q9_43, q9_44, q9_47, q9_48, q9_50, q9_53, q9_54, q9_57, q9_58, q9_59, q9_62, q9_63, q9_65, q9_68, q9_69, q9_72, q9_73, q9_74, q9_77, q9_78, q9_80, q9_83, q9_84, q9_85, q9_88, q9_91, q9_92, q9_93, q9_96, q9_99, q9_100, q9_101, q9_104, q9_107, q9_108, q9_109, q9_112, q9_115, q9_116, q9_117, q9_120, q9_123, ↓reduceIte, ax_bV_s, ax_bI_s, ax_bJ_s, ax_bA_s, ax_bH_s, ax_bR_s, ax_bR_n, gh_people, gh_here, gh_sat, gh_minute, gh_draw, gh_sitter, gh_kinds, gh_prices, gh_known, gh_sights, gh_places, ga_kinds, ga_prices, ga_known, ga_sights, ga_places, oh, ph_people, ph_here, ph_sat, ph_minute, ph_draw, ph_sitter, ph_nobody, pa_kinds, pa_prices, pa_known, pa_sights, pa_places, upX_s, upX_u, ph_sitterV, hj, ho, upX_n hne, pc_kinds, pc_prices, pc_known, pc_sights, pc_places]
  congr 2
  refine hp_ext (fun i hi => ?_)
  simp only [up1, cpr]
  repeat' split
  all_goals first | rfl | (subst_vars; rfl) | (exfalso; omega)
/-- forgetSights, Arrays.fill -/
theorem r11 (hj : j < 19) : ax_res 11 0 [some (.ref (ha j 0))] [] (hp X Y sc ai aj) = some (none, hp (upX X j (fgt (X j))) Y sc ai aj) := by
  have hl : ∀ X : Nat → Nat → Nat, ax_lenA (hp X Y sc ai aj) (ha j 4) = some (nI 6) := fun X => lA (x := (6, .inl (hrow (X j) 12))) (hp_h (k := 4) hj (by decide)) (ha_lt hj (by decide)) (by decide)
  have c : ∀ a b, a < 100 → b < 100 → ((nI a ≤ nI b) ↔ a ≤ b) := fun a b h1 h2 => n_le (by omega) (by omega)
  simp only [q11_0, q11_1, q11_4, q11_5, q11_8, q180_0, q180_1, q180_2, q180_3, q180_4, q180_5, q180_6, q180_7, q180_10, q180_11, q180_12, q180_13, q180_14, q180_17, q180_20, ↓reduceIte, ax_bV_s, ax_bI_s, ax_bJ_s, ax_bA_s, ax_bH_s, ax_bR_s, ax_bR_n, gh_people, gh_here, gh_sat, gh_minute, gh_draw, gh_sitter, gh_kinds, gh_prices, gh_known, gh_sights, gh_places, ga_kinds, ga_prices, ga_known, ga_sights, ga_places, oh, ph_people, ph_here, ph_sat, ph_minute, ph_draw, ph_sitter, ph_nobody, pa_kinds, pa_prices, pa_known, pa_sights, pa_places, upX_s, upX_u, hj, hl, nI_add, Nat.reduceAdd, c 6 0 (by decide) (by decide), c 6 1 (by decide) (by decide), c 6 2 (by decide) (by decide), c 6 3 (by decide) (by decide), c 6 4 (by decide) (by decide), c 6 5 (by decide) (by decide), c 6 6 (by decide) (by decide), Nat.reduceLeDiff, show (0 : Nat) < 6 by decide, show (1 : Nat) < 6 by decide, show (2 : Nat) < 6 by decide, show (3 : Nat) < 6 by decide, show (4 : Nat) < 6 by decide, show (5 : Nat) < 6 by decide, show ((6 : Nat) ≤ 0) = False by decide]
  congr 2
  refine hp_ext (fun i hi => ?_)
  simp only [up1, fgt]
  repeat' split
  all_goals first | rfl | (exfalso; omega)
/-- mark -/
theorem mkF_lt (n : Nat) : ∀ (x : Nat → Nat) (i acc : Nat), (∀ b, i ≤ b → b < i + n → x (6 + b) < 32) → mkF x i n acc < (acc + 1) * 32 ^ n := by
  induction n with
  | zero => intro x i acc h; simp [mkF]
  | succ n ih =>
    intro x i acc h
    have h1 := ih x (i + 1) (acc * 32 + x (6 + i)) (fun b hb hb2 => h b (by omega) (by omega))
    have h2 := h i (by omega) (by omega)
    show mkF x (i + 1) n (acc * 32 + x (6 + i)) < _
    refine Nat.lt_of_lt_of_le h1 ?_
    rw [Nat.pow_succ, Nat.mul_comm (32 ^ n) 32, ← Nat.mul_assoc]
    exact Nat.mul_le_mul_right _ (by omega)
theorem r29_l (n : Nat) : ∀ (i acc : Nat), i + n = X j 0 → j < 19 → Inv (X j) → ax_res 29 78 [some (.ref (ha j 0)), some (.long (lN acc)), none, some (.int (nI i))] [] (hp X Y sc ai aj) = some (some (.long (lN (mkF (X j) i n acc))), hp X Y sc ai aj) := by
  induction n with
  | zero =>
    intro i acc hi hj hI
    have h0 := hI.1
    simp only [q29_0, q29_1, q29_4, q29_7, q29_8, q29_11, q29_12, q29_15, q29_16, q29_17, q29_20, q29_21, q29_22, q29_23, q29_26, q29_27, q29_28, q29_31, q29_32, q29_33, q29_34, q29_35, q29_36, q29_37, q29_40, q29_41, q29_42, q29_45, q29_46, q29_49, q29_50, q29_51, q29_52, q29_53, q29_56, q29_57, q29_58, q29_61, q29_64, q29_65, q29_68, q29_71, q29_73, q29_74, q29_75, q29_76, q29_77, q29_78, q29_79, q29_80, q29_83, q29_86, q29_87, q29_90, q29_91, q29_92, q29_95, q29_96, q29_97, q29_98, q29_99, q29_100, q29_103, q29_106, q29_107, ↓reduceIte, ax_bV_s, ax_bI_s, ax_bJ_s, ax_bA_s, ax_bH_s, ax_bR_s, ax_bR_n, gh_people, gh_here, gh_sat, gh_minute, gh_draw, gh_sitter, gh_kinds, gh_prices, gh_known, gh_sights, gh_places, ga_kinds, ga_prices, ga_known, ga_sights, ga_places, oh, hj, n_le (show X j 0 < 2 ^ 31 by omega) (show i < 2 ^ 31 by omega), show X j 0 ≤ i by omega]
    rfl
  | succ n ih =>
    intro i acc hi hj hI
    have h0 := hI.1
    have h5 := hI.2.2.2.2.2 i (by omega)
    have e := ih (i + 1) (acc * 32 + X j (6 + i)) (by omega) hj hI
    rw [q29_78]
    simp only [q29_0, q29_1, q29_4, q29_7, q29_8, q29_11, q29_12, q29_15, q29_16, q29_17, q29_20, q29_21, q29_22, q29_23, q29_26, q29_27, q29_28, q29_31, q29_32, q29_33, q29_34, q29_35, q29_36, q29_37, q29_40, q29_41, q29_42, q29_45, q29_46, q29_49, q29_50, q29_51, q29_52, q29_53, q29_56, q29_57, q29_58, q29_61, q29_64, q29_65, q29_68, q29_71, q29_73, q29_74, q29_75, q29_76, q29_77, q29_79, q29_80, q29_83, q29_86, q29_87, q29_90, q29_91, q29_92, q29_95, q29_96, q29_97, q29_98, q29_99, q29_100, q29_103, q29_106, q29_107, ↓reduceIte, ax_bV_s, ax_bI_s, ax_bJ_s, ax_bA_s, ax_bH_s, ax_bR_s, ax_bR_n, gh_people, gh_here, gh_sat, gh_minute, gh_draw, gh_sitter, gh_kinds, gh_prices, gh_known, gh_sights, gh_places, ga_kinds, ga_prices, ga_known, ga_sights, ga_places, oh, hj, n_le (show X j 0 < 2 ^ 31 by omega) (show i < 2 ^ 31 by omega), show ¬ X j 0 ≤ i by omega, show i < 6 by omega, nI_l (show X j (6 + i) < 2 ^ 31 by omega), lN_mul, lN_add, nI_add, e, mkF]
theorem r29 (hj : j < 19) (hI : Inv (X j)) (hm : X j 1 < 20000) (hN : 0 < X j 0) : ax_res 29 0 [some (.ref (ha j 0)), none, none, none] [] (hp X Y sc ai aj) = some (some (.long (lN (mark_ (X j)))), hp X Y sc ai aj) := by
  have h0 := hI.1
  have h3 := hI.2.2.1
  have hmod : X j 1 % X j 0 < X j 0 := Nat.mod_lt _ hN
  have z5 : ¬ nI 5 = 0 := by decide
  have e := r29_l (X := X) (Y := Y) (sc := sc) (ai := ai) (aj := aj) (j := j) (X j 0) 0 (mark0 (X j)) (by omega) hj hI
  unfold mark_
  unfold mark0 at e ⊢
  by_cases c : X j 2 < 6
  · have c' : ¬ nI (X j 2) < 0 := by rw [n_lt0 (by omega)]; exact id
    rw [show min (X j 2) 6 = X j 2 by omega] at e ⊢
    simp only [q29_0, q29_1, q29_4, q29_7, q29_8, q29_11, q29_12, q29_15, q29_16, q29_17, q29_20, q29_21, q29_22, q29_23, q29_26, q29_27, q29_28, q29_31, q29_32, q29_33, q29_34, q29_35, q29_36, q29_37, q29_40, q29_41, q29_42, q29_45, q29_46, q29_49, q29_50, q29_51, q29_52, q29_53, q29_56, q29_57, q29_58, q29_61, q29_64, q29_65, q29_68, q29_71, q29_73, q29_74, q29_75, q29_76, q29_77, q29_79, q29_80, q29_83, q29_86, q29_87, q29_90, q29_91, q29_92, q29_95, q29_96, q29_97, q29_98, q29_99, q29_100, q29_103, q29_106, q29_107, ↓reduceIte, ax_bV_s, ax_bI_s, ax_bJ_s, ax_bA_s, ax_bH_s, ax_bR_s, ax_bR_n, gh_people, gh_here, gh_sat, gh_minute, gh_draw, gh_sitter, gh_kinds, gh_prices, gh_known, gh_sights, gh_places, ga_kinds, ga_prices, ga_known, ga_sights, ga_places, oh, hj, n_le0 (show X j 0 < 2 ^ 31 by omega), show ¬ X j 0 = 0 by omega, n_ne0 hN (by omega), not_false_eq_true, n_rem (show X j 1 < 2 ^ 31 by omega) hN (by omega), n_rem (show X j 1 < 2 ^ 31 by omega) (show 0 < 5 by decide) (by decide), z5, nI_l (show X j 1 % X j 0 < 2 ^ 31 by omega), nI_l (show X j 1 % 5 < 2 ^ 31 by omega), lN_mul, lN_add, n_min (show X j 3 < 2 ^ 31 by omega) (show 4 < 2 ^ 31 by decide), nI_l (show min (X j 3) 4 < 2 ^ 31 by omega), sv_of c, c', nI_l (show X j 2 < 2 ^ 31 by omega), e]
  · have c' : sv (X j 2) < 0 := sv_lt.mpr c
    rw [show min (X j 2) 6 = 6 by omega] at e ⊢
    simp only [q29_0, q29_1, q29_4, q29_7, q29_8, q29_11, q29_12, q29_15, q29_16, q29_17, q29_20, q29_21, q29_22, q29_23, q29_26, q29_27, q29_28, q29_31, q29_32, q29_33, q29_34, q29_35, q29_36, q29_37, q29_40, q29_41, q29_42, q29_45, q29_46, q29_49, q29_50, q29_51, q29_52, q29_53, q29_56, q29_57, q29_58, q29_61, q29_64, q29_65, q29_68, q29_71, q29_73, q29_74, q29_75, q29_76, q29_77, q29_79, q29_80, q29_83, q29_86, q29_87, q29_90, q29_91, q29_92, q29_95, q29_96, q29_97, q29_98, q29_99, q29_100, q29_103, q29_106, q29_107, ↓reduceIte, ax_bV_s, ax_bI_s, ax_bJ_s, ax_bA_s, ax_bH_s, ax_bR_s, ax_bR_n, gh_people, gh_here, gh_sat, gh_minute, gh_draw, gh_sitter, gh_kinds, gh_prices, gh_known, gh_sights, gh_places, ga_kinds, ga_prices, ga_known, ga_sights, ga_places, oh, hj, n_le0 (show X j 0 < 2 ^ 31 by omega), show ¬ X j 0 = 0 by omega, n_ne0 hN (by omega), not_false_eq_true, n_rem (show X j 1 < 2 ^ 31 by omega) hN (by omega), n_rem (show X j 1 < 2 ^ 31 by omega) (show 0 < 5 by decide) (by decide), z5, nI_l (show X j 1 % X j 0 < 2 ^ 31 by omega), nI_l (show X j 1 % 5 < 2 ^ 31 by omega), lN_mul, lN_add, n_min (show X j 3 < 2 ^ 31 by omega) (show 4 < 2 ^ 31 by decide), nI_l (show min (X j 3) 4 < 2 ^ 31 by omega), c', nI_l (show 6 < 2 ^ 31 by decide), e]
/-- sightsApart -/
theorem r30_l (n : Nat) : ∀ (i a b : Nat), i + n = X j 0 → j < 19 → Inv (X j) → X j 1 < 20000 → a ≤ 20000 → b ≤ a → ax_res 30 16 [some (.ref (ha j 0)), some (.int (nI a)), some (.int (nI b)), some (.int (nI i))] [] (hp X Y sc ai aj) = some (some (.int (nI (sxF (X j) i n a b))), hp X Y sc ai aj) := by
  induction n with
  | zero =>
    intro i a b hi hj hI hm ha hb
    have h0 := hI.1
    simp only [q30_0, q30_1, q30_4, q30_5, q30_6, q30_7, q30_8, q30_11, q30_12, q30_13, q30_14, q30_15, q30_16, q30_17, q30_18, q30_21, q30_24, q30_25, q30_26, q30_29, q30_30, q30_31, q30_34, q30_35, q30_36, q30_37, q30_40, q30_41, q30_42, q30_45, q30_46, q30_49, q30_52, q30_53, q30_54, q30_55, ↓reduceIte, ax_bV_s, ax_bI_s, ax_bJ_s, ax_bA_s, ax_bH_s, ax_bR_s, ax_bR_n, gh_people, gh_here, gh_sat, gh_minute, gh_draw, gh_sitter, gh_kinds, gh_prices, gh_known, gh_sights, gh_places, ga_kinds, ga_prices, ga_known, ga_sights, ga_places, oh, hj, n_le (show X j 0 < 2 ^ 31 by omega) (show i < 2 ^ 31 by omega), show X j 0 ≤ i by omega, n_sub hb, sxF]
  | succ n ih =>
    intro i a b hi hj hI hm ha hb
    have h0 := hI.1
    have h5 := hI.2.2.2.2.2 i (by omega)
    have e := ih (i + 1) (max a (X j (12 + i))) (min b (X j (12 + i))) (by omega) hj hI hm (by omega) (by omega)
    rw [q30_16]
    simp only [q30_0, q30_1, q30_4, q30_5, q30_6, q30_7, q30_8, q30_11, q30_12, q30_13, q30_14, q30_15, q30_17, q30_18, q30_21, q30_24, q30_25, q30_26, q30_29, q30_30, q30_31, q30_34, q30_35, q30_36, q30_37, q30_40, q30_41, q30_42, q30_45, q30_46, q30_49, q30_52, q30_53, q30_54, q30_55, ↓reduceIte, ax_bV_s, ax_bI_s, ax_bJ_s, ax_bA_s, ax_bH_s, ax_bR_s, ax_bR_n, gh_people, gh_here, gh_sat, gh_minute, gh_draw, gh_sitter, gh_kinds, gh_prices, gh_known, gh_sights, gh_places, ga_kinds, ga_prices, ga_known, ga_sights, ga_places, oh, hj, n_le (show X j 0 < 2 ^ 31 by omega) (show i < 2 ^ 31 by omega), show ¬ X j 0 ≤ i by omega, show i < 6 by omega, n_max (show a < 2 ^ 31 by omega) (show X j (12 + i) < 2 ^ 31 by omega), n_min (show b < 2 ^ 31 by omega) (show X j (12 + i) < 2 ^ 31 by omega), nI_add, e, sxF]
theorem r30 (hj : j < 19) (hI : Inv (X j)) (hm : X j 1 < 20000) (hN : 0 < X j 0) : ax_res 30 0 [some (.ref (ha j 0)), none, none, none] [] (hp X Y sc ai aj) = some (some (.int (nI (sxF (X j) 1 (X j 0 - 1) (X j 12) (X j 12)))), hp X Y sc ai aj) := by
  have h5 := hI.2.2.2.2.2 0 hN
  have e := r30_l (X := X) (Y := Y) (sc := sc) (ai := ai) (aj := aj) (j := j) (X j 0 - 1) 1 (X j (12 + 0)) (X j (12 + 0)) (by omega) hj hI hm (by omega) (Nat.le_refl _)
  simp only [q30_0, q30_1, q30_4, q30_5, q30_6, q30_7, q30_8, q30_11, q30_12, q30_13, q30_14, q30_15, ↓reduceIte, ax_bV_s, ax_bI_s, ax_bJ_s, ax_bA_s, ax_bH_s, ax_bR_s, ax_bR_n, gh_people, gh_here, gh_sat, gh_minute, gh_draw, gh_sitter, gh_kinds, gh_prices, gh_known, gh_sights, gh_places, ga_kinds, ga_prices, ga_known, ga_sights, ga_places, oh, hj, show (0 : Nat) < 6 by decide, e]
end H4
