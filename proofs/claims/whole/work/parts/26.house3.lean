/-! ===== the class's House: the rest ===== -/
theorem n_1shl : ∀ k, k < 31 → nI 1 <<< (nI k &&& 31) = nI (2 ^ k) := by decide +kernel
def hom (h b : Nat) : Nat := h &&& (63 ^^^ 2 ^ b)
theorem hom_S : ∀ h, h < 64 → ∀ b, b < 6 → nI h &&& (nI (2 ^ b) ^^^ (-1)) = nI (hom h b) := by decide +kernel
theorem hom_lt : ∀ n, n ≤ 6 → ∀ h, h < 2 ^ n → ∀ b, b < 6 → hom h b < 2 ^ n := by decide +kernel
theorem or_lt : ∀ n, n ≤ 6 → ∀ h, h < 2 ^ n → ∀ b, b < n → h ||| 2 ^ b < 2 ^ n := by decide +kernel
theorem or_lt1 : ∀ n, n < 6 → ∀ h, h < 2 ^ n → h ||| 2 ^ n < 2 ^ (n + 1) := by decide +kernel
theorem or_lt5 : ∀ a, a < 32 → ∀ k, k < 5 → a ||| 2 ^ k < 32 := by decide +kernel
def pop (a : Nat) : Nat := a % 2 + a / 2 % 2 + a / 4 % 2 + a / 8 % 2 + a / 16 % 2 + a / 32 % 2 + a / 64 % 2 + a / 128 % 2
def tea (x : Nat → Nat) (b k : Nat) : Nat → Nat := up1 x (6 + b) (x (6 + b) ||| 2 ^ k)
def emp (x : Nat → Nat) : Nat → Nat := up1 (up1 x 2 6) 3 0
def snd (x : Nat → Nat) (b : Nat) : Nat → Nat := if x 2 = b then emp (up1 x 4 (hom (x 4) b)) else up1 x 4 (hom (x 4) b)
def addb (x : Nat → Nat) (k p t : Nat) : Nat → Nat := up1 (up1 (up1 (up1 (up1 (up1 (up1 x (24 + x 0) k) (30 + x 0) p) (6 + x 0) t) (12 + x 0) 0) (18 + x 0) (x 0)) 4 (x 4 ||| 2 ^ x 0)) 0 (x 0 + 1)
def ones_ (x : Nat → Nat) : Nat → Nat → Nat
  | _, 0 => 0
  | i, n + 1 => pop (x (6 + i)) + ones_ x (i + 1) n
def plc (x : Nat → Nat) (b : Nat) : Nat → Nat → Nat
  | _, 0 => 6
  | i, n + 1 => if x (18 + i) = b then i else plc x b (i + 1) n
def ous (x : Nat → Nat) (b : Nat) : Nat → Nat → Nat → Nat
  | _, 0, acc => acc
  | i, n + 1, acc => ous x b (i + 1) n (if ¬ i = b ∧ (x 4).testBit i = true ∧ oust x b i (x 3) = true then acc ||| 2 ^ i else acc)
def rumd (d : Nat) : Nat := (d * 1103515245 + 12345) % 2147483648
def rum (x : Nat → Nat) : Nat → Nat :=
  if x 0 = 0 then up1 x 5 (rumd (x 5)) else
  if (x 4).testBit (rumd (x 5) / 65536 % x 0) = true then tea (up1 x 5 (rumd (x 5))) (rumd (x 5) / 65536 % x 0) (rumd (x 5) / 128 % 5) else up1 x 5 (rumd (x 5))
theorem n_and31 (n : Nat) : nI n &&& nI 2147483647 = nI (n % 2147483648) := by
  rw [pk_and (nI n) 31 (by decide)]
  congr 1
  rw [n_bv, BitVec.toNat_ofNat]
  omega
theorem n_div {a d : Nat} (ha : a < 2 ^ 31) (h0 : 0 < d) (hd : d < 2 ^ 31) : nI a / nI d = nI (a / d) := pk_div ha h0 hd
/-- Integer.bitCount of small numbers -/
def us_ (x : Int32) (k : Nat) : Int32 := (x.toUInt32 >>> ((nI k).toUInt32 &&& Int32.toUInt32 31)).toInt32
def bc1 (x : Int32) : Int32 := x - (us_ x 1 &&& nI 1431655765)
def bc2 (x : Int32) : Int32 := (x &&& nI 858993459) + (us_ x 2 &&& nI 858993459)
def bc3 (x : Int32) : Int32 := x + us_ x 4 &&& nI 252645135
def bc4 (x : Int32) : Int32 := x + us_ x 8
def bc5 (x : Int32) : Int32 := x + us_ x 16
theorem pop_S : ∀ a, a < 256 → bc5 (bc4 (bc3 (bc2 (bc1 (nI a))))) &&& nI 63 = nI (pop a) := by decide +kernel
section H3
variable {X Y : Nat → Nat → Nat} {sc : Nat → Nat → Int32} {ai : Nat → Nat → Int32} {aj : Nat → Nat → Int64} {j : Nat}
theorem r179 (h : ax_H) : ∀ a, a < 256 → ax_res 179 0 [some (.int (nI a))] [] h = some (some (.int (nI (pop a))), h) := by
  intro a ha
  rw [← pop_S a ha]
  simp only [q179_0, q179_1, q179_2, q179_3, q179_4, q179_7, q179_8, q179_9, q179_10, q179_11, q179_14, q179_15, q179_16, q179_17, q179_18, q179_21, q179_22, q179_23, q179_24, q179_25, q179_26, q179_27, q179_28, q179_29, q179_32, q179_33, q179_34, q179_35, q179_36, q179_38, q179_39, q179_40, q179_41, q179_42, q179_43, q179_45, q179_46, q179_47, q179_48, q179_49, q179_51, q179_52]
  rfl
/-- teach -/
theorem r15 {b k : Nat} (hj : j < 19) (hb : b < 6) (hk : k < 31) : ax_res 15 0 [some (.ref (ha j 0)), some (.int (nI b)), some (.int (nI k))] [] (hp X Y sc ai aj) = some (none, hp (upX X j (tea (X j) b k)) Y sc ai aj) := by
  simp only [q15_0, q15_1, q15_4, q15_5, q15_6, q15_7, q15_8, q15_9, q15_10, q15_11, q15_12, ↓reduceIte, ax_bV_s, ax_bI_s, ax_bJ_s, ax_bA_s, ax_bH_s, ax_bR_s, ax_bR_n, gh_people, gh_here, gh_sat, gh_minute, gh_draw, gh_sitter, gh_kinds, gh_prices, gh_known, gh_sights, gh_places, ga_kinds, ga_prices, ga_known, ga_sights, ga_places, oh, ph_people, ph_here, ph_sat, ph_minute, ph_draw, ph_sitter, ph_nobody, pa_kinds, pa_prices, pa_known, pa_sights, pa_places, upX_s, upX_u, hj, hb, n_1shl k hk, n_or]
  rfl
/-- clear -/
theorem r10 (hj : j < 19) : ax_res 10 0 [some (.ref (ha j 0))] [] (hp X Y sc ai aj) = some (none, hp (upX X j (emp (up1 (up1 (up1 (X j) 0 0) 4 0) 1 0))) Y sc ai aj) := by
  simp only [q10_0, q10_1, q10_2, q10_5, q10_6, q10_7, q10_10, q10_11, q10_12, q10_15, q10_16, q10_19, ↓reduceIte, ax_bV_s, ax_bI_s, ax_bJ_s, ax_bA_s, ax_bH_s, ax_bR_s, ax_bR_n, gh_people, gh_here, gh_sat, gh_minute, gh_draw, gh_sitter, gh_kinds, gh_prices, gh_known, gh_sights, gh_places, ga_kinds, ga_prices, ga_known, ga_sights, ga_places, oh, ph_people, ph_here, ph_sat, ph_minute, ph_draw, ph_sitter, ph_nobody, pa_kinds, pa_prices, pa_known, pa_sights, pa_places, upX_s, upX_u, hj, r24 hj]
  rfl
/-- add -/
theorem r12 {k p t : Nat} (hj : j < 19) (h0 : X j 0 < 6) : ax_res 12 0 [some (.ref (ha j 0)), some (.int (nI k)), some (.int (nI p)), some (.int (nI t)), none] [] (hp X Y sc ai aj) = some (some (.int (nI (X j 0))), hp (upX X j (addb (X j) k p t)) Y sc ai aj) := by
  have e0 : X j 0 < 2 ^ 31 := by omega
  simp only [q12_0, q12_1, q12_4, q12_6, q12_8, q12_10, q12_13, q12_15, q12_16, q12_17, q12_20, q12_22, q12_23, q12_24, q12_25, q12_28, q12_30, q12_31, q12_32, q12_33, q12_36, q12_38, q12_39, q12_40, q12_41, q12_44, q12_46, q12_47, q12_48, q12_49, q12_52, q12_54, q12_56, q12_57, q12_58, q12_59, q12_62, q12_63, q12_65, q12_66, q12_67, q12_70, q12_71, q12_72, q12_75, q12_76, q12_77, q12_80, q12_82, ↓reduceIte, ax_bV_s, ax_bI_s, ax_bJ_s, ax_bA_s, ax_bH_s, ax_bR_s, ax_bR_n, gh_people, gh_here, gh_sat, gh_minute, gh_draw, gh_sitter, gh_kinds, gh_prices, gh_known, gh_sights, gh_places, ga_kinds, ga_prices, ga_known, ga_sights, ga_places, oh, ph_people, ph_here, ph_sat, ph_minute, ph_draw, ph_sitter, ph_nobody, pa_kinds, pa_prices, pa_known, pa_sights, pa_places, upX_s, upX_u, hj, h0, n_lt e0 (show 6 < 2 ^ 31 by decide), if_true, n_1shl _ (show X j 0 < 31 by omega), n_or, nI_add]
  simp [up1, addb, show ¬ 4 = 18 + X j 0 by omega, show ¬ 4 = 12 + X j 0 by omega, show ¬ 4 = 6 + X j 0 by omega, show ¬ 4 = 30 + X j 0 by omega, show ¬ 4 = 24 + X j 0 by omega, show ¬ 0 = 18 + X j 0 by omega, show ¬ 0 = 12 + X j 0 by omega, show ¬ 0 = 6 + X j 0 by omega, show ¬ 0 = 30 + X j 0 by omega, show ¬ 0 = 24 + X j 0 by omega]
/-- sendHome -/
theorem r25 {b : Nat} (hj : j < 19) (hb : b < 6) (h4 : X j 4 < 64) : ax_res 25 0 [some (.ref (ha j 0)), some (.int (nI b))] [] (hp X Y sc ai aj) = some (none, hp (upX X j (snd (X j) b)) Y sc ai aj) := by
  unfold snd
  by_cases c : X j 2 = b
  · simp only [q25_0, q25_1, q25_2, q25_5, q25_6, q25_7, q25_8, q25_9, q25_10, q25_11, q25_14, q25_15, q25_18, q25_19, q25_22, q25_23, q25_26, ↓reduceIte, ax_bV_s, ax_bI_s, ax_bJ_s, ax_bA_s, ax_bH_s, ax_bR_s, ax_bR_n, gh_people, gh_here, gh_sat, gh_minute, gh_draw, gh_sitter, gh_kinds, gh_prices, gh_known, gh_sights, gh_places, ga_kinds, ga_prices, ga_known, ga_sights, ga_places, oh, ph_people, ph_here, ph_sat, ph_minute, ph_draw, ph_sitter, ph_nobody, pa_kinds, pa_prices, pa_known, pa_sights, pa_places, upX_s, upX_u, hj, r24 hj, n_1shl b (show b < 31 by omega), hom_S _ h4 b hb, up1_n (show ¬ 2 = 4 by decide), eq_true ((sv_eq hb).mpr c), if_true, if_pos c]
    rfl
  · simp only [q25_0, q25_1, q25_2, q25_5, q25_6, q25_7, q25_8, q25_9, q25_10, q25_11, q25_14, q25_15, q25_18, q25_19, q25_22, q25_23, q25_26, ↓reduceIte, ax_bV_s, ax_bI_s, ax_bJ_s, ax_bA_s, ax_bH_s, ax_bR_s, ax_bR_n, gh_people, gh_here, gh_sat, gh_minute, gh_draw, gh_sitter, gh_kinds, gh_prices, gh_known, gh_sights, gh_places, ga_kinds, ga_prices, ga_known, ga_sights, ga_places, oh, ph_people, ph_here, ph_sat, ph_minute, ph_draw, ph_sitter, ph_nobody, pa_kinds, pa_prices, pa_known, pa_sights, pa_places, upX_s, upX_u, hj, n_1shl b (show b < 31 by omega), hom_S _ h4 b hb, up1_n (show ¬ 2 = 4 by decide), eq_false (fun e => c ((sv_eq hb).mp e)), if_false, if_neg c]
/-- hearRumour -/
theorem r28 (hj : j < 19) (hI : Inv (X j)) : ax_res 28 0 [some (.ref (ha j 0)), none] [] (hp X Y sc ai aj) = some (none, hp (upX X j (rum (X j))) Y sc ai aj) := by
  have h0 := hI.1
  have h5 := hI.2.2.2.2.1
  have hd : rumd (X j 5) < 2 ^ 31 := by unfold rumd; omega
  have e5 : nI (X j 5) * nI 1103515245 + nI 12345 &&& nI 2147483647 = nI (rumd (X j 5)) := by rw [pk_mul, nI_add, n_and31]; rfl
  unfold rum
  by_cases c : X j 0 = 0
  · simp only [q28_0, q28_1, q28_2, q28_5, q28_7, q28_8, q28_11, q28_12, q28_14, q28_15, q28_18, q28_19, q28_22, q28_25, q28_26, q28_27, q28_30, q28_32, q28_33, q28_34, q28_37, q28_38, q28_39, q28_40, q28_41, q28_44, q28_47, q28_48, q28_49, q28_50, q28_53, q28_56, q28_57, q28_58, q28_59, q28_62, ↓reduceIte, ax_bV_s, ax_bI_s, ax_bJ_s, ax_bA_s, ax_bH_s, ax_bR_s, ax_bR_n, gh_people, gh_here, gh_sat, gh_minute, gh_draw, gh_sitter, gh_kinds, gh_prices, gh_known, gh_sights, gh_places, ga_kinds, ga_prices, ga_known, ga_sights, ga_places, oh, ph_people, ph_here, ph_sat, ph_minute, ph_draw, ph_sitter, ph_nobody, pa_kinds, pa_prices, pa_known, pa_sights, pa_places, upX_s, upX_u, hj, e5, up1_n (show ¬ 0 = 5 by decide), c, n_z0, if_true]
  · have hpos : 0 < X j 0 := by omega
    have hb : rumd (X j 5) / 65536 % X j 0 < X j 0 := Nat.mod_lt _ hpos
    have hk : rumd (X j 5) / 128 % 5 < 31 := by omega
    have h13 := r13 (X := upX X j (up1 (X j) 5 (rumd (X j 5)))) (Y := Y) (sc := sc) (ai := ai) (aj := aj) hj (show rumd (X j 5) / 65536 % X j 0 < 6 by omega) (by rw [upX_s, up1_n (by decide)]; exact hI.h4)
    have h15 := r15 (X := upX X j (up1 (X j) 5 (rumd (X j 5)))) (Y := Y) (sc := sc) (ai := ai) (aj := aj) (b := rumd (X j 5) / 65536 % X j 0) hj (by omega) hk
    rw [upX_s, up1_n (show ¬ 4 = 5 by decide)] at h13
    rw [upX_s, upX_u] at h15
    have z5 : ¬ nI 5 = 0 := by decide
    have z1 : ¬ nI 65536 = 0 := by decide
    have z2 : ¬ nI 128 = 0 := by decide
    simp only [q28_0, q28_1, q28_2, q28_5, q28_7, q28_8, q28_11, q28_12, q28_14, q28_15, q28_18, q28_19, q28_22, q28_25, q28_26, q28_27, q28_30, q28_32, q28_33, q28_34, q28_37, q28_38, q28_39, q28_40, q28_41, q28_44, q28_47, q28_48, q28_49, q28_50, q28_53, q28_56, q28_57, q28_58, q28_59, q28_62, ↓reduceIte, ax_bV_s, ax_bI_s, ax_bJ_s, ax_bA_s, ax_bH_s, ax_bR_s, ax_bR_n, gh_people, gh_here, gh_sat, gh_minute, gh_draw, gh_sitter, gh_kinds, gh_prices, gh_known, gh_sights, gh_places, ga_kinds, ga_prices, ga_known, ga_sights, ga_places, oh, ph_people, ph_here, ph_sat, ph_minute, ph_draw, ph_sitter, ph_nobody, pa_kinds, pa_prices, pa_known, pa_sights, pa_places, upX_s, upX_u, hj, e5, up1_n (show ¬ 0 = 5 by decide), up1_s, c, n_eq0 (show X j 0 < 2 ^ 31 by omega), n_div hd (show 0 < 65536 by decide) (by decide), n_div hd (show 0 < 128 by decide) (by decide), n_rem (show rumd (X j 5) / 65536 < 2 ^ 31 by omega) hpos (show X j 0 < 2 ^ 31 by omega), n_rem (show rumd (X j 5) / 128 < 2 ^ 31 by omega) (show 0 < 5 by decide) (by decide), n_ne0 hpos (by omega), z5, z1, z2, h13, h15, if_false, not_false_eq_true, n_bt0]
    cases hc : (X j 4).testBit (rumd (X j 5) / 65536 % X j 0) <;> simp
theorem pop_lt (a : Nat) : pop a ≤ 8 := by unfold pop; omega
/-- knownByAll -/
theorem r16_l (n : Nat) : ∀ (i acc : Nat), i + n = X j 0 → j < 19 → Inv (X j) → acc + 8 * n < 1000 → ax_res 16 4 [some (.ref (ha j 0)), some (.int (nI acc)), some (.int (nI i))] [] (hp X Y sc ai aj) = some (some (.int (nI (acc + ones_ (X j) i n))), hp X Y sc ai aj) := by
  induction n with
  | zero =>
    intro i acc hi hj hI ha
    have h0 := hI.1
    simp only [q16_0, q16_1, q16_2, q16_3, q16_4, q16_5, q16_6, q16_9, q16_12, q16_13, q16_14, q16_17, q16_18, q16_19, q16_22, q16_23, q16_24, q16_27, q16_30, q16_31, ↓reduceIte, ax_bV_s, ax_bI_s, ax_bJ_s, ax_bA_s, ax_bH_s, ax_bR_s, ax_bR_n, gh_people, gh_here, gh_sat, gh_minute, gh_draw, gh_sitter, gh_kinds, gh_prices, gh_known, gh_sights, gh_places, ga_kinds, ga_prices, ga_known, ga_sights, ga_places, oh, hj, n_le (show X j 0 < 2 ^ 31 by omega) (show i < 2 ^ 31 by omega), show X j 0 ≤ i by omega, if_true]
    rfl
  | succ n ih =>
    intro i acc hi hj hI ha
    have h0 := hI.1
    have h5 := hI.2.2.2.2.2 i (by omega)
    have hq := pop_lt (X j (6 + i))
    have e := ih (i + 1) (acc + pop (X j (6 + i))) (by omega) hj hI (by omega)
    simp only [q16_0, q16_1, q16_2, q16_3, q16_4, q16_5, q16_6, q16_9, q16_12, q16_13, q16_14, q16_17, q16_18, q16_19, q16_22, q16_23, q16_24, q16_27, q16_30, q16_31, ↓reduceIte, ax_bV_s, ax_bI_s, ax_bJ_s, ax_bA_s, ax_bH_s, ax_bR_s, ax_bR_n, gh_people, gh_here, gh_sat, gh_minute, gh_draw, gh_sitter, gh_kinds, gh_prices, gh_known, gh_sights, gh_places, ga_kinds, ga_prices, ga_known, ga_sights, ga_places, oh, hj, n_le (show X j 0 < 2 ^ 31 by omega) (show i < 2 ^ 31 by omega), show ¬ X j 0 ≤ i by omega, if_false, show i < 6 by omega, r179 _ _ (show X j (6 + i) < 256 by omega), nI_add, e, ones_]
    rw [Nat.add_assoc]
theorem r16 (hj : j < 19) (hI : Inv (X j)) : ax_res 16 0 [some (.ref (ha j 0)), none, none] [] (hp X Y sc ai aj) = some (some (.int (nI (ones_ (X j) 0 (X j 0)))), hp X Y sc ai aj) := by
  have h0 := hI.1
  have e := r16_l (X := X) (Y := Y) (sc := sc) (ai := ai) (aj := aj) (j := j) (X j 0) 0 0 (by omega) hj hI (by omega)
  rw [Nat.zero_add] at e
  simp only [q16_0, q16_1, q16_2, q16_3, e]
/-- placeOf -/
theorem r17_l (n : Nat) : ∀ (i b : Nat), i + n = X j 0 → j < 19 → Inv (X j) → b < 6 → ax_res 17 2 [some (.ref (ha j 0)), some (.int (nI b)), some (.int (nI i))] [] (hp X Y sc ai aj) = some (some (.int (sv (plc (X j) b i n))), hp X Y sc ai aj) := by
  induction n with
  | zero =>
    intro i b hi hj hI hb
    have h0 := hI.1
    simp only [q17_0, q17_1, q17_2, q17_3, q17_4, q17_7, q17_10, q17_11, q17_14, q17_15, q17_16, q17_17, q17_20, q17_21, q17_22, q17_25, q17_28, q17_30, ↓reduceIte, ax_bV_s, ax_bI_s, ax_bJ_s, ax_bA_s, ax_bH_s, ax_bR_s, ax_bR_n, gh_people, gh_here, gh_sat, gh_minute, gh_draw, gh_sitter, gh_kinds, gh_prices, gh_known, gh_sights, gh_places, ga_kinds, ga_prices, ga_known, ga_sights, ga_places, oh, hj, n_le (show X j 0 < 2 ^ 31 by omega) (show i < 2 ^ 31 by omega), show X j 0 ≤ i by omega, if_true]
    rfl
  | succ n ih =>
    intro i b hi hj hI hb
    have h0 := hI.1
    have h5 := hI.2.2.2.2.2 i (by omega)
    have e := ih (i + 1) b (by omega) hj hI hb
    simp only [q17_0, q17_1, q17_2, q17_3, q17_4, q17_7, q17_10, q17_11, q17_14, q17_15, q17_16, q17_17, q17_20, q17_21, q17_22, q17_25, q17_28, q17_30, ↓reduceIte, ax_bV_s, ax_bI_s, ax_bJ_s, ax_bA_s, ax_bH_s, ax_bR_s, ax_bR_n, gh_people, gh_here, gh_sat, gh_minute, gh_draw, gh_sitter, gh_kinds, gh_prices, gh_known, gh_sights, gh_places, ga_kinds, ga_prices, ga_known, ga_sights, ga_places, oh, hj, n_le (show X j 0 < 2 ^ 31 by omega) (show i < 2 ^ 31 by omega), show ¬ X j 0 ≤ i by omega, if_false, show i < 6 by omega, n_eq (show X j (18 + i) < 2 ^ 31 by omega) (show b < 2 ^ 31 by omega), nI_add, e, plc]
    by_cases c : X j (18 + i) = b
    · rw [if_pos c, if_pos c, sv_of (by omega)]
    · rw [if_neg c, if_neg c]
theorem r17 {b : Nat} (hj : j < 19) (hI : Inv (X j)) (hb : b < 6) : ax_res 17 0 [some (.ref (ha j 0)), some (.int (nI b)), none] [] (hp X Y sc ai aj) = some (some (.int (sv (plc (X j) b 0 (X j 0)))), hp X Y sc ai aj) := by
  have e := r17_l (X := X) (Y := Y) (sc := sc) (ai := ai) (aj := aj) (j := j) (X j 0) 0 b (by omega) hj hI hb
  simp only [q17_0, q17_1, e]
/-- oustedBy -/
theorem r22_l (n : Nat) : ∀ (i b acc : Nat), i + n = X j 0 → j < 19 → Inv (X j) → X j 1 < 20000 → b < X j 0 → ax_res 22 4 [some (.ref (ha j 0)), some (.int (nI b)), some (.int (nI acc)), some (.int (nI i))] [] (hp X Y sc ai aj) = some (some (.int (nI (ous (X j) b i n acc))), hp X Y sc ai aj) := by
  induction n with
  | zero =>
    intro i b acc hi hj hI hm hb
    have h0 := hI.1
    simp only [q22_0, q22_1, q22_2, q22_3, q22_4, q22_5, q22_6, q22_9, q22_12, q22_13, q22_14, q22_17, q22_18, q22_19, q22_22, q22_25, q22_26, q22_27, q22_28, q22_29, q22_32, q22_35, q22_38, q22_39, q22_40, q22_41, q22_42, q22_43, q22_44, q22_47, q22_50, q22_51, ↓reduceIte, ax_bV_s, ax_bI_s, ax_bJ_s, ax_bA_s, ax_bH_s, ax_bR_s, ax_bR_n, gh_people, gh_here, gh_sat, gh_minute, gh_draw, gh_sitter, gh_kinds, gh_prices, gh_known, gh_sights, gh_places, ga_kinds, ga_prices, ga_known, ga_sights, ga_places, oh, hj, n_le (show X j 0 < 2 ^ 31 by omega) (show i < 2 ^ 31 by omega), show X j 0 ≤ i by omega, if_true]
    rfl
  | succ n ih =>
    intro i b acc hi hj hI hm hb
    have h0 := hI.1
    have h3 := hI.2.2.1
    have h5 := hI.2.2.2.2.2 i (by omega)
    have h6 := hI.2.2.2.2.2 b hb
    have e := fun acc => ih (i + 1) b acc (by omega) hj hI hm hb
    have h13 := r13 (X := X) (Y := Y) (sc := sc) (ai := ai) (aj := aj) hj (show i < 6 by omega) hI.h4
    have h20 := r20 (X := X) (Y := Y) (sc := sc) (ai := ai) (aj := aj) (t := X j 3) hj (show b < 6 by omega) (show i < 6 by omega) h6.1 h5.1 hm h6.2.2.2.1 h6.2.2.2.2 h5.2.2.2.2 (by omega)
    rw [q22_4]
    simp only [q22_0, q22_1, q22_2, q22_3, q22_5, q22_6, q22_9, q22_12, q22_13, q22_14, q22_17, q22_18, q22_19, q22_22, q22_25, q22_26, q22_27, q22_28, q22_29, q22_32, q22_35, q22_38, q22_39, q22_40, q22_41, q22_42, q22_43, q22_44, q22_47, q22_50, q22_51, ↓reduceIte, ax_bV_s, ax_bI_s, ax_bJ_s, ax_bA_s, ax_bH_s, ax_bR_s, ax_bR_n, gh_people, gh_here, gh_sat, gh_minute, gh_draw, gh_sitter, gh_kinds, gh_prices, gh_known, gh_sights, gh_places, ga_kinds, ga_prices, ga_known, ga_sights, ga_places, oh, hj, n_le (show X j 0 < 2 ^ 31 by omega) (show i < 2 ^ 31 by omega), show ¬ X j 0 ≤ i by omega, if_false, n_eq (show i < 2 ^ 31 by omega) (show b < 2 ^ 31 by omega), h13, h20, n_bt0, n_bn0, n_1shl i (by omega), n_or, nI_add, e, ous]
    by_cases c1 : i = b
    · simp [c1]
    · cases c2 : (X j 4).testBit i
      · simp [c1]
      · cases c3 : oust (X j) b i (X j 3) <;> simp [c1]
theorem r22 {b : Nat} (hj : j < 19) (hI : Inv (X j)) (hm : X j 1 < 20000) (hb : b < X j 0) : ax_res 22 0 [some (.ref (ha j 0)), some (.int (nI b)), none, none] [] (hp X Y sc ai aj) = some (some (.int (nI (ous (X j) b 0 (X j 0) 0))), hp X Y sc ai aj) := by
  have e := r22_l (X := X) (Y := Y) (sc := sc) (ai := ai) (aj := aj) (j := j) (X j 0) 0 b 0 (by omega) hj hI hm hb
  simp only [q22_0, q22_1, q22_2, q22_3, e]
/-- passMany -/
theorem r27_l (n : Nat) : ∀ (X : Nat → Nat → Nat) (i k : Nat), i + n = k → k < 2 ^ 31 → j < 19 → Inv (X j) → X j 1 + n < 20000 → ax_res 27 2 [some (.ref (ha j 0)), some (.int (nI k)), some (.int (nI i))] [] (hp X Y sc ai aj) = some (none, hp (upX X j (pasN n (X j))) Y sc ai aj) := by
  induction n with
  | zero =>
    intro X i k hi hk hj hI hm
    simp only [q27_0, q27_1, q27_2, q27_3, q27_4, q27_7, q27_8, q27_9, q27_12, q27_15, q27_18, ↓reduceIte, ax_bV_s, ax_bI_s, ax_bJ_s, ax_bA_s, ax_bH_s, ax_bR_s, ax_bR_n, n_le (show k < 2 ^ 31 by omega) (show i < 2 ^ 31 by omega), show k ≤ i by omega, if_true, pasN, upX_i]
  | succ n ih =>
    intro X i k hi hk hj hI hm
    have h26 := r26 (X := X) (Y := Y) (sc := sc) (ai := ai) (aj := aj) (mb := false) hj hI (by omega)
    obtain ⟨g1, g2, g3⟩ := inv_pas (m := false) hI
    have e := ih (upX X j (pas (X j) false)) (i + 1) k (by omega) hk hj (by rw [upX_s]; exact g1) (by rw [upX_s, g3]; omega)
    rw [upX_s, upX_u] at e
    simp only [q27_0, q27_1, q27_2, q27_3, q27_4, q27_7, q27_8, q27_9, q27_12, q27_15, q27_18, ↓reduceIte, ax_bV_s, ax_bI_s, ax_bJ_s, ax_bA_s, ax_bH_s, ax_bR_s, ax_bR_n, oh hj, n_le (show k < 2 ^ 31 by omega) (show i < 2 ^ 31 by omega), show ¬ k ≤ i by omega, if_false, show nI 0 = nI (bn false) from rfl, h26, nI_add, e, pasN]
theorem r27 {n : Nat} (hj : j < 19) (hI : Inv (X j)) (hm : X j 1 + n < 20000) : ax_res 27 0 [some (.ref (ha j 0)), some (.int (nI n)), none] [] (hp X Y sc ai aj) = some (none, hp (upX X j (pasN n (X j))) Y sc ai aj) := by
  have e := r27_l (Y := Y) (sc := sc) (ai := ai) (aj := aj) (j := j) n X 0 n (by omega) (by omega) hj hI hm
  simp only [q27_0, q27_1, e]
end H3
