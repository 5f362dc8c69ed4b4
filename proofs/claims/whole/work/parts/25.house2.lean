/-! ===== the class's House: who would oust, who may sit, a minute ===== -/
theorem fr_S : ∀ a, a < 32 → ∀ c, c < 32 → nI a &&& ((nI c >>> (nI 1 &&& 31) ||| nI c <<< (nI 4 &&& 31)) ^^^ (-1)) = nI (fr a c) := by decide +kernel
theorem clr_S : ∀ a, a < 32 → ∀ f, f < 32 → nI a &&& ((nI f &&& -nI f) ^^^ (-1)) = nI (clr a f) := by decide +kernel
def bn (b : Bool) : Nat := cond b 1 0
theorem n_z0 : (nI 0 = 0) ↔ True := by decide
theorem n_z1 : (nI 1 = 0) ↔ False := by decide
theorem bn_lt (b : Bool) : bn b < 2 := by cases b <;> decide
theorem bn_fit (b : Bool) : ax_fitR 1 (nI (bn b)) = true := by cases b <;> decide
theorem n_bn0 {b : Bool} : (nI (bn b) = 0) ↔ b = false := by cases b <;> decide
theorem n_bn1 {b : Bool} : (nI (bn b) = nI 1) ↔ b = true := by cases b <;> decide
section H2
variable {X Y : Nat → Nat → Nat} {sc : Nat → Nat → Int32} {ai : Nat → Nat → Int32} {aj : Nat → Nat → Int64} {j : Nat}
/-- openTricks -/
theorem r19 {b s : Nat} (hj : j < 19) (hb : b < 6) (hs : s < 6) (h1 : X j (6 + b) < 32) (h2 : X j (6 + s) < 32) : ax_res 19 0 [some (.ref (ha j 0)), some (.int (nI b)), some (.int (nI s)), none, none] [] (hp X Y sc ai aj) = some (some (.int (nI (fr (X j (6 + b)) (X j (6 + s))))), hp X Y sc ai aj) := by
  simp only [q19_0, q19_1, q19_4, q19_5, q19_6, q19_7, q19_8, q19_9, q19_10, q19_11, q19_12, q19_13, q19_14, q19_16, q19_17, q19_20, q19_21, q19_22, q19_24, q19_25, q19_26, q19_27, ↓reduceIte, ax_bV_s, ax_bI_s, ax_bJ_s, ax_bA_s, ax_bH_s, ax_bR_s, ax_bR_n, gh_people, gh_here, gh_sat, gh_minute, gh_draw, gh_sitter, gh_kinds, gh_prices, gh_known, gh_sights, gh_places, ga_kinds, ga_prices, ga_known, ga_sights, ga_places, oh, hj, hb, hs, fr_S _ h1 _ h2]
/-- wouldOust -/
theorem r20 {b s t : Nat} (hj : j < 19) (hb : b < 6) (hs : s < 6) (h1 : X j (6 + b) < 32) (h2 : X j (6 + s) < 32) (hm : X j 1 < 20000) (hk : X j (24 + b) ≤ 4) (hp1 : X j (30 + b) ≤ 99) (hp2 : X j (30 + s) ≤ 99) (ht : t < 20000) :
    ax_res 20 0 [some (.ref (ha j 0)), some (.int (nI b)), some (.int (nI s)), some (.int (nI t)), none, none, none] [] (hp X Y sc ai aj) = some (some (.int (nI (bn (oust (X j) b s t)))), hp X Y sc ai aj) := by
  have hf := fr_lt _ h1 _ h2
  have hf' : fr (X j (6 + b)) (X j (6 + s)) < 2 ^ 31 := by omega
  have hm' : X j 1 < 2 ^ 31 := by omega
  have hm5 : X j 1 % 5 < 2 ^ 31 := by omega
  have ht' : t < 2 ^ 31 := by omega
  have hp1' : X j (30 + b) < 2 ^ 31 := by omega
  have hp2' : X j (30 + s) < 2 ^ 31 := by omega
  have h2' : X j (6 + s) < 2 ^ 31 := by omega
  have d5 : ¬ nI 5 = 0 := by decide
  have t4 : (nI 4).toInt < 0 ∨ 3 < (nI 4).toInt := by decide
  unfold oust
  by_cases c1 : fr (X j (6 + b)) (X j (6 + s)) = 0 <;> by_cases c2 : X j 1 % 5 = 0 <;> by_cases c3 : t < 4 <;> rcases (show X j (24 + b) = 0 ∨ X j (24 + b) = 1 ∨ X j (24 + b) = 2 ∨ X j (24 + b) = 3 ∨ X j (24 + b) = 4 by omega) with hk | hk | hk | hk | hk
  all_goals
    have c3' : (4 ≤ t) ↔ ¬ t < 4 := by omega
    simp only [q20_0, q20_1, q20_2, q20_3, q20_6, q20_9, q20_10, q20_13, q20_14, q20_16, q20_18, q20_21, q20_22, q20_25, q20_26, q20_27, q20_30, q20_31, q20_34, q20_35, q20_37, q20_39, q20_42, q20_43, q20_44, q20_47, q20_48, q20_51, q20_52, q20_54, q20_55, q20_58, q20_59, q20_60_0, q20_60_1, q20_60_2, q20_60_3, q20_60, q20_92, q20_94, q20_95, q20_97, q20_98, q20_100, q20_101, q20_103, q20_106, q20_107, q20_110, q20_111, q20_112, q20_113, q20_116, q20_117, q20_118, q20_121, q20_122, q20_125, q20_126, q20_127, q20_129, q20_132, q20_133, q20_136, q20_137, q20_138, q20_141, q20_142, q20_145, q20_146, ↓reduceIte, ax_bV_s, ax_bI_s, ax_bJ_s, ax_bA_s, ax_bH_s, ax_bR_s, ax_bR_n, gh_people, gh_here, gh_sat, gh_minute, gh_draw, gh_sitter, gh_kinds, gh_prices, gh_known, gh_sights, gh_places, ga_kinds, ga_prices, ga_known, ga_sights, ga_places, oh, ax_fit1_0, ax_fit1_1, ax_fitb, hj, hb, hs, r19 hj hb hs h1 h2, n_eq0 hf', n_eq0 h2', n_rem hm' (show 0 < 5 by decide) (show 5 < 2 ^ 31 by decide), n_eq0 hm5, n_lt ht' (show 4 < 2 ^ 31 by decide), n_le hp1' hp2', c1, c2, c3, c3', hk, if_true, if_false, d5, t4, n_z0, n_z1, not_false_eq_true, not_true_eq_false]
  all_goals first
    | (simp [bn]; done)
    | (by_cases c4 : X j (30 + b) ≤ X j (30 + s)
       · simp [bn, c4, Nat.not_lt.mpr c4]
       · simp [bn, c4, Nat.lt_of_not_le c4])
    | (by_cases c5 : X j (6 + s) = 0 <;> simp [bn, c5])
/-- maySit -/
theorem r21 {b : Nat} (hj : j < 19) (hI : Inv (X j)) (hm : X j 1 < 20000) (hb : b < X j 0) : ax_res 21 0 [some (.ref (ha j 0)), some (.int (nI b))] [] (hp X Y sc ai aj) = some (some (.int (nI (bn (may (X j) b)))), hp X Y sc ai aj) := by
  have h0 := hI.1
  have hb6 : b < 6 := by omega
  have h5 := hI.2.2.2.2.2 b hb
  have hs3 := hI.2.2.1
  unfold may
  by_cases c1 : (X j 4).testBit b = true
  · have e1 : bt (X j 4) b = 1 := by unfold bt; rw [if_pos c1]
    by_cases c2 : b = X j 2
    · have c2' : X j 2 < 6 := by omega
      simp only [q21_0, q21_1, q21_2, q21_5, q21_8, q21_9, q21_10, q21_13, q21_16, q21_17, q21_46, ↓reduceIte, ax_bV_s, ax_bI_s, ax_bJ_s, ax_bA_s, ax_bH_s, ax_bR_s, ax_bR_n, gh_people, gh_here, gh_sat, gh_minute, gh_draw, gh_sitter, gh_kinds, gh_prices, gh_known, gh_sights, gh_places, ga_kinds, ga_prices, ga_known, ga_sights, ga_places, oh, ax_fit1_0, ax_fit1_1, ax_fitb, hj, r13 hj hb6 hI.h4, e1, n_z1, eq_true (show nI b = sv (X j 2) by rw [sv_of c2', c2]), if_true, if_false]
      simp [bn, c2]
    · by_cases c3 : X j 2 < 6
      · have h6 := hI.2.2.2.2.2 _ (hI.s6 c3)
        have c2' : ¬ nI b = nI (X j 2) := by rw [n_eq (by omega) (by omega)]; exact c2
        have c3' : ¬ nI (X j 2) < 0 := by rw [n_lt0 (by omega)]; exact id
        simp only [q21_0, q21_1, q21_2, q21_5, q21_8, q21_9, q21_10, q21_13, q21_16, q21_17, q21_18, q21_19, q21_22, q21_25, q21_26, q21_27, q21_28, q21_31, q21_32, q21_35, q21_38, q21_41, q21_42, q21_45, q21_46, ↓reduceIte, ax_bV_s, ax_bI_s, ax_bJ_s, ax_bA_s, ax_bH_s, ax_bR_s, ax_bR_n, gh_people, gh_here, gh_sat, gh_minute, gh_draw, gh_sitter, gh_kinds, gh_prices, gh_known, gh_sights, gh_places, ga_kinds, ga_prices, ga_known, ga_sights, ga_places, oh, ax_fit1_0, ax_fit1_1, ax_fitb, hj, r13 hj hb6 hI.h4, e1, n_z1, sv_of c3, c2', c3', oh, r20 hj hb6 c3 h5.1 h6.1 hm h5.2.2.2.1 h5.2.2.2.2 h6.2.2.2.2 (show X j 3 < 20000 by omega), n_bn0, if_false]
        cases ho : oust (X j) b (X j 2) (X j 3) <;> simp [bn, c1, c2, c3]
      · have c2' : ¬ nI b = sv (X j 2) := by intro e; exact c2 ((sv_eq hb6).mp e.symm).symm
        have c3' : sv (X j 2) < 0 := sv_lt.mpr c3
        simp only [q21_0, q21_1, q21_2, q21_5, q21_8, q21_9, q21_10, q21_13, q21_16, q21_17, q21_18, q21_19, q21_22, q21_25, q21_26, q21_27, q21_28, q21_31, q21_32, q21_35, q21_38, q21_41, q21_42, q21_45, q21_46, ↓reduceIte, ax_bV_s, ax_bI_s, ax_bJ_s, ax_bA_s, ax_bH_s, ax_bR_s, ax_bR_n, gh_people, gh_here, gh_sat, gh_minute, gh_draw, gh_sitter, gh_kinds, gh_prices, gh_known, gh_sights, gh_places, ga_kinds, ga_prices, ga_known, ga_sights, ga_places, oh, ax_fit1_0, ax_fit1_1, ax_fitb, hj, r13 hj hb6 hI.h4, e1, n_z1, c2', c3', if_false, if_true]
        simp [bn, c1, c2, c3]
  · have e1 : bt (X j 4) b = 0 := by unfold bt; rw [if_neg c1]
    simp only [q21_0, q21_1, q21_2, q21_5, q21_8, q21_9, q21_10, q21_13, q21_16, q21_17, ↓reduceIte, ax_bV_s, ax_bI_s, ax_bJ_s, ax_bA_s, ax_bH_s, ax_bR_s, ax_bR_n, gh_people, gh_here, gh_sat, gh_minute, gh_draw, gh_sitter, gh_kinds, gh_prices, gh_known, gh_sights, gh_places, ga_kinds, ga_prices, ga_known, ga_sights, ga_places, oh, ax_fit1_0, ax_fit1_1, ax_fitb, hj, r13 hj hb6 hI.h4, e1, n_z0, if_true]
    simp [bn, c1]
/-- sitDown -/
theorem r23 {b : Nat} (hj : j < 19) (hI : Inv (X j)) (hb : b < X j 0) : ax_res 23 0 [some (.ref (ha j 0)), some (.int (nI b)), none, none] [] (hp X Y sc ai aj) = some (none, hp (upX X j (sit (X j) b)) Y sc ai aj) := by
  have h0 := hI.1
  have hb6 : b < 6 := by omega
  have h5 := hI.2.2.2.2.2 b hb
  unfold sit
  by_cases c3 : X j 2 < 6
  · have h6 := hI.2.2.2.2.2 _ (hI.s6 c3)
    have c3' : ¬ nI (X j 2) < 0 := by rw [n_lt0 (by omega)]; exact id
    have hf := fr_lt _ h5.1 _ h6.1
    simp only [q23_0, q23_1, q23_4, q23_7, q23_8, q23_9, q23_10, q23_13, q23_16, q23_17, q23_18, q23_19, q23_20, q23_21, q23_22, q23_23, q23_26, q23_27, q23_28, q23_29, q23_30, q23_31, q23_32, q23_33, q23_34, q23_34b, q23_35, q23_35b, q23_36, q23_36b, q23_39, q23_39b, q23_40, q23_40b, q23_41, q23_41b, q23_44, q23_44b, ↓reduceIte, ax_bV_s, ax_bI_s, ax_bJ_s, ax_bA_s, ax_bH_s, ax_bR_s, ax_bR_n, gh_people, gh_here, gh_sat, gh_minute, gh_draw, gh_sitter, gh_kinds, gh_prices, gh_known, gh_sights, gh_places, ga_kinds, ga_prices, ga_known, ga_sights, ga_places, oh, ph_people, ph_here, ph_sat, ph_minute, ph_draw, ph_sitter, ph_nobody, pa_kinds, pa_prices, pa_known, pa_sights, pa_places, upX_s, upX_u, ax_fit1_0, ax_fit1_1, ax_fitb, hj, hb6, r19 hj hb6 c3 h5.1 h6.1, sv_of c3, c3', clr_S _ h5.1 _ hf, if_false, if_true, c3]
  · have c3' : sv (X j 2) < 0 := sv_lt.mpr c3
    simp only [q23_0, q23_1, q23_4, q23_34, q23_34b, q23_35, q23_35b, q23_36, q23_36b, q23_39, q23_39b, q23_40, q23_40b, q23_41, q23_41b, q23_44, q23_44b, ↓reduceIte, ax_bV_s, ax_bI_s, ax_bJ_s, ax_bA_s, ax_bH_s, ax_bR_s, ax_bR_n, gh_people, gh_here, gh_sat, gh_minute, gh_draw, gh_sitter, gh_kinds, gh_prices, gh_known, gh_sights, gh_places, ga_kinds, ga_prices, ga_known, ga_sights, ga_places, oh, ph_people, ph_here, ph_sat, ph_minute, ph_draw, ph_sitter, ph_nobody, pa_kinds, pa_prices, pa_known, pa_sights, pa_places, upX_s, upX_u, ax_fit1_0, ax_fit1_1, ax_fitb, hj, hb6, c3', if_true, c3, if_false]
/-- pass -/
theorem r26 {mb : Bool} (hj : j < 19) (hI : Inv (X j)) (hm : X j 1 < 20000) : ax_res 26 0 [some (.ref (ha j 0)), some (.int (nI (bn mb))), none] [] (hp X Y sc ai aj) = some (none, hp (upX X j (pas (X j) mb)) Y sc ai aj) := by
  have tailc : ∀ (X : Nat → Nat → Nat) (v : Int32) (w : Int32), Inv (X j) → ax_res 26 26 [some (.ref (ha j 0)), some (.int v), some (.int w)] [] (hp X Y sc ai aj) = some (none, hp (upX X j (tick (X j))) Y sc ai aj) := by
    intro X v w hI
    unfold tick
    by_cases c3 : X j 2 < 6
    · have c3' : ¬ nI (X j 2) < 0 := by rw [n_lt0 (by omega)]; exact id
      simp only [q26_0, q26_1, q26_4, q26_5, q26_6, q26_9, q26_10, q26_13, q26_14, q26_15, q26_18, q26_21, q26_22, q26_23, q26_26, q26_27, q26_30, q26_33, q26_34, q26_37, q26_38, q26_41, q26_42, q26_43, q26_44, q26_45, q26_46, q26_47, q26_48, q26_51, q26_52, q26_53, q26_56, q26_57, q26_58, q26_61, q26_62, q26_63, q26_66, ↓reduceIte, ax_bV_s, ax_bI_s, ax_bJ_s, ax_bA_s, ax_bH_s, ax_bR_s, ax_bR_n, gh_people, gh_here, gh_sat, gh_minute, gh_draw, gh_sitter, gh_kinds, gh_prices, gh_known, gh_sights, gh_places, ga_kinds, ga_prices, ga_known, ga_sights, ga_places, oh, ph_people, ph_here, ph_sat, ph_minute, ph_draw, ph_sitter, ph_nobody, pa_kinds, pa_prices, pa_known, pa_sights, pa_places, upX_s, upX_u, ax_fit1_0, ax_fit1_1, ax_fitb, hj, sv_of c3, c3', c3, if_false, if_true, nI_add]
      simp [up1, show ¬ 3 = 12 + X j 2 by omega, show ¬ 1 = 12 + X j 2 by omega]
    · have c3' : sv (X j 2) < 0 := sv_lt.mpr c3
      simp only [q26_0, q26_1, q26_4, q26_5, q26_6, q26_9, q26_10, q26_13, q26_14, q26_15, q26_18, q26_21, q26_22, q26_23, q26_26, q26_27, q26_30, q26_56, q26_57, q26_58, q26_61, q26_62, q26_63, q26_66, ↓reduceIte, ax_bV_s, ax_bI_s, ax_bJ_s, ax_bA_s, ax_bH_s, ax_bR_s, ax_bR_n, gh_people, gh_here, gh_sat, gh_minute, gh_draw, gh_sitter, gh_kinds, gh_prices, gh_known, gh_sights, gh_places, ga_kinds, ga_prices, ga_known, ga_sights, ga_places, oh, ph_people, ph_here, ph_sat, ph_minute, ph_draw, ph_sitter, ph_nobody, pa_kinds, pa_prices, pa_known, pa_sights, pa_places, upX_s, upX_u, ax_fit1_0, ax_fit1_1, ax_fitb, hj, c3', c3, if_false, if_true, nI_add]
  have h18 := r18 (X := X) (Y := Y) (sc := sc) (ai := ai) (aj := aj) hj hI.1 hm (fun b hb => (hI.2.2.2.2.2 b hb).2.2.1)
  unfold pas
  cases mb with
  | true =>
    have e1 : ¬ nI (bn true) = 0 := by decide
    simp only [q26_0, q26_1, q26_4, q26_5, q26_6, q26_27, q26_30, q26_33, q26_34, q26_37, q26_38, q26_41, q26_42, q26_43, q26_44, q26_45, q26_46, q26_47, q26_48, q26_51, q26_52, q26_53, q26_56, q26_57, q26_58, q26_61, q26_62, q26_63, q26_66, ↓reduceIte, ax_bV_s, ax_bI_s, ax_bJ_s, ax_bA_s, ax_bH_s, ax_bR_s, ax_bR_n, gh_people, gh_here, gh_sat, gh_minute, gh_draw, gh_sitter, gh_kinds, gh_prices, gh_known, gh_sights, gh_places, ga_kinds, ga_prices, ga_known, ga_sights, ga_places, oh, hj, h18, e1, if_false]
    rw [tailc X _ _ hI]
    rfl
  | false =>
    have e1 : nI (bn false) = 0 := by decide
    by_cases c1 : trn (X j) < 6
    · have c1' : ¬ nI (trn (X j)) < 0 := by rw [n_lt0 (by omega)]; exact id
      have htr := hI.tr c1
      have h21 := r21 (X := X) (Y := Y) (sc := sc) (ai := ai) (aj := aj) hj hI hm htr
      have h23 := r23 (X := X) (Y := Y) (sc := sc) (ai := ai) (aj := aj) hj hI htr
      simp only [q26_0, q26_1, q26_4, q26_5, q26_6, q26_9, q26_10, q26_13, q26_14, q26_15, q26_18, q26_21, q26_22, q26_23, q26_27, q26_30, q26_33, q26_34, q26_37, q26_38, q26_41, q26_42, q26_43, q26_44, q26_45, q26_46, q26_47, q26_48, q26_51, q26_52, q26_53, q26_56, q26_57, q26_58, q26_61, q26_62, q26_63, q26_66, ↓reduceIte, ax_bV_s, ax_bI_s, ax_bJ_s, ax_bA_s, ax_bH_s, ax_bR_s, ax_bR_n, gh_people, gh_here, gh_sat, gh_minute, gh_draw, gh_sitter, gh_kinds, gh_prices, gh_known, gh_sights, gh_places, ga_kinds, ga_prices, ga_known, ga_sights, ga_places, oh, hj, h18, sv_of c1, e1, c1', h21, h23, n_bn0, if_true, if_false]
      cases hc : may (X j) (trn (X j)) with
      | true =>
        rw [if_neg (by decide), tailc _ _ _ (by rw [upX_s]; exact (inv_sit hI htr).1), upX_s, upX_u]
        simp [c1]
      | false =>
        rw [if_pos rfl, tailc X _ _ hI]
        simp [c1]
    · have c1' : sv (trn (X j)) < 0 := sv_lt.mpr c1
      simp only [q26_0, q26_1, q26_4, q26_5, q26_6, q26_9, q26_10, q26_27, q26_30, q26_33, q26_34, q26_37, q26_38, q26_41, q26_42, q26_43, q26_44, q26_45, q26_46, q26_47, q26_48, q26_51, q26_52, q26_53, q26_56, q26_57, q26_58, q26_61, q26_62, q26_63, q26_66, ↓reduceIte, ax_bV_s, ax_bI_s, ax_bJ_s, ax_bA_s, ax_bH_s, ax_bR_s, ax_bR_n, gh_people, gh_here, gh_sat, gh_minute, gh_draw, gh_sitter, gh_kinds, gh_prices, gh_known, gh_sights, gh_places, ga_kinds, ga_prices, ga_known, ga_sights, ga_places, oh, hj, h18, e1, c1', if_true]
      rw [tailc X _ _ hI]
      simp [c1]
end H2
