/-! ===== the calls, one by one (3): sheets ===== -/
theorem si_137 {s : Nat} (hs : s < 4) : ¬ si s = 137 := by unfold si; omega
theorem si_inj {s t : Nat} (h : ¬ s = t) : ¬ si s = si t := by unfold si; omega
theorem sh_inj {s t : Nat} (h : ¬ s = t) : ¬ sh s = sh t := by unfold sh; omega
theorem nl_n1 {l : Nat} (hl : l < 4) : ¬ nI l = -1 := ne_n1 (by omega)
/-- what stands against a row, of both -/
theorem flt_of {sc ai : Nat → Nat → Int32} {aj : Nat → Nat → Int64} (hS : Sht sc ai aj) {t : Nat} (ht : t < 4) (la i n : Int32) :
    (∃ f z, f < 0 ∧ ¬ f = nI 0 ∧ z ≤ 24 ∧ sc (sh t) 1 = nI z ∧ fltA (sc (sh t) 0) la i n z = f ∧ ∀ X Y sc' aj', ax_res 169 0 [some (.ref 134), some (.int (nI t)), some (.int la), some (.int i), some (.int n)] [] (hp X Y sc' ai aj') = some (some (.int f), hp X Y sc' ai aj')) ∨
    ∃ l z i' n', l < 4 ∧ z ≤ 24 ∧ sc (sh t) 0 = nI l ∧ sc (sh t) 1 = nI z ∧ ai 138 t = nI z ∧ ai 139 t = nI l ∧ la = nI l ∧ i = nI i' ∧ n = nI n' ∧ i' + n' ≤ z := by
  rcases (hS t ht).1 with ⟨a, b, c⟩ | ⟨l, z, hl, hz, a, b, c, d⟩
  · refine Or.inl ⟨-11, 0, by decide, by decide, by omega, b, by rw [a]; unfold fltA; rw [if_pos rfl], fun X Y sc' aj' => r169_n ht c⟩
  · by_cases hf : fltA (nI l) la i n z = nI 0
    · obtain ⟨e1, e2⟩ := fltA_0 hl hf
      obtain ⟨i', n', e3, e4, e5⟩ := hold_of hz e2
      exact Or.inr ⟨l, z, i', n', hl, hz, a, b, c, d, e1, e3, e4, e5⟩
    · exact Or.inl ⟨fltA (nI l) la i n z, z, fltA_neg hf, hf, hz, b, by rw [a], fun X Y sc' aj' => r169 ht c hz d hl⟩
theorem c_stubs (b t l i n w : Int32) : St 77 172 [some (.ref 114), some (.int b), some (.int t), some (.int l), some (.int i), some (.int n), some (.int w), none, none, none, none] [some (.ref 134), some (.int b), some (.int t), some (.int l), some (.int i), some (.int n), some (.int w), none, none, none, none, none, none] := by
  intro X Y sc ai aj h
  obtain ⟨hH, hU, hG, hT, hS⟩ := id h
  have eN := hH.n
  have h6 := hH.1.1
  cases hc : (isB b (X 0 0) && ((isI t 0 3 && isI l 0 3) && (isI n 1 8 && isI w 0 2))) with
  | false => exact ⟨_, _, _, s77_bad hH.1 hc, m172_bad hH.i2 (by rw [eN]; exact hc), h.rr, rfl, rfl⟩
  | true =>
    simp only [Bool.and_eq_true] at hc
    obtain ⟨b', hb, rfl⟩ := isB_of (by omega) hc.1
    obtain ⟨t', -, ht, rfl⟩ := isI_of (by decide) hc.2.1.1
    obtain ⟨l', -, hl, rfl⟩ := isI_of (by decide) hc.2.1.2
    obtain ⟨n', hn1, hn, rfl⟩ := isI_of (by decide) hc.2.2.1
    obtain ⟨w', -, hw, rfl⟩ := isI_of (by decide) hc.2.2.2
    rcases flt_of hS (show t' < 4 by omega) (nI l') i (nI n') with ⟨f, z, f1, f2, f3, f4, f5, f6⟩ | ⟨l0, z, i', n0, g1, g2, g3, g4, g5, g6, g7, g8, g9, g10⟩
    · have e1 := s77_flt (X := X) (Y := Y) (sc := sc) (ai := ai) (aj := aj) hH.1 hb (show t' < 4 by omega) (show l' < 4 by omega) hn1 hn hw f4 f3 (by rw [f5]; exact f2)
      rw [f5] at e1
      exact ⟨_, _, _, e1, m172_flt hH.i2 (by rw [eN]; exact hb) (by omega) (by omega) hn1 hn hw f1 (f6 _ _ _ _), h.rr, rfl, rfl⟩
    · have el := (n_eq (by omega) (by omega)).mp g7
      have en := (n_eq (by omega) (by omega)).mp g9
      subst el en g8
      obtain ⟨x1, e1⟩ := s77_ok (X := X) (Y := Y) (sc := sc) (ai := ai) (aj := aj) hH.1 hH.2.1 hb (show t' < 4 by omega) g1 hn1 hn hw g3 g4 g2 g10
      obtain ⟨y1, e2⟩ := m172_ok (X := upX X 1 x1) (Y := Y) (sc := sc) (ai := ai) (aj := aj) hH.i2 hH.m2 (show b' < Y 0 0 by rw [eN]; exact hb) (show t' < 4 by omega) g1 hn1 hn hw g6 g5 g2 g10
      rw [← ag_stA hH (f := aj (si t')) (p := i') hb (fun j hj => by rw [(hS t' (by omega)).2 (i' + j) (by omega), Nat.add_assoc])] at e2
      exact ⟨_, _, _, e1, e2, (h.fX _ _).rr, rfl, rfl⟩
theorem c_gaps (t l i n m w : Int32) : St 78 173 [some (.ref 114), some (.int t), some (.int l), some (.int i), some (.int n), some (.int m), some (.int w), none, none, none] [some (.ref 134), some (.int t), some (.int l), some (.int i), some (.int n), some (.int m), some (.int w), none, none, none, none, none, none, none, none] := by
  intro X Y sc ai aj h
  obtain ⟨hH, hU, hG, hT, hS⟩ := id h
  cases hc : gpOk t l n m w with
  | false => exact ⟨_, _, _, s78_bad hc, m173_bad hc, h.rr, rfl, rfl⟩
  | true =>
    unfold gpOk at hc
    simp only [Bool.and_eq_true, Bool.not_eq_true'] at hc
    obtain ⟨t', -, ht, rfl⟩ := isI_of (by decide) hc.1.1
    obtain ⟨l', -, hl, rfl⟩ := isI_of (by decide) hc.1.2
    obtain ⟨n', hn1, hn, rfl⟩ := isI_of (by decide) hc.2.1
    obtain ⟨m', -, hm, rfl⟩ := isI_of (by decide) hc.2.2.1
    obtain ⟨w', -, hw, rfl⟩ := isI_of (by decide) hc.2.2.2.1
    have hmw : ¬ (m' = 0 ∧ w' = 1) := by
      rintro ⟨rfl, rfl⟩
      have := hc.2.2.2.2
      revert this
      decide
    rcases flt_of hS (show t' < 4 by omega) (nI l') i (nI n') with ⟨f, z, f1, f2, f3, f4, f5, f6⟩ | ⟨l0, z, i', n0, g1, g2, g3, g4, g5, g6, g7, g8, g9, g10⟩
    · have e1 := s78_flt (X := X) (Y := Y) (sc := sc) (ai := ai) (aj := aj) (show t' < 4 by omega) (show l' < 4 by omega) hn1 hn hm hw hmw f4 f3 (by rw [f5]; exact f2)
      rw [f5] at e1
      exact ⟨_, _, _, e1, m173_flt (by omega) (by omega) hn1 hn hm hw hmw f1 (f6 _ _ _ _), h.rr, rfl, rfl⟩
    · have el := (n_eq (by omega) (by omega)).mp g7
      have en := (n_eq (by omega) (by omega)).mp g9
      subst el en g8
      have e2 := m173_ok (X := X) (Y := Y) (sc := sc) (ai := ai) (aj := aj) (show t' < 4 by omega) g1 hn1 hn hm hw hmw g6 g5 g2 g10
      rw [← gpA_c (g := fun j => aj (si t') (i' + j)) (fun j hj => by rw [(hS t' (by omega)).2 (i' + j) (by omega), Nat.add_assoc])] at e2
      exact ⟨_, _, _, s78_ok (show t' < 4 by omega) g1 hn1 hn hm hw hmw g3 g4 g2 g10, e2, h.rr, rfl, rfl⟩
theorem c_film (n t l i : Int32) : St 79 174 [some (.ref 114), some (.int n), some (.int t), some (.int l), some (.int i), none, none] [some (.ref 134), some (.int n), some (.int t), some (.int l), some (.int i), none, none] := by
  intro X Y sc ai aj h
  obtain ⟨hH, hU, hG, hT, hS⟩ := id h
  cases hc : (isI n 1 24 && (isI t 0 3 && isI l 0 3)) with
  | false => exact ⟨_, _, _, s79_bad hc, m174_bad hc, h.rr, rfl, rfl⟩
  | true =>
    simp only [Bool.and_eq_true] at hc
    obtain ⟨n', hn1, hn, rfl⟩ := isI_of (by decide) hc.1
    obtain ⟨t', -, ht, rfl⟩ := isI_of (by decide) hc.2.1
    obtain ⟨l', -, hl, rfl⟩ := isI_of (by decide) hc.2.2
    have ht4 : t' < 4 := by omega
    rcases flt_of hS ht4 (nI l') i (nI n') with ⟨f, z, f1, f2, f3, f4, f5, f6⟩ | ⟨l0, z, i', n0, g1, g2, g3, g4, g5, g6, g7, g8, g9, g10⟩
    · have e1 := s79_flt (X := X) (Y := Y) (sc := sc) (ai := ai) (aj := aj) hn1 hn ht4 (show l' < 4 by omega) f4 f3 (by rw [f5]; exact f2)
      rw [f5] at e1
      exact ⟨_, _, _, e1, m174_flt hn1 hn ht4 (by omega) f1 (f6 _ _ _ _), h.rr, rfl, rfl⟩
    · have el := (n_eq (by omega) (by omega)).mp g7
      have en := (n_eq (by omega) (by omega)).mp g9
      subst el en g8
      have e2 := m174_ok (X := upX X 1 (pasN n' (X 0))) (Y := Y) (sc := sc) (ai := ai) (aj := upJ aj (si t') (flm (nI l') n' (X 0) i' (aj (si t')))) hH.i2 hH.m2 hn1 hn ht4 g1 g6 g5 g2 g10
      rw [upJ_n (fun e => si_137 ht4 e.symm)] at e2
      have hf := h.fX (pasN n' (X 0)) (pasN n' (Y 0))
      obtain ⟨k1, k2, k3, k4, k5⟩ := hf
      refine ⟨_, _, _, s79_ok hH.1 hH.2.1 hn1 hn ht4 g1 g3 g4 g2 g10, e2, R.rr ⟨k1, k2, k3, k4, fun s hs => ⟨(hS s hs).1, fun k hk => ?_⟩⟩, rfl, rfl⟩
      rw [upJ_n (si_137 hs), upJ_s]
      by_cases c : s = t'
      · subst c
        rw [upJ_s]
        exact ag_flm n' i' _ _ hH.2.2 hH.1 (by omega) (fun k hk => (hS s hs).2 k hk) k hk
      · rw [upJ_n (si_inj c), flm_o _ _ _ _ _ (by omega)]
        exact (hS s hs).2 k hk
theorem c_sheet (t l n : Int32) : St 80 175 [some (.ref 114), some (.int t), some (.int l), some (.int n)] [some (.ref 134), some (.int t), some (.int l), some (.int n), none] := by
  intro X Y sc ai aj h
  obtain ⟨hH, hU, hG, hT, hS⟩ := id h
  by_cases hc : (isI t 0 3 && isI l 0 3) = false ∨ ¬ n ≤ nI 24
  · exact ⟨_, _, _, s80_bad hc, m175_bad hc, h.rr, rfl, rfl⟩
  · have hb : (isI t 0 3 && isI l 0 3) = true := by cases hx : (isI t 0 3 && isI l 0 3) with | true => rfl | false => exact (hc (Or.inl hx)).elim
    have hn : n ≤ nI 24 := Decidable.byContradiction (fun hx => hc (Or.inr hx))
    by_cases h0 : 0 ≤ n
    · simp only [Bool.and_eq_true] at hb
      obtain ⟨t', -, ht, rfl⟩ := isI_of (by decide) hb.1
      obtain ⟨l', -, hl, rfl⟩ := isI_of (by decide) hb.2
      obtain ⟨n', hn', rfl⟩ := nI_of (Int32.not_lt.mpr h0)
      have hn24 := (n_le hn' (by decide)).mp hn
      have ht4 : t' < 4 := by omega
      refine ⟨_, _, _, s80_ok ht4 (by omega) hn24, m175_ok ht4 (by omega) hn24, R.rr ⟨hH, hU.fr (fun _ _ _ => rfl) (fun _ _ _ => rfl) ?_ ?_ ?_, hG.fr (fun _ _ => rfl) (fun _ _ => rfl) ?_ ?_ ?_ ?_ ?_, hT.fr ?_ ?_ ?_ ?_, fun s hs => ⟨?_, fun k hk => ?_⟩⟩, rfl, rfl⟩
      all_goals first
        | (rw [upS_at, if_neg (by unfold sh; omega), upS_at, if_neg (by unfold sh; omega)]; done)
        | (rw [upA_n (by decide), upA_n (by decide)]; done)
        | skip
      · by_cases c : s = t'
        · subst c
          refine Or.inr ⟨l', n', by omega, hn24, ?_, ?_, ?_, ?_⟩
          · rw [upS_at, if_neg (by omega), upS_at, if_pos ⟨rfl, rfl⟩]
          · rw [upS_at, if_pos ⟨rfl, rfl⟩]
          · rw [upA_s]; unfold upd; rw [if_pos rfl]
          · rw [upA_n (by decide), upA_s]; unfold upd; rw [if_pos rfl]
        · refine (hS s hs).1.fr ?_ ?_ ?_ ?_
          · rw [upS_n (sh_inj c), upS_n (sh_inj c)]
          · rw [upS_n (sh_inj c), upS_n (sh_inj c)]
          · rw [upA_s]; unfold upd; rw [if_neg c]
          · rw [upA_n (by decide), upA_s]; unfold upd; rw [if_neg c]
      · rw [upJ_n (si_137 hs), upJ_s, upJ_n (fun e => si_137 ht4 e.symm)]
        by_cases c : s = t'
        · subst c
          rw [upJ_s]
          unfold flJ cpA
          rw [if_pos hk, if_pos (by omega)]
        · rw [upJ_n (si_inj c)]
          unfold cpA
          rw [if_neg (by omega)]
          exact (hS s hs).2 k hk
    · exact ⟨_, _, _, s80_size hb hn h0, m175_size hb hn h0, h.rr, rfl, rfl⟩
theorem c_drop (t : Int32) : St 81 176 [some (.ref 114), some (.int t), none] [some (.ref 134), some (.int t), none] := by
  intro X Y sc ai aj h
  obtain ⟨hH, hU, hG, hT, hS⟩ := id h
  cases hc : isI t 0 3 with
  | false => exact ⟨_, _, _, s81_bad hc, m176_bad hc, h.rr, rfl, rfl⟩
  | true =>
    obtain ⟨t', -, ht, rfl⟩ := isI_of (by decide) hc
    have ht4 : t' < 4 := by omega
    rcases (hS t' ht4).1 with ⟨a, b, c⟩ | ⟨l, z, hl, hz, a, b, c, d⟩
    · exact ⟨_, _, _, s81_null ht4 a, m176_null ht4 c, h.rr, rfl, rfl⟩
    · have e1 := s81_ok (X := X) (Y := Y) (sc := sc) (ai := ai) (aj := aj) ht4 (by rw [a]; exact nl_n1 hl)
      rw [b] at e1
      refine ⟨_, _, _, e1, m176_ok ht4 c hz, R.rr ⟨hH, hU.fr (fun _ _ _ => rfl) (fun _ _ _ => rfl) ?_ ?_ ?_, hG.fr (fun _ _ => rfl) (fun _ _ => rfl) ?_ ?_ ?_ ?_ ?_, hT.fr ?_ ?_ ?_ ?_, fun s hs => ⟨?_, fun k hk => (hS s hs).2 k hk⟩⟩, rfl, rfl⟩
      all_goals first
        | (rw [upS_at, if_neg (by unfold sh; omega), upS_at, if_neg (by unfold sh; omega)]; done)
        | (rw [upA_n (by decide)]; done)
        | skip
      by_cases cc : s = t'
      · subst cc
        refine Or.inl ⟨?_, ?_, ?_⟩
        · rw [upS_at, if_neg (by omega), upS_at, if_pos ⟨rfl, rfl⟩]
        · rw [upS_at, if_pos ⟨rfl, rfl⟩]
        · rw [upA_s]; unfold upd; rw [if_pos rfl]
      · refine (hS s hs).1.fr ?_ ?_ ?_ ?_
        · rw [upS_n (sh_inj cc), upS_n (sh_inj cc)]
        · rw [upS_n (sh_inj cc), upS_n (sh_inj cc)]
        · rw [upA_s]; unfold upd; rw [if_neg cc]
        · rw [upA_n (by decide)]
theorem c_item (t l i : Int32) (v : Int64) : St 82 177 [some (.ref 114), some (.int t), some (.int l), some (.int i), some (.long v), none, none] [some (.ref 134), some (.int t), some (.int l), some (.int i), some (.long v), none, none] := by
  intro X Y sc ai aj h
  obtain ⟨hH, hU, hG, hT, hS⟩ := id h
  cases hc : (isI t 0 3 && isI l 0 3) with
  | false => exact ⟨_, _, _, s82_bad hc, m177_bad hc, h.rr, rfl, rfl⟩
  | true =>
    simp only [Bool.and_eq_true] at hc
    obtain ⟨t', -, ht, rfl⟩ := isI_of (by decide) hc.1
    obtain ⟨l', -, hl, rfl⟩ := isI_of (by decide) hc.2
    have ht4 : t' < 4 := by omega
    rcases flt_of hS ht4 (nI l') i (nI 1) with ⟨f, z, f1, f2, f3, f4, f5, f6⟩ | ⟨l0, z, i', n0, g1, g2, g3, g4, g5, g6, g7, g8, g9, g10⟩
    · have e1 := s82_flt (X := X) (Y := Y) (sc := sc) (ai := ai) (aj := aj) (v := v) ht4 (show l' < 4 by omega) f4 f3 (by rw [f5]; exact f2)
      rw [f5] at e1
      exact ⟨_, _, _, e1, m177_flt ht4 (by omega) f1 (f6 _ _ _ _), h.rr, rfl, rfl⟩
    · have el := (n_eq (by omega) (by omega)).mp g7
      have en := (n_eq (by omega) (by omega)).mp g9
      subst el en g8
      have e2 := m177_ok (X := X) (Y := Y) (sc := sc) (ai := ai) (aj := upJ aj (si t') (vp_updL (aj (si t')) i' (cutL (nI l') v))) (v := v) ht4 g1 g6 g5 g2 (show i' < z by omega)
      rw [upJ_n (fun e => si_137 ht4 e.symm)] at e2
      refine ⟨_, _, _, s82_ok ht4 g1 g3 g4 g2 (show i' < z by omega), e2, R.rr ⟨hH, hU, hG, hT, fun s hs => ⟨(hS s hs).1, fun k hk => ?_⟩⟩, rfl, rfl⟩
      rw [upJ_n (si_137 hs), upJ_s]
      by_cases c : s = t'
      · subst c
        rw [upJ_s]
        unfold vp_updL
        by_cases c2 : k = i'
        · rw [if_pos c2, if_pos (by omega)]
        · rw [if_neg c2, if_neg (by omega)]; exact (hS s hs).2 k hk
      · rw [upJ_n (si_inj c)]
        unfold vp_updL
        rw [if_neg (by omega)]
        exact (hS s hs).2 k hk
theorem c_copy (a i b j n : Int32) : St 83 178 [some (.ref 114), some (.int a), some (.int i), some (.int b), some (.int j), some (.int n), none, none] [some (.ref 134), some (.int a), some (.int i), some (.int b), some (.int j), some (.int n), none] := by
  intro X Y sc ai aj h
  obtain ⟨hH, hU, hG, hT, hS⟩ := id h
  cases hc : (isI a 0 3 && isI b 0 3) with
  | false => exact ⟨_, _, _, s83_bad hc, m178_bad hc, h.rr, rfl, rfl⟩
  | true =>
    simp only [Bool.and_eq_true] at hc
    obtain ⟨a', -, ha, rfl⟩ := isI_of (by decide) hc.1
    obtain ⟨b', -, hb, rfl⟩ := isI_of (by decide) hc.2
    have ha4 : a' < 4 := by omega
    have hb4 : b' < 4 := by omega
    have m1 : (-1 : Int32) < 0 := by decide
    rcases (hS a' ha4).1 with ⟨p1, p2, p3⟩ | ⟨l, z, hl, hz, p1, p2, p3, p4⟩
    · exact ⟨_, _, _, s83_null ha4 hb4 (Or.inl p1), m178_null ha4 hb4 (Or.inl (by rw [p3]; exact m1)), h.rr, rfl, rfl⟩
    · rcases (hS b' hb4).1 with ⟨q1, q2, q3⟩ | ⟨l2, z2, hl2, hz2, q1, q2, q3, q4⟩
      · exact ⟨_, _, _, s83_null ha4 hb4 (Or.inr q1), m178_null ha4 hb4 (Or.inr (by rw [q3]; exact m1)), h.rr, rfl, rfl⟩
      · have n1 : ¬ sc (sh a') 0 = -1 := by rw [p1]; exact nl_n1 hl
        have n2 : ¬ sc (sh b') 0 = -1 := by rw [q1]; exact nl_n1 hl2
        by_cases el : l = l2
        · subst el
          cases hh : (hold i n z && hold j n z2) with
          | false => exact ⟨_, _, _, s83_idx ha4 hb4 n1 n2 (by rw [p1, q1]) p2 q2 hz hz2 hh, m178_idx ha4 hb4 p3 q3 hz hz2 p4 q4 hl hh, h.rr, rfl, rfl⟩
          | true =>
            simp only [Bool.and_eq_true] at hh
            obtain ⟨i', n', rfl, rfl, r1⟩ := hold_of hz hh.1
            obtain ⟨j', n2', rfl, e3, r2⟩ := hold_of hz2 hh.2
            have en := (n_eq (by omega) (by omega)).mp e3
            subst en
            obtain ⟨hd, e2⟩ := m178_ok (X := X) (Y := Y) (sc := sc) (ai := ai) (aj := upJ aj (si b') (va_cpy (aj (si a')) (aj (si b')) i' j' n')) ha4 hb4 p3 q3 hz hz2 p4 q4 hl r1 r2
            rw [upJ_n (fun e => si_137 hb4 e.symm)] at e2
            refine ⟨_, _, _, s83_ok ha4 hb4 n1 n2 (by rw [p1, q1]) p2 q2 hz hz2 r1 r2, e2, R.rr ⟨hH, hU, hG, hT, fun s hs => ⟨(hS s hs).1, fun k hk => ?_⟩⟩, rfl, rfl⟩
            rw [upJ_n (si_137 hs), upJ_n (show ¬ si s = 146 by unfold si; omega), upJ_s]
            by_cases c : s = b'
            · subst c
              rw [upJ_s]
              unfold va_cpy cpA
              by_cases c2 : j' ≤ k ∧ k < j' + n'
              · rw [if_pos c2, if_pos (by omega), (hS a' ha4).2 (i' + (k - j')) (by omega)]
                congr 1; omega
              · rw [if_neg c2, if_neg (by omega)]; exact (hS s hs).2 k hk
            · rw [upJ_n (si_inj c)]
              unfold cpA
              rw [if_neg (by omega)]
              exact (hS s hs).2 k hk
        · have nl : ¬ nI l = nI l2 := by rw [n_eq (by omega) (by omega)]; exact el
          exact ⟨_, _, _, s83_cast ha4 hb4 n1 n2 (by rw [p1, q1]; exact nl), m178_cast ha4 hb4 p3 q3 hz hz2 (by rw [p4, q4]; exact nl), h.rr, rfl, rfl⟩
