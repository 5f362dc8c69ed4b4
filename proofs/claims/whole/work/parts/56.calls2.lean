/-! ===== the calls, one by one (2) ===== -/
theorem c_ahead (n w : Int32) : St 63 144 [some (.ref 114), some (.int n), some (.int w)] [some (.ref 134), some (.int n), some (.int w)] := by
  intro X Y sc ai aj h
  have hH := h.1
  cases hc : (isI n 0 99 && isI w 0 1) with
  | false => exact ⟨_, _, _, s63_bad hc, m144_bad hc, h.rr, rfl, rfl⟩
  | true =>
    simp only [Bool.and_eq_true] at hc
    obtain ⟨n', -, hn, rfl⟩ := isI_of (by decide) hc.1
    obtain ⟨w', -, hw, rfl⟩ := isI_of (by decide) hc.2
    have e2 := m144_ok (X := upX X 1 (pasN n' (X 0))) (Y := Y) (sc := sc) (ai := ai) (aj := aj) hH.i2 hH.m2 hn hw
    rw [← ag_pN2 hH, ← ag_pNo hH] at e2
    exact ⟨_, _, _, s63_ok hH.1 hH.2.1 hn hw, e2, (h.fX _ _).rr, rfl, rfl⟩
theorem c_seen (b n : Int32) : St 64 145 [some (.ref 114), some (.int b), some (.int n)] [some (.ref 134), some (.int b), some (.int n)] := by
  intro X Y sc ai aj h
  have hH := h.1
  have eN := hH.n
  have h6 := hH.1.1
  cases hc : (isB b (X 0 0) && isI n 0 99) with
  | false => exact ⟨_, _, _, s64_bad hH.1 hc, m145_bad hH.i2 (by rw [eN]; exact hc), h.rr, rfl, rfl⟩
  | true =>
    simp only [Bool.and_eq_true] at hc
    obtain ⟨b', hb, rfl⟩ := isB_of (by omega) hc.1
    obtain ⟨n', -, hn, rfl⟩ := isI_of (by decide) hc.2
    have e2 := m145_ok (X := upX X 1 (pasN n' (X 0))) (Y := Y) (sc := sc) (ai := ai) (aj := aj) hH.i2 hH.m2 (show b' < Y 0 0 by rw [eN]; exact hb) hn
    rw [← ag_pNb hH hb] at e2
    exact ⟨_, _, _, s64_ok hH.1 hH.2.1 hb hn, e2, (h.fX _ _).rr, rfl, rfl⟩
theorem c_first (b : Int32) : St 65 146 [some (.ref 114), some (.int b), none] [some (.ref 134), some (.int b), none] := by
  intro X Y sc ai aj h
  have hH := h.1
  have eN := hH.n
  have h6 := hH.1.1
  cases hc : isB b (X 0 0) with
  | false => exact ⟨_, _, _, s65_bad hH.1 hc, m146_bad hH.i2 (by rw [eN]; exact hc), h.rr, rfl, rfl⟩
  | true =>
    obtain ⟨b', hb, rfl⟩ := isB_of (by omega) hc
    obtain ⟨x1, e1⟩ := s65_ok (X := X) (Y := Y) (sc := sc) (ai := ai) (aj := aj) hH.1 hH.2.1 hb
    obtain ⟨y1, e2⟩ := m146_ok (X := upX X 1 x1) (Y := Y) (sc := sc) (ai := ai) (aj := aj) hH.i2 hH.m2 (show b' < Y 0 0 by rw [eN]; exact hb)
    rw [← ag_fi b' 100 0 hH.2.2 hH.1] at e2
    exact ⟨_, _, _, e1, e2, (h.fX _ _).rr, rfl, rfl⟩
theorem c_round (w : Int32) : St 66 148 [some (.ref 114), some (.int w), none, none] [some (.ref 134), some (.int w), none, none] := by
  intro X Y sc ai aj h
  have hH := h.1
  have eN := hH.n
  cases hc : isI w 0 1 with
  | false => exact ⟨_, _, _, s66_bad hc, m148_bad hc, h.rr, rfl, rfl⟩
  | true =>
    obtain ⟨w', -, hw, rfl⟩ := isI_of (by decide) hc
    by_cases hN : X 0 0 = 0
    · exact ⟨_, _, _, s66_none hw hN, m148_none hw (by rw [eN]; exact hN), h.rr, rfl, rfl⟩
    · obtain ⟨x1, f, e1⟩ := s66_ok (X := X) (Y := Y) (sc := sc) (ai := ai) (aj := aj) hw hH.1 (by omega) hH.2.1
      obtain ⟨y1, g, e2⟩ := m148_ok (X := upX X 1 x1) (Y := Y) (sc := sc) (ai := ai) (aj := upJ aj 133 f) hw hH.i2 (by omega) hH.m2
      rw [← ag_rdP hH] at e2
      exact ⟨_, _, _, e1, e2, R.rr (h.fr (fun k hk => upX_n hk) (fun k hk => upX_n hk) (fun _ _ _ _ _ => rfl) (fun _ _ => rfl) (fun a h1 h2 _ => by rw [upJ_n h2, upJ_n h1])), rfl, rfl⟩
/-- -1, or a place -/
theorem kk_of {k : Int32} (h : -1 ≤ k) : ∃ o : Option Nat, (o = none ∧ k = -1) ∨ ∃ j, j < 2 ^ 31 ∧ o = some j ∧ k = nI j := by
  by_cases c : k = -1
  · exact ⟨none, Or.inl ⟨rfl, c⟩⟩
  · have h0 : ¬ k < 0 := by
      intro h2
      apply c
      apply Int32.toInt_inj.mp
      rw [Int32.le_iff_toInt_le] at h
      rw [Int32.lt_iff_toInt_lt] at h2
      have e1 : (-1 : Int32).toInt = -1 := by decide
      have e0 : (0 : Int32).toInt = 0 := by decide
      omega
    obtain ⟨j, hj, e⟩ := nI_of h0
    exact ⟨some j, Or.inr ⟨j, hj, rfl, e⟩⟩
theorem c_turns (b n k : Int32) : St 67 155 [some (.ref 114), some (.int b), some (.int n), some (.int k), none] [some (.ref 134), some (.int b), some (.int n), some (.int k), none, none] := by
  intro X Y sc ai aj h
  have hH := h.1
  have eN := hH.n
  have h6 := hH.1.1
  cases hc : (isB b (X 0 0) && (isI n 1 40 && decide (-1 ≤ k))) with
  | false => exact ⟨_, _, _, s67_bad hH.1 hc, m155_bad hH.i2 (by rw [eN]; exact hc), h.rr, rfl, rfl⟩
  | true =>
    simp only [Bool.and_eq_true, decide_eq_true_eq] at hc
    obtain ⟨b', hb, rfl⟩ := isB_of (by omega) hc.1
    obtain ⟨n', hn1, hn, rfl⟩ := isI_of (by decide) hc.2.1
    obtain ⟨o, ho⟩ := kk_of hc.2.2
    obtain ⟨x1, f, g, e1⟩ := s67_ok (X := X) (Y := Y) (sc := sc) (ai := ai) (aj := aj) o ho hH.1 hH.2.1 hb hn1 hn
    obtain ⟨y1, f2, g2, e2⟩ := m155_ok (X := upX X 1 x1) (Y := Y) (sc := upS sc 130 2 (nI (X 0 0))) (ai := upA (upA ai 131 f) 132 g) (aj := aj) o ho hH.i2 hH.m2 (show b' < Y 0 0 by rw [eN]; exact hb) hn1 hn
    rw [← ag_tnA hH hb] at e2
    exact ⟨_, _, _, e1, e2, R.rr (h.fr (fun k hk => upX_n hk) (fun k hk => upX_n hk) (fun a q _ h2 _ => by rw [upS_n h2]) (fun a ha => by rw [upA_n (by omega), upA_n (by omega), upA_n (by omega), upA_n (by omega)]) (fun _ _ _ _ => rfl)), rfl, rfl⟩
theorem c_fair (n k : Int32) : St 68 156 [some (.ref 114), some (.int n), some (.int k), none] [some (.ref 134), some (.int n), some (.int k), none, none, none, none, none] := by
  intro X Y sc ai aj h
  have hH := h.1
  have eN := hH.n
  cases hc : (isI n 1 40 && decide (-1 ≤ k)) with
  | false => exact ⟨_, _, _, s68_bad hc, m156_bad hc, h.rr, rfl, rfl⟩
  | true =>
    simp only [Bool.and_eq_true, decide_eq_true_eq] at hc
    obtain ⟨n', hn1, hn, rfl⟩ := isI_of (by decide) hc.1
    by_cases hN : X 0 0 = 0
    · exact ⟨_, _, _, s68_none hn1 hn hc.2 hN, m156_none hn1 hn hc.2 (by rw [eN]; exact hN), h.rr, rfl, rfl⟩
    · obtain ⟨o, ho⟩ := kk_of hc.2
      obtain ⟨x1, f, g, e1⟩ := s68_ok (X := X) (Y := Y) (sc := sc) (ai := ai) (aj := aj) o ho hH.1 hH.2.1 (by omega) hn1 hn
      obtain ⟨y1, f2, g2, e2⟩ := m156_ok (X := upX X 1 x1) (Y := Y) (sc := upS sc 130 2 (nI (X 0 0))) (ai := upA (upA ai 131 f) 132 g) (aj := aj) o ho hH.i2 hH.m2 (by omega) hn1 hn
      rw [← ag_frA hH (by omega)] at e2
      exact ⟨_, _, _, e1, e2, R.rr (h.fr (fun k hk => upX_n hk) (fun k hk => upX_n hk) (fun a q _ h2 _ => by rw [upS_n h2]) (fun a ha => by rw [upA_n (by omega), upA_n (by omega), upA_n (by omega), upA_n (by omega)]) (fun _ _ _ _ => rfl)), rfl, rfl⟩
theorem c_learn (b n w : Int32) : St 69 157 [some (.ref 114), some (.int b), some (.int n), some (.int w), none, none, none] [some (.ref 134), some (.int b), some (.int n), some (.int w), none, none, none] := by
  intro X Y sc ai aj h
  have hH := h.1
  have eN := hH.n
  have h6 := hH.1.1
  cases hc : (isB b (X 0 0) && (isI n 1 40 && isI w 0 1)) with
  | false => exact ⟨_, _, _, s69_bad hH.1 hc, m157_bad hH.i2 (by rw [eN]; exact hc), h.rr, rfl, rfl⟩
  | true =>
    simp only [Bool.and_eq_true] at hc
    obtain ⟨b', hb, rfl⟩ := isB_of (by omega) hc.1
    obtain ⟨n', hn1, hn, rfl⟩ := isI_of (by decide) hc.2.1
    obtain ⟨w', -, hw, rfl⟩ := isI_of (by decide) hc.2.2
    obtain ⟨x1, e1⟩ := s69_ok (X := X) (Y := Y) (sc := sc) (ai := ai) (aj := aj) hH.1 hH.2.1 hb hn1 hn hw
    obtain ⟨y1, e2⟩ := m157_ok (X := upX X 1 x1) (Y := Y) (sc := sc) (ai := ai) (aj := aj) hH.i2 hH.m2 (show b' < Y 0 0 by rw [eN]; exact hb) hn1 hn hw
    rw [← ag_lrA hH hb] at e2
    exact ⟨_, _, _, e1, e2, (h.fX _ _).rr, rfl, rfl⟩
theorem c_pay (b n : Int32) : St 70 158 [some (.ref 114), some (.int b), some (.int n), none] [some (.ref 134), some (.int b), some (.int n), none] := by
  intro X Y sc ai aj h
  have hH := h.1
  have eN := hH.n
  have h6 := hH.1.1
  cases hc : (isB b (X 0 0) && isI n 0 40) with
  | false => exact ⟨_, _, _, s70_bad hH.1 hc, m158_bad hH.i2 (by rw [eN]; exact hc), h.rr, rfl, rfl⟩
  | true =>
    simp only [Bool.and_eq_true] at hc
    obtain ⟨b', hb, rfl⟩ := isB_of (by omega) hc.1
    obtain ⟨n', -, hn, rfl⟩ := isI_of (by decide) hc.2
    obtain ⟨x1, e1⟩ := s70_ok (X := X) (Y := Y) (sc := sc) (ai := ai) (aj := aj) hH.1 hH.2.1 hb hn
    obtain ⟨y1, e2⟩ := m158_ok (X := upX X 1 x1) (Y := Y) (sc := sc) (ai := ai) (aj := aj) hH.i2 hH.m2 (show b' < Y 0 0 by rw [eN]; exact hb) hn
    rw [← ag_pyF hH hb 100 0 (by omega)] at e2
    exact ⟨_, _, _, e1, e2, (h.fX _ _).rr, rfl, rfl⟩
theorem c_send (b n w : Int32) : St 71 159 [some (.ref 114), some (.int b), some (.int n), some (.int w), none, none, none, none, none] [some (.ref 134), some (.int b), some (.int n), some (.int w), none, none, none, none] := by
  intro X Y sc ai aj h
  have hH := h.1
  have eN := hH.n
  have h6 := hH.1.1
  cases hc : (isB b (X 0 0) && (isI n 0 40 && isI w 0 1)) with
  | false => exact ⟨_, _, _, s71_bad hH.1 hc, m159_bad hH.i2 (by rw [eN]; exact hc), h.rr, rfl, rfl⟩
  | true =>
    simp only [Bool.and_eq_true] at hc
    obtain ⟨b', hb, rfl⟩ := isB_of (by omega) hc.1
    obtain ⟨n', -, hn, rfl⟩ := isI_of (by decide) hc.2.1
    obtain ⟨w', -, hw, rfl⟩ := isI_of (by decide) hc.2.2
    obtain ⟨x1, e1⟩ := s71_ok (X := X) (Y := Y) (sc := sc) (ai := ai) (aj := aj) hH.1 hH.2.1 hb hn hw
    obtain ⟨y1, e2⟩ := m159_ok (X := upX X 1 x1) (Y := Y) (sc := sc) (ai := ai) (aj := aj) hH.i2 hH.m2 (show b' < Y 0 0 by rw [eN]; exact hb) hn hw
    rw [← ag_sdA hH] at e2
    exact ⟨_, _, _, e1, e2, (h.fX _ _).rr, rfl, rfl⟩
theorem c_ousts (b : Int32) : St 72 161 [some (.ref 114), some (.int b)] [some (.ref 134), some (.int b)] := by
  intro X Y sc ai aj h
  have hH := h.1
  have eN := hH.n
  have h6 := hH.1.1
  cases hc : isB b (X 0 0) with
  | false => exact ⟨_, _, _, s72_bad hH.1 hc, m161_bad hH.i2 (by rw [eN]; exact hc), h.rr, rfl, rfl⟩
  | true =>
    obtain ⟨b', hb, rfl⟩ := isB_of (by omega) hc
    have e2 := m161_ok (X := X) (Y := Y) (sc := sc) (ai := ai) (aj := aj) hH.i2 (by have := hH.m2; omega) (show b' < Y 0 0 by rw [eN]; exact hb)
    rw [eN, ← ag_ous hH.2.2 hH.1 hb (X 0 0) 0 0 (by omega), ← hH.2.2.lo (show 4 < 6 by decide)] at e2
    exact ⟨_, _, _, s72_ok hH.1 (by have := hH.2.1; omega) hb, e2, h.rr, rfl, rfl⟩
theorem c_safe : St 73 162 [some (.ref 114), none, none] [some (.ref 134), none, none] := by
  intro X Y sc ai aj h
  have hH := h.1
  have e2 := m162 (X := X) (Y := Y) (sc := sc) (ai := ai) (aj := aj) hH.i2 (by have := hH.m2; omega)
  rw [← ag_safe hH] at e2
  exact ⟨_, _, _, s73 hH.1 (by have := hH.2.1; omega), e2, h.rr, rfl, rfl⟩
theorem c_miss (b n c w : Int32) : St 74 164 [some (.ref 114), some (.int b), some (.int n), some (.int c), some (.int w), none, none, none, none, none, none] [some (.ref 134), some (.int b), some (.int n), some (.int c), some (.int w), none, none, none, none, none, none, none, none] := by
  intro X Y sc ai aj h
  have hH := h.1
  have eN := hH.n
  have h6 := hH.1.1
  cases hc : (isB b (X 0 0) && (isI n 0 8 && (isI c 0 10 && isI w 0 1))) with
  | false => exact ⟨_, _, _, s74_bad hH.1 hc, m164_bad hH.i2 (by rw [eN]; exact hc), h.rr, rfl, rfl⟩
  | true =>
    simp only [Bool.and_eq_true] at hc
    obtain ⟨b', hb, rfl⟩ := isB_of (by omega) hc.1
    obtain ⟨n', -, hn, rfl⟩ := isI_of (by decide) hc.2.1
    obtain ⟨c', -, hcc, rfl⟩ := isI_of (by decide) hc.2.2.1
    obtain ⟨w', -, hw, rfl⟩ := isI_of (by decide) hc.2.2.2
    obtain ⟨x1, e1⟩ := s74_ok (X := X) (Y := Y) (sc := sc) (ai := ai) (aj := aj) hH.1 hH.2.1 hb hn hcc hw
    obtain ⟨y1, e2⟩ := m164_ok (X := upX X 1 x1) (Y := Y) (sc := sc) (ai := ai) (aj := aj) hH.i2 hH.m2 (show b' < Y 0 0 by rw [eN]; exact hb) hn hcc hw
    rw [← ag_msA hH] at e2
    exact ⟨_, _, _, e1, e2, (h.fX _ _).rr, rfl, rfl⟩
theorem c_image : St 75 165 [some (.ref 114)] [some (.ref 134)] := by
  intro X Y sc ai aj h
  obtain ⟨hH, ⟨nx, u, hP, u1, u2, u3⟩, hG, hT, hS⟩ := id h
  refine ⟨_, _, _, s75, m165, R.rr ⟨?_, ⟨nx, u, hP.fr (fun k hk => ?_) (fun k hk => ?_), ?_, ?_, ?_⟩, Or.inr ⟨?_, ?_, ?_, nx, u, ⟨hP.1, hP.2.1, fun i hi => ?_⟩, ?_, ?_, ?_⟩, hT.fr ?_ ?_ rfl rfl, hS.fr (fun s hs => ?_) (fun s hs => ?_) rfl rfl (fun _ _ => rfl) rfl⟩, rfl, rfl⟩
  · unfold cpH cpY; rw [if_neg (by omega), if_neg (by omega), upX_n (by decide)]; exact hH
  · unfold cpH; rw [if_neg (by omega), upX_n (by omega)]
  · unfold cpY; rw [if_neg (by omega)]
  · simp [upS_at, hi0, hi1, u1]
  · simp [upS_at, hi0, hi1, u2]
  · simp [upS_at, hi0, hi1, u3]
  · simp [upS_at, hi0, hi1]
  · simp [upS_at, hi0, hi1]
  · unfold cpH cpY; rw [if_neg (by omega), if_pos (by omega), upX_s]; exact hH
  · have hq : (nx + 8 - u + i) % 8 < 8 := Nat.mod_lt _ (by decide)
    have hu := hP.2.1
    unfold cpH cpY
    rw [if_pos (by omega), if_pos (by omega), upX_n (by omega), show 11 + (nx + 8 - u + i) % 8 + 8 * 0 - 8 * 1 = 3 + (nx + 8 - u + i) % 8 by omega, show 12 + i + 0 - 10 = 2 + i by omega]
    exact hP.2.2 i hi
  · simp [upS_at, hi0, hi1, u1]
  · simp [upS_at, hi0, hi1, u2]
  · simp [upS_at, hi0, hi1, u3]
  · simp [upS_at, hi0, hi1]
  · simp [upS_at, hi0, hi1]
  · simp only [hi0, hi1]; rw [upS_at, if_neg (by unfold sh; omega), upS_at, if_neg (by unfold sh; omega), upS_at, if_neg (by unfold sh; omega), upS_at, if_neg (by unfold sh; omega), upS_at, if_neg (by unfold sh; omega)]
  · simp only [hi0, hi1]; rw [upS_at, if_neg (by unfold sh; omega), upS_at, if_neg (by unfold sh; omega), upS_at, if_neg (by unfold sh; omega), upS_at, if_neg (by unfold sh; omega), upS_at, if_neg (by unfold sh; omega)]
theorem c_restore : St 76 166 [some (.ref 114)] [some (.ref 134)] := by
  intro X Y sc ai aj h
  obtain ⟨hH, ⟨nx, u, hP, u1, u2, u3⟩, hG, hT, hS⟩ := id h
  rcases hG with ⟨a, b⟩ | ⟨a, b, c, nx', u', hP', v1, v2, v3⟩
  · exact ⟨_, _, _, s76_none a, m166_none b, h.rr, rfl, rfl⟩
  · refine ⟨_, _, _, s76_ok a, m166_ok (by simp [upS_at, hi0, hi1, b]), R.rr ⟨?_, ⟨nx', u', ⟨hP'.1, hP'.2.1, fun i hi => ?_⟩, ?_, ?_, ?_⟩, Or.inr ⟨?_, ?_, ?_, nx', u', hP'.fr (fun k hk => ?_) (fun k hk => ?_), ?_, ?_, ?_⟩, hT.fr ?_ ?_ rfl rfl, hS.fr (fun s hs => ?_) (fun s hs => ?_) rfl rfl (fun _ _ => rfl) rfl⟩, rfl, rfl⟩
    · unfold cpH cpY; rw [if_neg (by omega), if_pos (by omega), upX_s]; exact c
    · have hq : (nx' + 8 - u' + i) % 8 < 8 := Nat.mod_lt _ (by decide)
      have hu := hP'.2.1
      unfold cpH cpY
      rw [if_pos (by omega), if_pos (by omega), upX_n (by omega), show 3 + (nx' + 8 - u' + i) % 8 + 8 * 1 - 8 * 0 = 11 + (nx' + 8 - u' + i) % 8 by omega, show 2 + i + 10 - 0 = 12 + i by omega]
      exact hP'.2.2 i hi
    · simp [upS_at, hi0, hi1, v1]
    · simp [upS_at, hi0, hi1, v2]
    · simp [upS_at, hi0, hi1, v3]
    · simp [upS_at, hi0, hi1, a]
    · simp [upS_at, hi0, hi1, b]
    · unfold cpH cpY; rw [if_neg (by omega), if_neg (by omega), upX_n (by decide)]; exact c
    · unfold cpH; rw [if_neg (by omega), upX_n (by omega)]
    · unfold cpY; rw [if_neg (by omega)]
    · simp [upS_at, hi0, hi1, v1]
    · simp [upS_at, hi0, hi1, v2]
    · simp [upS_at, hi0, hi1, v3]
    · simp [upS_at, hi0, hi1]
    · simp [upS_at, hi0, hi1]
    · simp only [hi0, hi1]; rw [upS_at, if_neg (by unfold sh; omega), upS_at, if_neg (by unfold sh; omega), upS_at, if_neg (by unfold sh; omega)]
    · simp only [hi0, hi1]; rw [upS_at, if_neg (by unfold sh; omega), upS_at, if_neg (by unfold sh; omega), upS_at, if_neg (by unfold sh; omega)]
