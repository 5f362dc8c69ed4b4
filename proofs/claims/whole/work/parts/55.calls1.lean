/-! ===== the calls, one by one: both answer alike and stay alike (1) ===== -/
theorem hi0 : hi_ 0 = 115 := rfl
theorem hi1 : hi_ 1 = 117 := rfl
theorem R.und {X Y X' Y' : Nat → Nat → Nat} {sc ai sc' : Nat → Nat → Int32} {aj : Nat → Nat → Int64} {nx u : Nat} (h : R X Y sc ai aj) (hH : Hs (X' 0) (Y' 0)) (hP : HP X' Y' 3 2 nx u) (s1 : sc' 115 1 = nI nx) (s2 : sc' 115 2 = nI u) (s3 : sc' 134 1 = nI u) (hX : ∀ k, k = 2 ∨ 11 ≤ k → X' k = X k) (hY : ∀ k, 10 ≤ k → Y' k = Y k) (hs : ∀ a q, ¬ a = 115 → ¬ (a = 134 ∧ q = 1) → sc' a q = sc a q) : R X' Y' sc' ai aj := by
  obtain ⟨a, b, c, d, e⟩ := h
  exact ⟨hH, ⟨nx, u, hP, s1, s2, s3⟩, c.fr hX hY (hs _ _ (by decide) (by decide)) (hs _ _ (by decide) (by decide)) (hs _ _ (by decide) (by decide)) (hs _ _ (by decide) (by decide)) (hs _ _ (by decide) (by decide)), d.fr (hs _ _ (by decide) (by decide)) (hs _ _ (by decide) (by decide)) rfl rfl, e.fr (fun s hs4 => hs _ _ (by unfold sh; omega) (by unfold sh; omega)) (fun s hs4 => hs _ _ (by unfold sh; omega) (by unfold sh; omega)) rfl rfl (fun s hs4 => rfl) rfl⟩
theorem addb_1 {x : Nat → Nat} {k p t : Nat} (h : x 0 < 6) : addb x k p t 1 = x 1 := by rw [addb_at h, if_neg (by omega), if_neg (by omega), if_neg (by omega), if_neg (by omega), if_neg (by omega), if_neg (by omega), if_neg (by omega)]
theorem mnd_hi {Y : Nat → Nat → Nat} {u k : Nat} (hu : u ≤ 8) (hk : 10 ≤ k) : mnd Y u k = Y k := by
  unfold mnd
  split
  · rw [upX_n (by omega)]; unfold shf; rw [if_neg (by omega)]
  · rw [upX_n (by omega)]
theorem c_buyer (k p t : Int32) : St 49 110 [some (.ref 114), some (.int k), some (.int p), some (.int t)] [some (.ref 134), some (.int k), some (.int p), some (.int t)] := by
  intro X Y sc ai aj h
  obtain ⟨hH, ⟨nx, u, hP, u1, u2, u3⟩, hG, hT, hS⟩ := id h
  have eN := hH.n
  cases hc : (isI k 0 4 && (isI p 0 99 && isI t 0 31)) with
  | false => exact ⟨_, _, _, s49_bad hc, m110_bad hc, h.rr, rfl, rfl⟩
  | true =>
    simp only [Bool.and_eq_true] at hc
    by_cases hN : X 0 0 = 6
    · exact ⟨_, _, _, s49_full hc.1 hc.2.1 hc.2.2 hN, m110_full hc.1 hc.2.1 hc.2.2 (by rw [eN]; exact hN), h.rr, rfl, rfl⟩
    · have h6 := hH.1.1
      obtain ⟨k', -, hk, rfl⟩ := isI_of (by decide) hc.1
      obtain ⟨p', -, hp', rfl⟩ := isI_of (by decide) hc.2.1
      obtain ⟨t', -, ht, rfl⟩ := isI_of (by decide) hc.2.2
      have e2 := m110_ok (X := upX X 0 (addb (X 0) k' p' t')) (Y := Y) (sc := upS sc (hi_ 0) 2 (nI 0)) (ai := ai) (aj := aj) hk hp' ht (by rw [eN]; omega)
      rw [eN] at e2
      refine ⟨_, _, _, s49_ok hk hp' ht (by omega), e2, R.rr ?_, rfl, rfl⟩
      refine h.und (nx := nx) (u := 0) ?_ ⟨hP.1, by omega, fun i hi => by omega⟩ ?_ ?_ ?_ (fun k hk => upX_n (by omega)) (fun k hk => upX_n (by omega)) (fun a q h1 h2 => ?_)
      · rw [upX_s, upX_s]
        exact ⟨inv_addb hH.1 (by omega) hk hp' ht, by rw [addb_1 (by omega)]; exact hH.2.1, ag_addb hH.2.2 (by omega)⟩
      · simp [upS_at, hi0, u1]
      · simp [upS_at, hi0]
      · simp [upS_at]
      · rw [upS_at, if_neg h2, upS_at, if_neg (by rw [hi0]; omega)]
theorem c_of (b w : Int32) : St 50 117 [some (.ref 114), some (.int b), some (.int w)] [some (.ref 134), some (.int b), some (.int w)] := by
  intro X Y sc ai aj h
  have hH := h.1
  have eN := hH.n
  by_cases hc : isB b (X 0 0) = false ∨ isI w 0 6 = false
  · exact ⟨_, _, _, s50_bad hH.1 hc, m117_bad hH.i2 (by rw [eN]; exact hc), h.rr, rfl, rfl⟩
  · have hb : isB b (X 0 0) = true := by cases hx : isB b (X 0 0) with | true => rfl | false => exact (hc (Or.inl hx)).elim
    have hw : isI w 0 6 = true := by cases hx : isI w 0 6 with | true => rfl | false => exact (hc (Or.inr hx)).elim
    have h6 := hH.1.1
    obtain ⟨b', hb', rfl⟩ := isB_of (by omega) hb
    obtain ⟨w', -, hw', rfl⟩ := isI_of (by decide) hw
    have e2 := m117_ok (X := X) (Y := Y) (sc := sc) (ai := ai) (aj := aj) hH.i2 (by have := hH.m2; omega) (show b' < Y 0 0 by rw [eN]; exact hb') hw'
    rw [← ag_ofA hH hb'] at e2
    exact ⟨_, _, _, s50_ok hH.1 (by have := hH.2.1; omega) hb' hw', e2, h.rr, rfl, rfl⟩
theorem c_turn (b : Int32) : St 51 118 [some (.ref 114), some (.int b)] [some (.ref 134), some (.int b)] := by
  intro X Y sc ai aj h
  have hH := h.1
  have eN := hH.n
  cases hb : isB b (X 0 0) with
  | false => exact ⟨_, _, _, s51_bad hH.1 hb, m118_bad hH.i2 (by rw [eN]; exact hb), h.rr, rfl, rfl⟩
  | true =>
    have h6 := hH.1.1
    obtain ⟨b', hb', rfl⟩ := isB_of (by omega) hb
    have e2 := m118_ok (X := X) (Y := Y) (sc := sc) (ai := ai) (aj := aj) hH.i2 (show b' < Y 0 0 by rw [eN]; exact hb')
    rw [← hH.b (c := 18) (by decide) (by decide) hb'] at e2
    exact ⟨_, _, _, s51_ok hH.1 hb', e2, h.rr, rfl, rfl⟩
theorem c_type (k : Int32) : St 52 119 [some (.ref 114), some (.int k)] [some (.ref 134), some (.int k)] := by
  intro X Y sc ai aj h
  obtain ⟨hH, hU, hG, ⟨z, l, hz, t1, t2, t3, t4⟩, hS⟩ := id h
  cases hc : isI k 32 126 with
  | false => exact ⟨_, _, _, s52_bad hc, m119_bad hc, h.rr, rfl, rfl⟩
  | true =>
    by_cases h70 : z = 70
    · exact ⟨_, _, _, s52_full hc (by rw [t1, h70]), m119_full hc (by rw [t2, h70]), h.rr, rfl, rfl⟩
    · obtain ⟨k', hk1, hk2, rfl⟩ := isI_of (by decide) hc
      have e2 := m119_ok (X := X) (Y := Y) (sc := upS sc 119 1 (nI (z + 1))) (ai := upA ai 120 (upd (ai 120) z (nI k'))) (aj := aj) hk1 hk2 (show z < 70 by omega) (by rw [upS_at, if_neg (by decide)]; exact t2)
      refine ⟨_, _, _, s52_ok hk1 hk2 (show z < 70 by omega) t1, e2, R.rr ⟨hH, hU.fr (fun _ _ _ => rfl) (fun _ _ _ => rfl) ?_ ?_ ?_, hG.fr (fun _ _ => rfl) (fun _ _ => rfl) ?_ ?_ ?_ ?_ ?_, ⟨z + 1, fun q => if q = z then k' else l q, by omega, ?_, ?_, fun q hq => ?_, fun q hq => ?_⟩, hS.fr (fun s hs => ?_) (fun s hs => ?_) ?_ ?_ (fun s hs => rfl) rfl⟩, rfl, rfl⟩
      · simp [upS_at]
      · simp [upS_at]
      · simp [upS_at]
      · simp [upS_at]
      · simp [upS_at]
      · simp [upS_at]
      · simp [upS_at]
      · simp [upS_at]
      · simp [upS_at]
      · simp [upS_at]
      · rw [upA_n (by decide), upA_s]
        unfold upd
        by_cases c : q = z
        · simp [c]; omega
        · simp only [if_neg c]; exact t3 q (by omega)
      · rw [upA_s, upA_n (by decide)]
        unfold upd
        by_cases c : q = z
        · simp [c]; omega
        · simp only [if_neg c]; exact t4 q (by omega)
      · rw [upS_at, if_neg (by unfold sh; omega), upS_at, if_neg (by unfold sh; omega)]
      · rw [upS_at, if_neg (by unfold sh; omega), upS_at, if_neg (by unfold sh; omega)]
      · rw [upA_n (by decide), upA_n (by decide)]
      · rw [upA_n (by decide), upA_n (by decide)]
theorem c_count (w : Int32) : St 54 127 [some (.ref 114), some (.int w)] [some (.ref 134), some (.int w)] := by
  intro X Y sc ai aj h
  obtain ⟨hH, ⟨nx, u, hP, u1, u2, u3⟩, -, -, -⟩ := id h
  cases hc : isI w 0 7 with
  | false => exact ⟨_, _, _, s54_bad hc, m127_bad hc, h.rr, rfl, rfl⟩
  | true =>
    obtain ⟨w', -, hw', rfl⟩ := isI_of (by decide) hc
    have e2 := m127_ok (X := X) (Y := Y) (sc := sc) (ai := ai) (aj := aj) hH.i2 (by have := hH.m2; omega) u3 hw'
    rw [← ag_cntA hH] at e2
    exact ⟨_, _, _, s54_ok hH.1 (by have := hH.2.1; omega) u2 hw', e2, h.rr, rfl, rfl⟩
theorem c_minutes (n : Int32) : St 55 133 [some (.ref 114), some (.int n)] [some (.ref 134), some (.int n), none] := by
  intro X Y sc ai aj h
  obtain ⟨hH, ⟨nx, u, hP, u1, u2, u3⟩, -, -, -⟩ := id h
  have hm := hH.2.1
  have hm2 := hH.m2
  cases hc : isI n 1 40 with
  | false => exact ⟨_, _, _, s55 (r88_bad hc), m133_bad hc, h.rr, rfl, rfl⟩
  | true =>
    obtain ⟨n', h1, h2, rfl⟩ := isI_of (by decide) hc
    have e1 := hH.2.2.lo (show 1 < 6 by decide)
    by_cases hf : X 0 1 + n' ≤ 9999
    · have a := r88_ok (X := X) (Y := Y) (sc := sc) (ai := ai) (aj := aj) (rb := false) hH.1 h1 h2 hf u1 u2 hP.1 hP.2.1
      obtain ⟨g1, g2, g3, g4⟩ := gm_X n' false X Y nx u hH.1 hf hH.2.2 hP
      have b := m133_ok (X := gX n' false X nx) (Y := Y) (sc := upS (upS sc (hi_ 0) 1 (nI ((nx + n') % 8))) (hi_ 0) 2 (nI (min (u + n') 8))) (ai := ai) (aj := aj) (u := u) hH.i2 h1 h2 (by rw [← e1]; exact hf) (by simp [upS_at, hi0, u3]) hP.2.1
      rw [← g1.2.2.lo (show 2 < 6 by decide)] at b
      refine ⟨_, _, _, s55 a, b, R.rr (h.und g1 g2 ?_ ?_ ?_ g3 g4 (fun a q q1 q2 => ?_)), rfl, rfl⟩
      · simp [upS_at, hi0]
      · simp [upS_at, hi0]
      · simp [upS_at]
      · rw [upS_at, if_neg q2, upS_at, if_neg (by rw [hi0]; omega), upS_at, if_neg (by rw [hi0]; omega)]
    · exact ⟨_, _, _, s55 (r88_full (by omega) h1 h2 (by omega)), m133_full (by omega) h1 h2 (by omega), h.rr, rfl, rfl⟩
theorem c_drift (n : Int32) : St 60 140 [some (.ref 114), some (.int n)] [some (.ref 134), some (.int n), none, none] := by
  intro X Y sc ai aj h
  obtain ⟨hH, ⟨nx, u, hP, u1, u2, u3⟩, -, -, -⟩ := id h
  have hm := hH.2.1
  have hm2 := hH.m2
  cases hc : isI n 1 40 with
  | false => exact ⟨_, _, _, s60 (r88_bad hc), m140_bad hc, h.rr, rfl, rfl⟩
  | true =>
    obtain ⟨n', h1, h2, rfl⟩ := isI_of (by decide) hc
    have e1 := hH.2.2.lo (show 1 < 6 by decide)
    by_cases hf : X 0 1 + n' ≤ 9999
    · have a := r88_ok (X := X) (Y := Y) (sc := sc) (ai := ai) (aj := aj) (rb := true) hH.1 h1 h2 hf u1 u2 hP.1 hP.2.1
      obtain ⟨g1, g2, g3, g4⟩ := gm_X n' true X Y nx u hH.1 hf hH.2.2 hP
      have b := m140_ok (X := gX n' true X nx) (Y := Y) (sc := upS (upS sc (hi_ 0) 1 (nI ((nx + n') % 8))) (hi_ 0) 2 (nI (min (u + n') 8))) (ai := ai) (aj := aj) (u := u) hH.i2 h1 h2 (by rw [← e1]; exact hf) (by simp [upS_at, hi0, u3]) hP.2.1
      rw [← g1.2.2.lo (show 2 < 6 by decide)] at b
      refine ⟨_, _, _, s60 a, b, R.rr (h.und g1 g2 ?_ ?_ ?_ g3 g4 (fun a q q1 q2 => ?_)), rfl, rfl⟩
      · simp [upS_at, hi0]
      · simp [upS_at, hi0]
      · simp [upS_at]
      · rw [upS_at, if_neg q2, upS_at, if_neg (by rw [hi0]; omega), upS_at, if_neg (by rw [hi0]; omega)]
    · exact ⟨_, _, _, s60 (r88_full (by omega) h1 h2 (by omega)), m140_full (by omega) h1 h2 (by omega), h.rr, rfl, rfl⟩
/-- what is done with something kept for undo -/
theorem R.done {X Y : Nat → Nat → Nat} {sc ai : Nat → Nat → Int32} {aj : Nat → Nat → Int64} {nx u : Nat} (h : R X Y sc ai aj) (hP : HP X Y 3 2 nx u) {x' y' : Nat → Nat} (hH : Hs x' y') : R (upX (upX X (3 + nx) (X 0)) 0 x') (upX (mnd Y u) 0 y') (upS (upS (upS sc (hi_ 0) 1 (nI ((nx + 1) % 8))) (hi_ 0) 2 (nI (min (u + 1) 8))) 134 1 (nI (min (u + 1) 8))) ai aj := by
  have h8 := hP.1
  refine h.und (by rw [upX_s, upX_s]; exact hH) (hP.push h.1 _ _) ?_ ?_ ?_ (fun k hk => ?_) (fun k hk => ?_) (fun a q q1 q2 => ?_)
  · simp [upS_at, hi0]
  · simp [upS_at, hi0]
  · simp [upS_at]
  · rw [upX_n (by omega), upX_n (by omega)]
  · rw [upX_n (by omega), mnd_hi hP.2.1 hk]
  · rw [upS_at, if_neg q2, upS_at, if_neg (by rw [hi0]; omega), upS_at, if_neg (by rw [hi0]; omega)]
theorem c_learnt (b k : Int32) : St 56 134 [some (.ref 114), some (.int b), some (.int k)] [some (.ref 134), some (.int b), some (.int k)] := by
  intro X Y sc ai aj h
  obtain ⟨hH, ⟨nx, u, hP, u1, u2, u3⟩, -, -, -⟩ := id h
  have eN := hH.n
  have h6 := hH.1.1
  cases hc : (isB b (X 0 0) && isI k 0 4) with
  | false => exact ⟨_, _, _, s56_bad hH.1 hc, m134_bad hH.i2 (by rw [eN]; exact hc), h.rr, rfl, rfl⟩
  | true =>
    simp only [Bool.and_eq_true] at hc
    obtain ⟨b', hb, rfl⟩ := isB_of (by omega) hc.1
    obtain ⟨k', -, hk, rfl⟩ := isI_of (by decide) hc.2
    have eb := hH.b (c := 6) (by decide) (by decide) hb
    cases ht : (X 0 (6 + b')).testBit k' with
    | true => exact ⟨_, _, _, s56_not hH.1 hb hk ht, m134_not hH.i2 (by rw [eN]; exact hb) hk (by rw [← eb]; exact ht), h.rr, rfl, rfl⟩
    | false =>
      have e2 := m134_ok (X := upX (upX X (3 + nx) (X 0)) 0 (tea (X 0) b' k')) (Y := Y) (sc := upS (upS sc (hi_ 0) 1 (nI ((nx + 1) % 8))) (hi_ 0) 2 (nI (min (u + 1) 8))) (ai := ai) (aj := aj) (u := u) hH.i2 (show b' < Y 0 0 by rw [eN]; exact hb) hk (by rw [← eb]; exact ht) (by simp [upS_at, hi0, u3]) hP.2.1
      rw [← eb] at e2
      obtain ⟨a1, a2, a3⟩ := inv_tea (k := k') hH.1 hb (by omega)
      exact ⟨_, _, _, s56_ok hH.1 hb hk ht u1 u2 hP.1 hP.2.1, e2, R.rr (h.done hP ⟨a1, by rw [a3]; exact hH.2.1, ag_tea hH.2.2 h6 hb⟩), rfl, rfl⟩
theorem c_sent (b : Int32) : St 57 137 [some (.ref 114), some (.int b)] [some (.ref 134), some (.int b)] := by
  intro X Y sc ai aj h
  obtain ⟨hH, ⟨nx, u, hP, u1, u2, u3⟩, -, -, -⟩ := id h
  have eN := hH.n
  have h6 := hH.1.1
  have e4 := hH.2.2.lo (show 4 < 6 by decide)
  cases hc : isB b (X 0 0) with
  | false => exact ⟨_, _, _, s57_bad hH.1 hc, m137_bad hH.i2 (by rw [eN]; exact hc), h.rr, rfl, rfl⟩
  | true =>
    obtain ⟨b', hb, rfl⟩ := isB_of (by omega) hc
    cases ht : (X 0 4).testBit b' with
    | false => exact ⟨_, _, _, s57_not hH.1 hb ht, m137_not hH.i2 (by rw [eN]; exact hb) (by rw [← e4]; exact ht), h.rr, rfl, rfl⟩
    | true =>
      have e2 := m137_ok (X := upX (upX X (3 + nx) (X 0)) 0 (snd (X 0) b')) (Y := Y) (sc := upS (upS sc (hi_ 0) 1 (nI ((nx + 1) % 8))) (hi_ 0) 2 (nI (min (u + 1) 8))) (ai := ai) (aj := aj) (u := u) hH.i2 (show b' < Y 0 0 by rw [eN]; exact hb) (by rw [← e4]; exact ht) (by simp [upS_at, hi0, u3]) hP.2.1
      rw [← e4] at e2
      obtain ⟨a1, a2, a3⟩ := inv_snd (b := b') hH.1 (by omega)
      exact ⟨_, _, _, s57_ok hH.1 hb ht u1 u2 hP.1 hP.2.1, e2, R.rr (h.done hP ⟨a1, by rw [a3]; exact hH.2.1, ag_snd hH.2.2⟩), rfl, rfl⟩
theorem c_called : St 58 138 [some (.ref 114), none] [some (.ref 134), none] := by
  intro X Y sc ai aj h
  obtain ⟨hH, ⟨nx, u, hP, u1, u2, u3⟩, -, -, -⟩ := id h
  have e2' := hH.2.2.lo (show 2 < 6 by decide)
  by_cases hc : X 0 2 < 6
  · have e2 := m138_ok (X := upX (upX X (3 + nx) (X 0)) 0 (emp (X 0))) (Y := Y) (sc := upS (upS sc (hi_ 0) 1 (nI ((nx + 1) % 8))) (hi_ 0) 2 (nI (min (u + 1) 8))) (ai := ai) (aj := aj) (u := u) (by rw [← e2']; exact hc) (by simp [upS_at, hi0, u3]) hP.2.1
    rw [← e2'] at e2
    obtain ⟨a1, a2, a3⟩ := inv_emp hH.1
    exact ⟨_, _, _, s58_ok hc u1 u2 hP.1 hP.2.1, e2, R.rr (h.done hP ⟨a1, by rw [a3]; exact hH.2.1, ag_emp hH.2.2⟩), rfl, rfl⟩
  · exact ⟨_, _, _, s58_not hc, m138_not (by rw [← e2']; exact hc), h.rr, rfl, rfl⟩
theorem c_changed (a b : Int32) : St 59 139 [some (.ref 114), some (.int a), some (.int b), none] [some (.ref 134), some (.int a), some (.int b), none] := by
  intro X Y sc ai aj h
  obtain ⟨hH, ⟨nx, u, hP, u1, u2, u3⟩, -, -, -⟩ := id h
  have eN := hH.n
  have h6 := hH.1.1
  cases hc : (isB a (X 0 0) && (isB b (X 0 0) && decide (¬ a = b))) with
  | false => exact ⟨_, _, _, s59_bad hH.1 hc, m139_bad hH.i2 (by rw [eN]; exact hc), h.rr, rfl, rfl⟩
  | true =>
    simp only [Bool.and_eq_true, decide_eq_true_eq] at hc
    obtain ⟨a', ha, rfl⟩ := isB_of (by omega) hc.1
    obtain ⟨b', hb, rfl⟩ := isB_of (by omega) hc.2.1
    have hab : ¬ a' = b' := fun e => hc.2.2 (by rw [e])
    have e2 := m139_ok (X := upX (upX X (3 + nx) (X 0)) 0 (chg (X 0) a' b')) (Y := Y) (sc := upS (upS sc (hi_ 0) 1 (nI ((nx + 1) % 8))) (hi_ 0) 2 (nI (min (u + 1) 8))) (ai := ai) (aj := aj) (u := u) hH.i2 (show a' < Y 0 0 by rw [eN]; exact ha) (show b' < Y 0 0 by rw [eN]; exact hb) hab (by simp [upS_at, hi0, u3]) hP.2.1
    rw [← hH.b (c := 18) (by decide) (by decide) hb] at e2
    obtain ⟨a1, a2, a3⟩ := inv_chg hH.1 ha hb
    exact ⟨_, _, _, s59_ok hH.1 ha hb hab u1 u2 hP.1 hP.2.1, e2, R.rr (h.done hP ⟨a1, by rw [a3]; exact hH.2.1, ag_chg hH.2.2 h6 ha hb⟩), rfl, rfl⟩
theorem c_undo : St 61 132 [some (.ref 114)] [some (.ref 134)] := by
  intro X Y sc ai aj h
  obtain ⟨hH, ⟨nx, u, hP, u1, u2, u3⟩, -, -, -⟩ := id h
  by_cases hu : u = 0
  · subst hu
    exact ⟨_, _, _, s61_none u2, m132_none u3, h.rr, rfl, rfl⟩
  · obtain ⟨a, b⟩ := hP.pop (by omega)
    refine ⟨_, _, _, s61_ok u1 u2 hP.1 hP.2.1 (by omega), m132_ok (u := u) (by simp [upS_at, hi0, u3]) hP.2.1 (by omega), R.rr (h.und (by rw [upX_s, upX_s]; exact a) b ?_ ?_ ?_ (fun k hk => upX_n (by omega)) (fun k hk => upX_n (by omega)) (fun a q q1 q2 => ?_)), rfl, rfl⟩
    · simp [upS_at, hi0]
    · simp [upS_at, hi0]
    · simp [upS_at]
    · rw [upS_at, if_neg q2, upS_at, if_neg (by rw [hi0]; omega), upS_at, if_neg (by rw [hi0]; omega)]
theorem c_seed (v : Int32) : St 62 141 [some (.ref 114), some (.int v), none] [some (.ref 134), some (.int v), none] := by
  intro X Y sc ai aj h
  obtain ⟨hH, ⟨nx, u, hP, u1, u2, u3⟩, -, -, -⟩ := id h
  by_cases hc : 0 ≤ v
  · obtain ⟨v', hv, rfl⟩ := nI_of (Int32.not_lt.mpr hc)
    have e2 := m141_ok (X := upX X 0 (up1 (X 0) 5 v')) (Y := Y) (sc := sc) (ai := ai) (aj := aj) hv
    rw [← hH.2.2.lo (show 5 < 6 by decide)] at e2
    refine ⟨_, _, _, s62_ok hv, e2, R.rr (h.und (nx := nx) (u := u) ?_ (hP.fr (fun k hk => upX_n (by omega)) (fun k hk => upX_n (by omega))) u1 u2 u3 (fun k hk => upX_n (by omega)) (fun k hk => upX_n (by omega)) (fun a q q1 q2 => rfl)), rfl, rfl⟩
    rw [upX_s, upX_s]
    exact ⟨inv_up5 hH.1 hv, by rw [up1_n (by decide)]; exact hH.2.1, ag_up hH.2.2 (by decide)⟩
  · exact ⟨_, _, _, s62_bad hc, m141_bad hc, h.rr, rfl, rfl⟩
theorem c_theatre : St 53 125 [some (.ref 114), none] [some (.ref 134), none, none, none, none, none, none] := by
  intro X Y sc ai aj h
  obtain ⟨hH, ⟨nx, u, hP, u1, u2, u3⟩, hG, ⟨z, l, hz, t1, t2, t3, t4⟩, hS⟩ := id h
  have a := s53 (X := X) (Y := Y) (sc := sc) (ai := ai) (aj := aj) hz t3 t1
  have hbd := thF_bd (l := l) (z := z) 6 0 0 (by omega) (by omega)
  cases ht : thF l z 6 0 0 with
  | inl q =>
    rw [ht] at a
    obtain ⟨x1, p', e⟩ := a
    obtain ⟨f, g, hh, b⟩ := m125 (X := upX X 1 x1) (Y := Y) (sc := upS (upS sc 119 2 (nI p')) 119 1 (nI 0)) (ai := ai) (aj := aj) hz t4 (by simp [upS_at, t2])
    rw [ht] at b
    refine ⟨_, _, _, e, b, R.rr ⟨by rw [upX_n (by decide)]; exact hH, Und.fr ⟨nx, u, hP, u1, u2, u3⟩ (fun k h1 h2 => upX_n (by omega)) (fun _ _ _ => rfl) ?_ ?_ ?_, hG.fr (fun k h1 => upX_n (by omega)) (fun _ _ => rfl) ?_ ?_ ?_ ?_ ?_, ⟨0, l, by omega, ?_, ?_, fun k hk => by omega, fun k hk => by omega⟩, hS.fr (fun s hs => ?_) (fun s hs => ?_) ?_ ?_ (fun s hs => rfl) rfl⟩, rfl, rfl⟩
    all_goals first
      | (simp [upS_at]; done)
      | (rw [a3_t (by decide) (by decide) (by decide)]; done)
      | (rw [upS_at, if_neg (by unfold sh; omega), upS_at, if_neg (by unfold sh; omega), upS_at, if_neg (by unfold sh; omega), upS_at, if_neg (by unfold sh; omega)]; done)
  | inr bs =>
    rw [ht] at a hbd
    obtain ⟨x1, p', e⟩ := a
    simp only at hbd
    obtain ⟨f, g, hh, b⟩ := m125 (X := upX (upX X 1 x1) 0 (up1 (addL (nob (X 1)) bs) 5 (X 0 5))) (Y := Y) (sc := upS (upS (upS sc 119 2 (nI p')) 119 1 (nI 0)) (hi_ 0) 2 (nI 0)) (ai := ai) (aj := aj) hz t4 (by simp [upS_at, hi0, t2])
    rw [ht] at b
    obtain ⟨p2, b⟩ := b
    have n0 : nob (X 1) 0 = 0 := by rw [nob_at]; rfl
    have hA : Ag (up1 (nob (X 1)) 5 (X 0 5)) (nobM (Y 0)) := by
      intro i hi h2
      rw [up1_n (by decide), n0] at h2
      rw [nobM_at, ← hH.2.2.lo (show 5 < 6 by decide)]
      rcases (show i = 0 ∨ i = 1 ∨ i = 2 ∨ i = 3 ∨ i = 4 ∨ i = 5 by omega) with rfl | rfl | rfl | rfl | rfl | rfl
      · rw [up1_n (by decide), nob_at]; rfl
      · rw [up1_n (by decide), nob_at]; rfl
      · rw [up1_n (by decide), nob_at]; rfl
      · rw [up1_n (by decide), nob_at]; rfl
      · rw [up1_n (by decide), nob_at]; rfl
      · rw [up1_s]; rfl
    have hI0 : Inv (up1 (nob (X 1)) 5 (X 0 5)) := by
      have e0 : ∀ i, ¬ i = 5 → up1 (nob (X 1)) 5 (X 0 5) i = nob (X 1) i := fun i hi => up1_n hi
      unfold Inv
      rw [e0 0 (by decide), e0 1 (by decide), e0 2 (by decide), e0 3 (by decide), e0 4 (by decide), up1_s, nob_at, nob_at, nob_at, nob_at, nob_at]
      refine ⟨by simp, Or.inr rfl, by simp, by simp, hH.1.2.2.2.2.1, fun b hb => ?_⟩
      simp at hb
    have eL := addL_up5 bs (nob (X 1)) (X 0 5) (by rw [n0]; omega)
    have l0 : up1 (nob (X 1)) 5 (X 0 5) 0 + bs.length ≤ 6 := by rw [up1_n (by decide), n0]; omega
    obtain ⟨i1, i2⟩ := inv_addL bs _ hI0 l0 hbd.2.2
    rw [eL] at i1 i2
    have hH2 : Hs (up1 (addL (nob (X 1)) bs) 5 (X 0 5)) (addL (nobM (Y 0)) bs) := by
      refine ⟨i1, by rw [i2, up1_n (by decide), nob_at]; simp, ?_⟩
      rw [← eL]; exact ag_addL bs hA l0
    refine ⟨_, _, _, e, b, R.rr ⟨by rw [upX_s, upX_s]; exact hH2, ⟨nx, 0, ⟨hP.1, by omega, fun i hi => by omega⟩, ?_, ?_, ?_⟩, hG.fr (fun k h1 => by rw [upX_n (by omega), upX_n (by omega)]) (fun k hk => upX_n (by omega)) ?_ ?_ ?_ ?_ ?_, ⟨0, l, by omega, ?_, ?_, fun k hk => by omega, fun k hk => by omega⟩, hS.fr (fun s hs => ?_) (fun s hs => ?_) ?_ ?_ (fun s hs => rfl) rfl⟩, rfl, rfl⟩
    all_goals first
      | (simp [upS_at, hi0, u1]; done)
      | (rw [a3_t (by decide) (by decide) (by decide)]; done)
      | (simp only [hi0]; rw [upS_at, if_neg (by unfold sh; omega), upS_at, if_neg (by unfold sh; omega), upS_at, if_neg (by unfold sh; omega), upS_at, if_neg (by unfold sh; omega), upS_at, if_neg (by unfold sh; omega), upS_at, if_neg (by unfold sh; omega)]; done)
