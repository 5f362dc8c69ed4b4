/-! ===== theatres as texts: how they are read; the class ===== -/
section PURE
variable (l : Nat → Nat) (z : Nat)
def skF : Nat → Nat → Nat
  | 0, p => p
  | m + 1, p => if p < z ∧ l p = 32 then skF m (p + 1) else p
def sk (p : Nat) : Nat := skF l z (z - p) p
def dgq (q : Nat) : Bool := decide (q < z ∧ 48 ≤ l q ∧ l q ≤ 57)
def rnF (p : Nat) : Nat × Option Nat := if dgq l z (sk l z p) = true then (if dgq l z (sk l z p + 1) = true then (sk l z p + 2, some ((l (sk l z p) - 48) * 10 + (l (sk l z p + 1) - 48))) else (sk l z p + 1, some (l (sk l z p) - 48))) else (sk l z p, none)
def rtF : Nat → Nat → Nat → Nat → Nat × Nat
  | 0, p, _, acc => (p, acc)
  | m + 1, p, la, acc => if sk l z p < z ∧ 48 + la ≤ l (sk l z p) ∧ l (sk l z p) ≤ 52 then rtF m (sk l z p + 1) (l (sk l z p) - 48 + 1) (acc ||| 2 ^ (l (sk l z p) - 48)) else (sk l z p, acc)
def kdN (c : Nat) : Nat := if c = 112 then 0 else if c = 102 then 1 else if c = 109 then 2 else if c = 100 then 3 else if c = 103 then 4 else 5
def rb3 (q2 k pr : Nat) : Nat ⊕ (Nat × Nat × Nat × Nat) :=
  if sk l z q2 < z ∧ l (sk l z q2) = 58 then (if (rtF l z 5 (sk l z q2 + 1) 0 0).2 = 0 then .inl (rtF l z 5 (sk l z q2 + 1) 0 0).1 else .inr (sk l z (rtF l z 5 (sk l z q2 + 1) 0 0).1, k, pr, (rtF l z 5 (sk l z q2 + 1) 0 0).2)) else .inr (sk l z q2, k, pr, 0)
def rb2 (r : Nat × Option Nat) (k : Nat) : Nat ⊕ (Nat × Nat × Nat × Nat) := match r.2 with
  | none => .inl r.1
  | some pr => rb3 l z r.1 k pr
def rbF (p : Nat) : Nat ⊕ (Nat × Nat × Nat × Nat) := if sk l z p < z ∧ kdN (l (sk l z p)) < 5 then rb2 l z (rnF l z (sk l z p + 1)) (kdN (l (sk l z p))) else .inl (sk l z p)
def thF : Nat → Nat → Nat → Nat ⊕ List (Nat × Nat × Nat)
  | 0, p, _ => .inl p
  | m + 1, p, b => match rbF l z p with
    | .inl q => .inl q
    | .inr (q, k, pr, t) => if z ≤ q then .inr [(k, pr, t)] else if l q = 44 ∧ b + 1 < 6 then (match thF m (q + 1) (b + 1) with
      | .inl q' => .inl q'
      | .inr bs => .inr ((k, pr, t) :: bs)) else .inl q
end PURE
section PURE2
variable {l : Nat → Nat} {z : Nat}
theorem skF_0 {p : Nat} : skF l z 0 p = p := by rw [skF]
theorem skF_s {m p : Nat} : skF l z (m + 1) p = if p < z ∧ l p = 32 then skF l z m (p + 1) else p := by rw [skF]
theorem skF_bd (m : Nat) : ∀ p, p ≤ z → p ≤ skF l z m p ∧ skF l z m p ≤ z := by
  induction m with
  | zero => intro p h; rw [skF_0]; exact ⟨Nat.le_refl _, h⟩
  | succ m ih =>
    intro p h
    rw [skF_s]
    split
    · rename_i hc
      have := ih (p + 1) (by omega); omega
    · exact ⟨Nat.le_refl _, h⟩
theorem sk_bd {p : Nat} (h : p ≤ z) : p ≤ sk l z p ∧ sk l z p ≤ z := skF_bd _ p h
theorem skF_end (m : Nat) : ∀ p, z ≤ p + m → ¬ (skF l z m p < z ∧ l (skF l z m p) = 32) := by
  induction m with
  | zero => intro p h; rw [skF_0]; omega
  | succ m ih =>
    intro p h
    rw [skF_s]
    split
    · exact ih (p + 1) (by omega)
    · assumption
theorem sk_end {p : Nat} : ¬ (sk l z p < z ∧ l (sk l z p) = 32) := skF_end _ p (by omega)
theorem sk_id {p : Nat} (h : ¬ (p < z ∧ l p = 32)) : sk l z p = p := by
  unfold sk
  cases hm : z - p with
  | zero => exact skF_0
  | succ m => rw [skF_s, if_neg h]
theorem sk_sk {p : Nat} : sk l z (sk l z p) = sk l z p := sk_id sk_end
theorem sk_st {p : Nat} (h : p < z ∧ l p = 32) : sk l z p = sk l z (p + 1) := by
  unfold sk
  rw [show z - p = (z - (p + 1)) + 1 by omega, skF_s, if_pos h]
theorem rtF_0 {p la acc : Nat} : rtF l z 0 p la acc = (p, acc) := by rw [rtF]
theorem rtF_y {m p la acc : Nat} (h : sk l z p < z ∧ 48 + la ≤ l (sk l z p) ∧ l (sk l z p) ≤ 52) : rtF l z (m + 1) p la acc = rtF l z m (sk l z p + 1) (l (sk l z p) - 48 + 1) (acc ||| 2 ^ (l (sk l z p) - 48)) := by rw [rtF, if_pos h]
theorem rtF_n {m p la acc : Nat} (h : ¬ (sk l z p < z ∧ 48 + la ≤ l (sk l z p) ∧ l (sk l z p) ≤ 52)) : rtF l z (m + 1) p la acc = (sk l z p, acc) := by rw [rtF, if_neg h]
theorem rtF_bd (m : Nat) : ∀ p la acc, p ≤ z → acc < 32 → (rtF l z m p la acc).1 ≤ z ∧ (rtF l z m p la acc).2 < 32 := by
  induction m with
  | zero => intro p la acc h ha; rw [rtF_0]; exact ⟨h, ha⟩
  | succ m ih =>
    intro p la acc h ha
    have hb := sk_bd (l := l) h
    by_cases c : sk l z p < z ∧ 48 + la ≤ l (sk l z p) ∧ l (sk l z p) ≤ 52
    · rw [rtF_y c]; exact ih _ _ _ (by omega) (or_lt5 _ ha _ (by omega))
    · rw [rtF_n c]; exact ⟨hb.2, ha⟩
theorem rtF_more (m : Nat) : ∀ p la acc, 5 ≤ la + m → rtF l z (m + 1) p la acc = (sk l z (rtF l z m p la acc).1, (rtF l z m p la acc).2) := by
  induction m with
  | zero =>
    intro p la acc h
    rw [rtF_0, rtF_n (by omega)]
  | succ m ih =>
    intro p la acc h
    by_cases c : sk l z p < z ∧ 48 + la ≤ l (sk l z p) ∧ l (sk l z p) ≤ 52
    · rw [rtF_y c, ih _ _ _ (by omega), rtF_y c]
    · rw [rtF_n c, rtF_n c, sk_sk]
theorem rnF_bd {p : Nat} (h : p ≤ z) : (rnF l z p).1 ≤ z ∧ ∀ v, (rnF l z p).2 = some v → v ≤ 99 := by
  have hb := sk_bd (l := l) h
  unfold rnF
  by_cases c1 : dgq l z (sk l z p) = true
  · rw [if_pos c1]
    have d1 := of_decide_eq_true c1
    by_cases c2 : dgq l z (sk l z p + 1) = true
    · rw [if_pos c2]
      have d2 := of_decide_eq_true c2
      refine ⟨by show sk l z p + 2 ≤ z; omega, fun v hv => ?_⟩
      cases hv; omega
    · rw [if_neg c2]
      refine ⟨by show sk l z p + 1 ≤ z; omega, fun v hv => ?_⟩
      cases hv; omega
  · rw [if_neg c1]
    exact ⟨hb.2, fun v hv => by cases hv⟩
theorem rbF_bd {p : Nat} (h : p ≤ z) : match rbF l z p with
    | .inl q => q ≤ z
    | .inr (q, k, pr, t) => q ≤ z ∧ k ≤ 4 ∧ pr ≤ 99 ∧ t ≤ 31 ∧ sk l z q = q := by
  have hb := sk_bd (l := l) h
  unfold rbF
  by_cases c1 : sk l z p < z ∧ kdN (l (sk l z p)) < 5
  · rw [if_pos c1]
    have hn := rnF_bd (l := l) (z := z) (p := sk l z p + 1) (by omega)
    unfold rb2
    cases hr : (rnF l z (sk l z p + 1)).2 with
    | none => exact hn.1
    | some pr =>
      have hv := hn.2 pr hr
      have hb2 := sk_bd (l := l) hn.1
      show match rb3 l z (rnF l z (sk l z p + 1)).1 (kdN (l (sk l z p))) pr with | .inl q => q ≤ z | .inr (q, k, pr, t) => q ≤ z ∧ k ≤ 4 ∧ pr ≤ 99 ∧ t ≤ 31 ∧ sk l z q = q
      unfold rb3
      by_cases c2 : sk l z (rnF l z (sk l z p + 1)).1 < z ∧ l (sk l z (rnF l z (sk l z p + 1)).1) = 58
      · rw [if_pos c2]
        have ht := rtF_bd (l := l) (z := z) 5 (sk l z (rnF l z (sk l z p + 1)).1 + 1) 0 0 (by omega) (by decide)
        have hb3 := sk_bd (l := l) ht.1
        by_cases c3 : (rtF l z 5 (sk l z (rnF l z (sk l z p + 1)).1 + 1) 0 0).2 = 0
        · rw [if_pos c3]; exact ht.1
        · rw [if_neg c3]; exact ⟨hb3.2, by omega, hv, by omega, sk_sk⟩
      · rw [if_neg c2]; exact ⟨hb2.2, by omega, hv, by omega, sk_sk⟩
  · rw [if_neg c1]; exact hb.2
/-- buyers come in, one by one -/
def addL (x : Nat → Nat) : List (Nat × Nat × Nat) → Nat → Nat
  | [] => x
  | (k, p, t) :: bs => addL (addb x k p t) bs
theorem addL_n {x : Nat → Nat} : addL x [] = x := by rw [addL]
theorem addL_c {x : Nat → Nat} {k p t : Nat} {bs : List (Nat × Nat × Nat)} : addL x ((k, p, t) :: bs) = addL (addb x k p t) bs := by rw [addL]
theorem addb_0 {x : Nat → Nat} {k p t : Nat} (h : x 0 < 6) : addb x k p t 0 = x 0 + 1 := by rw [addb_at h, if_pos rfl]
theorem addL_0 (bs : List (Nat × Nat × Nat)) : ∀ (x : Nat → Nat), x 0 + bs.length ≤ 6 → addL x bs 0 = x 0 + bs.length := by
  induction bs with
  | nil => intro x _; rw [addL_n]; rfl
  | cons a bs ih =>
    intro x h
    obtain ⟨k, p, t⟩ := a
    rw [List.length_cons] at h
    have e := addb_0 (k := k) (p := p) (t := t) (show x 0 < 6 by omega)
    rw [addL_c, ih _ (by rw [e]; omega), e, List.length_cons]; omega
theorem addb_up5 {x : Nat → Nat} {k p t d : Nat} (h : x 0 < 6) : addb (up1 x 5 d) k p t = up1 (addb x k p t) 5 d := by
  have e0 : up1 x 5 d 0 = x 0 := up1_n (by decide)
  have e4 : up1 x 5 d 4 = x 4 := up1_n (by decide)
  funext i
  rw [addb_at (by rw [e0]; exact h), e0, e4]
  by_cases c : i = 5
  · subst c
    rw [up1_s, if_neg (by omega), if_neg (by omega), if_neg (by omega), if_neg (by omega), if_neg (by omega), if_neg (by omega), if_neg (by omega), up1_s]
  · rw [up1_n c, up1_n c, addb_at h]
theorem addL_up5 (bs : List (Nat × Nat × Nat)) : ∀ (x : Nat → Nat) (d : Nat), x 0 + bs.length ≤ 6 → addL (up1 x 5 d) bs = up1 (addL x bs) 5 d := by
  induction bs with
  | nil => intro x d _; rw [addL_n, addL_n]
  | cons a bs ih =>
    intro x d h
    obtain ⟨k, p, t⟩ := a
    rw [List.length_cons] at h
    have e := addb_0 (k := k) (p := p) (t := t) (show x 0 < 6 by omega)
    rw [addL_c, addL_c, addb_up5 (by omega), ih _ _ (by rw [e]; omega)]
theorem inv_addL (bs : List (Nat × Nat × Nat)) : ∀ (x : Nat → Nat), Inv x → x 0 + bs.length ≤ 6 → (∀ a ∈ bs, a.1 ≤ 4 ∧ a.2.1 ≤ 99 ∧ a.2.2 ≤ 31) → Inv (addL x bs) ∧ addL x bs 1 = x 1 := by
  induction bs with
  | nil => intro x h _ _; rw [addL_n]; exact ⟨h, rfl⟩
  | cons a bs ih =>
    intro x h hl hb
    obtain ⟨k, p, t⟩ := a
    rw [List.length_cons] at hl
    have h1 := hb (k, p, t) (List.mem_cons_self ..)
    have e := addb_0 (k := k) (p := p) (t := t) (show x 0 < 6 by omega)
    have e1 : addb x k p t 1 = x 1 := by rw [addb_at (by omega), if_neg (by omega), if_neg (by omega), if_neg (by omega), if_neg (by omega), if_neg (by omega), if_neg (by omega), if_neg (by omega)]
    obtain ⟨a1, a2⟩ := ih (addb x k p t) (inv_addb h (by omega) h1.1 h1.2.1 h1.2.2) (by rw [e]; omega) (fun a ha => hb a (List.mem_cons_of_mem _ ha))
    rw [addL_c]
    exact ⟨a1, a2.trans e1⟩
theorem ag_addL (bs : List (Nat × Nat × Nat)) : ∀ {x y : Nat → Nat}, Ag x y → x 0 + bs.length ≤ 6 → Ag (addL x bs) (addL y bs) := by
  induction bs with
  | nil => intro x y h _; rw [addL_n, addL_n]; exact h
  | cons a bs ih =>
    intro x y h hl
    obtain ⟨k, p, t⟩ := a
    rw [List.length_cons] at hl
    rw [addL_c, addL_c]
    exact ih (ag_addb h (by omega)) (by rw [addb_0 (by omega)]; omega)
theorem thF_bd (m : Nat) : ∀ p b, p ≤ z → b + m = 6 → match thF l z m p b with
    | .inl q => q ≤ z
    | .inr bs => b + bs.length ≤ 6 ∧ 1 ≤ bs.length ∧ ∀ a ∈ bs, a.1 ≤ 4 ∧ a.2.1 ≤ 99 ∧ a.2.2 ≤ 31 := by
  induction m with
  | zero => intro p b h _; rw [thF]; exact h
  | succ m ih =>
    intro p b h hb
    have hr := rbF_bd (l := l) h
    rw [thF]
    cases hq : rbF l z p with
    | inl q => rw [hq] at hr; exact hr
    | inr v =>
      obtain ⟨q, k, pr, t⟩ := v
      rw [hq] at hr
      simp only at hr ⊢
      by_cases c1 : z ≤ q
      · rw [if_pos c1]
        refine ⟨by simp only [List.length_cons, List.length_nil]; omega, by simp, fun a ha => ?_⟩
        rw [List.mem_singleton.mp ha]; exact ⟨hr.2.1, hr.2.2.1, hr.2.2.2.1⟩
      · rw [if_neg c1]
        by_cases c2 : l q = 44 ∧ b + 1 < 6
        · rw [if_pos c2]
          have h2 := ih (q + 1) (b + 1) (by omega) (by omega)
          cases ht : thF l z m (q + 1) (b + 1) with
          | inl q' => rw [ht] at h2; exact h2
          | inr bs =>
            rw [ht] at h2
            simp only at h2 ⊢
            refine ⟨by rw [List.length_cons]; omega, by rw [List.length_cons]; omega, fun a ha => ?_⟩
            rcases List.mem_cons.mp ha with rfl | ha
            · exact ⟨hr.2.1, hr.2.2.1, hr.2.2.2.1⟩
            · exact h2.2.2 a ha
        · rw [if_neg c2]; exact hr.1
theorem thF_f {m p b q : Nat} (h : rbF l z p = .inl q) : thF l z (m + 1) p b = .inl q := by rw [thF, h]
theorem thF_z {m p b q k pr t : Nat} (h : rbF l z p = .inr (q, k, pr, t)) (hz : z ≤ q) : thF l z (m + 1) p b = .inr [(k, pr, t)] := by rw [thF, h]; simp only; rw [if_pos hz]
theorem thF_b {m p b q k pr t : Nat} (h : rbF l z p = .inr (q, k, pr, t)) (hz : ¬ z ≤ q) (hc : ¬ (l q = 44 ∧ b + 1 < 6)) : thF l z (m + 1) p b = .inl q := by rw [thF, h]; simp only; rw [if_neg hz, if_neg hc]
theorem thF_l {m p b q k pr t q' : Nat} (h : rbF l z p = .inr (q, k, pr, t)) (hz : ¬ z ≤ q) (hc : l q = 44 ∧ b + 1 < 6) (ht : thF l z m (q + 1) (b + 1) = .inl q') : thF l z (m + 1) p b = .inl q' := by rw [thF, h]; simp only; rw [if_neg hz, if_pos hc, ht]
theorem thF_r {m p b q k pr t : Nat} {bs : List (Nat × Nat × Nat)} (h : rbF l z p = .inr (q, k, pr, t)) (hz : ¬ z ≤ q) (hc : l q = 44 ∧ b + 1 < 6) (ht : thF l z m (q + 1) (b + 1) = .inr bs) : thF l z (m + 1) p b = .inr ((k, pr, t) :: bs) := by rw [thF, h]; simp only; rw [if_neg hz, if_pos hc, ht]
end PURE2
def opI (o : Option Nat) : Int32 := match o with
  | none => -4
  | some v => nI v
def dH (l : Nat → Nat) (z q : Nat) : Int32 := if dgq l z q = true then nI (l q - 48) else -4
theorem fit2 : ∀ c, c < 127 → ax_fitR 2 (nI c) = true := by decide +kernel
theorem idx_k : ∀ c, c < 127 → ax_idx (nI c) = if kdN c < 5 then nI (kdN c) else -1 := by decide +kernel
section TP
variable {X Y : Nat → Nat → Nat} {sc : Nat → Nat → Int32} {ai : Nat → Nat → Int32} {aj : Nat → Nat → Int64} {l : Nat → Nat} {z : Nat}
theorem r46_l (m : Nat) : ∀ (sc : Nat → Nat → Int32) (p : Nat), p + m = z → z ≤ 70 → (∀ k, k < z → ai 120 k = nI (l k) ∧ l k < 127) → sc 119 1 = nI z → sc 119 2 = nI p → ax_res 46 0 [some (.ref 119)] [] (hp X Y sc ai aj) = some (none, hp X Y (upS sc 119 2 (nI (sk l z p))) ai aj) := by
  induction m with
  | zero =>
    intro sc p hm hz hl h1 h2
    rw [sk_id (by omega), upS_i h2]
    simp only [q46_0, q46_1, q46_4, q46_5, q46_8, q46_38, ↓reduceIte, ax_bV_s, ax_bI_s, ax_bJ_s, ax_bA_s, ax_bH_s, ax_bR_s, ax_bR_n, oo_114, gf114_0, gf114_1, gf114_2, gf114_3, gf114_4, gf114_5, pf114_5, gf114_6, gf114_7, gf114_8, gf114_9, oo_119, gf119_0, gf119_1, pf119_1, gf119_2, pf119_2, oo_130, gf130_0, gf130_1, gf130_2, pf130_2, oo_134, gf134_0, gf134_1, pf134_1, gf134_2, pf134_2, gf134_3, pf134_3, gf134_4, gf134_5, pf134_5, gf134_6, gf134_7, gf134_8, gf134_9, pf134_9, gf134_10, gf134_11, gf134_12, gf134_13, gf134_14, gf134_15, gf134_16, gi120, pi120, li120, gi131, pi131, li131, gi132, pi132, li132, gi136, pi136, li136, gi138, pi138, li138, gi139, pi139, li139, gi140, pi140, li140, gi141, pi141, li141, gi142, pi142, li142, gi144, pi144, li144, gi145, pi145, li145, gj133, pj133, lj133, gj137, pj137, lj137, gj143, pj143, lj143, gj146, pj146, lj146, gA121, gAq, oo_s, gfs_0, gfs_1, gfs_2, pfs_0, pfs_1, gjs, ljs, pjs, oo_h, gfh_0, gfh_1, gfh_2, pfh_1, pfh_2, h1, h2, n_le (show z < 2 ^ 31 by omega) (show p < 2 ^ 31 by omega), show z ≤ p by omega]
  | succ m ih =>
    intro sc p hm hz hl h1 h2
    have hk := hl p (by omega)
    by_cases c : l p = 32
    · have e := ih (upS sc 119 2 (nI (p + 1))) (p + 1) (by omega) hz hl (by rw [upS_k (by decide)]; exact h1) (by rw [upS_s])
      rw [upS_u] at e
      rw [sk_st ⟨by omega, c⟩, ← e, q46_0]
      simp only [q46_1, q46_4, q46_5, q46_8, q46_11, q46_12, q46_15, q46_16, q46_19, q46_20, q46_22, q46_25, q46_26, q46_27, q46_30, q46_31, q46_32, q46_35, ↓reduceIte, ax_bV_s, ax_bI_s, ax_bJ_s, ax_bA_s, ax_bH_s, ax_bR_s, ax_bR_n, oo_114, gf114_0, gf114_1, gf114_2, gf114_3, gf114_4, gf114_5, pf114_5, gf114_6, gf114_7, gf114_8, gf114_9, oo_119, gf119_0, gf119_1, pf119_1, gf119_2, pf119_2, oo_130, gf130_0, gf130_1, gf130_2, pf130_2, oo_134, gf134_0, gf134_1, pf134_1, gf134_2, pf134_2, gf134_3, pf134_3, gf134_4, gf134_5, pf134_5, gf134_6, gf134_7, gf134_8, gf134_9, pf134_9, gf134_10, gf134_11, gf134_12, gf134_13, gf134_14, gf134_15, gf134_16, gi120, pi120, li120, gi131, pi131, li131, gi132, pi132, li132, gi136, pi136, li136, gi138, pi138, li138, gi139, pi139, li139, gi140, pi140, li140, gi141, pi141, li141, gi142, pi142, li142, gi144, pi144, li144, gi145, pi145, li145, gj133, pj133, lj133, gj137, pj137, lj137, gj143, pj143, lj143, gj146, pj146, lj146, gA121, gAq, oo_s, gfs_0, gfs_1, gfs_2, pfs_0, pfs_1, gjs, ljs, pjs, oo_h, gfh_0, gfh_1, gfh_2, pfh_1, pfh_2, h1, h2, n_le (show z < 2 ^ 31 by omega) (show p < 2 ^ 31 by omega), show ¬ z ≤ p by omega, show p < 70 by omega, hk.1, c, nI_add]
    · have c' : ¬ nI (l p) = nI 32 := by rw [n_eq (by omega) (by decide)]; exact c
      rw [sk_id (fun h => c h.2), upS_i h2]
      simp only [q46_0, q46_1, q46_4, q46_5, q46_8, q46_11, q46_12, q46_15, q46_16, q46_19, q46_20, q46_22, q46_38, ↓reduceIte, ax_bV_s, ax_bI_s, ax_bJ_s, ax_bA_s, ax_bH_s, ax_bR_s, ax_bR_n, oo_114, gf114_0, gf114_1, gf114_2, gf114_3, gf114_4, gf114_5, pf114_5, gf114_6, gf114_7, gf114_8, gf114_9, oo_119, gf119_0, gf119_1, pf119_1, gf119_2, pf119_2, oo_130, gf130_0, gf130_1, gf130_2, pf130_2, oo_134, gf134_0, gf134_1, pf134_1, gf134_2, pf134_2, gf134_3, pf134_3, gf134_4, gf134_5, pf134_5, gf134_6, gf134_7, gf134_8, gf134_9, pf134_9, gf134_10, gf134_11, gf134_12, gf134_13, gf134_14, gf134_15, gf134_16, gi120, pi120, li120, gi131, pi131, li131, gi132, pi132, li132, gi136, pi136, li136, gi138, pi138, li138, gi139, pi139, li139, gi140, pi140, li140, gi141, pi141, li141, gi142, pi142, li142, gi144, pi144, li144, gi145, pi145, li145, gj133, pj133, lj133, gj137, pj137, lj137, gj143, pj143, lj143, gj146, pj146, lj146, gA121, gAq, oo_s, gfs_0, gfs_1, gfs_2, pfs_0, pfs_1, gjs, ljs, pjs, oo_h, gfh_0, gfh_1, gfh_2, pfh_1, pfh_2, h1, h2, n_le (show z < 2 ^ 31 by omega) (show p < 2 ^ 31 by omega), show ¬ z ≤ p by omega, show p < 70 by omega, hk.1, c']
/-- skipBlanks -/
theorem r46 {p : Nat} (hpz : p ≤ z) (hz : z ≤ 70) (hl : ∀ k, k < z → ai 120 k = nI (l k) ∧ l k < 127) (h1 : sc 119 1 = nI z) (h2 : sc 119 2 = nI p) : ax_res 46 0 [some (.ref 119)] [] (hp X Y sc ai aj) = some (none, hp X Y (upS sc 119 2 (nI (sk l z p))) ai aj) := r46_l (z - p) sc p (by omega) hz hl h1 h2
def lh (l : Nat → Nat) (z p : Nat) : Nat := if p < z then l p else 0
/-- letterHere -/
theorem r47 {p : Nat} (hpz : p ≤ z) (hz : z ≤ 70) (hl : ∀ k, k < z → ai 120 k = nI (l k) ∧ l k < 127) (h1 : sc 119 1 = nI z) (h2 : sc 119 2 = nI p) : ax_res 47 0 [some (.ref 119)] [] (hp X Y sc ai aj) = some (some (.int (nI (lh l z p))), hp X Y sc ai aj) := by
  unfold lh
  by_cases c : p < z
  · have hk := hl p c
    simp only [q47_0, q47_1, q47_4, q47_7, q47_8, q47_11, q47_12, q47_15, q47_18, q47_19, q47_22, q47_23, q47_26, q47_27, q47_30, q47_31, ↓reduceIte, ax_bV_s, ax_bI_s, ax_bJ_s, ax_bA_s, ax_bH_s, ax_bR_s, ax_bR_n, oo_114, gf114_0, gf114_1, gf114_2, gf114_3, gf114_4, gf114_5, pf114_5, gf114_6, gf114_7, gf114_8, gf114_9, oo_119, gf119_0, gf119_1, pf119_1, gf119_2, pf119_2, oo_130, gf130_0, gf130_1, gf130_2, pf130_2, oo_134, gf134_0, gf134_1, pf134_1, gf134_2, pf134_2, gf134_3, pf134_3, gf134_4, gf134_5, pf134_5, gf134_6, gf134_7, gf134_8, gf134_9, pf134_9, gf134_10, gf134_11, gf134_12, gf134_13, gf134_14, gf134_15, gf134_16, gi120, pi120, li120, gi131, pi131, li131, gi132, pi132, li132, gi136, pi136, li136, gi138, pi138, li138, gi139, pi139, li139, gi140, pi140, li140, gi141, pi141, li141, gi142, pi142, li142, gi144, pi144, li144, gi145, pi145, li145, gj133, pj133, lj133, gj137, pj137, lj137, gj143, pj143, lj143, gj146, pj146, lj146, gA121, gAq, oo_s, gfs_0, gfs_1, gfs_2, pfs_0, pfs_1, gjs, ljs, pjs, oo_h, gfh_0, gfh_1, gfh_2, pfh_1, pfh_2, h1, h2, n_lt0 (show p < 2 ^ 31 by omega), n_le (show z < 2 ^ 31 by omega) (show p < 2 ^ 31 by omega), show ¬ z ≤ p by omega, show p < 70 by omega, hk.1, fit2 _ hk.2, c]
  · simp only [q47_0, q47_1, q47_4, q47_7, q47_8, q47_11, q47_12, q47_15, q47_30, q47_31, ↓reduceIte, ax_bV_s, ax_bI_s, ax_bJ_s, ax_bA_s, ax_bH_s, ax_bR_s, ax_bR_n, oo_114, gf114_0, gf114_1, gf114_2, gf114_3, gf114_4, gf114_5, pf114_5, gf114_6, gf114_7, gf114_8, gf114_9, oo_119, gf119_0, gf119_1, pf119_1, gf119_2, pf119_2, oo_130, gf130_0, gf130_1, gf130_2, pf130_2, oo_134, gf134_0, gf134_1, pf134_1, gf134_2, pf134_2, gf134_3, pf134_3, gf134_4, gf134_5, pf134_5, gf134_6, gf134_7, gf134_8, gf134_9, pf134_9, gf134_10, gf134_11, gf134_12, gf134_13, gf134_14, gf134_15, gf134_16, gi120, pi120, li120, gi131, pi131, li131, gi132, pi132, li132, gi136, pi136, li136, gi138, pi138, li138, gi139, pi139, li139, gi140, pi140, li140, gi141, pi141, li141, gi142, pi142, li142, gi144, pi144, li144, gi145, pi145, li145, gj133, pj133, lj133, gj137, pj137, lj137, gj143, pj143, lj143, gj146, pj146, lj146, gA121, gAq, oo_s, gfs_0, gfs_1, gfs_2, pfs_0, pfs_1, gjs, ljs, pjs, oo_h, gfh_0, gfh_1, gfh_2, pfh_1, pfh_2, h1, h2, n_lt0 (show p < 2 ^ 31 by omega), n_le (show z < 2 ^ 31 by omega) (show p < 2 ^ 31 by omega), show z ≤ p by omega, fit2 0 (by decide), c]
/-- digitHere -/
theorem r48 {p : Nat} (hpz : p ≤ z) (hz : z ≤ 70) (hl : ∀ k, k < z → ai 120 k = nI (l k) ∧ l k < 127) (h1 : sc 119 1 = nI z) (h2 : sc 119 2 = nI p) : ax_res 48 0 [some (.ref 119), none] [] (hp X Y sc ai aj) = some (some (.int (dH l z p)), hp X Y sc ai aj) := by
  have h47 := r47 (X := X) (Y := Y) (aj := aj) hpz hz hl h1 h2
  unfold lh at h47
  unfold dH
  by_cases c : p < z
  · have hk := hl p c
    rw [if_pos c] at h47
    by_cases c1 : l p < 48
    · rw [if_neg (show ¬ dgq l z p = true by unfold dgq; intro h; have := of_decide_eq_true h; omega)]
      simp only [q48_0, q48_1, q48_4, q48_5, q48_6, q48_8, q48_24, q48_26, ↓reduceIte, ax_bV_s, ax_bI_s, ax_bJ_s, ax_bA_s, ax_bH_s, ax_bR_s, ax_bR_n, oo_114, gf114_0, gf114_1, gf114_2, gf114_3, gf114_4, gf114_5, pf114_5, gf114_6, gf114_7, gf114_8, gf114_9, oo_119, gf119_0, gf119_1, pf119_1, gf119_2, pf119_2, oo_130, gf130_0, gf130_1, gf130_2, pf130_2, oo_134, gf134_0, gf134_1, pf134_1, gf134_2, pf134_2, gf134_3, pf134_3, gf134_4, gf134_5, pf134_5, gf134_6, gf134_7, gf134_8, gf134_9, pf134_9, gf134_10, gf134_11, gf134_12, gf134_13, gf134_14, gf134_15, gf134_16, gi120, pi120, li120, gi131, pi131, li131, gi132, pi132, li132, gi136, pi136, li136, gi138, pi138, li138, gi139, pi139, li139, gi140, pi140, li140, gi141, pi141, li141, gi142, pi142, li142, gi144, pi144, li144, gi145, pi145, li145, gj133, pj133, lj133, gj137, pj137, lj137, gj143, pj143, lj143, gj146, pj146, lj146, gA121, gAq, oo_s, gfs_0, gfs_1, gfs_2, pfs_0, pfs_1, gjs, ljs, pjs, oo_h, gfh_0, gfh_1, gfh_2, pfh_1, pfh_2, h47, n_lt (show l p < 2 ^ 31 by omega) (show 48 < 2 ^ 31 by decide), c1]
    · by_cases c2 : l p ≤ 57
      · rw [if_pos (show dgq l z p = true from decide_eq_true ⟨c, by omega, c2⟩)]
        simp only [q48_0, q48_1, q48_4, q48_5, q48_6, q48_8, q48_11, q48_12, q48_14, q48_17, q48_18, q48_20, q48_21, q48_24, q48_26, ↓reduceIte, ax_bV_s, ax_bI_s, ax_bJ_s, ax_bA_s, ax_bH_s, ax_bR_s, ax_bR_n, oo_114, gf114_0, gf114_1, gf114_2, gf114_3, gf114_4, gf114_5, pf114_5, gf114_6, gf114_7, gf114_8, gf114_9, oo_119, gf119_0, gf119_1, pf119_1, gf119_2, pf119_2, oo_130, gf130_0, gf130_1, gf130_2, pf130_2, oo_134, gf134_0, gf134_1, pf134_1, gf134_2, pf134_2, gf134_3, pf134_3, gf134_4, gf134_5, pf134_5, gf134_6, gf134_7, gf134_8, gf134_9, pf134_9, gf134_10, gf134_11, gf134_12, gf134_13, gf134_14, gf134_15, gf134_16, gi120, pi120, li120, gi131, pi131, li131, gi132, pi132, li132, gi136, pi136, li136, gi138, pi138, li138, gi139, pi139, li139, gi140, pi140, li140, gi141, pi141, li141, gi142, pi142, li142, gi144, pi144, li144, gi145, pi145, li145, gj133, pj133, lj133, gj137, pj137, lj137, gj143, pj143, lj143, gj146, pj146, lj146, gA121, gAq, oo_s, gfs_0, gfs_1, gfs_2, pfs_0, pfs_1, gjs, ljs, pjs, oo_h, gfh_0, gfh_1, gfh_2, pfh_1, pfh_2, h47, n_lt (show l p < 2 ^ 31 by omega) (show 48 < 2 ^ 31 by decide), c1, n_lt (show 57 < 2 ^ 31 by decide) (show l p < 2 ^ 31 by omega), show ¬ 57 < l p by omega, n_sub (show 48 ≤ l p by omega)]
      · rw [if_neg (show ¬ dgq l z p = true by unfold dgq; intro h; have := of_decide_eq_true h; omega)]
        simp only [q48_0, q48_1, q48_4, q48_5, q48_6, q48_8, q48_11, q48_12, q48_14, q48_17, q48_18, q48_20, q48_21, q48_24, q48_26, ↓reduceIte, ax_bV_s, ax_bI_s, ax_bJ_s, ax_bA_s, ax_bH_s, ax_bR_s, ax_bR_n, oo_114, gf114_0, gf114_1, gf114_2, gf114_3, gf114_4, gf114_5, pf114_5, gf114_6, gf114_7, gf114_8, gf114_9, oo_119, gf119_0, gf119_1, pf119_1, gf119_2, pf119_2, oo_130, gf130_0, gf130_1, gf130_2, pf130_2, oo_134, gf134_0, gf134_1, pf134_1, gf134_2, pf134_2, gf134_3, pf134_3, gf134_4, gf134_5, pf134_5, gf134_6, gf134_7, gf134_8, gf134_9, pf134_9, gf134_10, gf134_11, gf134_12, gf134_13, gf134_14, gf134_15, gf134_16, gi120, pi120, li120, gi131, pi131, li131, gi132, pi132, li132, gi136, pi136, li136, gi138, pi138, li138, gi139, pi139, li139, gi140, pi140, li140, gi141, pi141, li141, gi142, pi142, li142, gi144, pi144, li144, gi145, pi145, li145, gj133, pj133, lj133, gj137, pj137, lj137, gj143, pj143, lj143, gj146, pj146, lj146, gA121, gAq, oo_s, gfs_0, gfs_1, gfs_2, pfs_0, pfs_1, gjs, ljs, pjs, oo_h, gfh_0, gfh_1, gfh_2, pfh_1, pfh_2, h47, n_lt (show l p < 2 ^ 31 by omega) (show 48 < 2 ^ 31 by decide), c1, n_lt (show 57 < 2 ^ 31 by decide) (show l p < 2 ^ 31 by omega), show 57 < l p by omega]
  · rw [if_neg c] at h47
    rw [if_neg (show ¬ dgq l z p = true by unfold dgq; intro h; have := of_decide_eq_true h; omega)]
    simp only [q48_0, q48_1, q48_4, q48_5, q48_6, q48_8, q48_24, q48_26, ↓reduceIte, ax_bV_s, ax_bI_s, ax_bJ_s, ax_bA_s, ax_bH_s, ax_bR_s, ax_bR_n, oo_114, gf114_0, gf114_1, gf114_2, gf114_3, gf114_4, gf114_5, pf114_5, gf114_6, gf114_7, gf114_8, gf114_9, oo_119, gf119_0, gf119_1, pf119_1, gf119_2, pf119_2, oo_130, gf130_0, gf130_1, gf130_2, pf130_2, oo_134, gf134_0, gf134_1, pf134_1, gf134_2, pf134_2, gf134_3, pf134_3, gf134_4, gf134_5, pf134_5, gf134_6, gf134_7, gf134_8, gf134_9, pf134_9, gf134_10, gf134_11, gf134_12, gf134_13, gf134_14, gf134_15, gf134_16, gi120, pi120, li120, gi131, pi131, li131, gi132, pi132, li132, gi136, pi136, li136, gi138, pi138, li138, gi139, pi139, li139, gi140, pi140, li140, gi141, pi141, li141, gi142, pi142, li142, gi144, pi144, li144, gi145, pi145, li145, gj133, pj133, lj133, gj137, pj137, lj137, gj143, pj143, lj143, gj146, pj146, lj146, gA121, gAq, oo_s, gfs_0, gfs_1, gfs_2, pfs_0, pfs_1, gjs, ljs, pjs, oo_h, gfh_0, gfh_1, gfh_2, pfh_1, pfh_2, h47, n_lt (show 0 < 2 ^ 31 by decide) (show 48 < 2 ^ 31 by decide), show (0 : Nat) < 48 by decide]
theorem n4_0le : ((0 : Int32) ≤ -4) ↔ False := by decide
/-- readNumber -/
theorem r44 {p : Nat} (hpz : p ≤ z) (hz : z ≤ 70) (hl : ∀ k, k < z → ai 120 k = nI (l k) ∧ l k < 127) (h1 : sc 119 1 = nI z) (h2 : sc 119 2 = nI p) : ax_res 44 0 [some (.ref 119), none, none] [] (hp X Y sc ai aj) = some (some (.int (opI (rnF l z p).2)), hp X Y (upS sc 119 2 (nI (rnF l z p).1)) ai aj) := by
  have hb := sk_bd (l := l) hpz
  have h46 := r46 (X := X) (Y := Y) (aj := aj) hpz hz hl h1 h2
  have h48 := r48 (X := X) (Y := Y) (aj := aj) (sc := upS sc 119 2 (nI (sk l z p))) (p := sk l z p) hb.2 hz hl (by rw [upS_k (by decide)]; exact h1) (by rw [upS_s])
  unfold dH at h48
  unfold rnF
  by_cases c1 : dgq l z (sk l z p) = true
  · have d1 := of_decide_eq_true c1
    rw [if_pos c1] at h48 ⊢
    have h48b := r48 (X := X) (Y := Y) (aj := aj) (sc := upS sc 119 2 (nI (sk l z p + 1))) (p := sk l z p + 1) (by omega) hz hl (by rw [upS_k (by decide)]; exact h1) (by rw [upS_s])
    unfold dH at h48b
    by_cases c2 : dgq l z (sk l z p + 1) = true
    · have d2 := of_decide_eq_true c2
      rw [if_pos c2] at h48b ⊢
      simp only [q44_0, q44_1, q44_4, q44_5, q44_8, q44_9, q44_10, q44_13, q44_15, q44_16, q44_17, q44_18, q44_21, q44_22, q44_23, q44_26, q44_27, q44_30, q44_31, q44_32, q44_35, q44_36, q44_37, q44_38, q44_39, q44_42, q44_43, q44_44, q44_47, q44_48, q44_50, q44_51, q44_52, q44_53, ↓reduceIte, ax_bV_s, ax_bI_s, ax_bJ_s, ax_bA_s, ax_bH_s, ax_bR_s, ax_bR_n, oo_114, gf114_0, gf114_1, gf114_2, gf114_3, gf114_4, gf114_5, pf114_5, gf114_6, gf114_7, gf114_8, gf114_9, oo_119, gf119_0, gf119_1, pf119_1, gf119_2, pf119_2, oo_130, gf130_0, gf130_1, gf130_2, pf130_2, oo_134, gf134_0, gf134_1, pf134_1, gf134_2, pf134_2, gf134_3, pf134_3, gf134_4, gf134_5, pf134_5, gf134_6, gf134_7, gf134_8, gf134_9, pf134_9, gf134_10, gf134_11, gf134_12, gf134_13, gf134_14, gf134_15, gf134_16, gi120, pi120, li120, gi131, pi131, li131, gi132, pi132, li132, gi136, pi136, li136, gi138, pi138, li138, gi139, pi139, li139, gi140, pi140, li140, gi141, pi141, li141, gi142, pi142, li142, gi144, pi144, li144, gi145, pi145, li145, gj133, pj133, lj133, gj137, pj137, lj137, gj143, pj143, lj143, gj146, pj146, lj146, gA121, gAq, oo_s, gfs_0, gfs_1, gfs_2, pfs_0, pfs_1, gjs, ljs, pjs, oo_h, gfh_0, gfh_1, gfh_2, pfh_1, pfh_2, h46, h48, n_0le (show l (sk l z p) - 48 < 2 ^ 31 by omega), upS_s, upS_u, nI_add, h48b, n_0le (show l (sk l z p + 1) - 48 < 2 ^ 31 by omega), pk_mul, opI]
    · rw [if_neg c2] at h48b ⊢
      simp only [q44_0, q44_1, q44_4, q44_5, q44_8, q44_9, q44_10, q44_16, q44_17, q44_18, q44_21, q44_22, q44_23, q44_26, q44_27, q44_30, q44_31, q44_32, q44_35, q44_36, ↓reduceIte, ax_bV_s, ax_bI_s, ax_bJ_s, ax_bA_s, ax_bH_s, ax_bR_s, ax_bR_n, oo_114, gf114_0, gf114_1, gf114_2, gf114_3, gf114_4, gf114_5, pf114_5, gf114_6, gf114_7, gf114_8, gf114_9, oo_119, gf119_0, gf119_1, pf119_1, gf119_2, pf119_2, oo_130, gf130_0, gf130_1, gf130_2, pf130_2, oo_134, gf134_0, gf134_1, pf134_1, gf134_2, pf134_2, gf134_3, pf134_3, gf134_4, gf134_5, pf134_5, gf134_6, gf134_7, gf134_8, gf134_9, pf134_9, gf134_10, gf134_11, gf134_12, gf134_13, gf134_14, gf134_15, gf134_16, gi120, pi120, li120, gi131, pi131, li131, gi132, pi132, li132, gi136, pi136, li136, gi138, pi138, li138, gi139, pi139, li139, gi140, pi140, li140, gi141, pi141, li141, gi142, pi142, li142, gi144, pi144, li144, gi145, pi145, li145, gj133, pj133, lj133, gj137, pj137, lj137, gj143, pj143, lj143, gj146, pj146, lj146, gA121, gAq, oo_s, gfs_0, gfs_1, gfs_2, pfs_0, pfs_1, gjs, ljs, pjs, oo_h, gfh_0, gfh_1, gfh_2, pfh_1, pfh_2, h46, h48, n_0le (show l (sk l z p) - 48 < 2 ^ 31 by omega), upS_s, upS_u, nI_add, h48b, n4_0le, opI]
  · rw [if_neg c1] at h48 ⊢
    simp only [q44_0, q44_1, q44_4, q44_5, q44_8, q44_9, q44_10, q44_13, q44_15, ↓reduceIte, ax_bV_s, ax_bI_s, ax_bJ_s, ax_bA_s, ax_bH_s, ax_bR_s, ax_bR_n, oo_114, gf114_0, gf114_1, gf114_2, gf114_3, gf114_4, gf114_5, pf114_5, gf114_6, gf114_7, gf114_8, gf114_9, oo_119, gf119_0, gf119_1, pf119_1, gf119_2, pf119_2, oo_130, gf130_0, gf130_1, gf130_2, pf130_2, oo_134, gf134_0, gf134_1, pf134_1, gf134_2, pf134_2, gf134_3, pf134_3, gf134_4, gf134_5, pf134_5, gf134_6, gf134_7, gf134_8, gf134_9, pf134_9, gf134_10, gf134_11, gf134_12, gf134_13, gf134_14, gf134_15, gf134_16, gi120, pi120, li120, gi131, pi131, li131, gi132, pi132, li132, gi136, pi136, li136, gi138, pi138, li138, gi139, pi139, li139, gi140, pi140, li140, gi141, pi141, li141, gi142, pi142, li142, gi144, pi144, li144, gi145, pi145, li145, gj133, pj133, lj133, gj137, pj137, lj137, gj143, pj143, lj143, gj146, pj146, lj146, gA121, gAq, oo_s, gfs_0, gfs_1, gfs_2, pfs_0, pfs_1, gjs, ljs, pjs, oo_h, gfh_0, gfh_1, gfh_2, pfh_1, pfh_2, h46, h48, n4_0le, opI]
theorem n4_le_dn : ∀ la, la < 7 → (-4 : Int32) ≤ dn la := by decide +kernel
theorem n_le_dn : ∀ d, d < 10 → ∀ la, la < 7 → (decide (nI d ≤ dn la)) = decide (d < la) := by decide +kernel
theorem r45_l (m : Nat) : ∀ (sc : Nat → Nat → Int32) (p la acc rd : Nat), rd + m = 5 → p ≤ z → z ≤ 70 → la ≤ 5 → (∀ k, k < z → ai 120 k = nI (l k) ∧ l k < 127) → sc 119 1 = nI z → sc 119 2 = nI p → ax_res 45 6 [some (.ref 119), some (.int (nI acc)), some (.int (dn la)), some (.int (nI rd)), none] [] (hp X Y sc ai aj) = some (some (.int (nI (rtF l z m p la acc).2)), hp X Y (upS sc 119 2 (nI (rtF l z m p la acc).1)) ai aj) := by
  induction m with
  | zero =>
    intro sc p la acc rd hrd hpz hz hla hl h1 h2
    rw [rtF_0, upS_i h2]
    simp only [q45_6, q45_7, q45_8, q45_62, q45_62b, q45_63, q45_63b, ↓reduceIte, ax_bV_s, ax_bI_s, ax_bJ_s, ax_bA_s, ax_bH_s, ax_bR_s, ax_bR_n, n_le (show 5 < 2 ^ 31 by decide) (show rd < 2 ^ 31 by omega), show 5 ≤ rd by omega]
  | succ m ih =>
    intro sc p la acc rd hrd hpz hz hla hl h1 h2
    have hb := sk_bd (l := l) hpz
    have h46 := r46 (X := X) (Y := Y) (aj := aj) hpz hz hl h1 h2
    have h48 := r48 (X := X) (Y := Y) (aj := aj) (sc := upS sc 119 2 (nI (sk l z p))) (p := sk l z p) hb.2 hz hl (by rw [upS_k (by decide)]; exact h1) (by rw [upS_s])
    unfold dH at h48
    rw [q45_6]
    by_cases c1 : dgq l z (sk l z p) = true
    · have d1 := of_decide_eq_true c1
      rw [if_pos c1] at h48
      have hd := n_le_dn (l (sk l z p) - 48) (by omega) la (by omega)
      by_cases c2 : l (sk l z p) - 48 < la
      · rw [decide_eq_true c2] at hd
        have hd := of_decide_eq_true hd
        rw [rtF_n (by omega)]
        simp only [q45_7, q45_8, q45_11, q45_12, q45_15, q45_16, q45_19, q45_21, q45_23, q45_24, q45_62, q45_62b, q45_63, q45_63b, ↓reduceIte, ax_bV_s, ax_bI_s, ax_bJ_s, ax_bA_s, ax_bH_s, ax_bR_s, ax_bR_n, oo_114, gf114_0, gf114_1, gf114_2, gf114_3, gf114_4, gf114_5, pf114_5, gf114_6, gf114_7, gf114_8, gf114_9, oo_119, gf119_0, gf119_1, pf119_1, gf119_2, pf119_2, oo_130, gf130_0, gf130_1, gf130_2, pf130_2, oo_134, gf134_0, gf134_1, pf134_1, gf134_2, pf134_2, gf134_3, pf134_3, gf134_4, gf134_5, pf134_5, gf134_6, gf134_7, gf134_8, gf134_9, pf134_9, gf134_10, gf134_11, gf134_12, gf134_13, gf134_14, gf134_15, gf134_16, gi120, pi120, li120, gi131, pi131, li131, gi132, pi132, li132, gi136, pi136, li136, gi138, pi138, li138, gi139, pi139, li139, gi140, pi140, li140, gi141, pi141, li141, gi142, pi142, li142, gi144, pi144, li144, gi145, pi145, li145, gj133, pj133, lj133, gj137, pj137, lj137, gj143, pj143, lj143, gj146, pj146, lj146, gA121, gAq, oo_s, gfs_0, gfs_1, gfs_2, pfs_0, pfs_1, gjs, ljs, pjs, oo_h, gfh_0, gfh_1, gfh_2, pfh_1, pfh_2, n_le (show 5 < 2 ^ 31 by decide) (show rd < 2 ^ 31 by omega), show ¬ 5 ≤ rd by omega, h46, h48, hd]
      · rw [decide_eq_false c2] at hd
        have hd := of_decide_eq_false hd
        by_cases c3 : l (sk l z p) - 48 < 5
        · have e := ih (upS sc 119 2 (nI (sk l z p + 1))) (sk l z p + 1) (l (sk l z p) - 48 + 1) (acc ||| 2 ^ (l (sk l z p) - 48)) (rd + 1) (by omega) (by omega) hz (by omega) hl (by rw [upS_k (by decide)]; exact h1) (by rw [upS_s])
          rw [upS_u, dn_s] at e
          rw [rtF_y ⟨d1.1, by omega, by omega⟩, ← e]
          simp only [q45_7, q45_8, q45_11, q45_12, q45_15, q45_16, q45_19, q45_21, q45_23, q45_24, q45_27, q45_29, q45_30, q45_36, q45_37, q45_38, q45_40, q45_41, q45_42, q45_43, q45_45, q45_46, q45_47, q45_48, q45_51, q45_52, q45_53, q45_56, q45_59, ↓reduceIte, ax_bV_s, ax_bI_s, ax_bJ_s, ax_bA_s, ax_bH_s, ax_bR_s, ax_bR_n, oo_114, gf114_0, gf114_1, gf114_2, gf114_3, gf114_4, gf114_5, pf114_5, gf114_6, gf114_7, gf114_8, gf114_9, oo_119, gf119_0, gf119_1, pf119_1, gf119_2, pf119_2, oo_130, gf130_0, gf130_1, gf130_2, pf130_2, oo_134, gf134_0, gf134_1, pf134_1, gf134_2, pf134_2, gf134_3, pf134_3, gf134_4, gf134_5, pf134_5, gf134_6, gf134_7, gf134_8, gf134_9, pf134_9, gf134_10, gf134_11, gf134_12, gf134_13, gf134_14, gf134_15, gf134_16, gi120, pi120, li120, gi131, pi131, li131, gi132, pi132, li132, gi136, pi136, li136, gi138, pi138, li138, gi139, pi139, li139, gi140, pi140, li140, gi141, pi141, li141, gi142, pi142, li142, gi144, pi144, li144, gi145, pi145, li145, gj133, pj133, lj133, gj137, pj137, lj137, gj143, pj143, lj143, gj146, pj146, lj146, gA121, gAq, oo_s, gfs_0, gfs_1, gfs_2, pfs_0, pfs_1, gjs, ljs, pjs, oo_h, gfh_0, gfh_1, gfh_2, pfh_1, pfh_2, n_le (show 5 < 2 ^ 31 by decide) (show rd < 2 ^ 31 by omega), show ¬ 5 ≤ rd by omega, h46, h48, hd, n_lt (show l (sk l z p) - 48 < 2 ^ 31 by omega) (show 5 < 2 ^ 31 by decide), c3, n_1shl _ (show l (sk l z p) - 48 < 31 by omega), n_or, upS_s, upS_u, nI_add]
        · rw [rtF_n (by omega)]
          simp only [q45_7, q45_8, q45_11, q45_12, q45_15, q45_16, q45_19, q45_21, q45_23, q45_24, q45_27, q45_29, q45_30, q45_33, q45_62, q45_62b, q45_63, q45_63b, ↓reduceIte, ax_bV_s, ax_bI_s, ax_bJ_s, ax_bA_s, ax_bH_s, ax_bR_s, ax_bR_n, oo_114, gf114_0, gf114_1, gf114_2, gf114_3, gf114_4, gf114_5, pf114_5, gf114_6, gf114_7, gf114_8, gf114_9, oo_119, gf119_0, gf119_1, pf119_1, gf119_2, pf119_2, oo_130, gf130_0, gf130_1, gf130_2, pf130_2, oo_134, gf134_0, gf134_1, pf134_1, gf134_2, pf134_2, gf134_3, pf134_3, gf134_4, gf134_5, pf134_5, gf134_6, gf134_7, gf134_8, gf134_9, pf134_9, gf134_10, gf134_11, gf134_12, gf134_13, gf134_14, gf134_15, gf134_16, gi120, pi120, li120, gi131, pi131, li131, gi132, pi132, li132, gi136, pi136, li136, gi138, pi138, li138, gi139, pi139, li139, gi140, pi140, li140, gi141, pi141, li141, gi142, pi142, li142, gi144, pi144, li144, gi145, pi145, li145, gj133, pj133, lj133, gj137, pj137, lj137, gj143, pj143, lj143, gj146, pj146, lj146, gA121, gAq, oo_s, gfs_0, gfs_1, gfs_2, pfs_0, pfs_1, gjs, ljs, pjs, oo_h, gfh_0, gfh_1, gfh_2, pfh_1, pfh_2, n_le (show 5 < 2 ^ 31 by decide) (show rd < 2 ^ 31 by omega), show ¬ 5 ≤ rd by omega, h46, h48, hd, n_lt (show l (sk l z p) - 48 < 2 ^ 31 by omega) (show 5 < 2 ^ 31 by decide), c3]
    · have d1 : ¬ (sk l z p < z ∧ 48 ≤ l (sk l z p) ∧ l (sk l z p) ≤ 57) := fun h => c1 (decide_eq_true h)
      rw [if_neg c1] at h48
      rw [rtF_n (by omega)]
      simp only [q45_7, q45_8, q45_11, q45_12, q45_15, q45_16, q45_19, q45_21, q45_23, q45_24, q45_62, q45_62b, q45_63, q45_63b, ↓reduceIte, ax_bV_s, ax_bI_s, ax_bJ_s, ax_bA_s, ax_bH_s, ax_bR_s, ax_bR_n, oo_114, gf114_0, gf114_1, gf114_2, gf114_3, gf114_4, gf114_5, pf114_5, gf114_6, gf114_7, gf114_8, gf114_9, oo_119, gf119_0, gf119_1, pf119_1, gf119_2, pf119_2, oo_130, gf130_0, gf130_1, gf130_2, pf130_2, oo_134, gf134_0, gf134_1, pf134_1, gf134_2, pf134_2, gf134_3, pf134_3, gf134_4, gf134_5, pf134_5, gf134_6, gf134_7, gf134_8, gf134_9, pf134_9, gf134_10, gf134_11, gf134_12, gf134_13, gf134_14, gf134_15, gf134_16, gi120, pi120, li120, gi131, pi131, li131, gi132, pi132, li132, gi136, pi136, li136, gi138, pi138, li138, gi139, pi139, li139, gi140, pi140, li140, gi141, pi141, li141, gi142, pi142, li142, gi144, pi144, li144, gi145, pi145, li145, gj133, pj133, lj133, gj137, pj137, lj137, gj143, pj143, lj143, gj146, pj146, lj146, gA121, gAq, oo_s, gfs_0, gfs_1, gfs_2, pfs_0, pfs_1, gjs, ljs, pjs, oo_h, gfh_0, gfh_1, gfh_2, pfh_1, pfh_2, n_le (show 5 < 2 ^ 31 by decide) (show rd < 2 ^ 31 by omega), show ¬ 5 ≤ rd by omega, h46, h48, n4_le_dn la (by omega)]
/-- readTricks -/
theorem r45 {p : Nat} (hpz : p ≤ z) (hz : z ≤ 70) (hl : ∀ k, k < z → ai 120 k = nI (l k) ∧ l k < 127) (h1 : sc 119 1 = nI z) (h2 : sc 119 2 = nI p) : ax_res 45 0 [some (.ref 119), none, none, none, none] [] (hp X Y sc ai aj) = some (some (.int (nI (rtF l z 5 p 0 0).2)), hp X Y (upS sc 119 2 (nI (rtF l z 5 p 0 0).1)) ai aj) := by
  have e := r45_l (X := X) (Y := Y) (aj := aj) (l := l) (z := z) 5 sc p 0 0 0 (by omega) hpz hz (by omega) hl h1 h2
  rw [dn_0] at e
  simp only [q45_0, q45_1, q45_2, q45_3, q45_4, q45_5, e]
/-- readBuyer -/
theorem r43 {p : Nat} (hpz : p ≤ z) (hz : z ≤ 70) (hl : ∀ k, k < z → ai 120 k = nI (l k) ∧ l k < 127) (h1 : sc 119 1 = nI z) (h2 : sc 119 2 = nI p) (hN : X 1 0 < 6) : match rbF l z p with
    | .inl q => ax_res 43 0 [some (.ref 119), some (.ref (ha 1 0)), none, none, none] [] (hp X Y sc ai aj) = some (some (.int (nI 0)), hp X Y (upS sc 119 2 (nI q)) ai aj)
    | .inr (q, k, pr, t) => ∃ p', p' ≤ z ∧ sk l z p' = q ∧ ax_res 43 0 [some (.ref 119), some (.ref (ha 1 0)), none, none, none] [] (hp X Y sc ai aj) = some (some (.int (nI 1)), hp (upX X 1 (addb (X 1) k pr t)) Y (upS sc 119 2 (nI p')) ai aj) := by
  have hb := sk_bd (l := l) hpz
  have h46 := r46 (X := X) (Y := Y) (aj := aj) hpz hz hl h1 h2
  have h47 := r47 (X := X) (Y := Y) (aj := aj) (sc := upS sc 119 2 (nI (sk l z p))) (p := sk l z p) hb.2 hz hl (by rw [upS_k (by decide)]; exact h1) (by rw [upS_s])
  unfold rbF
  by_cases c1 : sk l z p < z ∧ kdN (l (sk l z p)) < 5
  · rw [if_pos c1]
    unfold lh at h47
    rw [if_pos c1.1] at h47
    have hk := hl _ c1.1
    have hix := idx_k _ hk.2
    rw [if_pos c1.2] at hix
    have hn := rnF_bd (l := l) (z := z) (p := sk l z p + 1) (by omega)
    have h44 := r44 (X := X) (Y := Y) (aj := aj) (sc := upS sc 119 2 (nI (sk l z p + 1))) (p := sk l z p + 1) (by omega) hz hl (by rw [upS_k (by decide)]; exact h1) (by rw [upS_s])
    rw [upS_u] at h44
    unfold rb2
    generalize hr : rnF l z (sk l z p + 1) = r at hn h44
    obtain ⟨q2, o⟩ := r
    cases o with
    | none =>
      simp only [opI] at h44 ⊢
      simp only [q43_0, q43_1, q43_4, q43_6, q43_7, q43_10, q43_13, q43_14, q43_15, q43_20, q43_21, q43_22, q43_25, q43_26, q43_27, q43_30, q43_31, q43_34, q43_35, q43_36, q43_39, q43_40, ↓reduceIte, ax_bV_s, ax_bI_s, ax_bJ_s, ax_bA_s, ax_bH_s, ax_bR_s, ax_bR_n, oo_114, gf114_0, gf114_1, gf114_2, gf114_3, gf114_4, gf114_5, pf114_5, gf114_6, gf114_7, gf114_8, gf114_9, oo_119, gf119_0, gf119_1, pf119_1, gf119_2, pf119_2, oo_130, gf130_0, gf130_1, gf130_2, pf130_2, oo_134, gf134_0, gf134_1, pf134_1, gf134_2, pf134_2, gf134_3, pf134_3, gf134_4, gf134_5, pf134_5, gf134_6, gf134_7, gf134_8, gf134_9, pf134_9, gf134_10, gf134_11, gf134_12, gf134_13, gf134_14, gf134_15, gf134_16, gi120, pi120, li120, gi131, pi131, li131, gi132, pi132, li132, gi136, pi136, li136, gi138, pi138, li138, gi139, pi139, li139, gi140, pi140, li140, gi141, pi141, li141, gi142, pi142, li142, gi144, pi144, li144, gi145, pi145, li145, gj133, pj133, lj133, gj137, pj137, lj137, gj143, pj143, lj143, gj146, pj146, lj146, gA121, gAq, oo_s, gfs_0, gfs_1, gfs_2, pfs_0, pfs_1, gjs, ljs, pjs, oo_h, gfh_0, gfh_1, gfh_2, pfh_1, pfh_2, ax_fit1_0, ax_fit1_1, ax_fitb, h46, h47, hix, n_0le (show kdN (l (sk l z p)) < 2 ^ 31 by omega), upS_s, upS_u, nI_add, h44, n4_0le]
    | some pr =>
      have hpr := hn.2 pr rfl
      have hn1 : q2 ≤ z := hn.1
      simp only [opI] at h44 ⊢
      have hb2 := sk_bd (l := l) hn1
      have h46b := r46 (X := X) (Y := Y) (aj := aj) (sc := upS sc 119 2 (nI q2)) (p := q2) hn1 hz hl (by rw [upS_k (by decide)]; exact h1) (by rw [upS_s])
      rw [upS_u] at h46b
      have h47b := r47 (X := X) (Y := Y) (aj := aj) (sc := upS sc 119 2 (nI (sk l z q2))) (p := sk l z q2) hb2.2 hz hl (by rw [upS_k (by decide)]; exact h1) (by rw [upS_s])
      unfold lh at h47b
      unfold rb3
      by_cases c2 : sk l z q2 < z ∧ l (sk l z q2) = 58
      · rw [if_pos c2]
        rw [if_pos c2.1, c2.2] at h47b
        have ht := rtF_bd (l := l) (z := z) 5 (sk l z q2 + 1) 0 0 (by omega) (by decide)
        have h45 := r45 (X := X) (Y := Y) (aj := aj) (sc := upS sc 119 2 (nI (sk l z q2 + 1))) (p := sk l z q2 + 1) (by omega) hz hl (by rw [upS_k (by decide)]; exact h1) (by rw [upS_s])
        rw [upS_u] at h45
        by_cases c3 : (rtF l z 5 (sk l z q2 + 1) 0 0).2 = 0
        · rw [if_pos c3]
          rw [c3] at h45
          simp only [q43_0, q43_1, q43_4, q43_6, q43_7, q43_10, q43_13, q43_14, q43_15, q43_20, q43_21, q43_22, q43_25, q43_26, q43_27, q43_30, q43_31, q43_34, q43_35, q43_36, q43_41, q43_42, q43_45, q43_46, q43_48, q43_49, q43_52, q43_54, q43_57, q43_58, q43_59, q43_62, q43_63, q43_64, q43_67, q43_68, q43_71, q43_73, q43_75, q43_78, q43_79, ↓reduceIte, ax_bV_s, ax_bI_s, ax_bJ_s, ax_bA_s, ax_bH_s, ax_bR_s, ax_bR_n, oo_114, gf114_0, gf114_1, gf114_2, gf114_3, gf114_4, gf114_5, pf114_5, gf114_6, gf114_7, gf114_8, gf114_9, oo_119, gf119_0, gf119_1, pf119_1, gf119_2, pf119_2, oo_130, gf130_0, gf130_1, gf130_2, pf130_2, oo_134, gf134_0, gf134_1, pf134_1, gf134_2, pf134_2, gf134_3, pf134_3, gf134_4, gf134_5, pf134_5, gf134_6, gf134_7, gf134_8, gf134_9, pf134_9, gf134_10, gf134_11, gf134_12, gf134_13, gf134_14, gf134_15, gf134_16, gi120, pi120, li120, gi131, pi131, li131, gi132, pi132, li132, gi136, pi136, li136, gi138, pi138, li138, gi139, pi139, li139, gi140, pi140, li140, gi141, pi141, li141, gi142, pi142, li142, gi144, pi144, li144, gi145, pi145, li145, gj133, pj133, lj133, gj137, pj137, lj137, gj143, pj143, lj143, gj146, pj146, lj146, gA121, gAq, oo_s, gfs_0, gfs_1, gfs_2, pfs_0, pfs_1, gjs, ljs, pjs, oo_h, gfh_0, gfh_1, gfh_2, pfh_1, pfh_2, ax_fit1_0, ax_fit1_1, ax_fitb, h46, h47, hix, n_0le (show kdN (l (sk l z p)) < 2 ^ 31 by omega), upS_s, upS_u, nI_add, h44, n_0le (show pr < 2 ^ 31 by omega), h46b, h47b, h45, n_z0]
        · rw [if_neg c3]
          refine ⟨(rtF l z 5 (sk l z q2 + 1) 0 0).1, ht.1, rfl, ?_⟩
          simp only [q43_0, q43_1, q43_4, q43_6, q43_7, q43_10, q43_13, q43_14, q43_15, q43_20, q43_21, q43_22, q43_25, q43_26, q43_27, q43_30, q43_31, q43_34, q43_35, q43_36, q43_41, q43_42, q43_45, q43_46, q43_48, q43_49, q43_52, q43_54, q43_57, q43_58, q43_59, q43_62, q43_63, q43_64, q43_67, q43_68, q43_71, q43_73, q43_75, q43_80, q43_81, q43_82, q43_83, q43_85, q43_88, q43_89, q43_90, ↓reduceIte, ax_bV_s, ax_bI_s, ax_bJ_s, ax_bA_s, ax_bH_s, ax_bR_s, ax_bR_n, gh_people, gh_here, gh_sat, gh_minute, gh_draw, gh_sitter, gh_kinds, gh_prices, gh_known, gh_sights, gh_places, ga_kinds, ga_prices, ga_known, ga_sights, ga_places, oh, oo_114, gf114_0, gf114_1, gf114_2, gf114_3, gf114_4, gf114_5, pf114_5, gf114_6, gf114_7, gf114_8, gf114_9, oo_119, gf119_0, gf119_1, pf119_1, gf119_2, pf119_2, oo_130, gf130_0, gf130_1, gf130_2, pf130_2, oo_134, gf134_0, gf134_1, pf134_1, gf134_2, pf134_2, gf134_3, pf134_3, gf134_4, gf134_5, pf134_5, gf134_6, gf134_7, gf134_8, gf134_9, pf134_9, gf134_10, gf134_11, gf134_12, gf134_13, gf134_14, gf134_15, gf134_16, gi120, pi120, li120, gi131, pi131, li131, gi132, pi132, li132, gi136, pi136, li136, gi138, pi138, li138, gi139, pi139, li139, gi140, pi140, li140, gi141, pi141, li141, gi142, pi142, li142, gi144, pi144, li144, gi145, pi145, li145, gj133, pj133, lj133, gj137, pj137, lj137, gj143, pj143, lj143, gj146, pj146, lj146, gA121, gAq, oo_s, gfs_0, gfs_1, gfs_2, pfs_0, pfs_1, gjs, ljs, pjs, oo_h, gfh_0, gfh_1, gfh_2, pfh_1, pfh_2, ax_fit1_0, ax_fit1_1, ax_fitb, j1, h46, h47, hix, n_0le (show kdN (l (sk l z p)) < 2 ^ 31 by omega), upS_s, upS_u, nI_add, h44, n_0le (show pr < 2 ^ 31 by omega), h46b, h47b, h45, n_eq0 (show (rtF l z 5 (sk l z q2 + 1) 0 0).2 < 2 ^ 31 by omega), c3, r12 j1 hN]
      · rw [if_neg c2]
        refine ⟨sk l z q2, hb2.2, sk_sk, ?_⟩
        have h58 : ¬ nI (if sk l z q2 < z then l (sk l z q2) else 0) = nI 58 := by
          by_cases c4 : sk l z q2 < z
          · have := (hl _ c4).2
            rw [if_pos c4, n_eq (by omega) (by decide)]; exact fun e => c2 ⟨c4, e⟩
          · rw [if_neg c4]; decide
        simp only [q43_0, q43_1, q43_4, q43_6, q43_7, q43_10, q43_13, q43_14, q43_15, q43_20, q43_21, q43_22, q43_25, q43_26, q43_27, q43_30, q43_31, q43_34, q43_35, q43_36, q43_41, q43_42, q43_45, q43_46, q43_48, q43_49, q43_52, q43_54, q43_80, q43_81, q43_82, q43_83, q43_85, q43_88, q43_89, q43_90, ↓reduceIte, ax_bV_s, ax_bI_s, ax_bJ_s, ax_bA_s, ax_bH_s, ax_bR_s, ax_bR_n, gh_people, gh_here, gh_sat, gh_minute, gh_draw, gh_sitter, gh_kinds, gh_prices, gh_known, gh_sights, gh_places, ga_kinds, ga_prices, ga_known, ga_sights, ga_places, oh, oo_114, gf114_0, gf114_1, gf114_2, gf114_3, gf114_4, gf114_5, pf114_5, gf114_6, gf114_7, gf114_8, gf114_9, oo_119, gf119_0, gf119_1, pf119_1, gf119_2, pf119_2, oo_130, gf130_0, gf130_1, gf130_2, pf130_2, oo_134, gf134_0, gf134_1, pf134_1, gf134_2, pf134_2, gf134_3, pf134_3, gf134_4, gf134_5, pf134_5, gf134_6, gf134_7, gf134_8, gf134_9, pf134_9, gf134_10, gf134_11, gf134_12, gf134_13, gf134_14, gf134_15, gf134_16, gi120, pi120, li120, gi131, pi131, li131, gi132, pi132, li132, gi136, pi136, li136, gi138, pi138, li138, gi139, pi139, li139, gi140, pi140, li140, gi141, pi141, li141, gi142, pi142, li142, gi144, pi144, li144, gi145, pi145, li145, gj133, pj133, lj133, gj137, pj137, lj137, gj143, pj143, lj143, gj146, pj146, lj146, gA121, gAq, oo_s, gfs_0, gfs_1, gfs_2, pfs_0, pfs_1, gjs, ljs, pjs, oo_h, gfh_0, gfh_1, gfh_2, pfh_1, pfh_2, ax_fit1_0, ax_fit1_1, ax_fitb, j1, h46, h47, hix, n_0le (show kdN (l (sk l z p)) < 2 ^ 31 by omega), upS_s, upS_u, nI_add, h44, n_0le (show pr < 2 ^ 31 by omega), h46b, h47b, h58, r12 j1 hN]
  · rw [if_neg c1]
    have hix : ax_idx (nI (lh l z (sk l z p))) = -1 := by
      unfold lh
      by_cases c4 : sk l z p < z
      · rw [if_pos c4, idx_k _ (hl _ c4).2, if_neg (fun h => c1 ⟨c4, h⟩)]
      · rw [if_neg c4]; decide
    simp only [q43_0, q43_1, q43_4, q43_6, q43_7, q43_10, q43_13, q43_14, q43_15, q43_18, q43_19, ↓reduceIte, ax_bV_s, ax_bI_s, ax_bJ_s, ax_bA_s, ax_bH_s, ax_bR_s, ax_bR_n, oo_114, gf114_0, gf114_1, gf114_2, gf114_3, gf114_4, gf114_5, pf114_5, gf114_6, gf114_7, gf114_8, gf114_9, oo_119, gf119_0, gf119_1, pf119_1, gf119_2, pf119_2, oo_130, gf130_0, gf130_1, gf130_2, pf130_2, oo_134, gf134_0, gf134_1, pf134_1, gf134_2, pf134_2, gf134_3, pf134_3, gf134_4, gf134_5, pf134_5, gf134_6, gf134_7, gf134_8, gf134_9, pf134_9, gf134_10, gf134_11, gf134_12, gf134_13, gf134_14, gf134_15, gf134_16, gi120, pi120, li120, gi131, pi131, li131, gi132, pi132, li132, gi136, pi136, li136, gi138, pi138, li138, gi139, pi139, li139, gi140, pi140, li140, gi141, pi141, li141, gi142, pi142, li142, gi144, pi144, li144, gi145, pi145, li145, gj133, pj133, lj133, gj137, pj137, lj137, gj143, pj143, lj143, gj146, pj146, lj146, gA121, gAq, oo_s, gfs_0, gfs_1, gfs_2, pfs_0, pfs_1, gjs, ljs, pjs, oo_h, gfh_0, gfh_1, gfh_2, pfh_1, pfh_2, ax_fit1_0, ax_fit1_1, ax_fitb, h46, h47, hix, n1_0le]
theorem r42_l (m : Nat) : ∀ (X : Nat → Nat → Nat) (sc : Nat → Nat → Int32) (p b : Nat), b + m = 6 → X 1 0 = b → b < 6 → p ≤ z → z ≤ 70 → (∀ k, k < z → ai 120 k = nI (l k) ∧ l k < 127) → sc 119 1 = nI z → sc 119 2 = nI p → match thF l z m p b with
    | .inl q => ∃ x1, ax_res 42 7 [some (.ref 119), some (.ref (ha 1 0)), some (.int (nI b))] [] (hp X Y sc ai aj) = some (some (.int (-20 - nI q)), hp (upX X 1 x1) Y (upS sc 119 2 (nI q)) ai aj)
    | .inr bs => ∃ p', ax_res 42 7 [some (.ref 119), some (.ref (ha 1 0)), some (.int (nI b))] [] (hp X Y sc ai aj) = some (some (.int (nI (b + bs.length))), hp (upX X 1 (addL (X 1) bs)) Y (upS sc 119 2 (nI p')) ai aj) := by
  induction m with
  | zero => intro X sc p b hb hX hb6; omega
  | succ m ih =>
    intro X sc p b hb hX hb6 hpz hz hl h1 h2
    have h43 := r43 (X := X) (Y := Y) (aj := aj) hpz hz hl h1 h2 (by omega)
    have hbd := rbF_bd (l := l) hpz
    cases hq : rbF l z p with
    | inl q =>
      rw [hq] at h43 hbd
      rw [thF_f hq]
      refine ⟨X 1, ?_⟩
      rw [upX_i, q42_7]
      simp only [q42_8, q42_10, q42_13, q42_14, q42_15, q42_18, q42_21, q42_81, q42_83, q42_84, q42_87, q42_88, ↓reduceIte, ax_bV_s, ax_bI_s, ax_bJ_s, ax_bA_s, ax_bH_s, ax_bR_s, ax_bR_n, oo_114, gf114_0, gf114_1, gf114_2, gf114_3, gf114_4, gf114_5, pf114_5, gf114_6, gf114_7, gf114_8, gf114_9, oo_119, gf119_0, gf119_1, pf119_1, gf119_2, pf119_2, oo_130, gf130_0, gf130_1, gf130_2, pf130_2, oo_134, gf134_0, gf134_1, pf134_1, gf134_2, pf134_2, gf134_3, pf134_3, gf134_4, gf134_5, pf134_5, gf134_6, gf134_7, gf134_8, gf134_9, pf134_9, gf134_10, gf134_11, gf134_12, gf134_13, gf134_14, gf134_15, gf134_16, gi120, pi120, li120, gi131, pi131, li131, gi132, pi132, li132, gi136, pi136, li136, gi138, pi138, li138, gi139, pi139, li139, gi140, pi140, li140, gi141, pi141, li141, gi142, pi142, li142, gi144, pi144, li144, gi145, pi145, li145, gj133, pj133, lj133, gj137, pj137, lj137, gj143, pj143, lj143, gj146, pj146, lj146, gA121, gAq, oo_s, gfs_0, gfs_1, gfs_2, pfs_0, pfs_1, gjs, ljs, pjs, oo_h, gfh_0, gfh_1, gfh_2, pfh_1, pfh_2, n_le (show 6 < 2 ^ 31 by decide) (show b < 2 ^ 31 by omega), show ¬ 6 ≤ b by omega, h43, n_z0, upS_s]
    | inr v =>
      obtain ⟨q, k, pr, t⟩ := v
      rw [hq] at h43 hbd
      obtain ⟨p', hp', hsk, e43⟩ := h43
      simp only at hbd
      have ea := addb_0 (x := X 1) (k := k) (p := pr) (t := t) (by omega)
      have h46 := r46 (X := upX X 1 (addb (X 1) k pr t)) (Y := Y) (aj := aj) (sc := upS sc 119 2 (nI p')) (p := p') hp' hz hl (by rw [upS_k (by decide)]; exact h1) (by rw [upS_s])
      rw [hsk, upS_u] at h46
      have h47 := r47 (X := upX X 1 (addb (X 1) k pr t)) (Y := Y) (aj := aj) (sc := upS sc 119 2 (nI q)) (p := q) hbd.1 hz hl (by rw [upS_k (by decide)]; exact h1) (by rw [upS_s])
      have hs1 : upS sc 119 2 (nI q) 119 1 = nI z := by rw [upS_k (by decide)]; exact h1
      by_cases c1 : z ≤ q
      · rw [thF_z hq c1]
        refine ⟨q, ?_⟩
        rw [q42_7, addL_c, addL_n]
        simp only [q42_8, q42_10, q42_13, q42_14, q42_15, q42_18, q42_24, q42_25, q42_28, q42_29, q42_32, q42_33, q42_36, q42_39, q42_40, q42_43, ↓reduceIte, ax_bV_s, ax_bI_s, ax_bJ_s, ax_bA_s, ax_bH_s, ax_bR_s, ax_bR_n, gh_people, gh_here, gh_sat, gh_minute, gh_draw, gh_sitter, gh_kinds, gh_prices, gh_known, gh_sights, gh_places, ga_kinds, ga_prices, ga_known, ga_sights, ga_places, oh, oo_114, gf114_0, gf114_1, gf114_2, gf114_3, gf114_4, gf114_5, pf114_5, gf114_6, gf114_7, gf114_8, gf114_9, oo_119, gf119_0, gf119_1, pf119_1, gf119_2, pf119_2, oo_130, gf130_0, gf130_1, gf130_2, pf130_2, oo_134, gf134_0, gf134_1, pf134_1, gf134_2, pf134_2, gf134_3, pf134_3, gf134_4, gf134_5, pf134_5, gf134_6, gf134_7, gf134_8, gf134_9, pf134_9, gf134_10, gf134_11, gf134_12, gf134_13, gf134_14, gf134_15, gf134_16, gi120, pi120, li120, gi131, pi131, li131, gi132, pi132, li132, gi136, pi136, li136, gi138, pi138, li138, gi139, pi139, li139, gi140, pi140, li140, gi141, pi141, li141, gi142, pi142, li142, gi144, pi144, li144, gi145, pi145, li145, gj133, pj133, lj133, gj137, pj137, lj137, gj143, pj143, lj143, gj146, pj146, lj146, gA121, gAq, oo_s, gfs_0, gfs_1, gfs_2, pfs_0, pfs_1, gjs, ljs, pjs, oo_h, gfh_0, gfh_1, gfh_2, pfh_1, pfh_2, j1, n_le (show 6 < 2 ^ 31 by decide) (show b < 2 ^ 31 by omega), show ¬ 6 ≤ b by omega, e43, n_z1, h46, upS_s, hs1, n_lt (show q < 2 ^ 31 by omega) (show z < 2 ^ 31 by omega), show ¬ q < z by omega, upX_s, ea, hX]
        rfl
      · unfold lh at h47
        rw [if_pos (by omega)] at h47
        have hq7 := (hl q (by omega)).2
        by_cases c2 : l q = 44
        · by_cases c3 : b + 1 < 6
          · have hi := ih (upX X 1 (addb (X 1) k pr t)) (upS sc 119 2 (nI (q + 1))) (q + 1) (b + 1) (by omega) (by rw [upX_s, ea, hX]) (by omega) (by omega) hz hl (by rw [upS_k (by decide)]; exact h1) (by rw [upS_s])
            cases ht : thF l z m (q + 1) (b + 1) with
            | inl q' =>
              rw [ht] at hi
              obtain ⟨x1, e⟩ := hi
              rw [upX_u, upS_u] at e
              rw [thF_l hq c1 ⟨c2, c3⟩ ht]
              refine ⟨x1, ?_⟩
              rw [q42_7]
              simp only [q42_8, q42_10, q42_13, q42_14, q42_15, q42_18, q42_24, q42_25, q42_28, q42_29, q42_32, q42_33, q42_36, q42_44, q42_45, q42_48, q42_50, q42_53, q42_54, q42_57, q42_59, q42_65, q42_66, q42_67, q42_70, q42_71, q42_72, q42_75, q42_78, ↓reduceIte, ax_bV_s, ax_bI_s, ax_bJ_s, ax_bA_s, ax_bH_s, ax_bR_s, ax_bR_n, gh_people, gh_here, gh_sat, gh_minute, gh_draw, gh_sitter, gh_kinds, gh_prices, gh_known, gh_sights, gh_places, ga_kinds, ga_prices, ga_known, ga_sights, ga_places, oh, oo_114, gf114_0, gf114_1, gf114_2, gf114_3, gf114_4, gf114_5, pf114_5, gf114_6, gf114_7, gf114_8, gf114_9, oo_119, gf119_0, gf119_1, pf119_1, gf119_2, pf119_2, oo_130, gf130_0, gf130_1, gf130_2, pf130_2, oo_134, gf134_0, gf134_1, pf134_1, gf134_2, pf134_2, gf134_3, pf134_3, gf134_4, gf134_5, pf134_5, gf134_6, gf134_7, gf134_8, gf134_9, pf134_9, gf134_10, gf134_11, gf134_12, gf134_13, gf134_14, gf134_15, gf134_16, gi120, pi120, li120, gi131, pi131, li131, gi132, pi132, li132, gi136, pi136, li136, gi138, pi138, li138, gi139, pi139, li139, gi140, pi140, li140, gi141, pi141, li141, gi142, pi142, li142, gi144, pi144, li144, gi145, pi145, li145, gj133, pj133, lj133, gj137, pj137, lj137, gj143, pj143, lj143, gj146, pj146, lj146, gA121, gAq, oo_s, gfs_0, gfs_1, gfs_2, pfs_0, pfs_1, gjs, ljs, pjs, oo_h, gfh_0, gfh_1, gfh_2, pfh_1, pfh_2, j1, n_le (show 6 < 2 ^ 31 by decide) (show b < 2 ^ 31 by omega), show ¬ 6 ≤ b by omega, e43, n_z1, h46, upS_s, upS_u, hs1, n_lt (show q < 2 ^ 31 by omega) (show z < 2 ^ 31 by omega), show q < z by omega, h47, c2, upX_s, ea, hX, n_lt (show b + 1 < 2 ^ 31 by omega) (show 6 < 2 ^ 31 by decide), c3, nI_add, e]
            | inr bs =>
              rw [ht] at hi
              obtain ⟨p2, e⟩ := hi
              rw [upX_s, upX_u, upS_u] at e
              rw [thF_r hq c1 ⟨c2, c3⟩ ht]
              refine ⟨p2, ?_⟩
              rw [q42_7, addL_c, List.length_cons, show b + (bs.length + 1) = b + 1 + bs.length by omega]
              simp only [q42_8, q42_10, q42_13, q42_14, q42_15, q42_18, q42_24, q42_25, q42_28, q42_29, q42_32, q42_33, q42_36, q42_44, q42_45, q42_48, q42_50, q42_53, q42_54, q42_57, q42_59, q42_65, q42_66, q42_67, q42_70, q42_71, q42_72, q42_75, q42_78, ↓reduceIte, ax_bV_s, ax_bI_s, ax_bJ_s, ax_bA_s, ax_bH_s, ax_bR_s, ax_bR_n, gh_people, gh_here, gh_sat, gh_minute, gh_draw, gh_sitter, gh_kinds, gh_prices, gh_known, gh_sights, gh_places, ga_kinds, ga_prices, ga_known, ga_sights, ga_places, oh, oo_114, gf114_0, gf114_1, gf114_2, gf114_3, gf114_4, gf114_5, pf114_5, gf114_6, gf114_7, gf114_8, gf114_9, oo_119, gf119_0, gf119_1, pf119_1, gf119_2, pf119_2, oo_130, gf130_0, gf130_1, gf130_2, pf130_2, oo_134, gf134_0, gf134_1, pf134_1, gf134_2, pf134_2, gf134_3, pf134_3, gf134_4, gf134_5, pf134_5, gf134_6, gf134_7, gf134_8, gf134_9, pf134_9, gf134_10, gf134_11, gf134_12, gf134_13, gf134_14, gf134_15, gf134_16, gi120, pi120, li120, gi131, pi131, li131, gi132, pi132, li132, gi136, pi136, li136, gi138, pi138, li138, gi139, pi139, li139, gi140, pi140, li140, gi141, pi141, li141, gi142, pi142, li142, gi144, pi144, li144, gi145, pi145, li145, gj133, pj133, lj133, gj137, pj137, lj137, gj143, pj143, lj143, gj146, pj146, lj146, gA121, gAq, oo_s, gfs_0, gfs_1, gfs_2, pfs_0, pfs_1, gjs, ljs, pjs, oo_h, gfh_0, gfh_1, gfh_2, pfh_1, pfh_2, j1, n_le (show 6 < 2 ^ 31 by decide) (show b < 2 ^ 31 by omega), show ¬ 6 ≤ b by omega, e43, n_z1, h46, upS_s, upS_u, hs1, n_lt (show q < 2 ^ 31 by omega) (show z < 2 ^ 31 by omega), show q < z by omega, h47, c2, upX_s, ea, hX, n_lt (show b + 1 < 2 ^ 31 by omega) (show 6 < 2 ^ 31 by decide), c3, nI_add, e]
          · rw [thF_b hq c1 (fun h => c3 h.2)]
            refine ⟨addb (X 1) k pr t, ?_⟩
            rw [q42_7]
            simp only [q42_8, q42_10, q42_13, q42_14, q42_15, q42_18, q42_24, q42_25, q42_28, q42_29, q42_32, q42_33, q42_36, q42_44, q42_45, q42_48, q42_50, q42_53, q42_54, q42_57, q42_59, q42_62, q42_81, q42_83, q42_84, q42_87, q42_88, ↓reduceIte, ax_bV_s, ax_bI_s, ax_bJ_s, ax_bA_s, ax_bH_s, ax_bR_s, ax_bR_n, gh_people, gh_here, gh_sat, gh_minute, gh_draw, gh_sitter, gh_kinds, gh_prices, gh_known, gh_sights, gh_places, ga_kinds, ga_prices, ga_known, ga_sights, ga_places, oh, oo_114, gf114_0, gf114_1, gf114_2, gf114_3, gf114_4, gf114_5, pf114_5, gf114_6, gf114_7, gf114_8, gf114_9, oo_119, gf119_0, gf119_1, pf119_1, gf119_2, pf119_2, oo_130, gf130_0, gf130_1, gf130_2, pf130_2, oo_134, gf134_0, gf134_1, pf134_1, gf134_2, pf134_2, gf134_3, pf134_3, gf134_4, gf134_5, pf134_5, gf134_6, gf134_7, gf134_8, gf134_9, pf134_9, gf134_10, gf134_11, gf134_12, gf134_13, gf134_14, gf134_15, gf134_16, gi120, pi120, li120, gi131, pi131, li131, gi132, pi132, li132, gi136, pi136, li136, gi138, pi138, li138, gi139, pi139, li139, gi140, pi140, li140, gi141, pi141, li141, gi142, pi142, li142, gi144, pi144, li144, gi145, pi145, li145, gj133, pj133, lj133, gj137, pj137, lj137, gj143, pj143, lj143, gj146, pj146, lj146, gA121, gAq, oo_s, gfs_0, gfs_1, gfs_2, pfs_0, pfs_1, gjs, ljs, pjs, oo_h, gfh_0, gfh_1, gfh_2, pfh_1, pfh_2, j1, n_le (show 6 < 2 ^ 31 by decide) (show b < 2 ^ 31 by omega), show ¬ 6 ≤ b by omega, e43, n_z1, h46, upS_s, hs1, n_lt (show q < 2 ^ 31 by omega) (show z < 2 ^ 31 by omega), show q < z by omega, h47, c2, upX_s, ea, hX, n_lt (show b + 1 < 2 ^ 31 by omega) (show 6 < 2 ^ 31 by decide), c3]
        · have c2' : ¬ nI (l q) = nI 44 := by rw [n_eq (by omega) (by decide)]; exact c2
          rw [thF_b hq c1 (fun h => c2 h.1)]
          refine ⟨addb (X 1) k pr t, ?_⟩
          rw [q42_7]
          simp only [q42_8, q42_10, q42_13, q42_14, q42_15, q42_18, q42_24, q42_25, q42_28, q42_29, q42_32, q42_33, q42_36, q42_44, q42_45, q42_48, q42_50, q42_81, q42_83, q42_84, q42_87, q42_88, ↓reduceIte, ax_bV_s, ax_bI_s, ax_bJ_s, ax_bA_s, ax_bH_s, ax_bR_s, ax_bR_n, gh_people, gh_here, gh_sat, gh_minute, gh_draw, gh_sitter, gh_kinds, gh_prices, gh_known, gh_sights, gh_places, ga_kinds, ga_prices, ga_known, ga_sights, ga_places, oh, oo_114, gf114_0, gf114_1, gf114_2, gf114_3, gf114_4, gf114_5, pf114_5, gf114_6, gf114_7, gf114_8, gf114_9, oo_119, gf119_0, gf119_1, pf119_1, gf119_2, pf119_2, oo_130, gf130_0, gf130_1, gf130_2, pf130_2, oo_134, gf134_0, gf134_1, pf134_1, gf134_2, pf134_2, gf134_3, pf134_3, gf134_4, gf134_5, pf134_5, gf134_6, gf134_7, gf134_8, gf134_9, pf134_9, gf134_10, gf134_11, gf134_12, gf134_13, gf134_14, gf134_15, gf134_16, gi120, pi120, li120, gi131, pi131, li131, gi132, pi132, li132, gi136, pi136, li136, gi138, pi138, li138, gi139, pi139, li139, gi140, pi140, li140, gi141, pi141, li141, gi142, pi142, li142, gi144, pi144, li144, gi145, pi145, li145, gj133, pj133, lj133, gj137, pj137, lj137, gj143, pj143, lj143, gj146, pj146, lj146, gA121, gAq, oo_s, gfs_0, gfs_1, gfs_2, pfs_0, pfs_1, gjs, ljs, pjs, oo_h, gfh_0, gfh_1, gfh_2, pfh_1, pfh_2, j1, n_le (show 6 < 2 ^ 31 by decide) (show b < 2 ^ 31 by omega), show ¬ 6 ≤ b by omega, e43, n_z1, h46, upS_s, hs1, n_lt (show q < 2 ^ 31 by omega) (show z < 2 ^ 31 by omega), show q < z by omega, h47, c2']
theorem n20 : ∀ q, q < 71 → ¬ (0 : Int32) ≤ -20 - nI q := by decide +kernel
/-- a house with nobody in it -/
def nob (x : Nat → Nat) : Nat → Nat := emp (up1 (up1 (up1 x 0 0) 4 0) 1 0)
theorem nob_at {x : Nat → Nat} {i : Nat} : nob x i = if i = 3 then 0 else if i = 2 then 6 else if i = 1 then 0 else if i = 4 then 0 else if i = 0 then 0 else x i := by unfold nob emp up1; rfl
-- theatre
theorem s53 (hz : z ≤ 70) (hl : ∀ k, k < z → ai 120 k = nI (l k) ∧ l k < 127) (h1 : sc 119 1 = nI z) : match thF l z 6 0 0 with
    | .inl q => ∃ x1 p', ax_res 53 0 [some (.ref 114), none] [] (hp X Y sc ai aj) = some (some (.int (-20 - nI q)), hp (upX X 1 x1) Y (upS (upS sc 119 2 (nI p')) 119 1 (nI 0)) ai aj)
    | .inr bs => ∃ x1 p', ax_res 53 0 [some (.ref 114), none] [] (hp X Y sc ai aj) = some (some (.int (nI bs.length)), hp (upX (upX X 1 x1) 0 (up1 (addL (nob (X 1)) bs) 5 (X 0 5))) Y (upS (upS (upS sc 119 2 (nI p')) 119 1 (nI 0)) (hi_ 0) 2 (nI 0)) ai aj) := by
  have h10 := r10 (X := X) (Y := Y) (sc := sc) (ai := ai) (aj := aj) j1
  have hbd := thF_bd (l := l) (z := z) 6 0 0 (by omega) (by omega)
  have hr := r42_l (Y := Y) (ai := ai) (aj := aj) (l := l) (z := z) 6 (upX X 1 (nob (X 1))) (upS sc 119 2 (nI 0)) 0 0 (by omega) (by rw [upX_s, nob_at]; rfl) (by omega) (by omega) hz hl (by rw [upS_k (by decide)]; exact h1) (by rw [upS_s])
  cases ht : thF l z 6 0 0 with
  | inl q =>
    rw [ht] at hr hbd
    obtain ⟨x1, e⟩ := hr
    rw [upX_u, upS_u] at e
    have h42 : ax_res 42 0 [some (.ref 119), some (.ref (ha 1 0)), none] [] (hp (upX X 1 (nob (X 1))) Y sc ai aj) = some (some (.int (-20 - nI q)), hp (upX X 1 x1) Y (upS sc 119 2 (nI q)) ai aj) := by
      simp only [q42_0, q42_1, q42_2, q42_5, q42_6, ↓reduceIte, ax_bV_s, ax_bI_s, ax_bJ_s, ax_bA_s, ax_bH_s, ax_bR_s, ax_bR_n, oo_114, gf114_0, gf114_1, gf114_2, gf114_3, gf114_4, gf114_5, pf114_5, gf114_6, gf114_7, gf114_8, gf114_9, oo_119, gf119_0, gf119_1, pf119_1, gf119_2, pf119_2, oo_130, gf130_0, gf130_1, gf130_2, pf130_2, oo_134, gf134_0, gf134_1, pf134_1, gf134_2, pf134_2, gf134_3, pf134_3, gf134_4, gf134_5, pf134_5, gf134_6, gf134_7, gf134_8, gf134_9, pf134_9, gf134_10, gf134_11, gf134_12, gf134_13, gf134_14, gf134_15, gf134_16, gi120, pi120, li120, gi131, pi131, li131, gi132, pi132, li132, gi136, pi136, li136, gi138, pi138, li138, gi139, pi139, li139, gi140, pi140, li140, gi141, pi141, li141, gi142, pi142, li142, gi144, pi144, li144, gi145, pi145, li145, gj133, pj133, lj133, gj137, pj137, lj137, gj143, pj143, lj143, gj146, pj146, lj146, gA121, gAq, oo_s, gfs_0, gfs_1, gfs_2, pfs_0, pfs_1, gjs, ljs, pjs, oo_h, gfh_0, gfh_1, gfh_2, pfh_1, pfh_2, e]
    have h41 : ax_res 41 0 [some (.ref 119)] [] (hp (upX X 1 x1) Y (upS sc 119 2 (nI q)) ai aj) = some (none, hp (upX X 1 x1) Y (upS (upS sc 119 2 (nI q)) 119 1 (nI 0)) ai aj) := by
      simp only [q41_0, q41_1, q41_2, q41_5, ↓reduceIte, ax_bV_s, ax_bI_s, ax_bJ_s, ax_bA_s, ax_bH_s, ax_bR_s, ax_bR_n, oo_114, gf114_0, gf114_1, gf114_2, gf114_3, gf114_4, gf114_5, pf114_5, gf114_6, gf114_7, gf114_8, gf114_9, oo_119, gf119_0, gf119_1, pf119_1, gf119_2, pf119_2, oo_130, gf130_0, gf130_1, gf130_2, pf130_2, oo_134, gf134_0, gf134_1, pf134_1, gf134_2, pf134_2, gf134_3, pf134_3, gf134_4, gf134_5, pf134_5, gf134_6, gf134_7, gf134_8, gf134_9, pf134_9, gf134_10, gf134_11, gf134_12, gf134_13, gf134_14, gf134_15, gf134_16, gi120, pi120, li120, gi131, pi131, li131, gi132, pi132, li132, gi136, pi136, li136, gi138, pi138, li138, gi139, pi139, li139, gi140, pi140, li140, gi141, pi141, li141, gi142, pi142, li142, gi144, pi144, li144, gi145, pi145, li145, gj133, pj133, lj133, gj137, pj137, lj137, gj143, pj143, lj143, gj146, pj146, lj146, gA121, gAq, oo_s, gfs_0, gfs_1, gfs_2, pfs_0, pfs_1, gjs, ljs, pjs, oo_h, gfh_0, gfh_1, gfh_2, pfh_1, pfh_2]
    refine ⟨x1, q, ?_⟩
    simp only [q53_0, q53_1, q53_4, q53_7, q53_8, q53_11, q53_12, q53_15, q53_18, q53_19, q53_20, q53_23, q53_26, q53_27, q53_30, q53_31, ↓reduceIte, ax_bV_s, ax_bI_s, ax_bJ_s, ax_bA_s, ax_bH_s, ax_bR_s, ax_bR_n, gh_people, gh_here, gh_sat, gh_minute, gh_draw, gh_sitter, gh_kinds, gh_prices, gh_known, gh_sights, gh_places, ga_kinds, ga_prices, ga_known, ga_sights, ga_places, oh, oo_114, gf114_0, gf114_1, gf114_2, gf114_3, gf114_4, gf114_5, pf114_5, gf114_6, gf114_7, gf114_8, gf114_9, oo_119, gf119_0, gf119_1, pf119_1, gf119_2, pf119_2, oo_130, gf130_0, gf130_1, gf130_2, pf130_2, oo_134, gf134_0, gf134_1, pf134_1, gf134_2, pf134_2, gf134_3, pf134_3, gf134_4, gf134_5, pf134_5, gf134_6, gf134_7, gf134_8, gf134_9, pf134_9, gf134_10, gf134_11, gf134_12, gf134_13, gf134_14, gf134_15, gf134_16, gi120, pi120, li120, gi131, pi131, li131, gi132, pi132, li132, gi136, pi136, li136, gi138, pi138, li138, gi139, pi139, li139, gi140, pi140, li140, gi141, pi141, li141, gi142, pi142, li142, gi144, pi144, li144, gi145, pi145, li145, gj133, pj133, lj133, gj137, pj137, lj137, gj143, pj143, lj143, gj146, pj146, lj146, gA121, gAq, oo_s, gfs_0, gfs_1, gfs_2, pfs_0, pfs_1, gjs, ljs, pjs, oo_h, gfh_0, gfh_1, gfh_2, pfh_1, pfh_2, j1, h10, show emp (up1 (up1 (up1 (X 1) 0 0) 4 0) 1 0) = nob (X 1) from rfl, h42, h41, n20 q (by simp only at hbd; omega)]
  | inr bs =>
    rw [ht] at hr hbd
    obtain ⟨p', e⟩ := hr
    rw [upX_s, upX_u, upS_u, Nat.zero_add] at e
    simp only at hbd
    have h42 : ax_res 42 0 [some (.ref 119), some (.ref (ha 1 0)), none] [] (hp (upX X 1 (nob (X 1))) Y sc ai aj) = some (some (.int (nI bs.length)), hp (upX X 1 (addL (nob (X 1)) bs)) Y (upS sc 119 2 (nI p')) ai aj) := by
      simp only [q42_0, q42_1, q42_2, q42_5, q42_6, ↓reduceIte, ax_bV_s, ax_bI_s, ax_bJ_s, ax_bA_s, ax_bH_s, ax_bR_s, ax_bR_n, oo_114, gf114_0, gf114_1, gf114_2, gf114_3, gf114_4, gf114_5, pf114_5, gf114_6, gf114_7, gf114_8, gf114_9, oo_119, gf119_0, gf119_1, pf119_1, gf119_2, pf119_2, oo_130, gf130_0, gf130_1, gf130_2, pf130_2, oo_134, gf134_0, gf134_1, pf134_1, gf134_2, pf134_2, gf134_3, pf134_3, gf134_4, gf134_5, pf134_5, gf134_6, gf134_7, gf134_8, gf134_9, pf134_9, gf134_10, gf134_11, gf134_12, gf134_13, gf134_14, gf134_15, gf134_16, gi120, pi120, li120, gi131, pi131, li131, gi132, pi132, li132, gi136, pi136, li136, gi138, pi138, li138, gi139, pi139, li139, gi140, pi140, li140, gi141, pi141, li141, gi142, pi142, li142, gi144, pi144, li144, gi145, pi145, li145, gj133, pj133, lj133, gj137, pj137, lj137, gj143, pj143, lj143, gj146, pj146, lj146, gA121, gAq, oo_s, gfs_0, gfs_1, gfs_2, pfs_0, pfs_1, gjs, ljs, pjs, oo_h, gfh_0, gfh_1, gfh_2, pfh_1, pfh_2, e]
    have h41 : ax_res 41 0 [some (.ref 119)] [] (hp (upX X 1 (addL (nob (X 1)) bs)) Y (upS sc 119 2 (nI p')) ai aj) = some (none, hp (upX X 1 (addL (nob (X 1)) bs)) Y (upS (upS sc 119 2 (nI p')) 119 1 (nI 0)) ai aj) := by
      simp only [q41_0, q41_1, q41_2, q41_5, ↓reduceIte, ax_bV_s, ax_bI_s, ax_bJ_s, ax_bA_s, ax_bH_s, ax_bR_s, ax_bR_n, oo_114, gf114_0, gf114_1, gf114_2, gf114_3, gf114_4, gf114_5, pf114_5, gf114_6, gf114_7, gf114_8, gf114_9, oo_119, gf119_0, gf119_1, pf119_1, gf119_2, pf119_2, oo_130, gf130_0, gf130_1, gf130_2, pf130_2, oo_134, gf134_0, gf134_1, pf134_1, gf134_2, pf134_2, gf134_3, pf134_3, gf134_4, gf134_5, pf134_5, gf134_6, gf134_7, gf134_8, gf134_9, pf134_9, gf134_10, gf134_11, gf134_12, gf134_13, gf134_14, gf134_15, gf134_16, gi120, pi120, li120, gi131, pi131, li131, gi132, pi132, li132, gi136, pi136, li136, gi138, pi138, li138, gi139, pi139, li139, gi140, pi140, li140, gi141, pi141, li141, gi142, pi142, li142, gi144, pi144, li144, gi145, pi145, li145, gj133, pj133, lj133, gj137, pj137, lj137, gj143, pj143, lj143, gj146, pj146, lj146, gA121, gAq, oo_s, gfs_0, gfs_1, gfs_2, pfs_0, pfs_1, gjs, ljs, pjs, oo_h, gfh_0, gfh_1, gfh_2, pfh_1, pfh_2]
    have h9 := r9 (X := upX X 1 (up1 (addL (nob (X 1)) bs) 5 (X 0 5))) (Y := Y) (sc := upS (upS sc 119 2 (nI p')) 119 1 (nI 0)) (ai := ai) (aj := aj) j0 j1 (by decide)
    rw [upX_s] at h9
    refine ⟨up1 (addL (nob (X 1)) bs) 5 (X 0 5), p', ?_⟩
    simp only [q53_0, q53_1, q53_4, q53_7, q53_8, q53_11, q53_12, q53_15, q53_18, q53_19, q53_20, q53_23, q53_26, q53_27, q53_32, q53_33, q53_36, q53_37, q53_40, q53_43, q53_46, q53_47, q53_50, q53_51, q53_54, q53_57, q53_58, q53_61, q53_64, q53_65, ↓reduceIte, ax_bV_s, ax_bI_s, ax_bJ_s, ax_bA_s, ax_bH_s, ax_bR_s, ax_bR_n, gh_people, gh_here, gh_sat, gh_minute, gh_draw, gh_sitter, gh_kinds, gh_prices, gh_known, gh_sights, gh_places, ga_kinds, ga_prices, ga_known, ga_sights, ga_places, oh, ph_people, ph_here, ph_sat, ph_minute, ph_draw, ph_sitter, ph_nobody, pa_kinds, pa_prices, pa_known, pa_sights, pa_places, upX_s, upX_u, oo_114, gf114_0, gf114_1, gf114_2, gf114_3, gf114_4, gf114_5, pf114_5, gf114_6, gf114_7, gf114_8, gf114_9, oo_119, gf119_0, gf119_1, pf119_1, gf119_2, pf119_2, oo_130, gf130_0, gf130_1, gf130_2, pf130_2, oo_134, gf134_0, gf134_1, pf134_1, gf134_2, pf134_2, gf134_3, pf134_3, gf134_4, gf134_5, pf134_5, gf134_6, gf134_7, gf134_8, gf134_9, pf134_9, gf134_10, gf134_11, gf134_12, gf134_13, gf134_14, gf134_15, gf134_16, gi120, pi120, li120, gi131, pi131, li131, gi132, pi132, li132, gi136, pi136, li136, gi138, pi138, li138, gi139, pi139, li139, gi140, pi140, li140, gi141, pi141, li141, gi142, pi142, li142, gi144, pi144, li144, gi145, pi145, li145, gj133, pj133, lj133, gj137, pj137, lj137, gj143, pj143, lj143, gj146, pj146, lj146, gA121, gAq, oo_s, gfs_0, gfs_1, gfs_2, pfs_0, pfs_1, gjs, ljs, pjs, oo_h, gfh_0, gfh_1, gfh_2, pfh_1, pfh_2, j0, j1, h10, show emp (up1 (up1 (up1 (X 1) 0 0) 4 0) 1 0) = nob (X 1) from rfl, h42, h41, n_0le (show bs.length < 2 ^ 31 by omega), upX_n (show ¬ 0 = 1 by decide), h9, t0, r7 t0]
end TP
