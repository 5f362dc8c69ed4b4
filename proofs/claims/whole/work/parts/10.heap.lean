/-! ===== the machine follows: fields, rows, returns ===== -/
def ax_tyl : List (Nat → FieldType) := [tyX0, tyX1, tyX2, tyX3, tyX4, tyX5, tyX6]
theorem ax_clp {a : Nat} (ha : a < 7) : ∃ C, ax_cl[a]? = some (C, ax_T a, ax_nf a) ∧ C = ax_cn a ∧ (∀ w ∈ u_ws C (ax_T a) (ax_nf a), w ∈ ax_gw) ∧ (∀ k, k < ax_nf a → parseFieldDescriptor (ax_T a k).2.2.1 = some (ax_tyl.getD a tyX0 k)) ∧ ∀ x, x < ax_nf a → ∀ y, y < ax_nf a → x ≠ y → (ax_T a x).2.1 ≠ (ax_T a y).2.1 := by
  rcases (show a = 0 ∨ a = 1 ∨ a = 2 ∨ a = 3 ∨ a = 4 ∨ a = 5 ∨ a = 6 by omega) with rfl | rfl | rfl | rfl | rfl | rfl | rfl
  · exact ⟨RX0, rfl, rfl, ax_ly0, tyX0_ok, nmX0⟩
  · exact ⟨RX1, rfl, rfl, ax_ly1, tyX1_ok, nmX1⟩
  · exact ⟨RX2, rfl, rfl, ax_ly2, tyX2_ok, nmX2⟩
  · exact ⟨RX3, rfl, rfl, ax_ly3, tyX3_ok, nmX3⟩
  · exact ⟨RX4, rfl, rfl, ax_ly4, tyX4_ok, nmX4⟩
  · exact ⟨RX5, rfl, rfl, ax_ly5, tyX5_ok, nmX5⟩
  · exact ⟨RX6, rfl, rfl, ax_ly6, tyX6_ok, nmX6⟩
theorem ax_ckF_w {o i a b w : Nat} (h : ax_ckF o i a b w = true) : Cond.fieldLink (ax_cn o) i (ax_T a b).1 (ax_T a b).2.1 (ax_T a b).2.2.1 ∈ ax_gw := by
  unfold ax_ckF at h
  split at h
  · rename_i q hq
    simp only [Bool.and_eq_true] at h
    obtain ⟨h1, h2, h3, h4⟩ := h
    have h5 := ax_lF_all q (List.mem_of_getElem? hq)
    obtain ⟨q1, q2, q3, q4⟩ := q
    rw [← Nat.eq_of_beq_eq_true h1, ← Nat.eq_of_beq_eq_true h2, ← Nat.eq_of_beq_eq_true h3, ← Nat.eq_of_beq_eq_true h4]
    exact h5
  · cases h
theorem ax_ckK_w {o i w c : Nat} (h : ax_ckK o i w c = true) : Cond.methodLink (ax_cn o) i (ax_cy c) ∈ ax_gw := by
  unfold ax_ckK at h
  split at h
  · rename_i q hq
    simp only [Bool.and_eq_true] at h
    obtain ⟨h1, h2, h3⟩ := h
    have h5 := ax_lM_all q (List.mem_of_getElem? hq)
    obtain ⟨q1, q2, q3⟩ := q
    rw [← Nat.eq_of_beq_eq_true h1, ← Nat.eq_of_beq_eq_true h2, ← Nat.eq_of_beq_eq_true h3]
    exact h5
  · cases h
theorem ax_small_le {st : List Value} (γ : Nat → Nat) (h : ax_small st = true) : ((st.map (ax_cv γ)).map fun v => v.category).sum ≤ 8 := by
  unfold ax_small at h
  rw [List.map_map]
  have e : (fun v : Value => v.category) ∘ ax_cv γ = fun v => v.category := by funext v; exact ax_cv_cat γ v
  rw [e]
  exact Nat.le_of_ble_eq_true h
theorem ax_nar_b {x : Int32} (h : x = 0 ∨ x = 1) : narrow .boolean (.int x) = .int x ∧ fits .boolean (.int x) = true := by
  rcases h with rfl | rfl <;> exact ⟨by decide, by decide⟩
theorem ax_nar_c {x : Int32} (h : 0 ≤ x) (h2 : x ≤ 65535) : narrow .char (.int x) = .int x := by
  obtain ⟨j, hj, rfl⟩ := nI_of2 (x := x) (M := 65535) (n := 65535) (by decide) (Int32.not_lt.mpr h) h2
  exact (pk_charN (by omega)).1
theorem ax_fitR_i {a : Nat} {x : Int32} (hf : ax_fitR a x = true) : (a = 0 ∧ narrow .int (.int x) = .int x) ∨ (a = 1 ∧ narrow .boolean (.int x) = .int x) ∨ (a = 2 ∧ narrow .char (.int x) = .int x) := by
  unfold ax_fitR at hf
  simp only [Bool.or_eq_true, Bool.and_eq_true, beq_iff_eq, decide_eq_true_eq] at hf
  rcases hf with (rfl | ⟨rfl, h1⟩) | ⟨rfl, h1, h2⟩
  · exact Or.inl ⟨rfl, rfl⟩
  · exact Or.inr (Or.inl ⟨rfl, (ax_nar_b h1).1⟩)
  · exact Or.inr (Or.inr ⟨rfl, ax_nar_c h1 h2⟩)
section AXH
variable {l : Launch} {D : va_G} {tc : Nat → ClassId} {γ aK aV : Nat → Nat} {A : Nat → Prop} {p : Program} {e : Env} {s : State} {m : MethodId} {args : Array Value} {below : List Frame} {meth : Method} {c : Code} {mi : Nat}
variable {r : Option Value} {h' : ax_H} {pc : Nat} {ls : ax_L} {st : List Value} {h : ax_H} {q : ax_N}
theorem ax_t_getfield (S : ax_St D tc γ aK aV A p s m args meth c mi) {i a b w : Nat} (hd : decode (ax_m mi).2.1 pc = .ok (.getfield i, 3)) (ha : a < 7) (hb : b < ax_nf a) (hw : ax_ckF (ax_m mi).2.2.2.2.1.2.2 i a b w = true)
    (hs : (match st with | .ref x :: st => (match ax_getF h x a b with | some v => ax_nx (pc + 3) ls (v :: st) h | none => none) | _ => none) = some (.inl q)) (K : ax_G l D tc γ A p e s m args below meth c mi r h' q.1 q.2.1 q.2.2.1 q.2.2.2) : ax_G l D tc γ A p e s m args below meth c mi r h' pc ls st h := by
  split at hs
  · rename_i x st'
    split at hs
    · rename_i v hv
      cases ax_nx_i hs
      obtain ⟨fs, h1, h2, h3⟩ := ax_getF_i hv
      obtain ⟨C, hc, rfl, hu, -, -⟩ := ax_clp ha
      intro H locs la hP hS hL
      refine va_get (D := D) (cl := ax_cl) (ci := a) (v := ax_cv γ v) (ref := (ax_T a b).1) (fs := fs.map (ax_cv γ)) S.1.1 S.1.2.1 S.1.2.2.2.2.2.1 (fun w hw => List.mem_cons_of_mem _ (hu w hw)) (ax_own S) S.2.1.1 hP x (by rw [ax_w_at h2, h1]; rfl) hc b hb (ax_hw S (ax_ckF_w hw)) (fun _ h9 => h9) (by rw [List.getElem?_map, h3]; rfl) hd (K H locs la hP hS hL)
    · cases hs
  · cases hs
theorem ax_t_putfield (S : ax_St D tc γ aK aV A p s m args meth c mi) {i a b w : Nat} {k : Int32} (hd : decode (ax_m mi).2.1 pc = .ok (.putfield i, 3)) (ha : a < 7) (hb : b < ax_nf a) (hw : ax_ckF (ax_m mi).2.2.2.2.1.2.2 i a b w = true) (hfin : (ax_T a b).2.2.2 = false) (hty : ax_tyl.getD a tyX0 b = (bif k == 0 then .int else .boolean))
    (hs : (match st with | v :: .ref x :: st => (match (bif ax_fitF k v then ax_putF h x a b v else none) with | some h' => ax_nx (pc + 3) ls st h' | none => none) | _ => none) = some (.inl q)) (K : ax_G l D tc γ A p e s m args below meth c mi r h' q.1 q.2.1 q.2.2.1 q.2.2.2) : ax_G l D tc γ A p e s m args below meth c mi r h' pc ls st h := by
  split at hs
  · rename_i v x st'
    split at hs
    · rename_i h2 hv
      cases ax_nx_i hs
      cases hf : ax_fitF k v with
      | false => rw [hf] at hv; cases hv
      | true =>
        rw [hf] at hv
        obtain ⟨fs, h1, h2, h3, rfl⟩ := ax_putF_i hv
        obtain ⟨C, hc, rfl, hu, hp, hn⟩ := ax_clp ha
        intro H locs la hP hS hL
        have hval : ∃ y, v = .int y ∧ narrow (ax_tyl.getD a tyX0 b) (.int y) = .int y ∧ fits (ax_tyl.getD a tyX0 b) (.int y) = true := by
          cases v with
          | int y =>
            refine ⟨y, rfl, ?_⟩
            rw [hty]
            unfold ax_fitF at hf
            cases hk : (k == 0) with
            | true => exact ⟨rfl, rfl⟩
            | false =>
              rw [hk] at hf
              simp only [Bool.false_or, Bool.and_eq_true, Bool.or_eq_true, beq_iff_eq] at hf
              exact ax_nar_b hf.2
          | _ => cases hf
        obtain ⟨y, rfl, g1, g2⟩ := hval
        refine va_put (D := D) (cl := ax_cl) (ci := a) (v := .int y) (ty := ax_tyl.getD a tyX0 b) (ref := (ax_T a b).1) (fs := fs.map (ax_cv γ)) S.1.1 S.1.2.1 S.1.2.2.2.2.2.1 (fun w hw => List.mem_cons_of_mem _ (hu w hw)) (ax_tyl.getD a tyX0) hp hn (ax_own S) S.2.1.1 hP (ax_D S.2.1) hS x (by rw [ax_w_at h2, h1]; rfl) hc b hb (ax_hw S (ax_ckF_w hw)) (fun _ h9 => h9) hfin (hp b hb) g1 g2 (by rw [List.length_map]; exact h3) hd (fun H1 locs1 hP1 hD1 hS1 => ?_)
        refine K H1 locs1 la ?_ hS1 hL
        rw [← ax_w_set h2]
        have e1 : ax_ce tc γ (.inr (a, fs.set b (.int y))) = .inr (a, (fs.map (ax_cv γ)).set b (.int y)) := by
          show (Sum.inr (a, (fs.set b (.int y)).map (ax_cv γ)) : va_E) = _
          rw [List.map_set]; rfl
        rw [e1]
        exact hP1
    · cases hs
  · cases hs
theorem ax_t_iaload (S : ax_St D tc γ aK aV A p s m args meth c mi) (hd : decode (ax_m mi).2.1 pc = .ok (.iaload, 1))
    (hs : (match st with | .int i :: .ref a :: st => (match ax_getI h a 0 i with | some v => ax_nx (pc + 1) ls (.int v :: st) h | none => none) | _ => none) = some (.inl q)) (K : ax_G l D tc γ A p e s m args below meth c mi r h' q.1 q.2.1 q.2.2.1 q.2.2.2) : ax_G l D tc γ A p e s m args below meth c mi r h' pc ls st h := by
  split at hs
  · rename_i i a st'
    split at hs
    · rename_i v hv
      cases ax_nx_i hs
      obtain ⟨n, f, h1, h2, h3, rfl⟩ := ax_getI_i hv
      intro H locs la hP hS hL
      exact va_iald (f := f) S.1.1 S.1.2.1 S.2.1.1 hP a 0 (by rw [ax_w_at h2, h1]; rfl) rfl h3 hd (K H locs la hP hS hL)
    · cases hs
  · cases hs
theorem ax_t_caload (S : ax_St D tc γ aK aV A p s m args meth c mi) (hd : decode (ax_m mi).2.1 pc = .ok (.caload, 1))
    (hs : (match st with | .int i :: .ref a :: st => (match ax_getI h a 2 i with | some v => ax_nx (pc + 1) ls (.int v :: st) h | none => none) | _ => none) = some (.inl q)) (K : ax_G l D tc γ A p e s m args below meth c mi r h' q.1 q.2.1 q.2.2.1 q.2.2.2) : ax_G l D tc γ A p e s m args below meth c mi r h' pc ls st h := by
  split at hs
  · rename_i i a st'
    split at hs
    · rename_i v hv
      cases ax_nx_i hs
      obtain ⟨n, f, h1, h2, h3, rfl⟩ := ax_getI_i hv
      intro H locs la hP hS hL
      exact va_cald (f := f) S.1.1 S.1.2.1 S.2.1.1 hP a 2 (by rw [ax_w_at h2, h1]; rfl) rfl h3 hd (K H locs la hP hS hL)
    · cases hs
  · cases hs
theorem ax_t_laload (S : ax_St D tc γ aK aV A p s m args meth c mi) (hd : decode (ax_m mi).2.1 pc = .ok (.laload, 1))
    (hs : (match st with | .int i :: .ref a :: st => (match ax_getJ h a i with | some v => ax_nx (pc + 1) ls (.long v :: st) h | none => none) | _ => none) = some (.inl q)) (K : ax_G l D tc γ A p e s m args below meth c mi r h' q.1 q.2.1 q.2.2.1 q.2.2.2) : ax_G l D tc γ A p e s m args below meth c mi r h' pc ls st h := by
  split at hs
  · rename_i i a st'
    split at hs
    · rename_i v hv
      cases ax_nx_i hs
      obtain ⟨n, f, h1, h2, h3, rfl⟩ := ax_getJ_i hv
      intro H locs la hP hS hL
      exact va_lald (f := f) S.1.1 S.1.2.1 S.2.1.1 hP a 1 (by rw [ax_w_at h2, h1]; rfl) rfl h3 hd (K H locs la hP hS hL)
    · cases hs
  · cases hs
theorem ax_t_aaload (S : ax_St D tc γ aK aV A p s m args meth c mi) (hd : decode (ax_m mi).2.1 pc = .ok (.aaload, 1))
    (hs : (match st with | .int i :: .ref a :: st => (match ax_getA h a i with | some v => ax_nx (pc + 1) ls (.ref v :: st) h | none => none) | _ => none) = some (.inl q)) (K : ax_G l D tc γ A p e s m args below meth c mi r h' q.1 q.2.1 q.2.2.1 q.2.2.2) : ax_G l D tc γ A p e s m args below meth c mi r h' pc ls st h := by
  split at hs
  · rename_i i a st'
    split at hs
    · rename_i v hv
      cases ax_nx_i hs
      obtain ⟨t, n, f, h1, ht, h2, h3, h4⟩ := ax_getA_i hv
      intro H locs la hP hS hL
      have K2 := K H locs la hP hS hL
      have e1 : va_rf ((f i.toNatClampNeg).map γ) = ax_cv γ (.ref v) := by rw [h4]; rfl
      rcases ht with rfl | rfl
      · refine va_aldq (f := fun i => (f i).map γ) (C := "SoldSeat$House") S.1.1 S.1.2.1 S.2.1.1 hP a 3 (by rw [ax_w_at h2, h1]; rfl) rfl h3 hd ?_
        rw [e1]; exact K2
      · refine va_aldq (f := fun i => (f i).map γ) (C := "SoldSeat$Sheet") S.1.1 S.1.2.1 S.2.1.1 hP a 4 (by rw [ax_w_at h2, h1]; rfl) rfl h3 hd ?_
        rw [e1]; exact K2
    · cases hs
  · cases hs
theorem ax_t_arraylength (S : ax_St D tc γ aK aV A p s m args meth c mi) (hd : decode (ax_m mi).2.1 pc = .ok (.arraylength, 1))
    (hs : (match st with | .ref a :: st => (match ax_lenA h a with | some v => ax_nx (pc + 1) ls (.int v :: st) h | none => none) | _ => none) = some (.inl q)) (K : ax_G l D tc γ A p e s m args below meth c mi r h' q.1 q.2.1 q.2.2.1 q.2.2.2) : ax_G l D tc γ A p e s m args below meth c mi r h' pc ls st h := by
  split at hs
  · rename_i a st'
    split at hs
    · rename_i v hv
      cases ax_nx_i hs
      obtain ⟨t, x, h1, ht, h2, rfl⟩ := ax_lenA_i hv
      intro H locs la hP hS hL
      have hce : ∃ x' : vp_A, ax_ce tc γ (.inl (t, x)) = .inl (tc t, x') ∧ x'.1 = x.1 := by
        obtain ⟨n, y⟩ := x
        rcases y with f | f | f | f | f
        · exact ⟨_, rfl, rfl⟩
        · exact ⟨_, rfl, rfl⟩
        · exact ⟨_, rfl, rfl⟩
        · exact ⟨_, rfl, rfl⟩
        · exact ⟨_, rfl, rfl⟩
      obtain ⟨x', e1, e2⟩ := hce
      have hty : ∃ ty, (ax_tys tc)[t]? = some (tc t, ty) := by
        rcases (show t = 0 ∨ t = 1 ∨ t = 2 ∨ t = 3 ∨ t = 4 by omega) with rfl | rfl | rfl | rfl | rfl <;> exact ⟨_, rfl⟩
      obtain ⟨ty, hty⟩ := hty
      exact va_alen S.1.1 S.1.2.1 S.2.1.1 hP a t (x := x') (by rw [ax_w_at h2, h1, e1]) hty (by rw [e2]) hd (K H locs la hP hS hL)
    · cases hs
  · cases hs
theorem ax_t_iastore (S : ax_St D tc γ aK aV A p s m args meth c mi) (hd : decode (ax_m mi).2.1 pc = .ok (.iastore, 1))
    (hs : (match st with | .int v :: .int i :: .ref a :: st => (match ax_putI h a i v with | some h' => ax_nx (pc + 1) ls st h' | none => none) | _ => none) = some (.inl q)) (K : ax_G l D tc γ A p e s m args below meth c mi r h' q.1 q.2.1 q.2.2.1 q.2.2.2) : ax_G l D tc γ A p e s m args below meth c mi r h' pc ls st h := by
  split at hs
  · rename_i v i a st'
    split at hs
    · rename_i h2 hv
      cases ax_nx_i hs
      obtain ⟨n, f, h1, h2, h3, rfl⟩ := ax_putI_i hv
      intro H locs la hP hS hL
      refine va_iast (f := f) S.1.1 S.1.2.1 S.2.1.1 hP (ax_D S.2.1) hS a 0 (by rw [ax_w_at h2, h1]; rfl) rfl h3 hd (fun H1 locs1 hP1 hD1 hS1 => ?_)
      refine K H1 locs1 la ?_ hS1 hL
      rw [← ax_w_set h2]
      exact hP1
    · cases hs
  · cases hs
theorem ax_t_castore (S : ax_St D tc γ aK aV A p s m args meth c mi) (hd : decode (ax_m mi).2.1 pc = .ok (.castore, 1))
    (hs : (match st with | .int v :: .int i :: .ref a :: st => (match ax_putC h a i v with | some h' => ax_nx (pc + 1) ls st h' | none => none) | _ => none) = some (.inl q)) (K : ax_G l D tc γ A p e s m args below meth c mi r h' q.1 q.2.1 q.2.2.1 q.2.2.2) : ax_G l D tc γ A p e s m args below meth c mi r h' pc ls st h := by
  split at hs
  · rename_i v i a st'
    split at hs
    · rename_i h2 hv
      cases ax_nx_i hs
      obtain ⟨n, f, h1, h2, h3, rfl⟩ := ax_putC_i hv
      intro H locs la hP hS hL
      refine va_cast (f := f) S.1.1 S.1.2.1 S.2.1.1 hP (ax_D S.2.1) hS a 2 (by rw [ax_w_at h2, h1]; rfl) rfl h3 hd (fun H1 locs1 hP1 hD1 hS1 => ?_)
      refine K H1 locs1 la ?_ hS1 hL
      rw [← ax_w_set h2]
      exact hP1
    · cases hs
  · cases hs
theorem ax_t_lastore (S : ax_St D tc γ aK aV A p s m args meth c mi) (hd : decode (ax_m mi).2.1 pc = .ok (.lastore, 1))
    (hs : (match st with | .long v :: .int i :: .ref a :: st => (match ax_putJ h a i v with | some h' => ax_nx (pc + 1) ls st h' | none => none) | _ => none) = some (.inl q)) (K : ax_G l D tc γ A p e s m args below meth c mi r h' q.1 q.2.1 q.2.2.1 q.2.2.2) : ax_G l D tc γ A p e s m args below meth c mi r h' pc ls st h := by
  split at hs
  · rename_i v i a st'
    split at hs
    · rename_i h2 hv
      cases ax_nx_i hs
      obtain ⟨n, f, h1, h2, h3, rfl⟩ := ax_putJ_i hv
      intro H locs la hP hS hL
      refine va_last (f := f) S.1.1 S.1.2.1 S.2.1.1 hP (ax_D S.2.1) hS a 1 (by rw [ax_w_at h2, h1]; rfl) rfl h3 hd (fun H1 locs1 hP1 hD1 hS1 => ?_)
      refine K H1 locs1 la ?_ hS1 hL
      rw [← ax_w_set h2]
      exact hP1
    · cases hs
  · cases hs
theorem ax_t_cpyI (S : ax_St D tc γ aK aV A p s m args meth c mi) {i w : Nat} (hd : decode (ax_m mi).2.1 pc = .ok (.invokestatic i, 3)) (hw : ax_ckK (ax_m mi).2.2.2.2.1.2.2 i w 1000 = true) (hr : ax_ckA mi = true) (hs : ax_cp (pc + 3) ls st h ax_cpyI = some (.inl q)) (K : ax_G l D tc γ A p e s m args below meth c mi r h' q.1 q.2.1 q.2.2.1 q.2.2.2) : ax_G l D tc γ A p e s m args below meth c mi r h' pc ls st h := by
  obtain ⟨n, dp, a1, sp, a0, st', h2, rfl, hsm, hf, rfl⟩ := ax_cp_i hs
  obtain ⟨n0, f, n1, g, e0, e1, c0, c1, c2, c3, c4, c5, c6, rfl⟩ := ax_cpyI_i hf
  unfold ax_ckA at hr
  rw [Bool.and_eq_true] at hr
  intro H locs la hP hS hL
  have hsum := ax_small_le γ hsm
  refine va_copyi (f := f) (g := g) S.1.1 S.1.2.1 (S.1.2.2.2.1.trans hL.2.1.symm) (ax_own S) (ax_hw S (ax_ckK_w hw)) (ax_hw S ax_acn) (ax_hw S ax_acs) (ax_hw S ax_aci) S.2.1.1 hP (ax_D S.2.1) hS a0 a1 0 0 (ty := .int) (by rw [ax_w_at c0, e0]; rfl) (by rw [ax_w_at c1, e1]; rfl) rfl rfl rfl c2 c3 c4 c5 c6 (fun _ _ => rfl) (Nat.le_of_ble_eq_true hr.1) (Nat.le_trans (Nat.add_le_add_right hsum _) (Nat.le_of_ble_eq_true hr.2)) hd (fun H1 locs1 hP1 hD1 hS1 => ?_)
  refine K H1 locs1 la ?_ hS1 hL
  rw [← ax_w_set c1]
  exact hP1
theorem ax_t_cpyJ (S : ax_St D tc γ aK aV A p s m args meth c mi) {i w : Nat} (hd : decode (ax_m mi).2.1 pc = .ok (.invokestatic i, 3)) (hw : ax_ckK (ax_m mi).2.2.2.2.1.2.2 i w 1000 = true) (hr : ax_ckA mi = true) (hs : ax_cp (pc + 3) ls st h ax_cpyJ = some (.inl q)) (K : ax_G l D tc γ A p e s m args below meth c mi r h' q.1 q.2.1 q.2.2.1 q.2.2.2) : ax_G l D tc γ A p e s m args below meth c mi r h' pc ls st h := by
  obtain ⟨n, dp, a1, sp, a0, st', h2, rfl, hsm, hf, rfl⟩ := ax_cp_i hs
  obtain ⟨n0, f, n1, g, e0, e1, c0, c1, c2, c3, c4, c5, c6, rfl⟩ := ax_cpyJ_i hf
  unfold ax_ckA at hr
  rw [Bool.and_eq_true] at hr
  intro H locs la hP hS hL
  have hsum := ax_small_le γ hsm
  refine va_copyl (f := f) (g := g) S.1.1 S.1.2.1 (S.1.2.2.2.1.trans hL.2.1.symm) (ax_own S) (ax_hw S (ax_ckK_w hw)) (ax_hw S ax_acn) (ax_hw S ax_acs) (ax_hw S ax_aci) S.2.1.1 hP (ax_D S.2.1) hS a0 a1 1 1 (ty := .long) (by rw [ax_w_at c0, e0]; rfl) (by rw [ax_w_at c1, e1]; rfl) rfl rfl rfl c2 c3 c4 c5 c6 (fun _ _ => rfl) (Nat.le_of_ble_eq_true hr.1) (Nat.le_trans (Nat.add_le_add_right hsum _) (Nat.le_of_ble_eq_true hr.2)) hd (fun H1 locs1 hP1 hD1 hS1 => ?_)
  refine K H1 locs1 la ?_ hS1 hL
  rw [← ax_w_set c1]
  exact hP1
theorem ax_ckA_13 {mi : Nat} (hr : ax_ckA mi = true) : 1 ≤ (ax_rm mi).frames ∧ 8 + 13 ≤ (ax_rm mi).locals := by
  unfold ax_ckA at hr
  rw [Bool.and_eq_true] at hr
  refine ⟨Nat.le_of_ble_eq_true hr.1, Nat.le_trans ?_ (Nat.le_of_ble_eq_true hr.2)⟩
  have : 13 ≤ nativeFrameWords "java/lang/System" "arraycopy" 5 + 11 := by decide
  omega
theorem ax_t_min (S : ax_St D tc γ aK aV A p s m args meth c mi) {i w : Nat} (hd : decode (ax_m mi).2.1 pc = .ok (.invokestatic i, 3)) (hw : ax_ckK (ax_m mi).2.2.2.2.1.2.2 i w 1002 = true) (hr : ax_ckA mi = true) (hs : ax_mm (pc + 3) ls st h ax_min = some (.inl q)) (K : ax_G l D tc γ A p e s m args below meth c mi r h' q.1 q.2.1 q.2.2.1 q.2.2.2) : ax_G l D tc γ A p e s m args below meth c mi r h' pc ls st h := by
  obtain ⟨x, y, st', rfl, hsm, rfl⟩ := ax_mm_i hs
  intro H locs la hP hS hL
  have hsum := ax_small_le γ hsm
  have h13 := ax_ckA_13 hr
  exact va_mmin S.1.1 S.1.2.1 (S.1.2.2.2.1.trans hL.2.1.symm) (ax_own S) (ax_hw S (ax_ckK_w hw)) (ax_hw S ax_mmins) (ax_hw S ax_mai) (ax_hw S ax_mminc) h13.1 (by omega) (Nat.zero_le _) (Nat.zero_le _) hd (K H locs la hP hS hL)
theorem ax_t_max (S : ax_St D tc γ aK aV A p s m args meth c mi) {i w : Nat} (hd : decode (ax_m mi).2.1 pc = .ok (.invokestatic i, 3)) (hw : ax_ckK (ax_m mi).2.2.2.2.1.2.2 i w 1003 = true) (hr : ax_ckA mi = true) (hs : ax_mm (pc + 3) ls st h ax_max = some (.inl q)) (K : ax_G l D tc γ A p e s m args below meth c mi r h' q.1 q.2.1 q.2.2.1 q.2.2.2) : ax_G l D tc γ A p e s m args below meth c mi r h' pc ls st h := by
  obtain ⟨x, y, st', rfl, hsm, rfl⟩ := ax_mm_i hs
  intro H locs la hP hS hL
  have hsum := ax_small_le γ hsm
  have h13 := ax_ckA_13 hr
  exact va_mmax S.1.1 S.1.2.1 (S.1.2.2.2.1.trans hL.2.1.symm) (ax_own S) (ax_hw S (ax_ckK_w hw)) (ax_hw S ax_mmaxs) (ax_hw S ax_mai) (ax_hw S ax_mmaxc) h13.1 (by omega) (Nat.zero_le _) (Nat.zero_le _) hd (K H locs la hP hS hL)
-- returns
theorem ax_t_ireturn (S : ax_St D tc γ aK aV A p s m args meth c mi) {ty : FieldType} {x : Int32} (hd : decode (ax_m mi).2.1 pc = .ok (.ireturn, 1)) (hr : (ax_m mi).2.2.2.1 = some ty) (hn : narrow ty (.int x) = .int x) : ax_G l D tc γ A p e s m args below meth c mi (some (.int x)) h pc ls [.int x] h := by
  intro H locs la hP hS hL
  exact W.zret S.1.1 S.1.2.1 (S.1.2.2.1.trans hr) hn (fun t ht _ => ⟨rfl, by rw [ht]; exact hP, hS.F ht⟩) hS.2.2 hd S.1.2.2.2.2.2.2
theorem ax_t_lreturn (S : ax_St D tc γ aK aV A p s m args meth c mi) {x : Int64} (hd : decode (ax_m mi).2.1 pc = .ok (.lreturn, 1)) (hr : (ax_m mi).2.2.2.1 = some .long) : ax_G l D tc γ A p e s m args below meth c mi (some (.long x)) h pc ls [.long x] h := by
  intro H locs la hP hS hL
  exact W.lret S.1.1 S.1.2.1 (S.1.2.2.1.trans hr) (fun t ht _ => ⟨rfl, by rw [ht]; exact hP, hS.F ht⟩) hS.2.2 hd S.1.2.2.2.2.2.2
theorem ax_t_return (S : ax_St D tc γ aK aV A p s m args meth c mi) (hd : decode (ax_m mi).2.1 pc = .ok (.return_, 1)) (hr : (ax_m mi).2.2.2.1 = none) : ax_G l D tc γ A p e s m args below meth c mi none h pc ls [] h := by
  intro H locs la hP hS hL
  exact W.vret S.1.1 S.1.2.1 (S.1.2.2.1.trans hr) (fun t ht _ => ⟨rfl, by rw [ht]; exact hP, hS.F ht⟩) hS.2.2 hd S.1.2.2.2.2.2.2
end AXH
