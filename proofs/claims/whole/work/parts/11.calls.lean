/-! ===== the machine follows: calls ===== -/
def ax_A (γ : Nat → Nat) (sz : Nat) : Nat → Prop := fun q => (∃ k, k < ax_NC ∧ q = γ k) ∨ sz ≤ q
def ax_Pc (D : va_G) (tc : Nat → ClassId) (γ aK aV : Nat → Nat) (h : ax_H) (sz : Nat) (av : List Value) : Array Value → State → Prop :=
  va_Pc (av.map (ax_cv γ)) (fun U => U.heap.size = sz ∧ va_P D ax_cl (ax_w tc γ h) U.heap ∧ ax_Wo D tc γ aK aV (ax_A γ sz) U)
theorem ax_sl_at : ∀ (vs : List Value) (γ : Nat → Nat) (j i : Nat) (v : Value), (ax_sl vs)[i]? = some (some v) → (j + i, ax_cv γ v) ∈ lv_args j (vs.map (ax_cv γ)) ∧ ax_ok1 v := by
  intro vs
  induction vs with
  | nil => intro γ j i v h; simp [ax_sl] at h
  | cons w t ih =>
    intro γ j i v h
    have two : ∀ (h2 : w.category = 2), (ax_sl t)[i - 2]? = some (some v) → 2 ≤ i → (j + i, ax_cv γ v) ∈ lv_args j ((w :: t).map (ax_cv γ)) ∧ ax_ok1 v := by
      intro h2 h3 h4
      obtain ⟨a, b⟩ := ih γ (j + 2) (i - 2) v h3
      refine ⟨?_, b⟩
      show _ ∈ (j, ax_cv γ w) :: lv_args (if (ax_cv γ w).category = 2 then j + 2 else j + 1) (t.map (ax_cv γ))
      rw [ax_cv_cat, if_pos h2]
      rw [show j + 2 + (i - 2) = j + i by omega] at a
      exact List.mem_cons_of_mem _ a
    have one : ∀ (h2 : ¬ w.category = 2), (some w :: ax_sl t)[i]? = some (some v) → (j + i, ax_cv γ v) ∈ lv_args j ((w :: t).map (ax_cv γ)) ∧ ax_ok1 v := by
      intro h2 h3
      cases i with
      | zero =>
        simp only [List.getElem?_cons_zero, Option.some.injEq] at h3
        subst h3
        exact ⟨List.mem_cons_self, fun h4 => absurd h4 h2⟩
      | succ i =>
        rw [List.getElem?_cons_succ] at h3
        obtain ⟨a, b⟩ := ih γ (j + 1) i v h3
        refine ⟨?_, b⟩
        show _ ∈ (j, ax_cv γ w) :: lv_args (if (ax_cv γ w).category = 2 then j + 2 else j + 1) (t.map (ax_cv γ))
        rw [ax_cv_cat, if_neg h2]
        rw [show j + 1 + i = j + (i + 1) by omega] at a
        exact List.mem_cons_of_mem _ a
    cases w with
    | long x =>
      match i, h with
      | 0, h =>
        simp only [ax_sl, List.getElem?_cons_zero, Option.some.injEq] at h
        subst h
        exact ⟨List.mem_cons_self, fun _ => ⟨x, rfl⟩⟩
      | 1, h => simp [ax_sl] at h
      | i + 2, h => exact two rfl (by simpa [ax_sl] using h) (by omega)
    | double x =>
      match i, h with
      | 0, h => simp [ax_sl] at h
      | 1, h => simp [ax_sl] at h
      | i + 2, h => exact two rfl (by simpa [ax_sl] using h) (by omega)
    | int x => exact one (by simp [Value.category]) h
    | float x => exact one (by simp [Value.category]) h
    | null => exact one (by simp [Value.category]) h
    | ref x => exact one (by simp [Value.category]) h
    | retAddr x => exact one (by simp [Value.category]) h
theorem ax_sl_len (γ : Nat → Nat) : ∀ (vs : List Value), (lg_sl (vs.map (ax_cv γ))).length = (ax_sl vs).length := by
  intro vs
  induction vs with
  | nil => rfl
  | cons w t ih =>
    have e : lg_sl ((w :: t).map (ax_cv γ)) = (if (ax_cv γ w).category = 2 then [.val (ax_cv γ w), .second] else [.val (ax_cv γ w)]) ++ lg_sl (t.map (ax_cv γ)) := rfl
    rw [e, List.length_append, ih, ax_cv_cat]
    cases w <;> simp [ax_sl, Value.category] <;> omega
theorem ax_pad_at : ∀ (n : Nat) (ls : ax_L), ls.length ≤ n → (ax_pad n ls).length = n ∧ ∀ (i : Nat) (v : Value), (ax_pad n ls)[i]? = some (some v) → ls[i]? = some (some v) := by
  intro n
  induction n with
  | zero =>
    intro ls h
    have : ls = [] := List.length_eq_zero_iff.mp (by omega)
    subst this
    exact ⟨rfl, fun i v h => by simp [ax_pad] at h⟩
  | succ n ih =>
    intro ls h
    cases ls with
    | nil =>
      obtain ⟨h1, h2⟩ := ih [] (Nat.zero_le _)
      refine ⟨by simp [ax_pad, h1], fun i v hv => ?_⟩
      cases i with
      | zero => simp [ax_pad] at hv
      | succ i => have := h2 i v (by simpa [ax_pad] using hv); simp at this
    | cons x t =>
      obtain ⟨h1, h2⟩ := ih t (by simpa using h)
      refine ⟨by simp [ax_pad, h1], fun i v hv => ?_⟩
      cases i with
      | zero => simpa [ax_pad] using hv
      | succ i => simp only [ax_pad, List.getElem?_cons_succ] at hv ⊢; exact h2 i v hv
theorem ax_Wo_calling {D : va_G} {tc : Nat → ClassId} {γ aK aV : Nat → Nat} {A : Nat → Prop} {U : State} {g : JFrame} {mk : MethodId} {a : Array Value} (h : ax_Wo D tc γ aK aV A U) : ax_Wo D tc γ aK aV A (U.calling g mk a) := by
  obtain ⟨h1, h2, h3, h4, h5, h6, h7⟩ := h
  exact ⟨va_K.moved (u := U) (U := U.calling g mk a) (Vm.Alike.refl U.vm) h1, h2, h3, h4, ax_SZ.moved (u := U) (U := U.calling g mk a) (Vm.Alike.refl U.vm) h5, vk_R.same (u := U) (U := U.calling g mk a) rfl h6, h7⟩
theorem ax_Pc_blind {D : va_G} {tc : Nat → ClassId} {γ aK aV : Nat → Nat} {h : ax_H} {sz : Nat} {av : List Value} : FrameBlind (ax_Pc D tc γ aK aV h sz av) := by
  intro a U g mk q
  obtain ⟨q0, q1, q2, q3⟩ := q
  exact ⟨q0, q1, q2, ax_Wo_calling q3⟩
section AXC
variable {l : Launch} {D : va_G} {tc : Nat → ClassId} {γ aK aV : Nat → Nat} {A : Nat → Prop} {p : Program} {e : Env} {s : State} {m : MethodId} {args : Array Value} {below : List Frame} {meth : Method} {c : Code} {mi : Nat}
variable {r : Option Value} {h' : ax_H} {pc : Nat} {ls : ax_L} {st : List Value} {h : ax_H}
/-- the world at a call -/
theorem ax_Wo_call (hW : ax_Wo D tc γ aK aV A s) {H : Heap} {locs : List Loc} (hS : va_S A s.heap H locs) {U : State} (hU : U.heap = H) (hw : s.WarmedH U.vm) : ax_Wo D tc γ aK aV (ax_A γ H.size) U := by
  obtain ⟨h1, h2, h3, h4, h5, h6, h7⟩ := hW
  refine ⟨va_K.moved hw.alike h1, h2, fun k hk => Or.inl ⟨k, hk, rfl⟩, fun q hq => Or.inr (by rw [hU] at hq; exact hq), ?_, vk_R.warm hw h6, h7⟩
  rw [hU]
  refine ax_SZ.moved hw.alike (ax_SZ.narrow (ax_SZ.kept h5 hS.2.1) ?_)
  rintro q (⟨k, hk, rfl⟩ | hq)
  · exact h3 k hk
  · exact h4 q (Nat.le_trans hS.1 hq)
theorem ax_A_le (hW : ax_Wo D tc γ aK aV A s) {H : Heap} {locs : List Loc} (hS : va_S A s.heap H locs) : ∀ q, ax_A γ H.size q → A q := by
  obtain ⟨h1, h2, h3, h4, h5, h6, h7⟩ := hW
  rintro q (⟨k, hk, rfl⟩ | hq)
  · exact h3 k hk
  · exact h4 q (Nat.le_trans hS.1 hq)
theorem ax_met_of {y sz : Nat} {av : List Value} {r1 : Option Value} {h1 : ax_H} (hy : y < ax_NM) (hlen : (ax_sl av).length ≤ (ax_m y).2.2.1)
    (hG : ∀ (A : Nat → Prop) (p : Program) (e : Env) (s : State) (m : MethodId) (args : Array Value) (below : List Frame) (meth : Method) (c : Code), ax_St D tc γ aK aV A p s m args meth c y → ax_G l D tc γ A p e s m args below meth c y r1 h1 0 (ax_ent (ax_m y).2.2.1 av) [] h) :
    Met l (ax_m y).1 (ax_ws y) (ax_rm y) (ax_Pc D tc γ aK aV h sz av) (ax_Q D tc γ (ax_A γ sz) r1 h1) 0 0 (ax_A γ sz) := by
  have hpn : plainName (ax_m y).1.cls = true := by rw [(ax_mo hy).1.1]; exact (ax_cn_ok (ax_mo hy).1.2.1).2.1
  refine Met.ofW (cc := (ax_m y).2.1) (maxL := (ax_m y).2.2.1) (ret := (ax_m y).2.2.2.1) (ws' := ax_gw) hpn rfl ?_
  intro p e s m args below meth c s₁ B hml hv
  obtain ⟨rfl, hsz, hP, hW⟩ := hv
  subst hsz
  have S : ax_St D tc γ aK aV (ax_A γ s.heap.size) p s m (av.map (ax_cv γ)).toArray meth c y := ⟨⟨B.exec, B.bytes, B.returns, hml, findClass_of_methodNamed B.named, atoms_spec (ws := ax_ws y) B.pre, B.notSynchronized⟩, hW, hy⟩
  have hl := lv_entry (av.map (ax_cv γ)) (n := (ax_m y).2.2.1) (by rw [ax_sl_len]; exact hlen)
  rw [lg_entry_eq]
  refine hG _ p e s m _ below meth c S s.heap [] _ hP va_S.rf ?_
  obtain ⟨q1, q2⟩ := ax_pad_at (ax_m y).2.2.1 (ax_sl av) hlen
  refine ⟨q1, hl.1, hl.2.1, fun i v hi => ?_⟩
  obtain ⟨a, b⟩ := ax_sl_at av γ 0 i v (q2 i v hi)
  rw [Nat.zero_add] at a
  exact ⟨hl.2.2 _ a, b⟩
theorem ax_go {R : Room} {A1 : Nat → Prop} {H : Heap} {locs : List Loc} {Q : State → Prop} {la : Array Slot} {st0 rest : List Value} {r1 : Option Value} {h1 : ax_H} {a : Array Value} (hr : va_Run p l e R s m args below meth c H locs 0 0 0 0 (F0 m pc la st0) rest (ax_Q D tc γ A1 r1 h1 a) A1) (hS : va_S A s.heap H locs) (hA : ∀ q, A1 q → A q)
    (kk : ∀ (H1 : Heap) (locs1 : List Loc), va_P D ax_cl (ax_w tc γ h1) H1 → va_S A s.heap H1 locs1 → W p l e R s m args below meth c H1 locs1 0 0 Q (F0 m (pc + 3) la ((r1.map (ax_cv γ)).toList ++ rest))) : W p l e R s m args below meth c H locs 0 0 Q (F0 m pc la st0) := by
  intro T hT X
  obtain ⟨v, st₀, t, T', L, h0, X', hL, e1, e2, ⟨hv, hp, hz, hk⟩, stp⟩ := hr T hT X
  cases hv
  rw [h0] at hz hk
  obtain ⟨t2, a1, b1⟩ := kk T'.heap (locs ++ L) (by rw [e1]; exact hp)
    ⟨Nat.le_trans hS.1 (by rw [e1]; exact hz), fun q h1 h2 => by rw [e1, hk q (Nat.lt_of_lt_of_le h1 hS.1) (fun z => h2 (hA q z))]; exact hS.2.1 q h1 h2, fun q hq => by
      rcases List.mem_append.mp hq with h | h
      · exact hS.2.2 q h
      · exact hA _ (hL q h)⟩ T' rfl X'
  exact ⟨t2, stp t2 a1, b1⟩
theorem ax_ckC_i {mi y : Nat} (h : ax_ckC mi y = true) : y < ax_NM ∧ (ax_rm y).frames + 1 ≤ (ax_rm mi).frames ∧ 8 + ((ax_m y).2.2.1 + 11) + (ax_rm y).locals ≤ (ax_rm mi).locals := by
  unfold ax_ckC at h
  simp only [Bool.and_eq_true] at h
  exact ⟨Nat.le_of_ble_eq_true h.1, Nat.le_of_ble_eq_true h.2.1, Nat.le_of_ble_eq_true h.2.2⟩
theorem ax_cy_m {y : Nat} (h : y < ax_NM) : ax_cy y = (ax_m y).1 := by
  have h : y < 182 := h
  unfold ax_cy
  rw [if_neg (by omega), if_neg (by omega), if_neg (by omega), if_neg (by omega)]
theorem ax_callS {y i w : Nat} (S : ax_St D tc γ aK aV A p s m args meth c mi) (hd : decode (ax_m mi).2.1 pc = .ok (.invokestatic i, 3)) (hw : ax_ckK (ax_m mi).2.2.2.2.1.2.2 i w y = true) (hst : (ax_m y).2.2.2.2.1.1 = true) (hck : ax_ckC mi y = true)
    {av rest : List Value} {r1 : Option Value} {h1 : ax_H} (hn : av.length = (ax_m y).2.2.2.2.1.2.1) (hstk : st = av.reverse ++ rest) (hsm : ax_small rest = true) (hlen : (ax_sl av).length ≤ (ax_m y).2.2.1)
    (hG : ∀ (A : Nat → Prop) (p : Program) (e : Env) (s : State) (m : MethodId) (args : Array Value) (below : List Frame) (meth : Method) (c : Code), ax_St D tc γ aK aV A p s m args meth c y → ax_G l D tc γ A p e s m args below meth c y r1 h1 0 (ax_ent (ax_m y).2.2.1 av) [] h)
    (K : ax_G l D tc γ A p e s m args below meth c mi r h' (pc + 3) ls (r1.toList ++ rest) h1) : ax_G l D tc γ A p e s m args below meth c mi r h' pc ls st h := by
  obtain ⟨hy, hf, hlo⟩ := ax_ckC_i hck
  have hmo := ax_mo hy
  have hcn := ax_cn_ok hmo.1.2.1
  have hlink : Cond.methodLink (ax_cn (ax_m mi).2.2.2.2.1.2.2) i (ax_m y).1 ∈ ax_gw := by
    have h9 := ax_ckK_w hw
    rw [ax_cy_m hy] at h9
    exact h9
  intro H locs la hP hS hL
  have hM := ax_met_of (l := l) (D := D) (tc := tc) (γ := γ) (aK := aK) (aV := aV) (h := h) (sz := H.size) hy hlen hG
  have gin : ∀ {w : Cond}, w ∈ ax_gw → w ∈ ax_ws mi ∧ ((w.onTables && w.keeps) = true ∨ ∃ ty, w = .arrayClass ty) := fun hw => ⟨List.mem_cons_of_mem _ hw, good_of_word (ax_gw_good hw)⟩
  have hT : GoodIn (ax_ws mi) (va_wsS (ax_cn (ax_m mi).2.2.2.2.1.2.2) i (ax_m y).1 (ax_ws y)) := by
    intro w hw
    unfold va_wsS at hw
    rcases List.mem_append.mp hw with hw | hw
    · simp only [List.mem_cons, List.not_mem_nil, or_false] at hw
      rcases hw with rfl | rfl | rfl
      · exact gin hlink
      · exact gin (hmo.2.2.1 hst)
      · exact gin (by rw [hmo.1.1]; exact hcn.1)
    · exact ax_good hy w hw
  have cw := va_cwS (R := ax_rm mi) (rm := ax_rm y) (bytes := (ax_m y).2.1) (maxL := (ax_m y).2.2.1) (ret := (ax_m y).2.2.2.1) (mc := 0) (ms := 0) (ws' := ax_gw) (ax_m y).2.2.2.2.1.2.1 S.1.2.2.2.2.2.1 hT rfl rfl rfl (by rw [hmo.1.1]; exact ⟨hcn.2.2.1, hcn.2.2.2, hmo.2.2.2.2⟩) ⟨hf, hlo⟩
  have hrun := va_runS (p := p) (e := e) (below := below) (meth := meth) (locs := locs) (cells := 0) (slots := 0) (As := av.map (ax_cv γ)) (rest := rest.map (ax_cv γ)) (g := F0 m pc la (st.map (ax_cv γ))) ⟨S.1.1, S.1.2.1, S.1.2.2.2.1, ax_own S, S.1.2.2.2.2.2.1⟩ hM cw ⟨ax_Pc_blind, fun U hU hw => ⟨rfl, by rw [hU], by rw [hU]; exact hP, ax_Wo_call S.2.1 hS hU hw⟩⟩ rfl (by rw [List.length_map]; exact hn) hL.2.1 (by rw [hstk, List.map_append, List.map_reverse]) (lv_room (ax_small_le γ hsm)) hd ⟨Nat.zero_le _, Nat.zero_le _⟩
  refine ax_go hrun hS (ax_A_le S.2.1 hS) (fun H1 locs1 hP1 hS1 => ?_)
  have K2 := K H1 locs1 la hP1 hS1 hL
  rw [List.map_append] at K2
  cases r1 with
  | none => exact K2
  | some v => exact K2
theorem ax_callV {y i w a : Nat} (S : ax_St D tc γ aK aV A p s m args meth c mi) (hd : decode (ax_m mi).2.1 pc = .ok (.invokevirtual i, 3)) (hw : ax_ckK (ax_m mi).2.2.2.2.1.2.2 i w y = true) (hst : (ax_m y).2.2.2.2.1.1 = false) (hck : ax_ckC mi y = true)
    {av rest : List Value} {r1 : Option Value} {h1 : ax_H} (hn : av.length = (ax_m y).2.2.2.2.1.2.1) (hstk : st = av.reverse ++ .ref a :: rest) (hsm : ax_small rest = true) (hO : ax_isO h a (ax_m y).2.2.2.2.1.2.2 = true) (hlen : (ax_sl (.ref a :: av)).length ≤ (ax_m y).2.2.1)
    (hG : ∀ (A : Nat → Prop) (p : Program) (e : Env) (s : State) (m : MethodId) (args : Array Value) (below : List Frame) (meth : Method) (c : Code), ax_St D tc γ aK aV A p s m args meth c y → ax_G l D tc γ A p e s m args below meth c y r1 h1 0 (ax_ent (ax_m y).2.2.1 (.ref a :: av)) [] h)
    (K : ax_G l D tc γ A p e s m args below meth c mi r h' (pc + 3) ls (r1.toList ++ rest) h1) : ax_G l D tc γ A p e s m args below meth c mi r h' pc ls st h := by
  obtain ⟨hy, hf, hlo⟩ := ax_ckC_i hck
  have hmo := ax_mo hy
  have hcn := ax_cn_ok hmo.1.2.1
  have hlink : Cond.methodLink (ax_cn (ax_m mi).2.2.2.2.1.2.2) i (ax_m y).1 ∈ ax_gw := by
    have h9 := ax_ckK_w hw
    rw [ax_cy_m hy] at h9
    exact h9
  intro H locs la hP hS hL
  have hM := ax_met_of (l := l) (D := D) (tc := tc) (γ := γ) (aK := aK) (aV := aV) (h := h) (sz := H.size) hy hlen hG
  have gin : ∀ {w : Cond}, w ∈ ax_gw → w ∈ ax_ws mi ∧ ((w.onTables && w.keeps) = true ∨ ∃ ty, w = .arrayClass ty) := fun hw => ⟨List.mem_cons_of_mem _ hw, good_of_word (ax_gw_good hw)⟩
  obtain ⟨hi1, hi2⟩ := hmo.2.2.2.1 hst
  have hT : GoodIn (ax_ws mi) (wsV (ax_cn (ax_m mi).2.2.2.2.1.2.2) i (ax_m y).1.cls (ax_m y).1 (ax_ws y)) := by
    intro w hw
    unfold wsV at hw
    rcases List.mem_append.mp hw with hw | hw
    · simp only [List.mem_cons, List.not_mem_nil, or_false] at hw
      rcases hw with rfl | rfl | rfl | rfl
      · exact gin hlink
      · exact gin hi1
      · exact gin hi2
      · exact gin (by rw [hmo.1.1]; exact hcn.1)
    · exact ax_good hy w hw
  have cw := cwV (R := ax_rm mi) (rm := ax_rm y) (bytes := (ax_m y).2.1) (maxL := (ax_m y).2.2.1) (ret := (ax_m y).2.2.2.1) (mc := 0) (ms := 0) (ws' := ax_gw) (ax_m y).2.2.2.2.1.2.1 S.1.2.2.2.2.2.1 hT rfl rfl rfl ⟨rfl, by rw [hmo.1.1]; exact hcn.2.2.1, by rw [hmo.1.1]; exact hcn.2.2.2, hmo.2.2.2.2⟩ ⟨hf, hlo⟩
  have hrecv : ∃ cell : Cell, H[γ a]? = some cell ∧ cell.vm.isStatics = false ∧ s.vm.findClass (ax_m y).1.cls = some cell.cls := by
    obtain ⟨C, hc, rfl, -⟩ := ax_clp (hmo.1.2.2 hst)
    rw [hmo.1.1]
    unfold ax_isO at hO
    split at hO
    · rename_i ci fs hx
      rw [Bool.and_eq_true] at hO
      have e1 := of_decide_eq_true hO.1
      have e2 := beq_iff_eq.mp hO.2
      subst e2
      exact va_recv S.2.1.1 hP hc (q0 := a) (fs := fs.map (ax_cv γ)) (by rw [ax_w_at e1, hx]; rfl)
    · cases hO
  have hrun := va_runV (p := p) (e := e) (below := below) (meth := meth) (locs := locs) (cells := 0) (slots := 0) (b := γ a) (As := av.map (ax_cv γ)) (rest := rest.map (ax_cv γ)) (g := F0 m pc la (st.map (ax_cv γ))) ⟨S.1.1, S.1.2.1, S.1.2.2.2.1, ax_own S, S.1.2.2.2.2.2.1⟩ hM cw ⟨ax_Pc_blind, hrecv, fun U hU hw => ⟨rfl, by rw [hU], by rw [hU]; exact hP, ax_Wo_call S.2.1 hS hU hw⟩⟩ rfl (by rw [List.length_map]; exact hn) hL.2.1 (by rw [hstk, List.map_append, List.map_reverse]; rfl) (lv_room (ax_small_le γ hsm)) hd ⟨Nat.zero_le _, Nat.zero_le _⟩
  refine ax_go hrun hS (ax_A_le S.2.1 hS) (fun H1 locs1 hP1 hS1 => ?_)
  have K2 := K H1 locs1 la hP1 hS1 hL
  rw [List.map_append] at K2
  cases r1 with
  | none => exact K2
  | some v => exact K2
end AXC
