/-! ===== the law: one call of the class, one of the model ===== -/
def lx_dec (pc : Nat) (I : Instr × Nat) : Bool := match decode code pc with
  | .ok q => decide (q = I)
  | .error _ => false
theorem lx_dec_i {pc : Nat} {I : Instr × Nat} (h : lx_dec pc I = true) : decode code pc = .ok I := by
  unfold lx_dec at h
  cases hd : decode code pc with
  | error _ => rw [hd] at h; cases h
  | ok q => rw [hd] at h; rw [of_decide_eq_true h]
def lx_sz (k : Nat) : Nat := bif Nat.beq k 6 then 6 else 5
def lx_cka (pc k : Nat) : Bool := lx_dec pc (.aload_n 0, 1) && (lx_dec (pc + 1) (.iload_n 3, 1) && (bif Nat.beq k 6 then lx_dec (pc + 2) (.bipush 6, 2) && (lx_dec (pc + 4) (.iadd, 1) && lx_dec (pc + 5) (.iaload, 1)) else lx_dec (pc + 2) (.iconst (k : Int), 1) && (lx_dec (pc + 3) (.iadd, 1) && lx_dec (pc + 4) (.iaload, 1))))
def lx_szl : List Nat → Nat
  | [] => 0
  | k :: t => lx_sz k + lx_szl t
def lx_ckl : Nat → List Nat → Bool
  | _, [] => true
  | pc, k :: t => Nat.ble k 6 && (lx_cka pc k && lx_ckl (pc + lx_sz k) t)
theorem lx_iv : ∀ k : Nat, k ≤ 6 → Int32.ofInt (k : Int) = nI k := by decide
section LX
variable {l : Launch} {p : Program} {e : Env} {s : State} {m : MethodId} {below : List Frame} {meth : Method} {c : Code} {b L : Nat} {xs : Nat → Int32} {D : va_G} {tc : Nat → ClassId} {γ aK aV : Nat → Nat} {i : Nat} {la : Array Slot} {h : ax_H}
def lx_C (p : Program) (s : State) (m : MethodId) (meth : Method) (c : Code) (b L : Nat) (xs : Nat → Int32) (D : va_G) (tc : Nat → ClassId) (γ aK aV : Nat → Nat) (la : Array Slot) (i : Nat) : Prop :=
  lw_At p s m meth c b L xs ∧ ax_Wo D tc γ aK aV (fun q => s.heap.size ≤ q) s ∧ L ≤ 448 ∧ i + 7 ≤ L ∧ lv_has la 4 [(0, .ref b), (1, .ref (γ 114)), (2, .ref (γ 134)), (3, .int (nI i))]
def lx_W (l : Launch) (p : Program) (e : Env) (s : State) (m : MethodId) (below : List Frame) (meth : Method) (c : Code) (b : Nat) (D : va_G) (tc : Nat → ClassId) (γ : Nat → Nat) (la : Array Slot) (h : ax_H) (pc : Nat) (st : List Value) : Prop :=
  ∀ (H : Heap) (locs : List Loc), va_P D ax_cl (ax_w tc γ h) H → va_S (fun q => s.heap.size ≤ q) s.heap H locs → W p l e room_1 s m #[Value.ref b] below meth c H locs 147 2578 (lw_Z below #[Value.ref b] s) (F0 m pc la st)
theorem lx_arg (C : lx_C p s m meth c b L xs D tc γ aK aV la i) {k pc : Nat} {st : List Value} (hk : k ≤ 6) (hc : lx_cka pc k = true) (K : lx_W l p e s m below meth c b D tc γ la h (pc + lx_sz k) (.int (xs (i + k)) :: st)) : lx_W l p e s m below meth c b D tc γ la h pc st := by
  obtain ⟨⟨hx, hb, hr, hml, hown, hts, hX, hbl, hlocks, hgv⟩, hW, hL, hi, hl⟩ := C
  intro H locs hP hS
  have hbA : ¬ (fun q : Nat => s.heap.size ≤ q) b := Nat.not_le.mpr hbl
  have hin : vp_in (nI (i + k)) L := vp_in_nI (by omega) (by omega)
  have hcl : (nI (i + k)).toNatClampNeg = i + k := nI_clamp (by omega)
  unfold lx_cka at hc
  simp only [Bool.and_eq_true] at hc
  obtain ⟨h0, h1, hc⟩ := hc
  refine lv_aload_n hx hb (lx_dec_i h0) rfl (lv_at hl 0 rfl) ?_
  refine lv_iload_n hx hb (lx_dec_i h1) rfl (lv_at hl 3 rfl) ?_
  have K := K H locs hP hS
  unfold lx_sz at K
  cases h6 : Nat.beq k 6 with
  | true =>
    rw [h6] at hc K
    simp only [cond_true, Bool.and_eq_true] at hc K
    have e6 := Nat.eq_of_beq_eq_true h6
    subst e6
    refine lv_bipush (v := nI 6) hx hb (lx_dec_i hc.1) (by decide) ?_
    refine lv_iadd hx hb (lx_dec_i hc.2.1) ?_
    rw [nI_add]
    refine va_sld hx hb hX hbl hbA hS hin (lx_dec_i hc.2.2) ?_
    rw [hcl]
    exact K
  | false =>
    rw [h6] at hc K
    simp only [cond_false, Bool.and_eq_true] at hc K
    refine lv_iconst (v := nI k) hx hb (lx_dec_i hc.1) (lx_iv k hk) ?_
    refine lv_iadd hx hb (lx_dec_i hc.2.1) ?_
    rw [nI_add]
    refine va_sld hx hb hX hbl hbA hS hin (lx_dec_i hc.2.2) ?_
    rw [hcl]
    exact K
def lx_av (xs : Nat → Int32) (i : Nat) (ks : List Nat) : List Value := ks.map (fun k => .int (xs (i + k)))
theorem lx_args (C : lx_C p s m meth c b L xs D tc γ aK aV la i) : ∀ (ks : List Nat) (pc : Nat) (st : List Value), lx_ckl pc ks = true → lx_W l p e s m below meth c b D tc γ la h (pc + lx_szl ks) ((lx_av xs i ks).reverse ++ st) → lx_W l p e s m below meth c b D tc γ la h pc st := by
  intro ks
  induction ks with
  | nil => intro pc st _ K; exact K
  | cons k t ih =>
    intro pc st hc K
    simp only [lx_ckl, Bool.and_eq_true] at hc
    refine lx_arg C (Nat.le_of_ble_eq_true hc.1) hc.2.1 (ih _ _ hc.2.2 ?_)
    have e1 : (lx_av xs i (k :: t)).reverse ++ st = (lx_av xs i t).reverse ++ (.int (xs (i + k)) :: st) := by
      unfold lx_av
      rw [List.map_cons, List.reverse_cons, List.append_assoc]; rfl
    rw [e1] at K
    unfold lx_szl at K
    rw [← Nat.add_assoc] at K
    exact K
theorem lx_av_m {ks : List Nat} : (lx_av xs i ks).map (ax_cv γ) = lx_av xs i ks := by
  unfold lx_av
  rw [List.map_map]
  rfl
theorem lx_ald (C : lx_C p s m meth c b L xs D tc γ aK aV la i) {pc : Nat} {st : List Value} (hd : lx_dec pc (.aload_n 1, 1) = true) (K : lx_W l p e s m below meth c b D tc γ la h (pc + 1) (.ref (γ 114) :: st)) : lx_W l p e s m below meth c b D tc γ la h pc st := by
  obtain ⟨⟨hx, hb, hr, hml, hown, hts, hX, hbl, hlocks, hgv⟩, hW, hL, hi, hl⟩ := C
  intro H locs hP hS
  exact lv_aload_n hx hb (lx_dec_i hd) rfl (lv_at hl 1 rfl) (K H locs hP hS)
theorem lx_ald2 (C : lx_C p s m meth c b L xs D tc γ aK aV la i) {pc : Nat} {st : List Value} (hd : lx_dec pc (.aload_n 2, 1) = true) (K : lx_W l p e s m below meth c b D tc γ la h (pc + 1) (.ref (γ 134) :: st)) : lx_W l p e s m below meth c b D tc γ la h pc st := by
  obtain ⟨⟨hx, hb, hr, hml, hown, hts, hX, hbl, hlocks, hgv⟩, hW, hL, hi, hl⟩ := C
  intro H locs hP hS
  exact lv_aload_n hx hb (lx_dec_i hd) rfl (lv_at hl 2 rfl) (K H locs hP hS)
theorem lx_go {R : Room} {A A1 : Nat → Prop} {args : Array Value} {H : Heap} {locs : List Loc} {Q : State → Prop} {pc cells slots : Nat} {st0 rest : List Value} {r1 : Option Value} {h1 : ax_H} {a : Array Value} (hr : va_Run p l e R s m args below meth c H locs cells slots 0 0 (F0 m pc la st0) rest (ax_Q D tc γ A1 r1 h1 a) A1) (hS : va_S A s.heap H locs) (hA : ∀ q, A1 q → A q)
    (kk : ∀ (H1 : Heap) (locs1 : List Loc), va_P D ax_cl (ax_w tc γ h1) H1 → va_S A s.heap H1 locs1 → W p l e R s m args below meth c H1 locs1 cells slots Q (F0 m (pc + 3) la ((r1.map (ax_cv γ)).toList ++ rest))) : W p l e R s m args below meth c H locs cells slots Q (F0 m pc la st0) := by
  intro T hT X
  obtain ⟨v, st₀, t, T', L, h0, X', hL, e1, e2, ⟨hv, hp, hz, hk⟩, stp⟩ := hr T hT X
  cases hv
  rw [h0] at hz hk
  obtain ⟨t2, a1, b1⟩ := kk T'.heap (locs ++ L) (by rw [e1]; exact hp)
    ⟨Nat.le_trans hS.1 (by rw [e1]; exact hz), fun q h1 h2 => by rw [e1, hk q (Nat.lt_of_lt_of_le h1 hS.1) (fun z => h2 (hA q z))]; exact hS.2.1 q h1 h2, fun q hq => by
      rcases List.mem_append.mp hq with h | h
      · exact hS.2.2 q h
      · exact hA _ (hL q h)⟩ T' rfl X'
  exact ⟨t2, stp t2 a1, b1⟩
theorem lx_in {w : Cond} (h : w ∈ ax_gw) : w ∈ lw_tbl := (List.mem_filter.mp h).1
theorem lx_call (hIX : ax_IX l) (C : lx_C p s m meth c b L xs D tc γ aK aV la i) {y a idx pc : Nat} {av rest : List Value} {r1 : Option Value} {h1 : ax_H} (hy : y < ax_NM) (hk : Cond.methodLink R_law idx (ax_m y).1 ∈ ax_gw) (hd : lx_dec pc (.invokevirtual idx, 3) = true) (hst : (ax_m y).2.2.2.2.1.1 = false) (hf : (ax_rm y).frames + 1 ≤ 12 ∧ 8 + ((ax_m y).2.2.1 + 11) + (ax_rm y).locals ≤ 458) (hn : av.length = (ax_m y).2.2.2.2.1.2.1) (hsm : (rest.map fun v => v.category).sum ≤ 8) (hO : ax_isO h a (ax_m y).2.2.2.2.1.2.2 = true) (hlen : (ax_sl (.ref a :: av)).length ≤ (ax_m y).2.2.1)
    (hres : ax_res y 0 (ax_ent (ax_m y).2.2.1 (.ref a :: av)) [] h = some (r1, h1)) (K : lx_W l p e s m below meth c b D tc γ la h1 (pc + 3) ((r1.map (ax_cv γ)).toList ++ rest)) : lx_W l p e s m below meth c b D tc γ la h pc ((av.map (ax_cv γ)).reverse ++ .ref (γ a) :: rest) := by
  obtain ⟨⟨hx, hb, hr, hml, hown, hts, hX, hbl, hlocks, hgv⟩, hW, hL, hi, hl⟩ := C
  have hmo := ax_mo hy
  have hcn := ax_cn_ok hmo.1.2.1
  intro H locs hP hS
  have hM := ax_met (l := l) hIX (D := D) (tc := tc) (γ := γ) (aK := aK) (aV := aV) (h := h) (sz := H.size) hy hlen hres
  have gin : ∀ {w : Cond}, w ∈ ax_gw → w ∈ lw_tbl ∧ ((w.onTables && w.keeps) = true ∨ ∃ ty, w = .arrayClass ty) := fun hw => ⟨lx_in hw, good_of_word (ax_gw_good hw)⟩
  obtain ⟨hi1, hi2⟩ := hmo.2.2.2.1 hst
  have hT : GoodIn lw_tbl (wsV R_law idx (ax_m y).1.cls (ax_m y).1 (ax_ws y)) := by
    intro w hw
    unfold wsV at hw
    rcases List.mem_append.mp hw with hw | hw
    · simp only [List.mem_cons, List.not_mem_nil, or_false] at hw
      rcases hw with rfl | rfl | rfl | rfl
      · exact gin hk
      · exact gin hi1
      · exact gin hi2
      · exact gin (by rw [hmo.1.1]; exact hcn.1)
    · rcases List.mem_cons.mp hw with rfl | h9
      · exact gin hmo.2.1
      · exact gin h9
  have cw := cwV (R := room_1) (rm := ax_rm y) (bytes := (ax_m y).2.1) (maxL := (ax_m y).2.2.1) (ret := (ax_m y).2.2.2.1) (mc := 0) (ms := 0) (ws' := ax_gw) (ax_m y).2.2.2.2.1.2.1 hts hT rfl rfl rfl ⟨rfl, by rw [hmo.1.1]; exact hcn.2.2.1, by rw [hmo.1.1]; exact hcn.2.2.2, hmo.2.2.2.2⟩ hf
  have hrecv : ∃ cell : Cell, H[γ a]? = some cell ∧ cell.vm.isStatics = false ∧ s.vm.findClass (ax_m y).1.cls = some cell.cls := by
    obtain ⟨C, hc, rfl, -⟩ := ax_clp (hmo.1.2.2 hst)
    rw [hmo.1.1]
    unfold ax_isO at hO
    split at hO
    · rename_i ci fs hx
      rw [Bool.and_eq_true] at hO
      have e1 := of_decide_eq_true hO.1
      have e2 := beq_iff_eq.mp hO.2
      subst e2
      exact va_recv hW.1 hP hc (q0 := a) (fs := fs.map (ax_cv γ)) (by rw [ax_w_at e1, hx]; rfl)
    · cases hO
  have hrun := va_runV (p := p) (e := e) (below := below) (meth := meth) (locs := locs) (cells := 147) (slots := 2578) (b := γ a) (As := av.map (ax_cv γ)) (rest := rest) (g := F0 m pc la ((av.map (ax_cv γ)).reverse ++ .ref (γ a) :: rest)) ⟨hx, hb, hml, hown, hts⟩ hM cw ⟨ax_Pc_blind, hrecv, fun U hU hw => ⟨rfl, by rw [hU], by rw [hU]; exact hP, ax_Wo_call hW hS hU hw⟩⟩ rfl (by rw [List.length_map]; exact hn) hl.1 rfl (lv_room hsm) (lx_dec_i hd) ⟨Nat.le_refl _, Nat.le_refl _⟩
  exact lx_go hrun hS (ax_A_le hW hS) (fun H1 locs1 hP1 hS1 => K H1 locs1 hP1 hS1)
/-- both calls; their answers lie on the stack -/
theorem lx_two (hIX : ax_IX l) (C : lx_C p s m meth c b L xs D tc γ aK aV la i) {yc ym ic im pc p1 p2 : Nat} {av : List Value} (hav : av.map (ax_cv γ) = av)
    (hyc : yc < ax_NM) (hkc : Cond.methodLink R_law ic (ax_m yc).1 ∈ ax_gw) (hsc : (ax_m yc).2.2.2.2.1.1 = false) (hfc : (ax_rm yc).frames + 1 ≤ 12 ∧ 8 + ((ax_m yc).2.2.1 + 11) + (ax_rm yc).locals ≤ 458) (hnc : av.length = (ax_m yc).2.2.2.2.1.2.1) (hcc : (ax_m yc).2.2.2.2.1.2.2 = 5) (hlc : (ax_sl (.ref 114 :: av)).length ≤ (ax_m yc).2.2.1)
    (hym : ym < ax_NM) (hkm : Cond.methodLink R_law im (ax_m ym).1 ∈ ax_gw) (hsm : (ax_m ym).2.2.2.2.1.1 = false) (hfm : (ax_rm ym).frames + 1 ≤ 12 ∧ 8 + ((ax_m ym).2.2.1 + 11) + (ax_rm ym).locals ≤ 458) (hnm : av.length = (ax_m ym).2.2.2.2.1.2.1) (hcm : (ax_m ym).2.2.2.2.1.2.2 = 6) (hlm : (ax_sl (.ref 134 :: av)).length ≤ (ax_m ym).2.2.1)
    (hd0 : lx_dec pc (.aload_n 1, 1) = true) (hd1 : lx_dec p1 (.invokevirtual ic, 3) = true) (hd2 : lx_dec (p1 + 3) (.aload_n 2, 1) = true) (hd3 : lx_dec p2 (.invokevirtual im, 3) = true)
    (hp1 : ∀ (h : ax_H) (st : List Value), lx_W l p e s m below meth c b D tc γ la h p1 (av.reverse ++ st) → lx_W l p e s m below meth c b D tc γ la h (pc + 1) st)
    (hp2 : ∀ (h : ax_H) (st : List Value), lx_W l p e s m below meth c b D tc γ la h p2 (av.reverse ++ st) → lx_W l p e s m below meth c b D tc γ la h (p1 + 4) st)
    (hSt : St yc ym (ax_ent (ax_m yc).2.2.1 (.ref 114 :: av)) (ax_ent (ax_m ym).2.2.1 (.ref 134 :: av))) (hR : RR h)
    (K : ∀ (v : Value) (h2 : ax_H), ax_vk yc v = true → RR h2 → lx_W l p e s m below meth c b D tc γ la h2 (p2 + 3) [v, v]) : lx_W l p e s m below meth c b D tc γ la h pc [] := by
  obtain ⟨X, Y, sc, ai, aj, rfl, hR⟩ := hR
  obtain ⟨v, h1, h2, e1, e2, rr, o1, vk⟩ := hSt X Y sc ai aj hR
  have hv : ax_cv γ v = v ∧ v.category ≤ 2 := by
    unfold ax_vk at vk
    cases v <;> first | exact ⟨rfl, Nat.le_of_ble_eq_true rfl⟩ | (exfalso; revert vk; cases Nat.beq yc 78 <;> intro vk <;> cases vk)
  refine lx_ald C hd0 (hp1 _ _ ?_)
  have c1 := lx_call (h := hp X Y sc ai aj) (e := e) (below := below) hIX C (a := 114) (av := av) (rest := []) hyc hkc hd1 hsc hfc hnc (Nat.zero_le _) (by rw [hcc]; rfl) hlc e1
  rw [hav] at c1
  refine c1 ?_
  show lx_W l p e s m below meth c b D tc γ la h1 (p1 + 3) [ax_cv γ v]
  rw [hv.1]
  refine lx_ald2 C hd2 (hp2 _ _ ?_)
  have c2 := lx_call (h := h1) (e := e) (below := below) hIX C (a := 134) (av := av) (rest := [v]) hym hkm hd3 hsm hfm hnm (by have := hv.2; simp only [List.map_cons, List.map_nil, List.sum_cons, List.sum_nil]; omega) (by rw [hcm]; exact o1) hlm e2
  rw [hav] at c2
  refine c2 ?_
  show lx_W l p e s m below meth c b D tc γ la h2 (p2 + 3) (ax_cv γ v :: [v])
  rw [hv.1]
  exact K v h2 vk rr
end LX
