/-! ===== String.indexOf of the String constant: the members of the JDK, walked ===== -/
def jy_coder : MethodName := ⟨"java/lang/String", "coder", "()B"⟩
def jw_coder : List Cond := .code jy_coder prog_12_method_152_code 1 (some .byte) :: ax_gw
theorem jc_coder : Cond.code jy_coder prog_12_method_152_code 1 (some .byte) ∈ ax_gw := ax_gi (ax_in_t2 (List.mem_of_getElem? (i := 55) rfl)) rfl
theorem ji_coder : Cond.instanceMethod jy_coder ∈ ax_gw := ax_gi (ax_in_t2 (List.mem_of_getElem? (i := 53) rfl)) rfl
theorem js_coder : Cond.selects "java/lang/String" jy_coder jy_coder ∈ ax_gw := ax_gi (ax_in_t2 (List.mem_of_getElem? (i := 54) rfl)) rfl
def jy_length : MethodName := ⟨"java/lang/String", "length", "()I"⟩
def jw_length : List Cond := .code jy_length prog_12_method_54_code 1 (some .int) :: ax_gw
theorem jc_length : Cond.code jy_length prog_12_method_54_code 1 (some .int) ∈ ax_gw := ax_gi (ax_in_t2 (List.mem_of_getElem? (i := 51) rfl)) rfl
theorem ji_length : Cond.instanceMethod jy_length ∈ ax_gw := ax_gi (ax_in_t2 (List.mem_of_getElem? (i := 49) rfl)) rfl
theorem js_length : Cond.selects "java/lang/String" jy_length jy_length ∈ ax_gw := ax_gi (ax_in_t2 (List.mem_of_getElem? (i := 50) rfl)) rfl
def jy_lat : MethodName := ⟨"java/lang/String", "isLatin1", "()Z"⟩
def jw_lat : List Cond := .code jy_lat prog_12_method_154_code 1 (some .boolean) :: ax_gw
theorem jc_lat : Cond.code jy_lat prog_12_method_154_code 1 (some .boolean) ∈ ax_gw := ax_gi (ax_in_t2 (List.mem_of_getElem? (i := 45) rfl)) rfl
theorem ji_lat : Cond.instanceMethod jy_lat ∈ ax_gw := ax_gi (ax_in_t2 (List.mem_of_getElem? (i := 43) rfl)) rfl
theorem js_lat : Cond.selects "java/lang/String" jy_lat jy_lat ∈ ax_gw := ax_gi (ax_in_t2 (List.mem_of_getElem? (i := 44) rfl)) rfl
def jy_ix2 : MethodName := ⟨"java/lang/String", "indexOf", "(II)I"⟩
def jw_ix2 : List Cond := .code jy_ix2 prog_12_method_80_code 3 (some .int) :: ax_gw
theorem jc_ix2 : Cond.code jy_ix2 prog_12_method_80_code 3 (some .int) ∈ ax_gw := ax_gi (ax_in_t2 (List.mem_of_getElem? (i := 41) rfl)) rfl
theorem ji_ix2 : Cond.instanceMethod jy_ix2 ∈ ax_gw := ax_gi (ax_in_t2 (List.mem_of_getElem? (i := 39) rfl)) rfl
theorem js_ix2 : Cond.selects "java/lang/String" jy_ix2 jy_ix2 ∈ ax_gw := ax_gi (ax_in_t2 (List.mem_of_getElem? (i := 40) rfl)) rfl
def jy_ix1 : MethodName := ⟨"java/lang/String", "indexOf", "(I)I"⟩
def jw_ix1 : List Cond := .code jy_ix1 prog_12_method_79_code 2 (some .int) :: ax_gw
theorem jc_ix1 : Cond.code jy_ix1 prog_12_method_79_code 2 (some .int) ∈ ax_gw := ax_gi (ax_in_t2 (List.mem_of_getElem? (i := 37) rfl)) rfl
theorem ji_ix1 : Cond.instanceMethod jy_ix1 ∈ ax_gw := ax_gi (ax_in_t2 (List.mem_of_getElem? (i := 35) rfl)) rfl
theorem js_ix1 : Cond.selects "java/lang/String" jy_ix1 jy_ix1 ∈ ax_gw := ax_gi (ax_in_t2 (List.mem_of_getElem? (i := 36) rfl)) rfl
def jy_can : MethodName := ⟨"java/lang/StringLatin1", "canEncode", "(I)Z"⟩
def jw_can : List Cond := .code jy_can prog_13_method_4_code 1 (some .boolean) :: ax_gw
theorem jc_can : Cond.code jy_can prog_13_method_4_code 1 (some .boolean) ∈ ax_gw := ax_gi (ax_in_t2 (List.mem_of_getElem? (i := 61) rfl)) rfl
theorem ji_can : Cond.static jy_can ∈ ax_gw := ax_gi (ax_in_t2 (List.mem_of_getElem? (i := 60) rfl)) rfl
def jy_ich : MethodName := ⟨"java/lang/StringLatin1", "indexOfChar", "([BIII)I"⟩
def jw_ich : List Cond := .code jy_ich prog_13_method_23_code 6 (some .int) :: ax_gw
theorem jc_ich : Cond.code jy_ich prog_13_method_23_code 6 (some .int) ∈ ax_gw := ax_gi (ax_in_t2 (List.mem_of_getElem? (i := 70) rfl)) rfl
theorem ji_ich : Cond.static jy_ich ∈ ax_gw := ax_gi (ax_in_t2 (List.mem_of_getElem? (i := 69) rfl)) rfl
def jy_lix : MethodName := ⟨"java/lang/StringLatin1", "indexOf", "([BIII)I"⟩
def jw_lix : List Cond := .code jy_lix prog_13_method_22_code 4 (some .int) :: ax_gw
theorem jc_lix : Cond.code jy_lix prog_13_method_22_code 4 (some .int) ∈ ax_gw := ax_gi (ax_in_t2 (List.mem_of_getElem? (i := 58) rfl)) rfl
theorem ji_lix : Cond.static jy_lix ∈ ax_gw := ax_gi (ax_in_t2 (List.mem_of_getElem? (i := 57) rfl)) rfl
theorem jn_S : Cond.initialized "java/lang/String" ∈ ax_gw := ax_gi (ax_in_t1 (List.mem_of_getElem? (i := 8) rfl)) rfl
theorem jn_L : Cond.initialized "java/lang/StringLatin1" ∈ ax_gw := ax_gi (ax_in_t1 (List.mem_of_getElem? (i := 9) rfl)) rfl
theorem jl_ix2 : Cond.methodLink "java/lang/String" 633 jy_ix2 ∈ ax_gw := ax_gi (ax_in_t2 (List.mem_of_getElem? (i := 38) rfl)) rfl
theorem jl_lat : Cond.methodLink "java/lang/String" 492 jy_lat ∈ ax_gw := ax_gi (ax_in_t2 (List.mem_of_getElem? (i := 42) rfl)) rfl
theorem jl_length : Cond.methodLink "java/lang/String" 505 jy_length ∈ ax_gw := ax_gi (ax_in_t2 (List.mem_of_getElem? (i := 48) rfl)) rfl
theorem jl_coder : Cond.methodLink "java/lang/String" 335 jy_coder ∈ ax_gw := ax_gi (ax_in_t2 (List.mem_of_getElem? (i := 52) rfl)) rfl
theorem jl_lix : Cond.methodLink "java/lang/String" 637 jy_lix ∈ ax_gw := ax_gi (ax_in_t2 (List.mem_of_getElem? (i := 56) rfl)) rfl
theorem jl_can : Cond.methodLink "java/lang/StringLatin1" 88 jy_can ∈ ax_gw := ax_gi (ax_in_t2 (List.mem_of_getElem? (i := 59) rfl)) rfl
theorem jl_ich : Cond.methodLink "java/lang/StringLatin1" 95 jy_ich ∈ ax_gw := ax_gi (ax_in_t2 (List.mem_of_getElem? (i := 68) rfl)) rfl
theorem jl_max : Cond.methodLink "java/lang/StringLatin1" 92 Lib.Math.max.name ∈ ax_gw := ax_gi (ax_in_t2 (List.mem_of_getElem? (i := 62) rfl)) rfl
theorem jl_min : Cond.methodLink "java/lang/StringLatin1" 38 Lib.Math.min.name ∈ ax_gw := ax_gi (ax_in_t2 (List.mem_of_getElem? (i := 65) rfl)) rfl
theorem jf_cs : Cond.fieldLink "java/lang/String" 38 "java/lang/String" "COMPACT_STRINGS" "Z" ∈ ax_gw := ax_gi (ax_in_t2 (List.mem_of_getElem? (i := 46) rfl)) rfl
theorem jf_co : Cond.fieldLink "java/lang/String" 15 "java/lang/String" "coder" "B" ∈ ax_gw := ax_gi (ax_in_t5 (List.mem_of_getElem? (i := 139) rfl)) rfl
theorem jf_va : Cond.fieldLink "java/lang/String" 9 "java/lang/String" "value" "[B" ∈ ax_gw := ax_gi (ax_in_t5 (List.mem_of_getElem? (i := 140) rfl)) rfl
def jx_F : Nat → Prop := fun _ => False
def jx_Pc (aK aV : Nat → Nat) (av : List Value) : Array Value → State → Prop := va_Pc av (fun U => ax_SZ aK aV jx_F U U.heap)
theorem jx_blind {aK aV : Nat → Nat} {av : List Value} : FrameBlind (jx_Pc aK aV av) := by
  intro a U g mk q
  exact ⟨q.1, ax_SZ.moved (u := U) (U := U.calling g mk a) (Vm.Alike.refl U.vm) q.2⟩
def jx_Q (r : Int32) : Array Value → State → Outcome → State → Prop := va_Qi (fun (x : Int32) (_ : Unit) => x = r) (fun _ _ => True) jx_F
theorem jx_gV {own : String} {idx : Nat} {y : MethodName} {bytes : ByteArray} {n : Nat} {ret : Option FieldType} {c0 : Cond} (h1 : Cond.methodLink own idx y ∈ ax_gw) (h2 : Cond.instanceMethod y ∈ ax_gw) (h3 : Cond.selects y.cls y y ∈ ax_gw) (h4 : Cond.initialized y.cls ∈ ax_gw) (h5 : Cond.code y bytes n ret ∈ ax_gw) : GoodIn (c0 :: ax_gw) (wsV own idx y.cls y (.code y bytes n ret :: ax_gw)) := by
  have gin : ∀ {w : Cond}, w ∈ ax_gw → w ∈ c0 :: ax_gw ∧ ((w.onTables && w.keeps) = true ∨ ∃ ty, w = .arrayClass ty) := fun hw => ⟨List.mem_cons_of_mem _ hw, good_of_word (ax_gw_good hw)⟩
  intro w hw
  unfold wsV at hw
  rcases List.mem_append.mp hw with hw | hw
  · simp only [List.mem_cons, List.not_mem_nil, or_false] at hw
    rcases hw with rfl | rfl | rfl | rfl
    · exact gin h1
    · exact gin h2
    · exact gin h3
    · exact gin h4
  · rcases List.mem_cons.mp hw with rfl | h9
    · exact gin h5
    · exact gin h9
theorem jx_gS {own : String} {idx : Nat} {y : MethodName} {bytes : ByteArray} {n : Nat} {ret : Option FieldType} {c0 : Cond} (h1 : Cond.methodLink own idx y ∈ ax_gw) (h2 : Cond.static y ∈ ax_gw) (h4 : Cond.initialized y.cls ∈ ax_gw) (h5 : Cond.code y bytes n ret ∈ ax_gw) : GoodIn (c0 :: ax_gw) (va_wsS own idx y (.code y bytes n ret :: ax_gw)) := by
  have gin : ∀ {w : Cond}, w ∈ ax_gw → w ∈ c0 :: ax_gw ∧ ((w.onTables && w.keeps) = true ∨ ∃ ty, w = .arrayClass ty) := fun hw => ⟨List.mem_cons_of_mem _ hw, good_of_word (ax_gw_good hw)⟩
  intro w hw
  unfold va_wsS at hw
  rcases List.mem_append.mp hw with hw | hw
  · simp only [List.mem_cons, List.not_mem_nil, or_false] at hw
    rcases hw with rfl | rfl | rfl
    · exact gin h1
    · exact gin h2
    · exact gin h4
  · rcases List.mem_cons.mp hw with rfl | h9
    · exact gin h5
    · exact gin h9
def jx_ce (x : Int32) : Int32 := if x < 0 then 0 else if 255 < x then 0 else 1
def jx_ic (t : Int32) : Int32 := if t = 112 then 0 else if t = 102 then 1 else if t = 109 then 2 else if t = 100 then 3 else if t = 103 then 4 else -1
theorem jx_dom : ∀ n : Nat, n < 256 → jx_ic (nI n).toInt8.toInt32 = ax_idx (nI n) := by decide +kernel
theorem jx_res (x : Int32) : (if jx_ce x = 0 then -1 else jx_ic x.toInt8.toInt32) = ax_idx x := by
  unfold jx_ce
  by_cases h0 : x < 0
  · rw [if_pos h0, if_pos rfl]
    unfold ax_idx
    rw [if_neg (fun e => by subst e; exact absurd h0 (by decide)), if_neg (fun e => by subst e; exact absurd h0 (by decide)), if_neg (fun e => by subst e; exact absurd h0 (by decide)), if_neg (fun e => by subst e; exact absurd h0 (by decide)), if_neg (fun e => by subst e; exact absurd h0 (by decide))]
  · rw [if_neg h0]
    by_cases h1 : 255 < x
    · rw [if_pos h1, if_pos rfl]
      unfold ax_idx
      rw [if_neg (fun e => by subst e; exact absurd h1 (by decide)), if_neg (fun e => by subst e; exact absurd h1 (by decide)), if_neg (fun e => by subst e; exact absurd h1 (by decide)), if_neg (fun e => by subst e; exact absurd h1 (by decide)), if_neg (fun e => by subst e; exact absurd h1 (by decide))]
    · rw [if_neg h1, if_neg (by decide)]
      obtain ⟨n, hn, rfl⟩ := nI_of h0
      have h256 : n < 256 := by
        rcases Nat.lt_or_ge n 256 with q | q
        · exact q
        · exact absurd (nI_lt (a := 255) (b := n) (by omega) hn) h1
      exact jx_dom n h256
section JX
variable {l : Launch} {aK aV : Nat → Nat}
theorem jm_coder : Met l jy_coder jw_coder ({ frames := 0, cells := 0, slots := 0, locals := 0 }) (jx_Pc aK aV [.ref (aK 0)]) (jx_Q 0) 0 0 jx_F := by
  refine Met.ofW (cc := prog_12_method_152_code) (maxL := 1) (ret := some .byte) (ws' := ax_gw) (by decide) rfl ?_
  intro p e s m args below meth c s₁ B hml hv
  obtain ⟨rfl, hZ⟩ := hv
  have hx := B.exec
  have hb := B.bytes
  have hr := B.returns
  have hts := atoms_spec (ws := jw_coder) B.pre
  have hw : ∀ {w : Cond}, w ∈ ax_gw → w.before _ s = true := fun h => hts _ (List.mem_cons_of_mem _ h)
  have hown : s.vm.findClass "java/lang/String" = some m.cls := findClass_of_methodNamed B.named
  have hlocks := B.notSynchronized
  have hS : va_S jx_F s.heap s.heap [] := va_S.rf
  have hV := hZ.1.1 0 (by decide)
  have hl := lv_entry ([.ref (aK 0)] : List Value) (n := 1) (Nat.le_of_ble_eq_true rfl)
  rw [lg_entry_eq]
  generalize (lg_sl ([.ref (aK 0)] : List Value) ++ List.replicate (1 - (lg_sl ([.ref (aK 0)] : List Value)).length) Slot.unset).toArray = ls at hl ⊢
  have hl : lv_has ls 1 [(0, .ref (aK 0))] := hl
  refine va_gets hx hb hZ.2 hS hown (hw jf_cs) (fun _ h => h) (show decode prog_12_method_152_code 0 = .ok (.getstatic 38, 3) by decide +kernel) ?_
  refine lv_if_eq (tgt := 13) hx hb (show decode prog_12_method_152_code 3 = .ok (.ifCond .eq 10, 3) by decide +kernel) (by decide) (fun h => absurd h (by decide)) (fun _ => ?_)
  refine lv_aload_n hx hb (show decode prog_12_method_152_code 6 = .ok (.aload_n 0, 1) by decide +kernel) rfl (lv_at hl 0 rfl) ?_
  refine vk_getf hx hb hV.2.1 hS hown (hw jf_co) (fun _ h => h) (show decode prog_12_method_152_code 7 = .ok (.getfield 15, 3) by decide +kernel) ?_
  refine lv_goto (tgt := 14) hx hb (show decode prog_12_method_152_code 10 = .ok (.goto 4, 3) by decide +kernel) (by decide) ?_
  exact W.zret (v := 0) hx hb hr (by decide) (fun t ht hW => ⟨⟨0, (), rfl, rfl, trivial⟩, hS.F ht⟩) hS.2.2 (show decode prog_12_method_152_code 14 = .ok (.ireturn, 1) by decide +kernel)
theorem jm_lat : Met l jy_lat jw_lat ({ frames := 0, cells := 0, slots := 0, locals := 0 }) (jx_Pc aK aV [.ref (aK 0)]) (jx_Q 1) 0 0 jx_F := by
  refine Met.ofW (cc := prog_12_method_154_code) (maxL := 1) (ret := some .boolean) (ws' := ax_gw) (by decide) rfl ?_
  intro p e s m args below meth c s₁ B hml hv
  obtain ⟨rfl, hZ⟩ := hv
  have hx := B.exec
  have hb := B.bytes
  have hr := B.returns
  have hts := atoms_spec (ws := jw_lat) B.pre
  have hw : ∀ {w : Cond}, w ∈ ax_gw → w.before _ s = true := fun h => hts _ (List.mem_cons_of_mem _ h)
  have hown : s.vm.findClass "java/lang/String" = some m.cls := findClass_of_methodNamed B.named
  have hlocks := B.notSynchronized
  have hS : va_S jx_F s.heap s.heap [] := va_S.rf
  have hV := hZ.1.1 0 (by decide)
  have hl := lv_entry ([.ref (aK 0)] : List Value) (n := 1) (Nat.le_of_ble_eq_true rfl)
  rw [lg_entry_eq]
  generalize (lg_sl ([.ref (aK 0)] : List Value) ++ List.replicate (1 - (lg_sl ([.ref (aK 0)] : List Value)).length) Slot.unset).toArray = ls at hl ⊢
  have hl : lv_has ls 1 [(0, .ref (aK 0))] := hl
  refine va_gets hx hb hZ.2 hS hown (hw jf_cs) (fun _ h => h) (show decode prog_12_method_154_code 0 = .ok (.getstatic 38, 3) by decide +kernel) ?_
  refine lv_if_eq (tgt := 17) hx hb (show decode prog_12_method_154_code 3 = .ok (.ifCond .eq 14, 3) by decide +kernel) (by decide) (fun h => absurd h (by decide)) (fun _ => ?_)
  refine lv_aload_n hx hb (show decode prog_12_method_154_code 6 = .ok (.aload_n 0, 1) by decide +kernel) rfl (lv_at hl 0 rfl) ?_
  refine vk_getf hx hb hV.2.1 hS hown (hw jf_co) (fun _ h => h) (show decode prog_12_method_154_code 7 = .ok (.getfield 15, 3) by decide +kernel) ?_
  refine lv_if_ne (tgt := 17) hx hb (show decode prog_12_method_154_code 10 = .ok (.ifCond .ne 7, 3) by decide +kernel) (by decide) (fun h => absurd rfl h) (fun _ => ?_)
  refine lv_iconst (v := 1) hx hb (show decode prog_12_method_154_code 13 = .ok (.iconst 1, 1) by decide +kernel) (by decide) ?_
  refine lv_goto (tgt := 18) hx hb (show decode prog_12_method_154_code 14 = .ok (.goto 4, 3) by decide +kernel) (by decide) ?_
  exact W.zret (v := 1) hx hb hr (by decide) (fun t ht hW => ⟨⟨1, (), rfl, rfl, trivial⟩, hS.F ht⟩) hS.2.2 (show decode prog_12_method_154_code 18 = .ok (.ireturn, 1) by decide +kernel)
theorem jm_length : Met l jy_length jw_length ({ frames := 1, cells := 0, slots := 0, locals := 20 }) (jx_Pc aK aV [.ref (aK 0)]) (jx_Q 5) 0 0 jx_F := by
  refine Met.ofW (cc := prog_12_method_54_code) (maxL := 1) (ret := some .int) (ws' := ax_gw) (by decide) rfl ?_
  intro p e s m args below meth c s₁ B hml hv
  obtain ⟨rfl, hZ⟩ := hv
  have hx := B.exec
  have hb := B.bytes
  have hr := B.returns
  have hts := atoms_spec (ws := jw_length) B.pre
  have hw : ∀ {w : Cond}, w ∈ ax_gw → w.before _ s = true := fun h => hts _ (List.mem_cons_of_mem _ h)
  have hown : s.vm.findClass "java/lang/String" = some m.cls := findClass_of_methodNamed B.named
  have hlocks := B.notSynchronized
  have hS : va_S jx_F s.heap s.heap [] := va_S.rf
  have hV := hZ.1.1 0 (by decide)
  have hl := lv_entry ([.ref (aK 0)] : List Value) (n := 1) (Nat.le_of_ble_eq_true rfl)
  rw [lg_entry_eq]
  generalize (lg_sl ([.ref (aK 0)] : List Value) ++ List.replicate (1 - (lg_sl ([.ref (aK 0)] : List Value)).length) Slot.unset).toArray = ls at hl ⊢
  have hl : lv_has ls 1 [(0, .ref (aK 0))] := hl
  refine lv_aload_n hx hb (show decode prog_12_method_54_code 0 = .ok (.aload_n 0, 1) by decide +kernel) rfl (lv_at hl 0 rfl) ?_
  refine vk_getf hx hb hV.2.2.1 hS hown (hw jf_va) (fun _ h => h) (show decode prog_12_method_54_code 1 = .ok (.getfield 9, 3) by decide +kernel) ?_
  refine va_tlen (v := 5) hx hb hV.2.2.2 hS rfl (show decode prog_12_method_54_code 4 = .ok (.arraylength, 1) by decide +kernel) ?_
  refine lv_aload_n hx hb (show decode prog_12_method_54_code 5 = .ok (.aload_n 0, 1) by decide +kernel) rfl (lv_at hl 0 rfl) ?_
  refine va_calli (va_runV (As := []) (rest := [.int 5]) ⟨hx, hb, hml, hown, hts⟩ (jm_coder (aK := aK) (aV := aV)) (cwV 0 hts (jx_gV jl_coder ji_coder js_coder jn_S jc_coder) rfl rfl rfl (by decide +kernel) ⟨Nat.le_of_ble_eq_true rfl, Nat.le_of_ble_eq_true rfl⟩) ⟨jx_blind, vk_recv hZ.1 (by decide) hS, fun U hU hW => ⟨rfl, by show ax_SZ aK aV jx_F U U.heap; rw [hU]; exact ax_SZ.moved hW.alike (ax_SZ.kept hZ hS.2.1)⟩⟩ rfl rfl hl.1 rfl (lv_room (Nat.le_of_ble_eq_true rfl)) (show decode prog_12_method_54_code 6 = .ok (.invokevirtual 335, 3) by decide +kernel) ⟨Nat.le_of_ble_eq_true rfl, Nat.le_of_ble_eq_true rfl⟩) hS (fun q _ h => h) (fun q h => h) (fun r9 u t H1 locs ht hvm h9 hB hz1 hk1 hS => ?_)
  subst h9
  refine lv_ishr hx hb (show decode prog_12_method_54_code 9 = .ok (.ishr, 1) by decide +kernel) ?_
  exact W.iret (v := (5 >>> ((0 : Int32) &&& 31))) hx hb hr (fun t ht hW => ⟨⟨(5 >>> ((0 : Int32) &&& 31)), (), rfl, by decide, trivial⟩, hS.F ht⟩) hS.2.2 (show decode prog_12_method_54_code 10 = .ok (.ireturn, 1) by decide +kernel)
theorem jm_can (x : Int32) : Met l jy_can jw_can ({ frames := 0, cells := 0, slots := 0, locals := 0 }) (jx_Pc aK aV [.int x]) (jx_Q (jx_ce x)) 0 0 jx_F := by
  refine Met.ofW (cc := prog_13_method_4_code) (maxL := 1) (ret := some .boolean) (ws' := ax_gw) (by decide) rfl ?_
  intro p e s m args below meth c s₁ B hml hv
  obtain ⟨rfl, hZ⟩ := hv
  have hx := B.exec
  have hb := B.bytes
  have hr := B.returns
  have hts := atoms_spec (ws := jw_can) B.pre
  have hw : ∀ {w : Cond}, w ∈ ax_gw → w.before _ s = true := fun h => hts _ (List.mem_cons_of_mem _ h)
  have hown : s.vm.findClass "java/lang/StringLatin1" = some m.cls := findClass_of_methodNamed B.named
  have hlocks := B.notSynchronized
  have hS : va_S jx_F s.heap s.heap [] := va_S.rf
  have hV := hZ.1.1 0 (by decide)
  have hl := lv_entry ([.int x] : List Value) (n := 1) (Nat.le_of_ble_eq_true rfl)
  rw [lg_entry_eq]
  generalize (lg_sl ([.int x] : List Value) ++ List.replicate (1 - (lg_sl ([.int x] : List Value)).length) Slot.unset).toArray = ls at hl ⊢
  have hl : lv_has ls 1 [(0, .int x)] := hl
  refine lv_iload_n hx hb (show decode prog_13_method_4_code 0 = .ok (.iload_n 0, 1) by decide +kernel) rfl (lv_at hl 0 rfl) ?_
  refine lv_if_lt (tgt := 15) hx hb (show decode prog_13_method_4_code 1 = .ok (.ifCond .lt 14, 3) by decide +kernel) (by decide) (fun h0 => ?_) (fun h0 => ?_)
  · refine lv_iconst (v := 0) hx hb (show decode prog_13_method_4_code 15 = .ok (.iconst 0, 1) by decide +kernel) (by decide) ?_
    exact W.zret (v := 0) hx hb hr (by decide) (fun t ht hW => ⟨⟨0, (), rfl, by unfold jx_ce; rw [if_pos h0], trivial⟩, hS.F ht⟩) hS.2.2 (show decode prog_13_method_4_code 16 = .ok (.ireturn, 1) by decide +kernel)
  · refine lv_iload_n hx hb (show decode prog_13_method_4_code 4 = .ok (.iload_n 0, 1) by decide +kernel) rfl (lv_at hl 0 rfl) ?_
    refine lv_sipush (v := 255) hx hb (show decode prog_13_method_4_code 5 = .ok (.sipush 255, 3) by decide +kernel) (by decide) ?_
    refine lv_icmp_gt (tgt := 15) hx hb (show decode prog_13_method_4_code 8 = .ok (.if_icmp .gt 7, 3) by decide +kernel) (by decide) (fun h1 => ?_) (fun h1 => ?_)
    · refine lv_iconst (v := 0) hx hb (show decode prog_13_method_4_code 15 = .ok (.iconst 0, 1) by decide +kernel) (by decide) ?_
      exact W.zret (v := 0) hx hb hr (by decide) (fun t ht hW => ⟨⟨0, (), rfl, by unfold jx_ce; rw [if_neg h0, if_pos h1], trivial⟩, hS.F ht⟩) hS.2.2 (show decode prog_13_method_4_code 16 = .ok (.ireturn, 1) by decide +kernel)
    · refine lv_iconst (v := 1) hx hb (show decode prog_13_method_4_code 11 = .ok (.iconst 1, 1) by decide +kernel) (by decide) ?_
      refine lv_goto (tgt := 16) hx hb (show decode prog_13_method_4_code 12 = .ok (.goto 4, 3) by decide +kernel) (by decide) ?_
      exact W.zret (v := 1) hx hb hr (by decide) (fun t ht hW => ⟨⟨1, (), rfl, by unfold jx_ce; rw [if_neg h0, if_neg h1], trivial⟩, hS.F ht⟩) hS.2.2 (show decode prog_13_method_4_code 16 = .ok (.ireturn, 1) by decide +kernel)
theorem jm_ich (x : Int32) : Met l jy_ich jw_ich ({ frames := 0, cells := 0, slots := 0, locals := 0 }) (jx_Pc aK aV [.ref (aV 0), .int x, .int 0, .int 5]) (jx_Q (jx_ic x.toInt8.toInt32)) 0 0 jx_F := by
  refine Met.ofW (cc := prog_13_method_23_code) (maxL := 6) (ret := some .int) (ws' := ax_gw) (by decide) rfl ?_
  intro p e s m args below meth c s₁ B hml hv
  obtain ⟨rfl, hZ⟩ := hv
  have hx := B.exec
  have hb := B.bytes
  have hr := B.returns
  have hts := atoms_spec (ws := jw_ich) B.pre
  have hw : ∀ {w : Cond}, w ∈ ax_gw → w.before _ s = true := fun h => hts _ (List.mem_cons_of_mem _ h)
  have hown : s.vm.findClass "java/lang/StringLatin1" = some m.cls := findClass_of_methodNamed B.named
  have hlocks := B.notSynchronized
  have hS : va_S jx_F s.heap s.heap [] := va_S.rf
  have hV := hZ.1.1 0 (by decide)
  have hl := lv_entry ([.ref (aV 0), .int x, .int 0, .int 5] : List Value) (n := 6) (Nat.le_of_ble_eq_true rfl)
  rw [lg_entry_eq]
  generalize (lg_sl ([.ref (aV 0), .int x, .int 0, .int 5] : List Value) ++ List.replicate (6 - (lg_sl ([.ref (aV 0), .int x, .int 0, .int 5] : List Value)).length) Slot.unset).toArray = ls at hl ⊢
  have hl : lv_has ls 6 [(0, .ref (aV 0)), (1, .int x), (2, .int 0), (3, .int 5)] := hl
  refine lv_iload_n hx hb (show decode prog_13_method_23_code 0 = .ok (.iload_n 1, 1) by decide +kernel) rfl (lv_at hl 1 rfl) ?_
  refine lv_i2b hx hb (show decode prog_13_method_23_code 1 = .ok (.i2b, 1) by decide +kernel) rfl ?_
  refine lv_istore (lv' := [(4, .int x.toInt8.toInt32), (0, .ref (aV 0)), (1, .int x), (2, .int 0), (3, .int 5)]) hx hb (show decode prog_13_method_23_code 2 = .ok (.istore 4, 2) by decide +kernel) hl (by decide) rfl (fun ls hl => ?_)
  refine lv_iload_n hx hb (show decode prog_13_method_23_code 4 = .ok (.iload_n 2, 1) by decide +kernel) rfl (lv_at hl 3 rfl) ?_
  refine lv_istore (lv' := [(5, .int 0), (4, .int x.toInt8.toInt32), (0, .ref (aV 0)), (1, .int x), (2, .int 0), (3, .int 5)]) hx hb (show decode prog_13_method_23_code 5 = .ok (.istore 5, 2) by decide +kernel) hl (by decide) rfl (fun ls hl => ?_)
  refine lv_iload hx hb (show decode prog_13_method_23_code 7 = .ok (.iload 5, 2) by decide +kernel) (lv_at hl 0 rfl) ?_
  refine lv_iload_n hx hb (show decode prog_13_method_23_code 9 = .ok (.iload_n 3, 1) by decide +kernel) rfl (lv_at hl 5 rfl) ?_
  refine lv_icmp_ge (tgt := 31) hx hb (show decode prog_13_method_23_code 10 = .ok (.if_icmp .ge 21, 3) by decide +kernel) (by decide) (fun h => absurd h (by decide)) (fun _ => ?_)
  refine lv_aload_n hx hb (show decode prog_13_method_23_code 13 = .ok (.aload_n 0, 1) by decide +kernel) rfl (lv_at hl 2 rfl) ?_
  refine lv_iload hx hb (show decode prog_13_method_23_code 14 = .ok (.iload 5, 2) by decide +kernel) (lv_at hl 0 rfl) ?_
  refine va_tb (v := .int 112) hx hb hV.2.2.2 hS (vp_in_nI (n := 0) (by decide) (by decide)) rfl (show decode prog_13_method_23_code 16 = .ok (.baload, 1) by decide +kernel) ?_
  refine lv_iload hx hb (show decode prog_13_method_23_code 17 = .ok (.iload 4, 2) by decide +kernel) (lv_at hl 1 rfl) ?_
  refine lv_icmp_ne (tgt := 25) hx hb (show decode prog_13_method_23_code 19 = .ok (.if_icmp .ne 6, 3) by decide +kernel) (by decide) (fun h0 => ?_) (fun h0 => ?_)
  rotate_left
  · refine lv_iload hx hb (show decode prog_13_method_23_code 22 = .ok (.iload 5, 2) by decide +kernel) (lv_at hl 0 rfl) ?_
    exact W.iret (v := 0) hx hb hr (fun t ht hW => ⟨⟨0, (), rfl, by unfold jx_ic; rw [if_pos h0.symm], trivial⟩, hS.F ht⟩) hS.2.2 (show decode prog_13_method_23_code 24 = .ok (.ireturn, 1) by decide +kernel)
  refine lv_iinc (v := 1) (lv' := [(5, .int 1), (4, .int x.toInt8.toInt32), (0, .ref (aV 0)), (1, .int x), (2, .int 0), (3, .int 5)]) hx hb (show decode prog_13_method_23_code 25 = .ok (.iinc 5 1, 3) by decide +kernel) hl (k := 0) rfl (by decide) (by decide) rfl (fun ls hl => ?_)
  refine lv_goto (tgt := 7) hx hb (show decode prog_13_method_23_code 28 = .ok (.goto (-21), 3) by decide +kernel) (by decide) ?_
  refine lv_iload hx hb (show decode prog_13_method_23_code 7 = .ok (.iload 5, 2) by decide +kernel) (lv_at hl 0 rfl) ?_
  refine lv_iload_n hx hb (show decode prog_13_method_23_code 9 = .ok (.iload_n 3, 1) by decide +kernel) rfl (lv_at hl 5 rfl) ?_
  refine lv_icmp_ge (tgt := 31) hx hb (show decode prog_13_method_23_code 10 = .ok (.if_icmp .ge 21, 3) by decide +kernel) (by decide) (fun h => absurd h (by decide)) (fun _ => ?_)
  refine lv_aload_n hx hb (show decode prog_13_method_23_code 13 = .ok (.aload_n 0, 1) by decide +kernel) rfl (lv_at hl 2 rfl) ?_
  refine lv_iload hx hb (show decode prog_13_method_23_code 14 = .ok (.iload 5, 2) by decide +kernel) (lv_at hl 0 rfl) ?_
  refine va_tb (v := .int 102) hx hb hV.2.2.2 hS (vp_in_nI (n := 1) (by decide) (by decide)) rfl (show decode prog_13_method_23_code 16 = .ok (.baload, 1) by decide +kernel) ?_
  refine lv_iload hx hb (show decode prog_13_method_23_code 17 = .ok (.iload 4, 2) by decide +kernel) (lv_at hl 1 rfl) ?_
  refine lv_icmp_ne (tgt := 25) hx hb (show decode prog_13_method_23_code 19 = .ok (.if_icmp .ne 6, 3) by decide +kernel) (by decide) (fun h1 => ?_) (fun h1 => ?_)
  rotate_left
  · refine lv_iload hx hb (show decode prog_13_method_23_code 22 = .ok (.iload 5, 2) by decide +kernel) (lv_at hl 0 rfl) ?_
    exact W.iret (v := 1) hx hb hr (fun t ht hW => ⟨⟨1, (), rfl, by unfold jx_ic; rw [if_neg (fun e => h0 e.symm)]; rw [if_pos h1.symm], trivial⟩, hS.F ht⟩) hS.2.2 (show decode prog_13_method_23_code 24 = .ok (.ireturn, 1) by decide +kernel)
  refine lv_iinc (v := 2) (lv' := [(5, .int 2), (4, .int x.toInt8.toInt32), (0, .ref (aV 0)), (1, .int x), (2, .int 0), (3, .int 5)]) hx hb (show decode prog_13_method_23_code 25 = .ok (.iinc 5 1, 3) by decide +kernel) hl (k := 0) rfl (by decide) (by decide) rfl (fun ls hl => ?_)
  refine lv_goto (tgt := 7) hx hb (show decode prog_13_method_23_code 28 = .ok (.goto (-21), 3) by decide +kernel) (by decide) ?_
  refine lv_iload hx hb (show decode prog_13_method_23_code 7 = .ok (.iload 5, 2) by decide +kernel) (lv_at hl 0 rfl) ?_
  refine lv_iload_n hx hb (show decode prog_13_method_23_code 9 = .ok (.iload_n 3, 1) by decide +kernel) rfl (lv_at hl 5 rfl) ?_
  refine lv_icmp_ge (tgt := 31) hx hb (show decode prog_13_method_23_code 10 = .ok (.if_icmp .ge 21, 3) by decide +kernel) (by decide) (fun h => absurd h (by decide)) (fun _ => ?_)
  refine lv_aload_n hx hb (show decode prog_13_method_23_code 13 = .ok (.aload_n 0, 1) by decide +kernel) rfl (lv_at hl 2 rfl) ?_
  refine lv_iload hx hb (show decode prog_13_method_23_code 14 = .ok (.iload 5, 2) by decide +kernel) (lv_at hl 0 rfl) ?_
  refine va_tb (v := .int 109) hx hb hV.2.2.2 hS (vp_in_nI (n := 2) (by decide) (by decide)) rfl (show decode prog_13_method_23_code 16 = .ok (.baload, 1) by decide +kernel) ?_
  refine lv_iload hx hb (show decode prog_13_method_23_code 17 = .ok (.iload 4, 2) by decide +kernel) (lv_at hl 1 rfl) ?_
  refine lv_icmp_ne (tgt := 25) hx hb (show decode prog_13_method_23_code 19 = .ok (.if_icmp .ne 6, 3) by decide +kernel) (by decide) (fun h2 => ?_) (fun h2 => ?_)
  rotate_left
  · refine lv_iload hx hb (show decode prog_13_method_23_code 22 = .ok (.iload 5, 2) by decide +kernel) (lv_at hl 0 rfl) ?_
    exact W.iret (v := 2) hx hb hr (fun t ht hW => ⟨⟨2, (), rfl, by unfold jx_ic; rw [if_neg (fun e => h0 e.symm)]; rw [if_neg (fun e => h1 e.symm)]; rw [if_pos h2.symm], trivial⟩, hS.F ht⟩) hS.2.2 (show decode prog_13_method_23_code 24 = .ok (.ireturn, 1) by decide +kernel)
  refine lv_iinc (v := 3) (lv' := [(5, .int 3), (4, .int x.toInt8.toInt32), (0, .ref (aV 0)), (1, .int x), (2, .int 0), (3, .int 5)]) hx hb (show decode prog_13_method_23_code 25 = .ok (.iinc 5 1, 3) by decide +kernel) hl (k := 0) rfl (by decide) (by decide) rfl (fun ls hl => ?_)
  refine lv_goto (tgt := 7) hx hb (show decode prog_13_method_23_code 28 = .ok (.goto (-21), 3) by decide +kernel) (by decide) ?_
  refine lv_iload hx hb (show decode prog_13_method_23_code 7 = .ok (.iload 5, 2) by decide +kernel) (lv_at hl 0 rfl) ?_
  refine lv_iload_n hx hb (show decode prog_13_method_23_code 9 = .ok (.iload_n 3, 1) by decide +kernel) rfl (lv_at hl 5 rfl) ?_
  refine lv_icmp_ge (tgt := 31) hx hb (show decode prog_13_method_23_code 10 = .ok (.if_icmp .ge 21, 3) by decide +kernel) (by decide) (fun h => absurd h (by decide)) (fun _ => ?_)
  refine lv_aload_n hx hb (show decode prog_13_method_23_code 13 = .ok (.aload_n 0, 1) by decide +kernel) rfl (lv_at hl 2 rfl) ?_
  refine lv_iload hx hb (show decode prog_13_method_23_code 14 = .ok (.iload 5, 2) by decide +kernel) (lv_at hl 0 rfl) ?_
  refine va_tb (v := .int 100) hx hb hV.2.2.2 hS (vp_in_nI (n := 3) (by decide) (by decide)) rfl (show decode prog_13_method_23_code 16 = .ok (.baload, 1) by decide +kernel) ?_
  refine lv_iload hx hb (show decode prog_13_method_23_code 17 = .ok (.iload 4, 2) by decide +kernel) (lv_at hl 1 rfl) ?_
  refine lv_icmp_ne (tgt := 25) hx hb (show decode prog_13_method_23_code 19 = .ok (.if_icmp .ne 6, 3) by decide +kernel) (by decide) (fun h3 => ?_) (fun h3 => ?_)
  rotate_left
  · refine lv_iload hx hb (show decode prog_13_method_23_code 22 = .ok (.iload 5, 2) by decide +kernel) (lv_at hl 0 rfl) ?_
    exact W.iret (v := 3) hx hb hr (fun t ht hW => ⟨⟨3, (), rfl, by unfold jx_ic; rw [if_neg (fun e => h0 e.symm)]; rw [if_neg (fun e => h1 e.symm)]; rw [if_neg (fun e => h2 e.symm)]; rw [if_pos h3.symm], trivial⟩, hS.F ht⟩) hS.2.2 (show decode prog_13_method_23_code 24 = .ok (.ireturn, 1) by decide +kernel)
  refine lv_iinc (v := 4) (lv' := [(5, .int 4), (4, .int x.toInt8.toInt32), (0, .ref (aV 0)), (1, .int x), (2, .int 0), (3, .int 5)]) hx hb (show decode prog_13_method_23_code 25 = .ok (.iinc 5 1, 3) by decide +kernel) hl (k := 0) rfl (by decide) (by decide) rfl (fun ls hl => ?_)
  refine lv_goto (tgt := 7) hx hb (show decode prog_13_method_23_code 28 = .ok (.goto (-21), 3) by decide +kernel) (by decide) ?_
  refine lv_iload hx hb (show decode prog_13_method_23_code 7 = .ok (.iload 5, 2) by decide +kernel) (lv_at hl 0 rfl) ?_
  refine lv_iload_n hx hb (show decode prog_13_method_23_code 9 = .ok (.iload_n 3, 1) by decide +kernel) rfl (lv_at hl 5 rfl) ?_
  refine lv_icmp_ge (tgt := 31) hx hb (show decode prog_13_method_23_code 10 = .ok (.if_icmp .ge 21, 3) by decide +kernel) (by decide) (fun h => absurd h (by decide)) (fun _ => ?_)
  refine lv_aload_n hx hb (show decode prog_13_method_23_code 13 = .ok (.aload_n 0, 1) by decide +kernel) rfl (lv_at hl 2 rfl) ?_
  refine lv_iload hx hb (show decode prog_13_method_23_code 14 = .ok (.iload 5, 2) by decide +kernel) (lv_at hl 0 rfl) ?_
  refine va_tb (v := .int 103) hx hb hV.2.2.2 hS (vp_in_nI (n := 4) (by decide) (by decide)) rfl (show decode prog_13_method_23_code 16 = .ok (.baload, 1) by decide +kernel) ?_
  refine lv_iload hx hb (show decode prog_13_method_23_code 17 = .ok (.iload 4, 2) by decide +kernel) (lv_at hl 1 rfl) ?_
  refine lv_icmp_ne (tgt := 25) hx hb (show decode prog_13_method_23_code 19 = .ok (.if_icmp .ne 6, 3) by decide +kernel) (by decide) (fun h4 => ?_) (fun h4 => ?_)
  rotate_left
  · refine lv_iload hx hb (show decode prog_13_method_23_code 22 = .ok (.iload 5, 2) by decide +kernel) (lv_at hl 0 rfl) ?_
    exact W.iret (v := 4) hx hb hr (fun t ht hW => ⟨⟨4, (), rfl, by unfold jx_ic; rw [if_neg (fun e => h0 e.symm)]; rw [if_neg (fun e => h1 e.symm)]; rw [if_neg (fun e => h2 e.symm)]; rw [if_neg (fun e => h3 e.symm)]; rw [if_pos h4.symm], trivial⟩, hS.F ht⟩) hS.2.2 (show decode prog_13_method_23_code 24 = .ok (.ireturn, 1) by decide +kernel)
  refine lv_iinc (v := 5) (lv' := [(5, .int 5), (4, .int x.toInt8.toInt32), (0, .ref (aV 0)), (1, .int x), (2, .int 0), (3, .int 5)]) hx hb (show decode prog_13_method_23_code 25 = .ok (.iinc 5 1, 3) by decide +kernel) hl (k := 0) rfl (by decide) (by decide) rfl (fun ls hl => ?_)
  refine lv_goto (tgt := 7) hx hb (show decode prog_13_method_23_code 28 = .ok (.goto (-21), 3) by decide +kernel) (by decide) ?_
  refine lv_iload hx hb (show decode prog_13_method_23_code 7 = .ok (.iload 5, 2) by decide +kernel) (lv_at hl 0 rfl) ?_
  refine lv_iload_n hx hb (show decode prog_13_method_23_code 9 = .ok (.iload_n 3, 1) by decide +kernel) rfl (lv_at hl 5 rfl) ?_
  refine lv_icmp_ge (tgt := 31) hx hb (show decode prog_13_method_23_code 10 = .ok (.if_icmp .ge 21, 3) by decide +kernel) (by decide) (fun _ => ?_) (fun h => absurd (by decide) h)
  refine lv_iconst (v := -1) hx hb (show decode prog_13_method_23_code 31 = .ok (.iconst (-1), 1) by decide +kernel) (by decide) ?_
  exact W.iret (v := (-1)) hx hb hr (fun t ht hW => ⟨⟨(-1), (), rfl, by unfold jx_ic; rw [if_neg (fun e => h0 e.symm)]; rw [if_neg (fun e => h1 e.symm)]; rw [if_neg (fun e => h2 e.symm)]; rw [if_neg (fun e => h3 e.symm)]; rw [if_neg (fun e => h4 e.symm)], trivial⟩, hS.F ht⟩) hS.2.2 (show decode prog_13_method_23_code 32 = .ok (.ireturn, 1) by decide +kernel)
theorem jm_lix (x : Int32) : Met l jy_lix jw_lix ({ frames := 1, cells := 0, slots := 0, locals := 40 }) (jx_Pc aK aV [.ref (aV 0), .int x, .int 0, .int 5]) (jx_Q (ax_idx x)) 0 0 jx_F := by
  refine Met.ofW (cc := prog_13_method_22_code) (maxL := 4) (ret := some .int) (ws' := ax_gw) (by decide) rfl ?_
  intro p e s m args below meth c s₁ B hml hv
  obtain ⟨rfl, hZ⟩ := hv
  have hx := B.exec
  have hb := B.bytes
  have hr := B.returns
  have hts := atoms_spec (ws := jw_lix) B.pre
  have hw : ∀ {w : Cond}, w ∈ ax_gw → w.before _ s = true := fun h => hts _ (List.mem_cons_of_mem _ h)
  have hown : s.vm.findClass "java/lang/StringLatin1" = some m.cls := findClass_of_methodNamed B.named
  have hlocks := B.notSynchronized
  have hS : va_S jx_F s.heap s.heap [] := va_S.rf
  have hV := hZ.1.1 0 (by decide)
  have hl := lv_entry ([.ref (aV 0), .int x, .int 0, .int 5] : List Value) (n := 4) (Nat.le_of_ble_eq_true rfl)
  rw [lg_entry_eq]
  generalize (lg_sl ([.ref (aV 0), .int x, .int 0, .int 5] : List Value) ++ List.replicate (4 - (lg_sl ([.ref (aV 0), .int x, .int 0, .int 5] : List Value)).length) Slot.unset).toArray = ls at hl ⊢
  have hl : lv_has ls 4 [(0, .ref (aV 0)), (1, .int x), (2, .int 0), (3, .int 5)] := hl
  rw [← jx_res x]
  refine lv_iload_n hx hb (show decode prog_13_method_22_code 0 = .ok (.iload_n 1, 1) by decide +kernel) rfl (lv_at hl 1 rfl) ?_
  refine va_calli (va_runS (As := [.int x]) (rest := []) ⟨hx, hb, hml, hown, hts⟩ (jm_can (aK := aK) (aV := aV) x) (va_cwS 1 hts (jx_gS jl_can ji_can jn_L jc_can) rfl rfl rfl (by decide +kernel) ⟨Nat.le_of_ble_eq_true rfl, Nat.le_of_ble_eq_true rfl⟩) ⟨jx_blind, fun U hU hW => ⟨rfl, by show ax_SZ aK aV jx_F U U.heap; rw [hU]; exact ax_SZ.moved hW.alike (ax_SZ.kept hZ hS.2.1)⟩⟩ rfl rfl hl.1 rfl (lv_room (Nat.le_of_ble_eq_true rfl)) (show decode prog_13_method_22_code 1 = .ok (.invokestatic 88, 3) by decide +kernel) ⟨Nat.le_of_ble_eq_true rfl, Nat.le_of_ble_eq_true rfl⟩) hS (fun q _ h => h) (fun q h => h) (fun r9 u t H1 locs ht hvm h9 hB hz1 hk1 hS => ?_)
  subst h9
  refine lv_if_ne (tgt := 9) hx hb (show decode prog_13_method_22_code 4 = .ok (.ifCond .ne 5, 3) by decide +kernel) (by decide) (fun h0 => ?_) (fun h0 => ?_)
  rotate_left
  · refine lv_iconst (v := -1) hx hb (show decode prog_13_method_22_code 7 = .ok (.iconst (-1), 1) by decide +kernel) (by decide) ?_
    exact W.iret (v := (-1)) hx hb hr (fun t ht hW => ⟨⟨(-1), (), rfl, by rw [if_pos h0], trivial⟩, hS.F ht⟩) hS.2.2 (show decode prog_13_method_22_code 8 = .ok (.ireturn, 1) by decide +kernel)
  rw [if_neg h0]
  refine lv_iload_n hx hb (show decode prog_13_method_22_code 9 = .ok (.iload_n 2, 1) by decide +kernel) rfl (lv_at hl 2 rfl) ?_
  refine lv_iconst (v := 0) hx hb (show decode prog_13_method_22_code 10 = .ok (.iconst 0, 1) by decide +kernel) (by decide) ?_
  refine va_mmax hx hb (hml.trans hl.1.symm) hown (hw jl_max) (hw ax_mmaxs) (hw ax_mai) (hw ax_mmaxc) (Nat.le_of_ble_eq_true rfl) (Nat.le_of_ble_eq_true rfl) (Nat.le_of_ble_eq_true rfl) (Nat.le_of_ble_eq_true rfl) (show decode prog_13_method_22_code 11 = .ok (.invokestatic 92, 3) by decide +kernel) ?_
  refine lv_istore_n (lv' := [(2, .int 0), (0, .ref (aV 0)), (1, .int x), (3, .int 5)]) hx hb (show decode prog_13_method_22_code 14 = .ok (.istore_n 2, 1) by decide +kernel) rfl hl (by decide) rfl (fun ls hl => ?_)
  refine lv_iload_n hx hb (show decode prog_13_method_22_code 15 = .ok (.iload_n 3, 1) by decide +kernel) rfl (lv_at hl 3 rfl) ?_
  refine lv_aload_n hx hb (show decode prog_13_method_22_code 16 = .ok (.aload_n 0, 1) by decide +kernel) rfl (lv_at hl 1 rfl) ?_
  refine va_tlen (v := 5) hx hb hV.2.2.2 hS rfl (show decode prog_13_method_22_code 17 = .ok (.arraylength, 1) by decide +kernel) ?_
  refine va_mmin hx hb (hml.trans hl.1.symm) hown (hw jl_min) (hw ax_mmins) (hw ax_mai) (hw ax_mminc) (Nat.le_of_ble_eq_true rfl) (Nat.le_of_ble_eq_true rfl) (Nat.le_of_ble_eq_true rfl) (Nat.le_of_ble_eq_true rfl) (show decode prog_13_method_22_code 18 = .ok (.invokestatic 38, 3) by decide +kernel) ?_
  refine lv_istore_n (lv' := [(3, .int 5), (2, .int 0), (0, .ref (aV 0)), (1, .int x)]) hx hb (show decode prog_13_method_22_code 21 = .ok (.istore_n 3, 1) by decide +kernel) rfl hl (by decide) rfl (fun ls hl => ?_)
  refine lv_iload_n hx hb (show decode prog_13_method_22_code 22 = .ok (.iload_n 2, 1) by decide +kernel) rfl (lv_at hl 1 rfl) ?_
  refine lv_iload_n hx hb (show decode prog_13_method_22_code 23 = .ok (.iload_n 3, 1) by decide +kernel) rfl (lv_at hl 0 rfl) ?_
  refine lv_icmp_lt (tgt := 29) hx hb (show decode prog_13_method_22_code 24 = .ok (.if_icmp .lt 5, 3) by decide +kernel) (by decide) (fun _ => ?_) (fun h => absurd (by decide) h)
  refine lv_aload_n hx hb (show decode prog_13_method_22_code 29 = .ok (.aload_n 0, 1) by decide +kernel) rfl (lv_at hl 2 rfl) ?_
  refine lv_iload_n hx hb (show decode prog_13_method_22_code 30 = .ok (.iload_n 1, 1) by decide +kernel) rfl (lv_at hl 3 rfl) ?_
  refine lv_iload_n hx hb (show decode prog_13_method_22_code 31 = .ok (.iload_n 2, 1) by decide +kernel) rfl (lv_at hl 1 rfl) ?_
  refine lv_iload_n hx hb (show decode prog_13_method_22_code 32 = .ok (.iload_n 3, 1) by decide +kernel) rfl (lv_at hl 0 rfl) ?_
  refine va_calli (va_runS (As := [.ref (aV 0), .int x, .int 0, .int 5]) (rest := []) ⟨hx, hb, hml, hown, hts⟩ (jm_ich (aK := aK) (aV := aV) x) (va_cwS 4 hts (jx_gS jl_ich ji_ich jn_L jc_ich) rfl rfl rfl (by decide +kernel) ⟨Nat.le_of_ble_eq_true rfl, Nat.le_of_ble_eq_true rfl⟩) ⟨jx_blind, fun U hU hW => ⟨rfl, by show ax_SZ aK aV jx_F U U.heap; rw [hU]; exact ax_SZ.moved hW.alike (ax_SZ.kept hZ hS.2.1)⟩⟩ rfl rfl hl.1 rfl (lv_room (Nat.le_of_ble_eq_true rfl)) (show decode prog_13_method_22_code 33 = .ok (.invokestatic 95, 3) by decide +kernel) ⟨Nat.le_of_ble_eq_true rfl, Nat.le_of_ble_eq_true rfl⟩) hS (fun q _ h => h) (fun q h => h) (fun r9 u t H1 locs ht hvm h9 hB hz1 hk1 hS => ?_)
  subst h9
  exact W.iret (v := _) hx hb hr (fun t ht hW => ⟨⟨_, (), rfl, rfl, trivial⟩, hS.F ht⟩) hS.2.2 (show decode prog_13_method_22_code 36 = .ok (.ireturn, 1) by decide +kernel)
theorem jm_ix2 (x : Int32) : Met l jy_ix2 jw_ix2 ({ frames := 2, cells := 0, slots := 0, locals := 63 }) (jx_Pc aK aV [.ref (aK 0), .int x, .int 0]) (jx_Q (ax_idx x)) 0 0 jx_F := by
  refine Met.ofW (cc := prog_12_method_80_code) (maxL := 3) (ret := some .int) (ws' := ax_gw) (by decide) rfl ?_
  intro p e s m args below meth c s₁ B hml hv
  obtain ⟨rfl, hZ⟩ := hv
  have hx := B.exec
  have hb := B.bytes
  have hr := B.returns
  have hts := atoms_spec (ws := jw_ix2) B.pre
  have hw : ∀ {w : Cond}, w ∈ ax_gw → w.before _ s = true := fun h => hts _ (List.mem_cons_of_mem _ h)
  have hown : s.vm.findClass "java/lang/String" = some m.cls := findClass_of_methodNamed B.named
  have hlocks := B.notSynchronized
  have hS : va_S jx_F s.heap s.heap [] := va_S.rf
  have hV := hZ.1.1 0 (by decide)
  have hl := lv_entry ([.ref (aK 0), .int x, .int 0] : List Value) (n := 3) (Nat.le_of_ble_eq_true rfl)
  rw [lg_entry_eq]
  generalize (lg_sl ([.ref (aK 0), .int x, .int 0] : List Value) ++ List.replicate (3 - (lg_sl ([.ref (aK 0), .int x, .int 0] : List Value)).length) Slot.unset).toArray = ls at hl ⊢
  have hl : lv_has ls 3 [(0, .ref (aK 0)), (1, .int x), (2, .int 0)] := hl
  refine lv_aload_n hx hb (show decode prog_12_method_80_code 0 = .ok (.aload_n 0, 1) by decide +kernel) rfl (lv_at hl 0 rfl) ?_
  refine va_calli (va_runV (As := []) (rest := []) ⟨hx, hb, hml, hown, hts⟩ (jm_lat (aK := aK) (aV := aV)) (cwV 0 hts (jx_gV jl_lat ji_lat js_lat jn_S jc_lat) rfl rfl rfl (by decide +kernel) ⟨Nat.le_of_ble_eq_true rfl, Nat.le_of_ble_eq_true rfl⟩) ⟨jx_blind, vk_recv hZ.1 (by decide) hS, fun U hU hW => ⟨rfl, by show ax_SZ aK aV jx_F U U.heap; rw [hU]; exact ax_SZ.moved hW.alike (ax_SZ.kept hZ hS.2.1)⟩⟩ rfl rfl hl.1 rfl (lv_room (Nat.le_of_ble_eq_true rfl)) (show decode prog_12_method_80_code 1 = .ok (.invokevirtual 492, 3) by decide +kernel) ⟨Nat.le_of_ble_eq_true rfl, Nat.le_of_ble_eq_true rfl⟩) hS (fun q _ h => h) (fun q h => h) (fun r9 u t H1 locs ht hvm h9 hB hz1 hk1 hS => ?_)
  subst h9
  refine lv_if_eq (tgt := 23) hx hb (show decode prog_12_method_80_code 4 = .ok (.ifCond .eq 19, 3) by decide +kernel) (by decide) (fun h => absurd h (by decide)) (fun _ => ?_)
  refine lv_aload_n hx hb (show decode prog_12_method_80_code 7 = .ok (.aload_n 0, 1) by decide +kernel) rfl (lv_at hl 0 rfl) ?_
  refine vk_getf hx hb hV.2.2.1 hS hown (hw jf_va) (fun _ h => h) (show decode prog_12_method_80_code 8 = .ok (.getfield 9, 3) by decide +kernel) ?_
  refine lv_iload_n hx hb (show decode prog_12_method_80_code 11 = .ok (.iload_n 1, 1) by decide +kernel) rfl (lv_at hl 1 rfl) ?_
  refine lv_iload_n hx hb (show decode prog_12_method_80_code 12 = .ok (.iload_n 2, 1) by decide +kernel) rfl (lv_at hl 2 rfl) ?_
  refine lv_aload_n hx hb (show decode prog_12_method_80_code 13 = .ok (.aload_n 0, 1) by decide +kernel) rfl (lv_at hl 0 rfl) ?_
  refine va_calli (va_runV (As := []) (rest := [.int 0, .int x, .ref (aV 0)]) ⟨hx, hb, hml, hown, hts⟩ (jm_length (aK := aK) (aV := aV)) (cwV 0 hts (jx_gV jl_length ji_length js_length jn_S jc_length) rfl rfl rfl (by decide +kernel) ⟨Nat.le_of_ble_eq_true rfl, Nat.le_of_ble_eq_true rfl⟩) ⟨jx_blind, vk_recv hZ.1 (by decide) hS, fun U hU hW => ⟨rfl, by show ax_SZ aK aV jx_F U U.heap; rw [hU]; exact ax_SZ.moved hW.alike (ax_SZ.kept hZ hS.2.1)⟩⟩ rfl rfl hl.1 rfl (lv_room (Nat.le_of_ble_eq_true rfl)) (show decode prog_12_method_80_code 14 = .ok (.invokevirtual 505, 3) by decide +kernel) ⟨Nat.le_of_ble_eq_true rfl, Nat.le_of_ble_eq_true rfl⟩) hS (fun q _ h => h) (fun q h => h) (fun r9 u t H1 locs ht hvm h9 hB hz1 hk1 hS => ?_)
  subst h9
  refine va_calli (va_runS (As := [.ref (aV 0), .int x, .int 0, .int 5]) (rest := []) ⟨hx, hb, hml, hown, hts⟩ (jm_lix (aK := aK) (aV := aV) x) (va_cwS 4 hts (jx_gS jl_lix ji_lix jn_L jc_lix) rfl rfl rfl (by decide +kernel) ⟨Nat.le_of_ble_eq_true rfl, Nat.le_of_ble_eq_true rfl⟩) ⟨jx_blind, fun U hU hW => ⟨rfl, by show ax_SZ aK aV jx_F U U.heap; rw [hU]; exact ax_SZ.moved hW.alike (ax_SZ.kept hZ hS.2.1)⟩⟩ rfl rfl hl.1 rfl (lv_room (Nat.le_of_ble_eq_true rfl)) (show decode prog_12_method_80_code 17 = .ok (.invokestatic 637, 3) by decide +kernel) ⟨Nat.le_of_ble_eq_true rfl, Nat.le_of_ble_eq_true rfl⟩) hS (fun q _ h => h) (fun q h => h) (fun r9 u t H1 locs ht hvm h9 hB hz1 hk1 hS => ?_)
  subst h9
  refine lv_goto (tgt := 36) hx hb (show decode prog_12_method_80_code 20 = .ok (.goto 16, 3) by decide +kernel) (by decide) ?_
  exact W.iret (v := _) hx hb hr (fun t ht hW => ⟨⟨_, (), rfl, rfl, trivial⟩, hS.F ht⟩) hS.2.2 (show decode prog_12_method_80_code 36 = .ok (.ireturn, 1) by decide +kernel)
theorem jm_ix1 (x : Int32) : Met l jy_ix1 jw_ix1 ({ frames := 3, cells := 0, slots := 0, locals := 85 }) (jx_Pc aK aV [.ref (aK 0), .int x]) (jx_Q (ax_idx x)) 0 0 jx_F := by
  refine Met.ofW (cc := prog_12_method_79_code) (maxL := 2) (ret := some .int) (ws' := ax_gw) (by decide) rfl ?_
  intro p e s m args below meth c s₁ B hml hv
  obtain ⟨rfl, hZ⟩ := hv
  have hx := B.exec
  have hb := B.bytes
  have hr := B.returns
  have hts := atoms_spec (ws := jw_ix1) B.pre
  have hw : ∀ {w : Cond}, w ∈ ax_gw → w.before _ s = true := fun h => hts _ (List.mem_cons_of_mem _ h)
  have hown : s.vm.findClass "java/lang/String" = some m.cls := findClass_of_methodNamed B.named
  have hlocks := B.notSynchronized
  have hS : va_S jx_F s.heap s.heap [] := va_S.rf
  have hV := hZ.1.1 0 (by decide)
  have hl := lv_entry ([.ref (aK 0), .int x] : List Value) (n := 2) (Nat.le_of_ble_eq_true rfl)
  rw [lg_entry_eq]
  generalize (lg_sl ([.ref (aK 0), .int x] : List Value) ++ List.replicate (2 - (lg_sl ([.ref (aK 0), .int x] : List Value)).length) Slot.unset).toArray = ls at hl ⊢
  have hl : lv_has ls 2 [(0, .ref (aK 0)), (1, .int x)] := hl
  refine lv_aload_n hx hb (show decode prog_12_method_79_code 0 = .ok (.aload_n 0, 1) by decide +kernel) rfl (lv_at hl 0 rfl) ?_
  refine lv_iload_n hx hb (show decode prog_12_method_79_code 1 = .ok (.iload_n 1, 1) by decide +kernel) rfl (lv_at hl 1 rfl) ?_
  refine lv_iconst (v := 0) hx hb (show decode prog_12_method_79_code 2 = .ok (.iconst 0, 1) by decide +kernel) (by decide) ?_
  refine va_calli (va_runV (As := [.int x, .int 0]) (rest := []) ⟨hx, hb, hml, hown, hts⟩ (jm_ix2 (aK := aK) (aV := aV) x) (cwV 2 hts (jx_gV jl_ix2 ji_ix2 js_ix2 jn_S jc_ix2) rfl rfl rfl (by decide +kernel) ⟨Nat.le_of_ble_eq_true rfl, Nat.le_of_ble_eq_true rfl⟩) ⟨jx_blind, vk_recv hZ.1 (by decide) hS, fun U hU hW => ⟨rfl, by show ax_SZ aK aV jx_F U U.heap; rw [hU]; exact ax_SZ.moved hW.alike (ax_SZ.kept hZ hS.2.1)⟩⟩ rfl rfl hl.1 rfl (lv_room (Nat.le_of_ble_eq_true rfl)) (show decode prog_12_method_79_code 3 = .ok (.invokevirtual 633, 3) by decide +kernel) ⟨Nat.le_of_ble_eq_true rfl, Nat.le_of_ble_eq_true rfl⟩) hS (fun q _ h => h) (fun q h => h) (fun r9 u t H1 locs ht hvm h9 hB hz1 hk1 hS => ?_)
  subst h9
  exact W.iret (v := _) hx hb hr (fun t ht hW => ⟨⟨_, (), rfl, rfl, trivial⟩, hS.F ht⟩) hS.2.2 (show decode prog_12_method_79_code 6 = .ok (.ireturn, 1) by decide +kernel)
end JX
theorem ax_IX_ok (l : Launch) : ax_IX l := by
  intro p e R s m args below meth c H locs Q A aK aV cc pc la rest own idx x hx hb hml hown hts hlink hZ hA hS hfr hlo hsm hd kk
  have hZF : ax_SZ aK aV jx_F s s.heap := hZ.narrow (fun _ h => False.elim h)
  have hw : ∀ w ∈ (Cond.methodLink own idx ax_SI :: ax_gw), w.before args s = true := fun w hw => by
    rcases List.mem_cons.mp hw with rfl | h
    · exact hlink
    · exact hts w h
  have hG : GoodIn (Cond.methodLink own idx ax_SI :: ax_gw) (wsV own idx "java/lang/String" ax_SI jw_ix1) := by
    have gin : ∀ {w : Cond}, w ∈ ax_gw → w ∈ Cond.methodLink own idx ax_SI :: ax_gw ∧ ((w.onTables && w.keeps) = true ∨ ∃ ty, w = .arrayClass ty) := fun hw => ⟨List.mem_cons_of_mem _ hw, good_of_word (ax_gw_good hw)⟩
    intro w hw
    unfold wsV at hw
    rcases List.mem_append.mp hw with hw | hw
    · simp only [List.mem_cons, List.not_mem_nil, or_false] at hw
      rcases hw with rfl | rfl | rfl | rfl
      · exact ⟨List.mem_cons_self, Or.inl rfl⟩
      · exact gin ji_ix1
      · exact gin js_ix1
      · exact gin jn_S
    · rcases List.mem_cons.mp hw with rfl | h9
      · exact gin jc_ix1
      · exact gin h9
  have cw := cwV (R := R) (y := ax_SI) (ws := jw_ix1) (rm := { frames := 3, cells := 0, slots := 0, locals := 85 }) (bytes := prog_12_method_79_code) (maxL := 2) (ret := some .int) (mc := 0) (ms := 0) (ws' := ax_gw) 1 hw hG rfl rfl rfl (by decide +kernel) ⟨by show 3 + 1 ≤ R.frames; omega, by show 8 + (2 + 11) + 85 ≤ R.locals; omega⟩
  have hrun := va_runV (p := p) (e := e) (below := below) (meth := meth) (H := H) (locs := locs) (cells := 0) (slots := 0) (b := aK 0) (As := [.int x]) (rest := rest) (g := F0 m pc la (.int x :: .ref (aK 0) :: rest)) ⟨hx, hb, hml, hown, hw⟩ (jm_ix1 (l := l) (aK := aK) (aV := aV) x) cw ⟨jx_blind, vk_recv hZ.1 (by decide) hS, fun U hU hW => ⟨rfl, by show ax_SZ aK aV jx_F U U.heap; rw [hU]; exact ax_SZ.moved hW.alike (ax_SZ.narrow (ax_SZ.kept hZ hS.2.1) (fun _ h => False.elim h))⟩⟩ rfl rfl rfl rfl (lv_room hsm) hd ⟨Nat.zero_le _, Nat.zero_le _⟩
  intro T hT X
  obtain ⟨v, st₀, t, T', L2, h0, X', hL, e1, e2, ⟨⟨r9, _, hv, hp, -⟩, hz, hk⟩, stp⟩ := hrun T hT X
  cases hv
  subst hp
  rw [h0] at hz hk
  have hsz : T'.heap.size ≤ H.size := by
    have h1 : T'.heap.size ≤ s.heap.size + (0 + 0) := X'.same.2.2.1
    have h2 := hS.1
    omega
  have hH : T'.heap = H := by
    apply Array.ext_getElem?
    intro q
    by_cases hq : q < H.size
    · rw [e1]; exact hk q hq (fun h => h)
    · rw [Array.getElem?_eq_none (by omega), Array.getElem?_eq_none (by omega)]
  obtain ⟨t2, a1, b1⟩ := kk T'.heap (locs ++ L2) hH ⟨by rw [hH]; exact hS.1, fun q h1 h2 => by rw [hH]; exact hS.2.1 q h1 h2, fun q hq => by
      rcases List.mem_append.mp hq with h | h
      · exact hS.2.2 q h
      · exact False.elim (hL q h)⟩ T' rfl X'
  exact ⟨t2, stp t2 a1, b1⟩
