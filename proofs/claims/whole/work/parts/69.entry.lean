/-! ===== the law's entry ===== -/
theorem le_c7 : Cond.classLink R_law 7 (ax_cn 5) ∈ ax_gw := ax_gi (ax_in_t1 (List.mem_of_getElem? (i := 17) rfl)) rfl
theorem le_c10 : Cond.classLink R_law 10 (ax_cn 6) ∈ ax_gw := ax_gi (ax_in_t4 (List.mem_of_getElem? (i := 3) rfl)) rfl
theorem le_m9 : Cond.methodLink R_law 9 (bx_y 5) ∈ ax_gw := ax_gi (ax_in_t1 (List.mem_of_getElem? (i := 19) rfl)) rfl
theorem le_m12 : Cond.methodLink R_law 12 (bx_y 6) ∈ ax_gw := ax_gi (ax_in_t4 (List.mem_of_getElem? (i := 5) rfl)) rfl
theorem le_n1 : Cond.methodLinkNest (ax_cn 5) 9 (bx_y 2) RX5 ∈ lw_tbl := ax_in_t1 (List.mem_of_getElem? (i := 27) rfl)
theorem le_n2 : Cond.methodLinkNest (ax_cn 5) 21 (bx_y 1) RX5 ∈ lw_tbl := ax_in_t1 (List.mem_of_getElem? (i := 80) rfl)
theorem le_n3 : Cond.methodLinkNest (ax_cn 1) 9 (bx_y 2) RX5 ∈ lw_tbl := ax_in_t1 (List.mem_of_getElem? (i := 86) rfl)
theorem le_n4 : Cond.methodLinkNest (ax_cn 5) 38 (bx_y 4) RX5 ∈ lw_tbl := ax_in_t1 (List.mem_of_getElem? (i := 100) rfl)
theorem le_n5 : Cond.methodLinkNest (ax_cn 5) 45 (bx_y 3) RX5 ∈ lw_tbl := ax_in_t1 (List.mem_of_getElem? (i := 118) rfl)
theorem le_n6 : Cond.methodLinkNest (ax_cn 5) 52 (bx_y 0) RX5 ∈ lw_tbl := ax_in_t1 (List.mem_of_getElem? (i := 138) rfl)
theorem le_nAll : ∀ q ∈ bx_lN, Cond.methodLinkNest (ax_cn q.1) q.2.1 (bx_y q.2.2) RX5 ∈ lw_tbl := List.forall_mem_cons.mpr ⟨le_n1, List.forall_mem_cons.mpr ⟨le_n2, List.forall_mem_cons.mpr ⟨le_n3, List.forall_mem_cons.mpr ⟨le_n4, List.forall_mem_cons.mpr ⟨le_n5, List.forall_mem_cons.mpr ⟨le_n6, fun _ h => absurd h List.not_mem_nil⟩⟩⟩⟩⟩⟩
theorem le_o1 : Cond.arrayOver (.object RX2) ∈ lw_tbl := ax_in_t1 (List.mem_of_getElem? (i := 85) rfl)
theorem le_o2 : Cond.arrayOver (.object RX3) ∈ lw_tbl := ax_in_t1 (List.mem_of_getElem? (i := 116) rfl)
theorem le_sr : Cond.stringRef "SoldSeat$Tape" 42 "pfmdg" ∈ lw_tbl := ax_in_t2 (List.mem_of_getElem? (i := 29) rfl)
theorem le_ls : Cond.laysStatic "java/lang/String" "COMPACT_STRINGS" "Z" ∈ lw_tbl := ax_in_t2 (List.mem_of_getElem? (i := 47) rfl)
section LE
variable {s : State} {args : Array Value}
theorem le_K (hts : ∀ w ∈ lw_tbl, w.before args s = true) : ∃ (D : va_G) (tc : Nat → ClassId), bx_Wo D tc s := by
  have h0 : ∀ k : Nat, ∃ q : ClassId × (Nat → Nat), k < 7 → u_Kn s (ax_cn k) (ax_T k) (ax_nf k) q.1 q.2 := by
    intro k
    by_cases hk : k < 7
    · obtain ⟨C, hc, rfl, hu, -, -⟩ := ax_clp hk
      obtain ⟨cC, iS, h⟩ := u_known (n := ax_nf k) hts (fun w h => lx_in (hu w h)) (hts _ (lx_in (bx_yo hk).2.2.1))
      exact ⟨(cC, iS), fun _ => h⟩
    · exact ⟨(0, fun _ => 0), fun h => absurd h hk⟩
  obtain ⟨f, hf⟩ := Classical.axiomOfChoice h0
  have h1 : ∀ ty : FieldType, Cond.arrayClass ty ∈ ax_gw → ∃ cA : ClassId, ArrOfT s cA ty ∧ s.vm.findClass ("[" ++ ty.toString) = some cA := by
    intro ty hw
    obtain ⟨cA, kA, comp, a1, a2, a3⟩ := Cond.arrayClass_spec (hts _ (lx_in hw))
    exact ⟨cA, fun N z => ⟨(fun k h => by cases h), kA, a2, comp, a3⟩, a1⟩
  have h2 : ∀ C : String, Cond.arrayOver (.object C) ∈ lw_tbl → ∃ cA : ClassId, ArrOfT s cA (.object C) ∧ va_RA s cA (.object C) := by
    intro C hw
    obtain ⟨comp, cA, kA, a1, -, a3, a4, a5⟩ := Cond.arrayOver_spec (hts _ hw)
    exact ⟨cA, fun N z => ⟨(fun k h => by cases h), kA, a3, comp, a4⟩, kA, comp, a3, a4, a1, a5⟩
  obtain ⟨t0, t0a, t0b⟩ := h1 .int bx_a0
  obtain ⟨t1, t1a, t1b⟩ := h1 .long bx_a1
  obtain ⟨t2, t2a, t2b⟩ := h1 .char bx_a2
  obtain ⟨t3, t3a, t3b⟩ := h2 RX2 le_o1
  obtain ⟨t4, t4a, t4b⟩ := h2 RX3 le_o2
  refine ⟨(fun k => (f k).1, fun k => (f k).2), fun k => if k = 0 then t0 else if k = 1 then t1 else if k = 2 then t2 else if k = 3 then t3 else t4, ⟨fun k q hq => ?_, fun k q hq => ?_⟩, fun q hq => va_Nw.of rfl (hts _ (le_nAll q hq)), va_AO.of (hts _ le_o1), va_AO.of (hts _ le_o2)⟩
  · have hk : k < 7 := (List.getElem?_eq_some_iff.mp hq).1
    obtain ⟨C, hc, rfl, -⟩ := ax_clp hk
    rw [hc] at hq
    cases hq
    exact hf k hk
  · match k, hq with
    | 0, hq => cases hq; exact ⟨t0a, t0b⟩
    | 1, hq => cases hq; exact ⟨t1a, t1b⟩
    | 2, hq => cases hq; exact ⟨t2a, t2b⟩
    | 3, hq => cases hq; exact ⟨t3a, t3b⟩
    | 4, hq => cases hq; exact ⟨t4a, t4b⟩
    | k + 5, hq => simp [ax_tys] at hq
theorem le_S (hts : ∀ w ∈ lw_tbl, w.before args s = true) (hgv : (Jvm.Cond.and given_1 narrow_1).before args s = true) : ∃ aK aV : Nat → Nat, ax_SZ aK aV (fun q => s.heap.size ≤ q) s s.heap ∧ vk_R "SoldSeat$Tape" 42 "pfmdg" (aK 0) s := by
  have hs := flat_of_before _ hgv
  have hA : ∀ a : Nat, a < s.heap.size → ¬ (fun q => s.heap.size ≤ q) a := fun a h => Nat.not_le.mpr h
  obtain ⟨aK, aV, h1, h2⟩ := vk_Sof (args := args) (s := s) (N := 1) (tm := fun _ => .string "SoldSeat$Tape" 42) (len := [5]) (byt := [[112, 102, 109, 100, 103]]) (A := fun q => s.heap.size ≤ q) (by decide) (fun i _ => hs _ (by decide +kernel)) (fun i _ => hs _ (by decide +kernel)) (fun i _ => hs _ (by decide +kernel))
    (fun i hi => by
      obtain rfl : i = 0 := by omega
      exact hs (.eq (.length (.field (.string "SoldSeat$Tape" 42) "java/lang/String" "value" "[B")) (.int 5)) (by decide +kernel))
    (fun i hi j hj => by
      obtain rfl : i = 0 := by omega
      have hj : j < 5 := hj
      rcases (show j = 0 ∨ j = 1 ∨ j = 2 ∨ j = 3 ∨ j = 4 by omega) with rfl | rfl | rfl | rfl | rfl
      · exact hs (.eq (.elem (.field (.string "SoldSeat$Tape" 42) "java/lang/String" "value" "[B") (.int 0)) (.int 112)) (by decide +kernel)
      · exact hs (.eq (.elem (.field (.string "SoldSeat$Tape" 42) "java/lang/String" "value" "[B") (.int 1)) (.int 102)) (by decide +kernel)
      · exact hs (.eq (.elem (.field (.string "SoldSeat$Tape" 42) "java/lang/String" "value" "[B") (.int 2)) (.int 109)) (by decide +kernel)
      · exact hs (.eq (.elem (.field (.string "SoldSeat$Tape" 42) "java/lang/String" "value" "[B") (.int 3)) (.int 100)) (by decide +kernel)
      · exact hs (.eq (.elem (.field (.string "SoldSeat$Tape" 42) "java/lang/String" "value" "[B") (.int 4)) (.int 103)) (by decide +kernel))
    (fun i j hi hj hij => absurd (by omega) hij) hA
  refine ⟨aK, aV, ⟨h1, ?_⟩, vk_R.of (hts _ le_sr) (h2 0 (by decide))⟩
  exact va_Zof (hts _ le_ls) (hts _ (lx_in jn_S)) (va_eqt (hs (.eq (.static "java/lang/String" "COMPACT_STRINGS" "Z") (.int 1)) (by decide +kernel))) hA
end LE
theorem whole_start {p : Program} {e : Env} {s : State} {m : MethodId} {below : List Frame} {meth : Method} {c : Code} (l : Launch) {b L : Nat} {xs : Nat → Int32} (hL : L ≤ 448) (C0 : lw_At p s m meth c b L xs) : W p l e room_1 s m #[Value.ref b] below meth c s.heap [] 0 0 (lw_Z below #[Value.ref b] s) (entryFrame m ([Value.ref b] : List Value).toArray 4) := by
  obtain ⟨hx, hb, hr, hml, hown, hts, hX, hbl, hlocks, hgv⟩ := id C0
  obtain ⟨D, tc, hW⟩ := le_K hts
  obtain ⟨aK, aV, hSZ, hVR⟩ := le_S hts hgv
  have hA : ∀ q : Nat, s.heap.size ≤ q → (fun q : Nat => s.heap.size ≤ q) q := fun _ h => h
  have hw : ∀ {w : Cond}, w ∈ ax_gw → w.before #[Value.ref b] s = true := fun h => hts _ (lx_in h)
  have hS : va_S (fun q : Nat => s.heap.size ≤ q) s.heap s.heap [] := va_S.rf
  have hP : va_P D ax_cl (bx_w tc s.heap.size []) s.heap := fun k q h => by simp [bx_w] at h
  have hl := lv_entry ([.ref b]) (n := 4) (Nat.le_of_ble_eq_true rfl)
  rw [lg_entry_eq]
  generalize (lg_sl ([.ref b]) ++ List.replicate (4 - (lg_sl ([.ref b])).length) Slot.unset).toArray = ls at hl ⊢
  have hl : lv_has ls 4 [(0, .ref b)] := hl
  have e5 : ∀ γ, ax_ce tc γ (bx_c (5, bx_def 5)) = .inr (5, bx_def 5) := fun γ => by
    rw [bx_c_o (by decide)]
    show (Sum.inr (5, (bx_def 5).map (ax_cv γ)) : va_E) = _
    rw [bx_def_m (by decide)]
  have e6 : ∀ γ, ax_ce tc γ (bx_c (6, bx_def 6)) = .inr (6, bx_def 6) := fun γ => by
    rw [bx_c_o (by decide)]
    show (Sum.inr (6, (bx_def 6).map (ax_cv γ)) : va_E) = _
    rw [bx_def_m (by decide)]
  obtain ⟨C5, c5, r5, u5, p5, n5⟩ := ax_clp (a := 5) (by decide)
  obtain ⟨C6, c6, r6, u6, p6, n6⟩ := ax_clp (a := 6) (by decide)
  subst r5; subst r6
  refine va_new (ci := 5) (fs := bx_def 5) (T := ax_T 5) (N := ax_nf 5) hx hb hts (fun w h => lx_in (u5 w h)) (ax_tyl.getD 5 tyX0) p5 hown (hw le_c7) (hw (bx_yo (y := 5) (by decide)).2.2.1) (hw (ax_cn_ok (o := 5) (by decide)).1) hW.1 hP bx_D hS hA c5 bx_def_v (Nat.le_of_ble_eq_true rfl) (Nat.le_of_ble_eq_true rfl) (lx_dec_i (I := (.new 7, 3)) (pc := 0) (by decide +kernel)) (fun q H hP hD hS => ?_)
  refine bx_size (fun hz => ?_)
  have e1 : q = s.heap.size + 0 := bx_addr (h := []) hP hD hz
  subst e1
  have hP : va_P D ax_cl (bx_w tc s.heap.size [(5, bx_def 5)]) H := by
    have e9 := bx_w_push (tc := tc) (z := s.heap.size) (h := []) (e := (5, bx_def 5))
    rw [e5] at e9
    show va_P D ax_cl (bx_w tc s.heap.size ([] ++ [(5, bx_def 5)])) H
    rw [e9]
    exact hP
  have hsz : H.size = s.heap.size + 1 := by
    have h1 := bx_lt hP hS.1
    have h1 : s.heap.size + 1 ≤ H.size := h1
    have hz : H.size ≤ s.heap.size + (0 + 1) := hz
    omega
  refine lv_dup hx hb (lx_dec_i (I := (.dup, 1)) (pc := 3) (by decide +kernel)) rfl ?_
  refine bx_go (Nat.le_refl _) (va_runI (H := H) (b := s.heap.size + 0) (As := []) (rest := [.ref (s.heap.size + 0)]) ⟨hx, hb, hml, hown, hts⟩ (bx_m5 (l := l) (D := D) (tc := tc) s.heap.size) (cwI 0 hts (bx_good (mi := 5) (by decide) (fun w h => lx_in h)) rfl rfl rfl (hw (ax_cn_ok (o := 5) (by decide)).1) (hw le_m9) (hw (bx_yo (y := 5) (by decide)).2.1) rfl (by decide +kernel) ⟨Nat.le_of_ble_eq_true rfl, Nat.le_of_ble_eq_true rfl⟩) ⟨bx_Pc_blind, fun U hU hWm => ⟨rfl, by rw [hU]; exact hsz, by rw [hU]; exact hP, hW.warm hWm⟩⟩ rfl rfl hl.1 rfl (lv_room (Nat.le_of_ble_eq_true rfl)) (lx_dec_i (I := (.invokespecial 9, 3)) (pc := 4) (by decide +kernel)) ⟨Nat.le_of_ble_eq_true rfl, Nat.le_of_ble_eq_true rfl⟩) hS (fun H locs hP _ hS => ?_)
  refine lv_astore_n (lv' := [(1, .ref (s.heap.size + 0)), (0, .ref b)]) hx hb (lx_dec_i (I := (.astore_n 1, 1)) (pc := 7) (by decide +kernel)) rfl hl (by decide) rfl (fun ls hl => ?_)
  refine va_new (ci := 6) (fs := bx_def 6) (T := ax_T 6) (N := ax_nf 6) hx hb hts (fun w h => lx_in (u6 w h)) (ax_tyl.getD 6 tyX0) p6 hown (hw le_c10) (hw (bx_yo (y := 6) (by decide)).2.2.1) (hw (ax_cn_ok (o := 6) (by decide)).1) hW.1 hP bx_D hS hA c6 bx_def_v (Nat.le_of_ble_eq_true rfl) (Nat.le_of_ble_eq_true rfl) (lx_dec_i (I := (.new 10, 3)) (pc := 8) (by decide +kernel)) (fun q H hP1 hD hS => ?_)
  refine bx_size (fun hz => ?_)
  have hz : H.size ≤ s.heap.size + 135 := hz
  have e1 : q = s.heap.size + bx_R5.length := bx_addr hP1 hD (by rw [bx_R5_n]; omega)
  rw [bx_R5_n] at e1
  subst e1
  have hP5 : va_P D ax_cl (bx_w tc s.heap.size bx_R5) H := fun k q hq => hP1 k q (by rw [List.getElem?_append_left (List.getElem?_eq_some_iff.mp hq).1]; exact hq)
  have hP6 : va_P D ax_cl (bx_w tc (s.heap.size + 134) [(6, bx_def 6)]) H := by
    intro k q hq
    obtain ⟨e9, h9, rfl⟩ := bx_w_of hq
    have hi : k = 0 := by
      have := (List.getElem?_eq_some_iff.mp h9).1
      simp only [List.length_cons, List.length_nil] at this
      omega
    subst hi
    cases h9
    rw [e6]
    refine hP1 134 _ ?_
    rw [List.getElem?_append_right (by rw [bx_w_len, bx_R5_n]; exact Nat.le_refl _), bx_w_len, bx_R5_n]
    rfl
  have hsz6 : H.size = s.heap.size + 134 + 1 := by
    have h1 := bx_lt hP6 (by have := (hP6 0 _ (bx_w_at (e := (6, bx_def 6)) rfl)).lt; have : s.heap.size + 134 + 0 < H.size := this; omega)
    have h1 : s.heap.size + 134 + 1 ≤ H.size := h1
    omega
  refine lv_dup hx hb (lx_dec_i (I := (.dup, 1)) (pc := 11) (by decide +kernel)) rfl ?_
  refine bx_go (Nat.le_add_right _ 134) (va_runI (H := H) (b := s.heap.size + 134) (As := []) (rest := [.ref (s.heap.size + 134)]) ⟨hx, hb, hml, hown, hts⟩ (bx_m6 (l := l) (D := D) (tc := tc) (s.heap.size + 134)) (cwI 0 hts (bx_good (mi := 6) (by decide) (fun w h => lx_in h)) rfl rfl rfl (hw (ax_cn_ok (o := 6) (by decide)).1) (hw le_m12) (hw (bx_yo (y := 6) (by decide)).2.1) rfl (by decide +kernel) ⟨Nat.le_of_ble_eq_true rfl, Nat.le_of_ble_eq_true rfl⟩) ⟨bx_Pc_blind, fun U hU hWm => ⟨rfl, by rw [hU]; exact hsz6, by rw [hU]; exact hP6, hW.warm hWm⟩⟩ rfl rfl hl.1 rfl (lv_room (Nat.le_of_ble_eq_true rfl)) (lx_dec_i (I := (.invokespecial 12, 3)) (pc := 12) (by decide +kernel)) ⟨Nat.le_of_ble_eq_true rfl, Nat.le_of_ble_eq_true rfl⟩) hS (fun H2 locs hP7 hk hS => ?_)
  have hP8 := bx_glue hP5 hP7 (by rw [bx_R5_n]; exact Nat.le_refl _) (fun q hq => hk q (by omega) hq)
  rw [List.take_of_length_le (by rw [bx_R5_n]; exact Nat.le_refl _)] at hP8
  refine lv_astore_n (lv' := [(2, .ref (s.heap.size + 134)), (1, .ref (s.heap.size + 0)), (0, .ref b)]) hx hb (lx_dec_i (I := (.astore_n 2, 1)) (pc := 15) (by decide +kernel)) rfl hl (by decide) rfl (fun ls hl => ?_)
  refine lv_iconst (v := nI 0) hx hb (lx_dec_i (I := (.iconst 0, 1)) (pc := 16) (by decide +kernel)) (by decide) ?_
  refine lv_istore_n (lv' := [(3, .int (nI 0)), (2, .ref (s.heap.size + 134)), (1, .ref (s.heap.size + 0)), (0, .ref b)]) hx hb (lx_dec_i (I := (.istore_n 3, 1)) (pc := 17) (by decide +kernel)) rfl hl (by decide) rfl (fun ls hl => ?_)
  obtain ⟨γ, hγ⟩ : ∃ γ : Nat → Nat, γ = fun k => if k < 147 then s.heap.size + plN k else aK 0 := ⟨_, rfl⟩
  have hγ1 : ∀ k, k < 147 → γ k = s.heap.size + plN k := fun k hk => by rw [hγ]; exact if_pos hk
  have hγ9 : γ 999 = aK 0 := by rw [hγ]; rfl
  have hWo : ax_Wo D tc γ aK aV (fun q => s.heap.size ≤ q) s := by
    refine ⟨hW.1, fun i j hi hj e => ?_, fun k hk => ?_, fun _ h => h, hSZ, hVR, hγ9⟩
    · rw [hγ1 i hi, hγ1 j hj] at e
      exact plN_inj i hi j hj (by omega)
    · show s.heap.size ≤ γ k
      rw [hγ1 k hk]
      exact Nat.le_add_right _ _
  refine lx_loop (ax_IX_ok l) hL C0 hWo (L + 1) 0 (Nat.zero_le _) (by omega) h0 start_RR ls ?_ H2 locs (start_P hγ1 hP8) hS
  have g1 : γ 114 = s.heap.size + 0 := hγ1 114 (by decide)
  have g2 : γ 134 = s.heap.size + 134 := hγ1 134 (by decide)
  rw [g1, g2]
  exact lv_sub hl [3, 2, 1, 0] rfl
