/-! ===== the machine follows: instruction by instruction ===== -/
def ax_Q (D : va_G) (tc : Nat → ClassId) (γ : Nat → Nat) (A : Nat → Prop) (r : Option Value) (h' : ax_H) : Array Value → State → Outcome → State → Prop := fun _ st oc t => oc = .returned (r.map (ax_cv γ)) ∧ va_P D ax_cl (ax_w tc γ h') t.heap ∧ va_F A st t
section AXS
variable {l : Launch} {D : va_G} {tc : Nat → ClassId} {γ aK aV : Nat → Nat} {A : Nat → Prop} {p : Program} {e : Env} {s : State} {m : MethodId} {args : Array Value} {below : List Frame} {meth : Method} {c : Code} {mi : Nat}
def ax_St (D : va_G) (tc : Nat → ClassId) (γ aK aV : Nat → Nat) (A : Nat → Prop) (p : Program) (s : State) (m : MethodId) (args : Array Value) (meth : Method) (c : Code) (mi : Nat) : Prop :=
  (p.tables.exec = Jvm.exec ∧ c.code = (ax_m mi).2.1 ∧ meth.sig.returnType = (ax_m mi).2.2.2.1 ∧ c.maxLocals = (ax_m mi).2.2.1 ∧ s.vm.findClass (ax_m mi).1.cls = some m.cls ∧ (∀ w ∈ ax_ws mi, w.before args s = true) ∧ meth.locks = false) ∧ ax_Wo D tc γ aK aV A s ∧ mi < ax_NM
def ax_G (l : Launch) (D : va_G) (tc : Nat → ClassId) (γ : Nat → Nat) (A : Nat → Prop) (p : Program) (e : Env) (s : State) (m : MethodId) (args : Array Value) (below : List Frame) (meth : Method) (c : Code) (mi : Nat) (r : Option Value) (h' : ax_H) (pc : Nat) (ls : ax_L) (st : List Value) (h : ax_H) : Prop :=
  ∀ (H : Heap) (locs : List Loc) (la : Array Slot), va_P D ax_cl (ax_w tc γ h) H → va_S A s.heap H locs → ax_Ls γ la (ax_m mi).2.2.1 ls → W p l e (ax_rm mi) s m args below meth c H locs 0 0 (MQ below (ax_Q D tc γ A r h') args s 0 0 A) (F0 m pc la (st.map (ax_cv γ)))
variable {r : Option Value} {h' : ax_H} {pc : Nat} {ls : ax_L} {st : List Value} {h : ax_H} {q : ax_N}
theorem ax_hw (S : ax_St D tc γ aK aV A p s m args meth c mi) {w : Cond} (hw : w ∈ ax_gw) : w.before args s = true := S.1.2.2.2.2.2.1 w (List.mem_cons_of_mem _ hw)
theorem ax_own (S : ax_St D tc γ aK aV A p s m args meth c mi) : s.vm.findClass (ax_cn (ax_m mi).2.2.2.2.1.2.2) = some m.cls := by
  have h1 := S.1.2.2.2.2.1
  rw [(ax_mo S.2.2).1.1] at h1
  exact h1
theorem ax_t_iconst (S : ax_St D tc γ aK aV A p s m args meth c mi) {n : Int} {v : Int32} (hd : decode (ax_m mi).2.1 pc = .ok (.iconst n, 1)) (hv : Int32.ofInt n = v) (hs : ax_nx (pc + 1) ls (.int v :: st) h = some (.inl q)) (K : ax_G l D tc γ A p e s m args below meth c mi r h' q.1 q.2.1 q.2.2.1 q.2.2.2) : ax_G l D tc γ A p e s m args below meth c mi r h' pc ls st h := by
  cases ax_nx_i hs
  intro H locs la hP hS hL
  exact lv_iconst (v := v) S.1.1 S.1.2.1 hd hv (K H locs la hP hS hL)
theorem ax_t_bipush (S : ax_St D tc γ aK aV A p s m args meth c mi) {n : Int} {v : Int32} (hd : decode (ax_m mi).2.1 pc = .ok (.bipush n, 2)) (hv : (Int8.ofInt n).toInt32 = v) (hs : ax_nx (pc + 2) ls (.int v :: st) h = some (.inl q)) (K : ax_G l D tc γ A p e s m args below meth c mi r h' q.1 q.2.1 q.2.2.1 q.2.2.2) : ax_G l D tc γ A p e s m args below meth c mi r h' pc ls st h := by
  cases ax_nx_i hs
  intro H locs la hP hS hL
  exact lv_bipush (v := v) S.1.1 S.1.2.1 hd hv (K H locs la hP hS hL)
theorem ax_t_sipush (S : ax_St D tc γ aK aV A p s m args meth c mi) {n : Int} {v : Int32} (hd : decode (ax_m mi).2.1 pc = .ok (.sipush n, 3)) (hv : (Int16.ofInt n).toInt32 = v) (hs : ax_nx (pc + 3) ls (.int v :: st) h = some (.inl q)) (K : ax_G l D tc γ A p e s m args below meth c mi r h' q.1 q.2.1 q.2.2.1 q.2.2.2) : ax_G l D tc γ A p e s m args below meth c mi r h' pc ls st h := by
  cases ax_nx_i hs
  intro H locs la hP hS hL
  exact lv_sipush (v := v) S.1.1 S.1.2.1 hd hv (K H locs la hP hS hL)
theorem ax_t_lconst (S : ax_St D tc γ aK aV A p s m args meth c mi) {n : Fin 2} {v : Int64} (hd : decode (ax_m mi).2.1 pc = .ok (.lconst n, 1)) (hv : Int64.ofNat (n : Nat) = v) (hs : ax_nx (pc + 1) ls (.long v :: st) h = some (.inl q)) (K : ax_G l D tc γ A p e s m args below meth c mi r h' q.1 q.2.1 q.2.2.1 q.2.2.2) : ax_G l D tc γ A p e s m args below meth c mi r h' pc ls st h := by
  cases ax_nx_i hs
  intro H locs la hP hS hL
  exact lv_lconst (v := v) S.1.1 S.1.2.1 hd hv (K H locs la hP hS hL)
theorem ax_t_ldc (S : ax_St D tc γ aK aV A p s m args meth c mi) {i : Nat} {v : Int32} (hd : decode (ax_m mi).2.1 pc = .ok (.ldc i, 2)) (hv : Cond.constant (ax_cn (ax_m mi).2.2.2.2.1.2.2) i v ∈ ax_gw) (hs : ax_nx (pc + 2) ls (.int v :: st) h = some (.inl q)) (K : ax_G l D tc γ A p e s m args below meth c mi r h' q.1 q.2.1 q.2.2.1 q.2.2.2) : ax_G l D tc γ A p e s m args below meth c mi r h' pc ls st h := by
  cases ax_nx_i hs
  intro H locs la hP hS hL
  exact lv_ldc S.1.1 S.1.2.1 (ax_own S) (ax_hw S hv) hd (K H locs la hP hS hL)
theorem ax_t_ldcw (S : ax_St D tc γ aK aV A p s m args meth c mi) {i : Nat} {v : Int32} (hd : decode (ax_m mi).2.1 pc = .ok (.ldc_w i, 3)) (hv : Cond.constant (ax_cn (ax_m mi).2.2.2.2.1.2.2) i v ∈ ax_gw) (hs : ax_nx (pc + 3) ls (.int v :: st) h = some (.inl q)) (K : ax_G l D tc γ A p e s m args below meth c mi r h' q.1 q.2.1 q.2.2.1 q.2.2.2) : ax_G l D tc γ A p e s m args below meth c mi r h' pc ls st h := by
  cases ax_nx_i hs
  intro H locs la hP hS hL
  exact lv_ldcw S.1.1 S.1.2.1 (ax_own S) (ax_hw S hv) hd (K H locs la hP hS hL)
theorem ax_t_ldc2 (S : ax_St D tc γ aK aV A p s m args meth c mi) {i : Nat} {v : Int64} (hd : decode (ax_m mi).2.1 pc = .ok (.ldc2_w i, 3)) (hv : Cond.constantLong (ax_cn (ax_m mi).2.2.2.2.1.2.2) i v ∈ ax_gw) (hs : ax_nx (pc + 3) ls (.long v :: st) h = some (.inl q)) (K : ax_G l D tc γ A p e s m args below meth c mi r h' q.1 q.2.1 q.2.2.1 q.2.2.2) : ax_G l D tc γ A p e s m args below meth c mi r h' pc ls st h := by
  cases ax_nx_i hs
  intro H locs la hP hS hL
  exact lv_ldc2 S.1.1 S.1.2.1 (ax_own S) (ax_hw S hv) hd (K H locs la hP hS hL)
theorem ax_t_ldcS (S : ax_St D tc γ aK aV A p s m args meth c mi) (hd : decode (ax_m mi).2.1 pc = .ok (.ldc 42, 2)) (ho : (ax_m mi).2.2.2.2.1.2.2 = 4) (hs : ax_nx (pc + 2) ls (.ref 999 :: st) h = some (.inl q)) (K : ax_G l D tc γ A p e s m args below meth c mi r h' q.1 q.2.1 q.2.2.1 q.2.2.2) : ax_G l D tc γ A p e s m args below meth c mi r h' pc ls st h := by
  cases ax_nx_i hs
  intro H locs la hP hS hL
  obtain ⟨-, -, -, -, -, hR, hg⟩ := S.2.1
  have hown := ax_own S
  rw [ho] at hown
  have K2 := K H locs la hP hS hL
  refine va_ldcS (own := "SoldSeat$Tape") S.1.1 S.1.2.1 hown hR hd ?_
  rw [← hg]
  exact K2
theorem ax_t_iload (S : ax_St D tc γ aK aV A p s m args meth c mi) {i : Nat} (hd : decode (ax_m mi).2.1 pc = .ok (.iload i, 2)) (hs : ax_ldI (pc + 2) ls st h i = some (.inl q)) (K : ax_G l D tc γ A p e s m args below meth c mi r h' q.1 q.2.1 q.2.2.1 q.2.2.2) : ax_G l D tc γ A p e s m args below meth c mi r h' pc ls st h := by
  obtain ⟨x, hx, rfl⟩ := ax_ldI_i hs
  intro H locs la hP hS hL
  exact lv_iload S.1.1 S.1.2.1 hd (hL.2.2.2 i _ hx).1 (K H locs la hP hS hL)
theorem ax_t_iload_n (S : ax_St D tc γ aK aV A p s m args meth c mi) {i : Fin 4} (hd : decode (ax_m mi).2.1 pc = .ok (.iload_n i, 1)) (hs : ax_ldI (pc + 1) ls st h i.val = some (.inl q)) (K : ax_G l D tc γ A p e s m args below meth c mi r h' q.1 q.2.1 q.2.2.1 q.2.2.2) : ax_G l D tc γ A p e s m args below meth c mi r h' pc ls st h := by
  obtain ⟨x, hx, rfl⟩ := ax_ldI_i hs
  intro H locs la hP hS hL
  exact lv_iload_n S.1.1 S.1.2.1 hd rfl (hL.2.2.2 i.val _ hx).1 (K H locs la hP hS hL)
theorem ax_t_lload (S : ax_St D tc γ aK aV A p s m args meth c mi) {i : Nat} (hd : decode (ax_m mi).2.1 pc = .ok (.lload i, 2)) (hs : ax_ldJ (pc + 2) ls st h i = some (.inl q)) (K : ax_G l D tc γ A p e s m args below meth c mi r h' q.1 q.2.1 q.2.2.1 q.2.2.2) : ax_G l D tc γ A p e s m args below meth c mi r h' pc ls st h := by
  obtain ⟨x, hx, rfl⟩ := ax_ldJ_i hs
  intro H locs la hP hS hL
  exact lv_lload S.1.1 S.1.2.1 hd (hL.2.2.2 i _ hx).1 (K H locs la hP hS hL)
theorem ax_t_lload_n (S : ax_St D tc γ aK aV A p s m args meth c mi) {i : Fin 4} (hd : decode (ax_m mi).2.1 pc = .ok (.lload_n i, 1)) (hs : ax_ldJ (pc + 1) ls st h i.val = some (.inl q)) (K : ax_G l D tc γ A p e s m args below meth c mi r h' q.1 q.2.1 q.2.2.1 q.2.2.2) : ax_G l D tc γ A p e s m args below meth c mi r h' pc ls st h := by
  obtain ⟨x, hx, rfl⟩ := ax_ldJ_i hs
  intro H locs la hP hS hL
  exact lv_lload_n S.1.1 S.1.2.1 hd rfl (hL.2.2.2 i.val _ hx).1 (K H locs la hP hS hL)
theorem ax_t_aload (S : ax_St D tc γ aK aV A p s m args meth c mi) {i : Nat} (hd : decode (ax_m mi).2.1 pc = .ok (.aload i, 2)) (hs : ax_ldA (pc + 2) ls st h i = some (.inl q)) (K : ax_G l D tc γ A p e s m args below meth c mi r h' q.1 q.2.1 q.2.2.1 q.2.2.2) : ax_G l D tc γ A p e s m args below meth c mi r h' pc ls st h := by
  obtain ⟨x, hx, rfl⟩ := ax_ldA_i hs
  intro H locs la hP hS hL
  exact lv_aload S.1.1 S.1.2.1 hd (hL.2.2.2 i _ hx).1 (K H locs la hP hS hL)
theorem ax_t_aload_n (S : ax_St D tc γ aK aV A p s m args meth c mi) {i : Fin 4} (hd : decode (ax_m mi).2.1 pc = .ok (.aload_n i, 1)) (hs : ax_ldA (pc + 1) ls st h i.val = some (.inl q)) (K : ax_G l D tc γ A p e s m args below meth c mi r h' q.1 q.2.1 q.2.2.1 q.2.2.2) : ax_G l D tc γ A p e s m args below meth c mi r h' pc ls st h := by
  obtain ⟨x, hx, rfl⟩ := ax_ldA_i hs
  intro H locs la hP hS hL
  exact lv_aload_n S.1.1 S.1.2.1 hd rfl (hL.2.2.2 i.val _ hx).1 (K H locs la hP hS hL)
theorem ax_t_istore (S : ax_St D tc γ aK aV A p s m args meth c mi) {i : Nat} (hd : decode (ax_m mi).2.1 pc = .ok (.istore i, 2)) (hs : ax_sI (pc + 2) ls st h i = some (.inl q)) (K : ax_G l D tc γ A p e s m args below meth c mi r h' q.1 q.2.1 q.2.2.1 q.2.2.2) : ax_G l D tc γ A p e s m args below meth c mi r h' pc ls st h := by
  obtain ⟨x, st', ls', rfl, hl, rfl⟩ := ax_sI_i hs
  intro H locs la hP hS hL
  have hi : i < (ax_m mi).2.2.1 := by
    unfold ax_st1 at hl
    split at hl
    · rename_i h1; rw [hL.1] at h1; exact h1
    · cases hl
  exact lv_istore S.1.1 S.1.2.1 hd (ax_lv_has hL) hi rfl (fun la' hh => K H locs la' hP hS (ax_Ls_st1 hL (fun h => by cases h) hl hh))
theorem ax_t_istore_n (S : ax_St D tc γ aK aV A p s m args meth c mi) {i : Fin 4} (hd : decode (ax_m mi).2.1 pc = .ok (.istore_n i, 1)) (hs : ax_sI (pc + 1) ls st h i.val = some (.inl q)) (K : ax_G l D tc γ A p e s m args below meth c mi r h' q.1 q.2.1 q.2.2.1 q.2.2.2) : ax_G l D tc γ A p e s m args below meth c mi r h' pc ls st h := by
  obtain ⟨x, st', ls', rfl, hl, rfl⟩ := ax_sI_i hs
  intro H locs la hP hS hL
  have hi : i.val < (ax_m mi).2.2.1 := by
    unfold ax_st1 at hl
    split at hl
    · rename_i h1; rw [hL.1] at h1; exact h1
    · cases hl
  exact lv_istore_n S.1.1 S.1.2.1 hd rfl (ax_lv_has hL) hi rfl (fun la' hh => K H locs la' hP hS (ax_Ls_st1 hL (fun h => by cases h) hl hh))
theorem ax_t_astore (S : ax_St D tc γ aK aV A p s m args meth c mi) {i : Nat} (hd : decode (ax_m mi).2.1 pc = .ok (.astore i, 2)) (hs : ax_sA (pc + 2) ls st h i = some (.inl q)) (K : ax_G l D tc γ A p e s m args below meth c mi r h' q.1 q.2.1 q.2.2.1 q.2.2.2) : ax_G l D tc γ A p e s m args below meth c mi r h' pc ls st h := by
  obtain ⟨x, st', ls', rfl, hl, rfl⟩ := ax_sA_i hs
  intro H locs la hP hS hL
  have hi : i < (ax_m mi).2.2.1 := by
    unfold ax_st1 at hl
    split at hl
    · rename_i h1; rw [hL.1] at h1; exact h1
    · cases hl
  exact lv_astore S.1.1 S.1.2.1 hd (ax_lv_has hL) hi rfl (fun la' hh => K H locs la' hP hS (ax_Ls_st1 hL (fun h => by cases h) hl hh))
theorem ax_t_astore_n (S : ax_St D tc γ aK aV A p s m args meth c mi) {i : Fin 4} (hd : decode (ax_m mi).2.1 pc = .ok (.astore_n i, 1)) (hs : ax_sA (pc + 1) ls st h i.val = some (.inl q)) (K : ax_G l D tc γ A p e s m args below meth c mi r h' q.1 q.2.1 q.2.2.1 q.2.2.2) : ax_G l D tc γ A p e s m args below meth c mi r h' pc ls st h := by
  obtain ⟨x, st', ls', rfl, hl, rfl⟩ := ax_sA_i hs
  intro H locs la hP hS hL
  have hi : i.val < (ax_m mi).2.2.1 := by
    unfold ax_st1 at hl
    split at hl
    · rename_i h1; rw [hL.1] at h1; exact h1
    · cases hl
  exact lv_astore_n S.1.1 S.1.2.1 hd rfl (ax_lv_has hL) hi rfl (fun la' hh => K H locs la' hP hS (ax_Ls_st1 hL (fun h => by cases h) hl hh))
theorem ax_t_lstore (S : ax_St D tc γ aK aV A p s m args meth c mi) {i : Nat} (hd : decode (ax_m mi).2.1 pc = .ok (.lstore i, 2)) (hs : ax_sJ (pc + 2) ls st h i = some (.inl q)) (K : ax_G l D tc γ A p e s m args below meth c mi r h' q.1 q.2.1 q.2.2.1 q.2.2.2) : ax_G l D tc γ A p e s m args below meth c mi r h' pc ls st h := by
  obtain ⟨x, st', ls', rfl, hl, rfl⟩ := ax_sJ_i hs
  intro H locs la hP hS hL
  have hi : i + 1 < (ax_m mi).2.2.1 := by
    unfold ax_st2 at hl
    split at hl
    · rename_i h1; rw [hL.1] at h1; exact h1
    · cases hl
  exact lv_lstore S.1.1 S.1.2.1 hd (ax_lv_has hL) hi rfl (fun la' hh => K H locs la' hP hS (ax_Ls_st2 hL (fun _ => ⟨x, rfl⟩) hl hh))
theorem ax_t_lstore_n (S : ax_St D tc γ aK aV A p s m args meth c mi) {i : Fin 4} (hd : decode (ax_m mi).2.1 pc = .ok (.lstore_n i, 1)) (hs : ax_sJ (pc + 1) ls st h i.val = some (.inl q)) (K : ax_G l D tc γ A p e s m args below meth c mi r h' q.1 q.2.1 q.2.2.1 q.2.2.2) : ax_G l D tc γ A p e s m args below meth c mi r h' pc ls st h := by
  obtain ⟨x, st', ls', rfl, hl, rfl⟩ := ax_sJ_i hs
  intro H locs la hP hS hL
  have hi : i.val + 1 < (ax_m mi).2.2.1 := by
    unfold ax_st2 at hl
    split at hl
    · rename_i h1; rw [hL.1] at h1; exact h1
    · cases hl
  exact lv_lstore_n S.1.1 S.1.2.1 hd rfl (ax_lv_has hL) hi rfl (fun la' hh => K H locs la' hP hS (ax_Ls_st2 hL (fun _ => ⟨x, rfl⟩) hl hh))
theorem ax_t_iinc (S : ax_St D tc γ aK aV A p s m args meth c mi) {i : Nat} {n : Int} (hd : decode (ax_m mi).2.1 pc = .ok (.iinc i n, 3)) (hs : ax_inc (pc + 3) ls st h i (Int32.ofInt n) = some (.inl q)) (K : ax_G l D tc γ A p e s m args below meth c mi r h' q.1 q.2.1 q.2.2.1 q.2.2.2) : ax_G l D tc γ A p e s m args below meth c mi r h' pc ls st h := by
  obtain ⟨x, ls', hx, hl, rfl⟩ := ax_inc_i hs
  intro H locs la hP hS hL
  have hi : i < (ax_m mi).2.2.1 := by
    unfold ax_st1 at hl
    split at hl
    · rename_i h1; rw [hL.1] at h1; exact h1
    · cases hl
  obtain ⟨k, hk⟩ := List.getElem?_of_mem (ax_lv_in (γ := γ) hx)
  exact lv_iinc S.1.1 S.1.2.1 hd (ax_lv_has hL) hk rfl hi rfl (fun la' hh => K H locs la' hP hS (ax_Ls_st1 hL (fun h => by cases h) hl hh))
theorem ax_t_iadd (S : ax_St D tc γ aK aV A p s m args meth c mi) (hd : decode (ax_m mi).2.1 pc = .ok (.iadd, 1)) (hs : ax_b2 (pc + 1) ls st h (fun x y => some (x + y)) = some (.inl q)) (K : ax_G l D tc γ A p e s m args below meth c mi r h' q.1 q.2.1 q.2.2.1 q.2.2.2) : ax_G l D tc γ A p e s m args below meth c mi r h' pc ls st h := by
  obtain ⟨x, y, z, st', rfl, hz, rfl⟩ := ax_b2_i hs
  cases hz
  intro H locs la hP hS hL
  exact lv_iadd S.1.1 S.1.2.1 hd (K H locs la hP hS hL)
theorem ax_t_isub (S : ax_St D tc γ aK aV A p s m args meth c mi) (hd : decode (ax_m mi).2.1 pc = .ok (.isub, 1)) (hs : ax_b2 (pc + 1) ls st h (fun x y => some (x - y)) = some (.inl q)) (K : ax_G l D tc γ A p e s m args below meth c mi r h' q.1 q.2.1 q.2.2.1 q.2.2.2) : ax_G l D tc γ A p e s m args below meth c mi r h' pc ls st h := by
  obtain ⟨x, y, z, st', rfl, hz, rfl⟩ := ax_b2_i hs
  cases hz
  intro H locs la hP hS hL
  exact lv_isub S.1.1 S.1.2.1 hd (K H locs la hP hS hL)
theorem ax_t_imul (S : ax_St D tc γ aK aV A p s m args meth c mi) (hd : decode (ax_m mi).2.1 pc = .ok (.imul, 1)) (hs : ax_b2 (pc + 1) ls st h (fun x y => some (x * y)) = some (.inl q)) (K : ax_G l D tc γ A p e s m args below meth c mi r h' q.1 q.2.1 q.2.2.1 q.2.2.2) : ax_G l D tc γ A p e s m args below meth c mi r h' pc ls st h := by
  obtain ⟨x, y, z, st', rfl, hz, rfl⟩ := ax_b2_i hs
  cases hz
  intro H locs la hP hS hL
  exact lv_imul S.1.1 S.1.2.1 hd (K H locs la hP hS hL)
theorem ax_t_iand (S : ax_St D tc γ aK aV A p s m args meth c mi) (hd : decode (ax_m mi).2.1 pc = .ok (.iand, 1)) (hs : ax_b2 (pc + 1) ls st h (fun x y => some (x &&& y)) = some (.inl q)) (K : ax_G l D tc γ A p e s m args below meth c mi r h' q.1 q.2.1 q.2.2.1 q.2.2.2) : ax_G l D tc γ A p e s m args below meth c mi r h' pc ls st h := by
  obtain ⟨x, y, z, st', rfl, hz, rfl⟩ := ax_b2_i hs
  cases hz
  intro H locs la hP hS hL
  exact lv_iand S.1.1 S.1.2.1 hd (K H locs la hP hS hL)
theorem ax_t_ior (S : ax_St D tc γ aK aV A p s m args meth c mi) (hd : decode (ax_m mi).2.1 pc = .ok (.ior, 1)) (hs : ax_b2 (pc + 1) ls st h (fun x y => some (x ||| y)) = some (.inl q)) (K : ax_G l D tc γ A p e s m args below meth c mi r h' q.1 q.2.1 q.2.2.1 q.2.2.2) : ax_G l D tc γ A p e s m args below meth c mi r h' pc ls st h := by
  obtain ⟨x, y, z, st', rfl, hz, rfl⟩ := ax_b2_i hs
  cases hz
  intro H locs la hP hS hL
  exact lv_ior S.1.1 S.1.2.1 hd (K H locs la hP hS hL)
theorem ax_t_ixor (S : ax_St D tc γ aK aV A p s m args meth c mi) (hd : decode (ax_m mi).2.1 pc = .ok (.ixor, 1)) (hs : ax_b2 (pc + 1) ls st h (fun x y => some (x ^^^ y)) = some (.inl q)) (K : ax_G l D tc γ A p e s m args below meth c mi r h' q.1 q.2.1 q.2.2.1 q.2.2.2) : ax_G l D tc γ A p e s m args below meth c mi r h' pc ls st h := by
  obtain ⟨x, y, z, st', rfl, hz, rfl⟩ := ax_b2_i hs
  cases hz
  intro H locs la hP hS hL
  exact lv_ixor S.1.1 S.1.2.1 hd (K H locs la hP hS hL)
theorem ax_t_ishl (S : ax_St D tc γ aK aV A p s m args meth c mi) (hd : decode (ax_m mi).2.1 pc = .ok (.ishl, 1)) (hs : ax_b2 (pc + 1) ls st h (fun x y => some (x <<< (y &&& 31))) = some (.inl q)) (K : ax_G l D tc γ A p e s m args below meth c mi r h' q.1 q.2.1 q.2.2.1 q.2.2.2) : ax_G l D tc γ A p e s m args below meth c mi r h' pc ls st h := by
  obtain ⟨x, y, z, st', rfl, hz, rfl⟩ := ax_b2_i hs
  cases hz
  intro H locs la hP hS hL
  exact lv_ishl S.1.1 S.1.2.1 hd (K H locs la hP hS hL)
theorem ax_t_ishr (S : ax_St D tc γ aK aV A p s m args meth c mi) (hd : decode (ax_m mi).2.1 pc = .ok (.ishr, 1)) (hs : ax_b2 (pc + 1) ls st h (fun x y => some (x >>> (y &&& 31))) = some (.inl q)) (K : ax_G l D tc γ A p e s m args below meth c mi r h' q.1 q.2.1 q.2.2.1 q.2.2.2) : ax_G l D tc γ A p e s m args below meth c mi r h' pc ls st h := by
  obtain ⟨x, y, z, st', rfl, hz, rfl⟩ := ax_b2_i hs
  cases hz
  intro H locs la hP hS hL
  exact lv_ishr S.1.1 S.1.2.1 hd (K H locs la hP hS hL)
theorem ax_t_iushr (S : ax_St D tc γ aK aV A p s m args meth c mi) (hd : decode (ax_m mi).2.1 pc = .ok (.iushr, 1)) (hs : ax_b2 (pc + 1) ls st h (fun x y => some ((x.toUInt32 >>> (y.toUInt32 &&& Int32.toUInt32 31)).toInt32)) = some (.inl q)) (K : ax_G l D tc γ A p e s m args below meth c mi r h' q.1 q.2.1 q.2.2.1 q.2.2.2) : ax_G l D tc γ A p e s m args below meth c mi r h' pc ls st h := by
  obtain ⟨x, y, z, st', rfl, hz, rfl⟩ := ax_b2_i hs
  cases hz
  intro H locs la hP hS hL
  exact lv_iushr S.1.1 S.1.2.1 hd rfl (K H locs la hP hS hL)
theorem ax_t_idiv (S : ax_St D tc γ aK aV A p s m args meth c mi) (hd : decode (ax_m mi).2.1 pc = .ok (.idiv, 1)) (hs : ax_b2 (pc + 1) ls st h (fun x y => bif y == 0 then none else some (x / y)) = some (.inl q)) (K : ax_G l D tc γ A p e s m args below meth c mi r h' q.1 q.2.1 q.2.2.1 q.2.2.2) : ax_G l D tc γ A p e s m args below meth c mi r h' pc ls st h := by
  obtain ⟨x, y, z, st', rfl, hz, rfl⟩ := ax_b2_i hs
  cases hy : (y == 0) with
  | true => rw [hy] at hz; cases hz
  | false =>
    rw [hy] at hz
    cases hz
    intro H locs la hP hS hL
    exact lv_idiv S.1.1 S.1.2.1 hd (by simpa using hy) (K H locs la hP hS hL)
theorem ax_t_irem (S : ax_St D tc γ aK aV A p s m args meth c mi) (hd : decode (ax_m mi).2.1 pc = .ok (.irem, 1)) (hs : ax_b2 (pc + 1) ls st h (fun x y => bif y == 0 then none else some (x - x / y * y)) = some (.inl q)) (K : ax_G l D tc γ A p e s m args below meth c mi r h' q.1 q.2.1 q.2.2.1 q.2.2.2) : ax_G l D tc γ A p e s m args below meth c mi r h' pc ls st h := by
  obtain ⟨x, y, z, st', rfl, hz, rfl⟩ := ax_b2_i hs
  cases hy : (y == 0) with
  | true => rw [hy] at hz; cases hz
  | false =>
    rw [hy] at hz
    cases hz
    intro H locs la hP hS hL
    exact lv_irem S.1.1 S.1.2.1 hd (by simpa using hy) (K H locs la hP hS hL)
theorem ax_t_ladd (S : ax_St D tc γ aK aV A p s m args meth c mi) (hd : decode (ax_m mi).2.1 pc = .ok (.ladd, 1)) (hs : ax_b2L (pc + 1) ls st h (fun x y => some (x + y)) = some (.inl q)) (K : ax_G l D tc γ A p e s m args below meth c mi r h' q.1 q.2.1 q.2.2.1 q.2.2.2) : ax_G l D tc γ A p e s m args below meth c mi r h' pc ls st h := by
  obtain ⟨x, y, z, st', rfl, hz, rfl⟩ := ax_b2L_i hs
  cases hz
  intro H locs la hP hS hL
  exact lv_ladd S.1.1 S.1.2.1 hd (K H locs la hP hS hL)
theorem ax_t_lsub (S : ax_St D tc γ aK aV A p s m args meth c mi) (hd : decode (ax_m mi).2.1 pc = .ok (.lsub, 1)) (hs : ax_b2L (pc + 1) ls st h (fun x y => some (x - y)) = some (.inl q)) (K : ax_G l D tc γ A p e s m args below meth c mi r h' q.1 q.2.1 q.2.2.1 q.2.2.2) : ax_G l D tc γ A p e s m args below meth c mi r h' pc ls st h := by
  obtain ⟨x, y, z, st', rfl, hz, rfl⟩ := ax_b2L_i hs
  cases hz
  intro H locs la hP hS hL
  exact lv_lsub S.1.1 S.1.2.1 hd (K H locs la hP hS hL)
theorem ax_t_lmul (S : ax_St D tc γ aK aV A p s m args meth c mi) (hd : decode (ax_m mi).2.1 pc = .ok (.lmul, 1)) (hs : ax_b2L (pc + 1) ls st h (fun x y => some (x * y)) = some (.inl q)) (K : ax_G l D tc γ A p e s m args below meth c mi r h' q.1 q.2.1 q.2.2.1 q.2.2.2) : ax_G l D tc γ A p e s m args below meth c mi r h' pc ls st h := by
  obtain ⟨x, y, z, st', rfl, hz, rfl⟩ := ax_b2L_i hs
  cases hz
  intro H locs la hP hS hL
  exact lv_lmul S.1.1 S.1.2.1 hd (K H locs la hP hS hL)
theorem ax_t_land (S : ax_St D tc γ aK aV A p s m args meth c mi) (hd : decode (ax_m mi).2.1 pc = .ok (.land, 1)) (hs : ax_b2L (pc + 1) ls st h (fun x y => some (x &&& y)) = some (.inl q)) (K : ax_G l D tc γ A p e s m args below meth c mi r h' q.1 q.2.1 q.2.2.1 q.2.2.2) : ax_G l D tc γ A p e s m args below meth c mi r h' pc ls st h := by
  obtain ⟨x, y, z, st', rfl, hz, rfl⟩ := ax_b2L_i hs
  cases hz
  intro H locs la hP hS hL
  exact lv_land S.1.1 S.1.2.1 hd (K H locs la hP hS hL)
theorem ax_t_ldiv (S : ax_St D tc γ aK aV A p s m args meth c mi) (hd : decode (ax_m mi).2.1 pc = .ok (.ldiv, 1)) (hs : ax_b2L (pc + 1) ls st h (fun x y => bif y == 0 then none else some (x / y)) = some (.inl q)) (K : ax_G l D tc γ A p e s m args below meth c mi r h' q.1 q.2.1 q.2.2.1 q.2.2.2) : ax_G l D tc γ A p e s m args below meth c mi r h' pc ls st h := by
  obtain ⟨x, y, z, st', rfl, hz, rfl⟩ := ax_b2L_i hs
  cases hy : (y == 0) with
  | true => rw [hy] at hz; cases hz
  | false =>
    rw [hy] at hz
    cases hz
    intro H locs la hP hS hL
    exact lv_ldiv S.1.1 S.1.2.1 hd (by simpa using hy) (K H locs la hP hS hL)
theorem ax_t_lrem (S : ax_St D tc γ aK aV A p s m args meth c mi) (hd : decode (ax_m mi).2.1 pc = .ok (.lrem, 1)) (hs : ax_b2L (pc + 1) ls st h (fun x y => bif y == 0 then none else some (x - x / y * y)) = some (.inl q)) (K : ax_G l D tc γ A p e s m args below meth c mi r h' q.1 q.2.1 q.2.2.1 q.2.2.2) : ax_G l D tc γ A p e s m args below meth c mi r h' pc ls st h := by
  obtain ⟨x, y, z, st', rfl, hz, rfl⟩ := ax_b2L_i hs
  cases hy : (y == 0) with
  | true => rw [hy] at hz; cases hz
  | false =>
    rw [hy] at hz
    cases hz
    intro H locs la hP hS hL
    exact lv_lrem S.1.1 S.1.2.1 hd (by simpa using hy) (K H locs la hP hS hL)
theorem ax_t_ineg (S : ax_St D tc γ aK aV A p s m args meth c mi) (hd : decode (ax_m mi).2.1 pc = .ok (.ineg, 1)) (hs : ax_u1 (pc + 1) ls st h (fun x => .int (-x)) = some (.inl q)) (K : ax_G l D tc γ A p e s m args below meth c mi r h' q.1 q.2.1 q.2.2.1 q.2.2.2) : ax_G l D tc γ A p e s m args below meth c mi r h' pc ls st h := by
  obtain ⟨x, st', rfl, rfl⟩ := ax_u1_i hs
  intro H locs la hP hS hL
  exact lv_ineg S.1.1 S.1.2.1 hd (K H locs la hP hS hL)
theorem ax_t_i2l (S : ax_St D tc γ aK aV A p s m args meth c mi) (hd : decode (ax_m mi).2.1 pc = .ok (.i2l, 1)) (hs : ax_u1 (pc + 1) ls st h (fun x => .long x.toInt64) = some (.inl q)) (K : ax_G l D tc γ A p e s m args below meth c mi r h' q.1 q.2.1 q.2.2.1 q.2.2.2) : ax_G l D tc γ A p e s m args below meth c mi r h' pc ls st h := by
  obtain ⟨x, st', rfl, rfl⟩ := ax_u1_i hs
  intro H locs la hP hS hL
  exact lv_i2l S.1.1 S.1.2.1 hd rfl (K H locs la hP hS hL)
theorem ax_t_i2b (S : ax_St D tc γ aK aV A p s m args meth c mi) (hd : decode (ax_m mi).2.1 pc = .ok (.i2b, 1)) (hs : ax_u1 (pc + 1) ls st h (fun x => .int x.toInt8.toInt32) = some (.inl q)) (K : ax_G l D tc γ A p e s m args below meth c mi r h' q.1 q.2.1 q.2.2.1 q.2.2.2) : ax_G l D tc γ A p e s m args below meth c mi r h' pc ls st h := by
  obtain ⟨x, st', rfl, rfl⟩ := ax_u1_i hs
  intro H locs la hP hS hL
  exact lv_i2b S.1.1 S.1.2.1 hd rfl (K H locs la hP hS hL)
theorem ax_t_i2s (S : ax_St D tc γ aK aV A p s m args meth c mi) (hd : decode (ax_m mi).2.1 pc = .ok (.i2s, 1)) (hs : ax_u1 (pc + 1) ls st h (fun x => .int x.toInt16.toInt32) = some (.inl q)) (K : ax_G l D tc γ A p e s m args below meth c mi r h' q.1 q.2.1 q.2.2.1 q.2.2.2) : ax_G l D tc γ A p e s m args below meth c mi r h' pc ls st h := by
  obtain ⟨x, st', rfl, rfl⟩ := ax_u1_i hs
  intro H locs la hP hS hL
  exact lv_i2s S.1.1 S.1.2.1 hd rfl (K H locs la hP hS hL)
theorem ax_t_i2c (S : ax_St D tc γ aK aV A p s m args meth c mi) (hd : decode (ax_m mi).2.1 pc = .ok (.i2c, 1)) (hs : ax_u1 (pc + 1) ls st h (fun x => .int (x.toUInt32 % 65536).toInt32) = some (.inl q)) (K : ax_G l D tc γ A p e s m args below meth c mi r h' q.1 q.2.1 q.2.2.1 q.2.2.2) : ax_G l D tc γ A p e s m args below meth c mi r h' pc ls st h := by
  obtain ⟨x, st', rfl, rfl⟩ := ax_u1_i hs
  intro H locs la hP hS hL
  exact lv_i2c S.1.1 S.1.2.1 hd rfl (K H locs la hP hS hL)
theorem ax_t_lcmp (S : ax_St D tc γ aK aV A p s m args meth c mi) (hd : decode (ax_m mi).2.1 pc = .ok (.lcmp, 1)) (hs : (match st with | .long y :: .long x :: st => ax_nx (pc + 1) ls (.int (lg_cmp x y) :: st) h | _ => none) = some (.inl q)) (K : ax_G l D tc γ A p e s m args below meth c mi r h' q.1 q.2.1 q.2.2.1 q.2.2.2) : ax_G l D tc γ A p e s m args below meth c mi r h' pc ls st h := by
  split at hs
  · rename_i y x st'
    cases ax_nx_i hs
    intro H locs la hP hS hL
    exact W.lcmp S.1.1 S.1.2.1 hd (K H locs la hP hS hL)
  · cases hs
theorem ax_t_l2i (S : ax_St D tc γ aK aV A p s m args meth c mi) (hd : decode (ax_m mi).2.1 pc = .ok (.l2i, 1)) (hs : (match st with | .long x :: st => ax_nx (pc + 1) ls (.int x.toInt32 :: st) h | _ => none) = some (.inl q)) (K : ax_G l D tc γ A p e s m args below meth c mi r h' q.1 q.2.1 q.2.2.1 q.2.2.2) : ax_G l D tc γ A p e s m args below meth c mi r h' pc ls st h := by
  split at hs
  · rename_i x st'
    cases ax_nx_i hs
    intro H locs la hP hS hL
    exact lv_l2i S.1.1 S.1.2.1 hd rfl (K H locs la hP hS hL)
  · cases hs
theorem ax_cv_cat (γ : Nat → Nat) (v : Value) : (ax_cv γ v).category = v.category := by cases v <;> rfl
theorem ax_t_dup (S : ax_St D tc γ aK aV A p s m args meth c mi) (hd : decode (ax_m mi).2.1 pc = .ok (.dup, 1)) (hs : (match st with | v :: st => (bif v.category == 1 then ax_nx (pc + 1) ls (v :: v :: st) h else none) | _ => none) = some (.inl q)) (K : ax_G l D tc γ A p e s m args below meth c mi r h' q.1 q.2.1 q.2.2.1 q.2.2.2) : ax_G l D tc γ A p e s m args below meth c mi r h' pc ls st h := by
  split at hs
  · rename_i v st'
    cases hv : (v.category == 1) with
    | false => rw [hv] at hs; cases hs
    | true =>
      rw [hv] at hs
      cases ax_nx_i hs
      intro H locs la hP hS hL
      exact lv_dup S.1.1 S.1.2.1 hd (by rw [ax_cv_cat]; exact beq_iff_eq.mp hv) (K H locs la hP hS hL)
  · cases hs
theorem ax_t_pop (S : ax_St D tc γ aK aV A p s m args meth c mi) (hd : decode (ax_m mi).2.1 pc = .ok (.pop, 1)) (hs : (match st with | v :: st => (bif v.category == 1 then ax_nx (pc + 1) ls st h else none) | _ => none) = some (.inl q)) (K : ax_G l D tc γ A p e s m args below meth c mi r h' q.1 q.2.1 q.2.2.1 q.2.2.2) : ax_G l D tc γ A p e s m args below meth c mi r h' pc ls st h := by
  split at hs
  · rename_i v st'
    cases hv : (v.category == 1) with
    | false => rw [hv] at hs; cases hs
    | true =>
      rw [hv] at hs
      cases ax_nx_i hs
      intro H locs la hP hS hL
      exact lv_pop S.1.1 S.1.2.1 hd (by rw [ax_cv_cat]; exact beq_iff_eq.mp hv) (K H locs la hP hS hL)
  · cases hs
theorem ax_t_dup2 (S : ax_St D tc γ aK aV A p s m args meth c mi) (hd : decode (ax_m mi).2.1 pc = .ok (.dup2, 1)) (hs : (match st with | v :: w :: st => (bif v.category == 1 && w.category == 1 then ax_nx (pc + 1) ls (v :: w :: v :: w :: st) h else none) | _ => none) = some (.inl q)) (K : ax_G l D tc γ A p e s m args below meth c mi r h' q.1 q.2.1 q.2.2.1 q.2.2.2) : ax_G l D tc γ A p e s m args below meth c mi r h' pc ls st h := by
  split at hs
  · rename_i v w st'
    cases hv : (v.category == 1 && w.category == 1) with
    | false => rw [hv] at hs; cases hs
    | true =>
      rw [hv] at hs
      rw [Bool.and_eq_true] at hv
      cases ax_nx_i hs
      intro H locs la hP hS hL
      exact lv_dup2_11 S.1.1 S.1.2.1 hd (by rw [ax_cv_cat]; exact beq_iff_eq.mp hv.1) (by rw [ax_cv_cat]; exact beq_iff_eq.mp hv.2) (K H locs la hP hS hL)
  · cases hs
theorem ax_t_goto (S : ax_St D tc γ aK aV A p s m args meth c mi) {off : Int} {t k : Nat} (hd : decode (ax_m mi).2.1 pc = .ok (.goto off, 3)) (ht : (pc : Int) + off = (t : Int)) (hs : ax_nx t (ax_keep k ls) st h = some (.inl q)) (K : ax_G l D tc γ A p e s m args below meth c mi r h' q.1 q.2.1 q.2.2.1 q.2.2.2) : ax_G l D tc γ A p e s m args below meth c mi r h' pc ls st h := by
  cases ax_nx_i hs
  intro H locs la hP hS hL
  obtain ⟨h1, h2⟩ := ax_keep_at k ls
  exact lv_goto S.1.1 S.1.2.1 hd ht (K H locs la hP hS ⟨h1.trans hL.1, hL.2.1, hL.2.2.1, fun i v hv => hL.2.2.2 i v (h2 i v hv)⟩)
theorem ax_t_if (S : ax_St D tc γ aK aV A p s m args meth c mi) {cd : ClassFile.Cond} {off : Int} {t : Nat} (hd : decode (ax_m mi).2.1 pc = .ok (.ifCond cd off, 3)) (ht : (pc : Int) + off = (t : Int)) (hs : ax_br1 pc t ls st h (fun x => ax_cond cd x 0) = some (.inl q)) (K : ax_G l D tc γ A p e s m args below meth c mi r h' q.1 q.2.1 q.2.2.1 q.2.2.2) : ax_G l D tc γ A p e s m args below meth c mi r h' pc ls st h := by
  obtain ⟨x, st', rfl, hq⟩ := ax_br1_i hs
  cases cd with
  | eq =>
    intro H locs la hP hS hL
    refine lv_if_eq S.1.1 S.1.2.1 hd ht (fun hc => ?_) (fun hc => ?_)
    · rcases hq with ⟨-, rfl⟩ | ⟨hf, -⟩
      · exact K H locs la hP hS hL
      · exact absurd hc (of_decide_eq_false hf)
    · rcases hq with ⟨hf, -⟩ | ⟨-, rfl⟩
      · first | exact absurd (of_decide_eq_true hf) hc | exact absurd hc (of_decide_eq_true hf)
      · exact K H locs la hP hS hL
  | ne =>
    intro H locs la hP hS hL
    refine lv_if_ne S.1.1 S.1.2.1 hd ht (fun hc => ?_) (fun hc => ?_)
    · rcases hq with ⟨-, rfl⟩ | ⟨hf, -⟩
      · exact K H locs la hP hS hL
      · exact absurd hc (of_decide_eq_false hf)
    · rcases hq with ⟨hf, -⟩ | ⟨-, rfl⟩
      · first | exact absurd (of_decide_eq_true hf) hc | exact absurd hc (of_decide_eq_true hf)
      · exact K H locs la hP hS hL
  | lt =>
    intro H locs la hP hS hL
    refine lv_if_lt S.1.1 S.1.2.1 hd ht (fun hc => ?_) (fun hc => ?_)
    · rcases hq with ⟨-, rfl⟩ | ⟨hf, -⟩
      · exact K H locs la hP hS hL
      · exact absurd hc (of_decide_eq_false hf)
    · rcases hq with ⟨hf, -⟩ | ⟨-, rfl⟩
      · first | exact absurd (of_decide_eq_true hf) hc | exact absurd hc (of_decide_eq_true hf)
      · exact K H locs la hP hS hL
  | ge =>
    intro H locs la hP hS hL
    refine lv_if_ge S.1.1 S.1.2.1 hd ht (fun hc => ?_) (fun hc => ?_)
    · rcases hq with ⟨-, rfl⟩ | ⟨hf, -⟩
      · exact K H locs la hP hS hL
      · exact absurd hc (of_decide_eq_false hf)
    · rcases hq with ⟨hf, -⟩ | ⟨-, rfl⟩
      · first | exact absurd (of_decide_eq_true hf) hc | exact absurd hc (of_decide_eq_true hf)
      · exact K H locs la hP hS hL
  | gt =>
    intro H locs la hP hS hL
    refine lv_if_gt S.1.1 S.1.2.1 hd ht (fun hc => ?_) (fun hc => ?_)
    · rcases hq with ⟨-, rfl⟩ | ⟨hf, -⟩
      · exact K H locs la hP hS hL
      · exact absurd hc (of_decide_eq_false hf)
    · rcases hq with ⟨hf, -⟩ | ⟨-, rfl⟩
      · first | exact absurd (of_decide_eq_true hf) hc | exact absurd hc (of_decide_eq_true hf)
      · exact K H locs la hP hS hL
  | le =>
    intro H locs la hP hS hL
    refine lv_if_le S.1.1 S.1.2.1 hd ht (fun hc => ?_) (fun hc => ?_)
    · rcases hq with ⟨-, rfl⟩ | ⟨hf, -⟩
      · exact K H locs la hP hS hL
      · exact absurd hc (of_decide_eq_false hf)
    · rcases hq with ⟨hf, -⟩ | ⟨-, rfl⟩
      · first | exact absurd (of_decide_eq_true hf) hc | exact absurd hc (of_decide_eq_true hf)
      · exact K H locs la hP hS hL
theorem ax_t_icmp (S : ax_St D tc γ aK aV A p s m args meth c mi) {cd : ClassFile.Cond} {off : Int} {t : Nat} (hd : decode (ax_m mi).2.1 pc = .ok (.if_icmp cd off, 3)) (ht : (pc : Int) + off = (t : Int)) (hs : ax_br2 pc t ls st h (fun x y => ax_cond cd x y) = some (.inl q)) (K : ax_G l D tc γ A p e s m args below meth c mi r h' q.1 q.2.1 q.2.2.1 q.2.2.2) : ax_G l D tc γ A p e s m args below meth c mi r h' pc ls st h := by
  obtain ⟨x, y, st', rfl, hq⟩ := ax_br2_i hs
  cases cd with
  | eq =>
    intro H locs la hP hS hL
    refine lv_icmp_eq S.1.1 S.1.2.1 hd ht (fun hc => ?_) (fun hc => ?_)
    · rcases hq with ⟨-, rfl⟩ | ⟨hf, -⟩
      · exact K H locs la hP hS hL
      · exact absurd hc (of_decide_eq_false hf)
    · rcases hq with ⟨hf, -⟩ | ⟨-, rfl⟩
      · first | exact absurd (of_decide_eq_true hf) hc | exact absurd hc (of_decide_eq_true hf)
      · exact K H locs la hP hS hL
  | ne =>
    intro H locs la hP hS hL
    refine lv_icmp_ne S.1.1 S.1.2.1 hd ht (fun hc => ?_) (fun hc => ?_)
    · rcases hq with ⟨-, rfl⟩ | ⟨hf, -⟩
      · exact K H locs la hP hS hL
      · exact absurd hc (of_decide_eq_false hf)
    · rcases hq with ⟨hf, -⟩ | ⟨-, rfl⟩
      · first | exact absurd (of_decide_eq_true hf) hc | exact absurd hc (of_decide_eq_true hf)
      · exact K H locs la hP hS hL
  | lt =>
    intro H locs la hP hS hL
    refine lv_icmp_lt S.1.1 S.1.2.1 hd ht (fun hc => ?_) (fun hc => ?_)
    · rcases hq with ⟨-, rfl⟩ | ⟨hf, -⟩
      · exact K H locs la hP hS hL
      · exact absurd hc (of_decide_eq_false hf)
    · rcases hq with ⟨hf, -⟩ | ⟨-, rfl⟩
      · first | exact absurd (of_decide_eq_true hf) hc | exact absurd hc (of_decide_eq_true hf)
      · exact K H locs la hP hS hL
  | ge =>
    intro H locs la hP hS hL
    refine lv_icmp_ge S.1.1 S.1.2.1 hd ht (fun hc => ?_) (fun hc => ?_)
    · rcases hq with ⟨-, rfl⟩ | ⟨hf, -⟩
      · exact K H locs la hP hS hL
      · exact absurd hc (of_decide_eq_false hf)
    · rcases hq with ⟨hf, -⟩ | ⟨-, rfl⟩
      · first | exact absurd (of_decide_eq_true hf) hc | exact absurd hc (of_decide_eq_true hf)
      · exact K H locs la hP hS hL
  | gt =>
    intro H locs la hP hS hL
    refine lv_icmp_gt S.1.1 S.1.2.1 hd ht (fun hc => ?_) (fun hc => ?_)
    · rcases hq with ⟨-, rfl⟩ | ⟨hf, -⟩
      · exact K H locs la hP hS hL
      · exact absurd hc (of_decide_eq_false hf)
    · rcases hq with ⟨hf, -⟩ | ⟨-, rfl⟩
      · first | exact absurd (of_decide_eq_true hf) hc | exact absurd hc (of_decide_eq_true hf)
      · exact K H locs la hP hS hL
  | le =>
    intro H locs la hP hS hL
    refine lv_icmp_le S.1.1 S.1.2.1 hd ht (fun hc => ?_) (fun hc => ?_)
    · rcases hq with ⟨-, rfl⟩ | ⟨hf, -⟩
      · exact K H locs la hP hS hL
      · exact absurd hc (of_decide_eq_false hf)
    · rcases hq with ⟨hf, -⟩ | ⟨-, rfl⟩
      · first | exact absurd (of_decide_eq_true hf) hc | exact absurd hc (of_decide_eq_true hf)
      · exact K H locs la hP hS hL
theorem ax_t_tab (S : ax_St D tc γ aK aV A p s m args meth c mi) {d lo hi : Int} {offs : Array Int} {n : Nat} (hd : decode (ax_m mi).2.1 pc = .ok (.tableswitch d lo hi offs, n)) (h0 : 0 ≤ (pc : Int) + d) (h1 : ∀ o ∈ offs.toList, 0 ≤ (pc : Int) + o) (hs : (match st with | .int x :: st => bif decide (x.toInt < lo) || decide (hi < x.toInt) then ax_nx ((pc : Int) + d).toNat ls st h else (match offs[(x.toInt - lo).toNat]? with | some o => ax_nx ((pc : Int) + o).toNat ls st h | none => none) | _ => none) = some (.inl q)) (K : ax_G l D tc γ A p e s m args below meth c mi r h' q.1 q.2.1 q.2.2.1 q.2.2.2) : ax_G l D tc γ A p e s m args below meth c mi r h' pc ls st h := by
  split at hs
  · rename_i x st'
    cases hb : (decide (x.toInt < lo) || decide (hi < x.toInt)) with
    | true =>
      rw [hb] at hs
      cases ax_nx_i hs
      intro H locs la hP hS hL
      have hc : x.toInt < lo ∨ hi < x.toInt := by simpa using hb
      exact lv_tableOut S.1.1 S.1.2.1 hd hc (Int.toNat_of_nonneg h0).symm (K H locs la hP hS hL)
    | false =>
      rw [hb] at hs
      dsimp only [cond_false] at hs
      split at hs
      · rename_i o ho
        cases ax_nx_i hs
        intro H locs la hP hS hL
        have hc : ¬ x.toInt < lo ∧ ¬ hi < x.toInt := by simpa using hb
        have hin : o ∈ offs.toList := by
          rw [← Array.getElem?_toList] at ho
          exact List.mem_of_getElem? ho
        exact lv_tableIn S.1.1 S.1.2.1 hd hc.1 hc.2 ho (Int.toNat_of_nonneg (h1 o hin)).symm (K H locs la hP hS hL)
      · cases hs
  · cases hs
end AXS
