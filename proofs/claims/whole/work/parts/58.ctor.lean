/-! ===== the constructors: a machine over the list of the cells that are new ===== -/
abbrev bx_E : Type := Nat × List Value
abbrev bx_H : Type := List bx_E
abbrev bx_S : Type := Nat × ax_L × List Value × bx_H × Nat × Nat
abbrev bx_Op : Type := Nat × Nat × Int
def bx_vi : Value → Int32
  | .int x => x
  | _ => 0
def bx_vj : Value → Int64
  | .long x => x
  | _ => 0
def bx_vr : Value → Option Nat
  | .ref k => some k
  | _ => none
def bx_c (e : bx_E) : ax_C :=
  bif Nat.beq e.1 10 then .inl (0, e.2.length, .inl (fun j => bx_vi (e.2.getD j .null))) else
  bif Nat.beq e.1 11 then .inl (1, e.2.length, .inr (.inl (fun j => bx_vj (e.2.getD j .null)))) else
  bif Nat.beq e.1 12 then .inl (2, e.2.length, .inl (fun j => bx_vi (e.2.getD j .null))) else
  bif Nat.beq e.1 13 then .inl (3, e.2.length, .inr (.inr (.inr (.inr (fun j => bx_vr (e.2.getD j .null)))))) else
  bif Nat.beq e.1 14 then .inl (4, e.2.length, .inr (.inr (.inr (.inr (fun j => bx_vr (e.2.getD j .null)))))) else .inr (e.1, e.2)
def bx_g (z : Nat) : Nat → Nat := fun k => z + k
def bx_w (tc : Nat → ClassId) (z : Nat) (h : bx_H) : va_W := (List.range h.length).map (fun k => (z + k, ax_ce tc (bx_g z) (bx_c (h.getD k (0, [])))))
-- tables: the constructor of a class goes by the class's number
def bx_b (y : Nat) : ByteArray := ([cX0_init, cX1_init, cX2_init, cX3_init, cX4_init, cX5_init, cX6_init] : List ByteArray).getD y cX0_init
def bx_y (y : Nat) : MethodName := ([yX0_init, yX1_init, yX2_init, yX3_init, yX4_init, yX5_init, yX6_init] : List MethodName).getD y yX0_init
def bx_nL (y : Nat) : Nat := ([1, 1, 1, 1, 1, 1, 2] : List Nat).getD y 1
def bx_mc (y : Nat) : Nat := ([2, 49, 5, 1, 1, 133, 12] : List Nat).getD y 0
def bx_ms (y : Nat) : Nat := ([12, 336, 30, 24, 70, 1302, 1249] : List Nat).getD y 0
def bx_fr (y : Nat) : Nat := ([1, 2, 1, 1, 1, 3, 1] : List Nat).getD y 1
def bx_lo (y : Nat) : Nat := ([12, 32, 12, 12, 12, 52, 12] : List Nat).getD y 12
def bx_rm (y : Nat) : Room := { frames := bx_fr y, cells := bx_mc y, slots := bx_ms y, locals := bx_lo y }
def bx_ws (y : Nat) : List Cond := .code (bx_y y) (bx_b y) (bx_nL y) none :: ax_gw
def bx_lN : List (Nat × Nat × Nat) := [(5, 9, 2), (5, 21, 1), (1, 9, 2), (5, 38, 4), (5, 45, 3), (5, 52, 0)]
def bx_lC : List (Nat × Nat × Nat) := [(5, 7, 2), (5, 19, 1), (5, 36, 4), (5, 43, 3), (5, 50, 0), (1, 7, 2)]
def bx_lO : List (Nat × Nat) := [(0, 3), (1, 1), (2, 3), (3, 3), (4, 3), (5, 1), (6, 1)]
theorem bx_lC_all : ∀ q ∈ bx_lC, Cond.classLink (ax_cn q.1) q.2.1 (ax_cn q.2.2) ∈ ax_gw := List.forall_mem_cons.mpr ⟨ax_gi (ax_in_t1 (List.mem_of_getElem? (i := 25) rfl)) rfl, List.forall_mem_cons.mpr ⟨ax_gi (ax_in_t1 (List.mem_of_getElem? (i := 78) rfl)) rfl, List.forall_mem_cons.mpr ⟨ax_gi (ax_in_t1 (List.mem_of_getElem? (i := 98) rfl)) rfl, List.forall_mem_cons.mpr ⟨ax_gi (ax_in_t1 (List.mem_of_getElem? (i := 115) rfl)) rfl, List.forall_mem_cons.mpr ⟨ax_gi (ax_in_t1 (List.mem_of_getElem? (i := 136) rfl)) rfl, List.forall_mem_cons.mpr ⟨ax_gi (ax_in_t1 (List.mem_of_getElem? (i := 84) rfl)) rfl, fun _ h => absurd h List.not_mem_nil⟩⟩⟩⟩⟩⟩
theorem bx_lO_all : ∀ q ∈ bx_lO, Cond.methodLink (ax_cn q.1) q.2 objectInit ∈ ax_gw := List.forall_mem_cons.mpr ⟨ax_gi (ax_in_t1 (List.mem_of_getElem? (i := 141) rfl)) rfl, List.forall_mem_cons.mpr ⟨ax_gi (ax_in_t1 (List.mem_of_getElem? (i := 83) rfl)) rfl, List.forall_mem_cons.mpr ⟨ax_gi (ax_in_t1 (List.mem_of_getElem? (i := 30) rfl)) rfl, List.forall_mem_cons.mpr ⟨ax_gi (ax_in_t1 (List.mem_of_getElem? (i := 121) rfl)) rfl, List.forall_mem_cons.mpr ⟨ax_gi (ax_in_t1 (List.mem_of_getElem? (i := 103) rfl)) rfl, List.forall_mem_cons.mpr ⟨ax_gi (ax_in_t1 (List.mem_of_getElem? (i := 22) rfl)) rfl, List.forall_mem_cons.mpr ⟨ax_gi (ax_in_t4 (List.mem_of_getElem? (i := 8) rfl)) rfl, fun _ h => absurd h List.not_mem_nil⟩⟩⟩⟩⟩⟩⟩
theorem bx_o1 : Cond.instanceMethod objectInit ∈ ax_gw := ax_gi (ax_in_t1 (List.mem_of_getElem? (i := 23) rfl)) rfl
theorem bx_o2 : Cond.code objectInit ⟨#[0xb1]⟩ 1 none ∈ ax_gw := ax_gi (ax_in_t1 (List.mem_of_getElem? (i := 24) rfl)) rfl
theorem bx_a0 : Cond.arrayClass .int ∈ ax_gw := ax_gi (ax_in_t1 (List.mem_of_getElem? (i := 77) rfl)) rfl
theorem bx_a1 : Cond.arrayClass .long ∈ ax_gw := ax_gi (ax_in_t1 (List.mem_of_getElem? (i := 135) rfl)) rfl
theorem bx_a2 : Cond.arrayClass .char ∈ ax_gw := ax_gi (ax_in_t1 (List.mem_of_getElem? (i := 114) rfl)) rfl
/-- what is known of a constructor -/
def bx_YO (y : Nat) : Prop := Cond.code (bx_y y) (bx_b y) (bx_nL y) none ∈ ax_gw ∧ Cond.instanceMethod (bx_y y) ∈ ax_gw ∧ Cond.instantiable (ax_cn y) (ax_nf y) ∈ ax_gw ∧ (bx_y y).cls = ax_cn y ∧ (bx_y y).name = "<init>" ∧ (parseMethodDescriptor (bx_y y).desc).map (fun d => d.parameters.length) = some 0
theorem bx_yo0 : bx_YO 0 := ⟨ax_gi (ax_in_t1 (List.mem_of_getElem? (i := 140) rfl)) rfl, ax_gi (ax_in_t1 (List.mem_of_getElem? (i := 139) rfl)) rfl, ax_gi (ax_in_t1 (List.mem_of_getElem? (i := 137) rfl)) rfl, rfl, rfl, by decide +kernel⟩
theorem bx_yo1 : bx_YO 1 := ⟨ax_gi (ax_in_t1 (List.mem_of_getElem? (i := 82) rfl)) rfl, ax_gi (ax_in_t1 (List.mem_of_getElem? (i := 81) rfl)) rfl, ax_gi (ax_in_t1 (List.mem_of_getElem? (i := 79) rfl)) rfl, rfl, rfl, by decide +kernel⟩
theorem bx_yo2 : bx_YO 2 := ⟨ax_gi (ax_in_t1 (List.mem_of_getElem? (i := 29) rfl)) rfl, ax_gi (ax_in_t1 (List.mem_of_getElem? (i := 28) rfl)) rfl, ax_gi (ax_in_t1 (List.mem_of_getElem? (i := 26) rfl)) rfl, rfl, rfl, by decide +kernel⟩
theorem bx_yo3 : bx_YO 3 := ⟨ax_gi (ax_in_t1 (List.mem_of_getElem? (i := 120) rfl)) rfl, ax_gi (ax_in_t1 (List.mem_of_getElem? (i := 119) rfl)) rfl, ax_gi (ax_in_t1 (List.mem_of_getElem? (i := 117) rfl)) rfl, rfl, rfl, by decide +kernel⟩
theorem bx_yo4 : bx_YO 4 := ⟨ax_gi (ax_in_t1 (List.mem_of_getElem? (i := 102) rfl)) rfl, ax_gi (ax_in_t1 (List.mem_of_getElem? (i := 101) rfl)) rfl, ax_gi (ax_in_t1 (List.mem_of_getElem? (i := 99) rfl)) rfl, rfl, rfl, by decide +kernel⟩
theorem bx_yo5 : bx_YO 5 := ⟨ax_gi (ax_in_t1 (List.mem_of_getElem? (i := 21) rfl)) rfl, ax_gi (ax_in_t1 (List.mem_of_getElem? (i := 20) rfl)) rfl, ax_gi (ax_in_t1 (List.mem_of_getElem? (i := 18) rfl)) rfl, rfl, rfl, by decide +kernel⟩
theorem bx_yo6 : bx_YO 6 := ⟨ax_gi (ax_in_t4 (List.mem_of_getElem? (i := 7) rfl)) rfl, ax_gi (ax_in_t4 (List.mem_of_getElem? (i := 6) rfl)) rfl, ax_gi (ax_in_t4 (List.mem_of_getElem? (i := 4) rfl)) rfl, rfl, rfl, by decide +kernel⟩
theorem bx_yo {y : Nat} (h : y < 7) : bx_YO y := by
  rcases (show y = 0 ∨ y = 1 ∨ y = 2 ∨ y = 3 ∨ y = 4 ∨ y = 5 ∨ y = 6 by omega) with rfl | rfl | rfl | rfl | rfl | rfl | rfl
  · exact bx_yo0
  · exact bx_yo1
  · exact bx_yo2
  · exact bx_yo3
  · exact bx_yo4
  · exact bx_yo5
  · exact bx_yo6
theorem bx_good {mi : Nat} (hj : mi < 7) {ws : List Cond} (hin : ∀ w ∈ ax_gw, w ∈ ws) : GoodIn ws (bx_ws mi) := by
  intro w hw
  rcases List.mem_cons.mp hw with rfl | h
  · exact ⟨hin _ (bx_yo hj).1, good_of_word (ax_gw_good (bx_yo hj).1)⟩
  · exact ⟨hin _ h, good_of_word (ax_gw_good h)⟩
-- the words that are kept apart
def bx_N (s : State) : Prop := (∀ q ∈ bx_lN, va_Nw (.methodLinkNest (ax_cn q.1) q.2.1 (bx_y q.2.2) RX5) s) ∧ va_AO RX2 s ∧ va_AO RX3 s
def bx_Wo (D : va_G) (tc : Nat → ClassId) (s : State) : Prop := va_K D ax_cl (ax_tys tc) s ∧ bx_N s
theorem bx_Wo.warm {D : va_G} {tc : Nat → ClassId} {s U : State} (h : bx_Wo D tc s) (hW : s.WarmedH U.vm) : bx_Wo D tc U :=
  ⟨va_K.moved hW.alike h.1, fun q hq => va_Nw.warmM hW (h.2.1 q hq), h.2.2.1.moved hW.alike, h.2.2.2.moved hW.alike⟩
theorem bx_Wo.same {D : va_G} {tc : Nat → ClassId} {U : State} {g : JFrame} {mk : MethodId} {a : Array Value} (h : bx_Wo D tc U) : bx_Wo D tc (U.calling g mk a) :=
  ⟨va_K.moved (u := U) (U := U.calling g mk a) (Vm.Alike.refl U.vm) h.1, fun q hq => va_Nw.same rfl (u := U) (U := U.calling g mk a) rfl (h.2.1 q hq), va_AO.moved (u := U) (U := U.calling g mk a) (Vm.Alike.refl U.vm) h.2.2.1, va_AO.moved (u := U) (U := U.calling g mk a) (Vm.Alike.refl U.vm) h.2.2.2⟩
section BXW
variable {D : va_G} {tc : Nat → ClassId} {z : Nat} {h : bx_H} {k : Nat}
theorem bx_w_len : (bx_w tc z h).length = h.length := by simp [bx_w]
theorem bx_w_at {e : bx_E} (hk : h[k]? = some e) : (bx_w tc z h)[k]? = some (z + k, ax_ce tc (bx_g z) (bx_c e)) := by
  have hl := (List.getElem?_eq_some_iff.mp hk).1
  unfold bx_w
  rw [List.getElem?_map, List.getElem?_range hl, Option.map_some, List.getD_eq_getElem?_getD, hk]
  rfl
theorem bx_w_of {q : Nat × va_E} (hq : (bx_w tc z h)[k]? = some q) : ∃ e, h[k]? = some e ∧ q = (z + k, ax_ce tc (bx_g z) (bx_c e)) := by
  have hl : k < h.length := by
    have h1 := (List.getElem?_eq_some_iff.mp hq).1
    rw [bx_w_len] at h1
    exact h1
  have he : h[k]? = some h[k] := List.getElem?_eq_getElem hl
  rw [bx_w_at he] at hq
  exact ⟨_, he, (Option.some.inj hq).symm⟩
theorem bx_w_none (hk : h.length ≤ k) : (bx_w tc z h)[k]? = none := List.getElem?_eq_none (by rw [bx_w_len]; exact hk)
theorem bx_w_set {e e0 : bx_E} (hk : h[k]? = some e0) : (bx_w tc z h).set k (z + k, ax_ce tc (bx_g z) (bx_c e)) = bx_w tc z (h.set k e) := by
  have hl := (List.getElem?_eq_some_iff.mp hk).1
  apply List.ext_getElem?
  intro j
  rw [List.getElem?_set]
  by_cases hj : k = j
  · subst hj
    rw [if_pos rfl, if_pos (by rw [bx_w_len]; exact hl)]
    exact (bx_w_at (by rw [List.getElem?_set_self hl])).symm
  · rw [if_neg hj]
    by_cases hj2 : j < h.length
    · have he : h[j]? = some h[j] := List.getElem?_eq_getElem hj2
      rw [bx_w_at he, bx_w_at (by rw [List.getElem?_set_ne hj]; exact he)]
    · rw [bx_w_none (by omega), bx_w_none (by rw [List.length_set]; omega)]
theorem bx_w_push {e : bx_E} : bx_w tc z (h ++ [e]) = bx_w tc z h ++ [(z + h.length, ax_ce tc (bx_g z) (bx_c e))] := by
  apply List.ext_getElem?
  intro j
  rcases Nat.lt_trichotomy j h.length with hj | rfl | hj
  · have he : h[j]? = some h[j] := List.getElem?_eq_getElem hj
    rw [List.getElem?_append_left (by rw [bx_w_len]; exact hj), bx_w_at he, bx_w_at (by rw [List.getElem?_append_left hj]; exact he)]
  · rw [bx_w_at (e := e) (by rw [List.getElem?_append_right (Nat.le_refl _), Nat.sub_self]; rfl), List.getElem?_append_right (by rw [bx_w_len]; exact Nat.le_refl _), bx_w_len, Nat.sub_self]
    rfl
  · rw [bx_w_none (by rw [List.length_append]; exact hj), List.getElem?_eq_none (by rw [List.length_append, bx_w_len]; exact hj)]
theorem bx_D : va_D (fun q => z ≤ q) (bx_w tc z h) := by
  refine ⟨fun i j p q hp hq e => ?_, fun k q hq => ?_⟩
  · obtain ⟨_, -, rfl⟩ := bx_w_of hp
    obtain ⟨_, -, rfl⟩ := bx_w_of hq
    have e : z + i = z + j := e
    omega
  · obtain ⟨_, -, rfl⟩ := bx_w_of hq
    exact Nat.le_add_right _ _
theorem bx_lt {H : Heap} (hP : va_P D ax_cl (bx_w tc z h) H) (hz : z ≤ H.size) : z + h.length ≤ H.size := by
  rcases Nat.eq_zero_or_pos h.length with h0 | h0
  · omega
  · have he : h[h.length - 1]? = some h[h.length - 1] := List.getElem?_eq_getElem (by omega)
    have h1 := (hP _ _ (bx_w_at he)).lt
    have h1 : z + (h.length - 1) < H.size := h1
    omega
theorem bx_addr {H1 : Heap} {q : Nat} {e : va_E} (hP : va_P D ax_cl (bx_w tc z h ++ [(q, e)]) H1) (hD : va_D (fun q => z ≤ q) (bx_w tc z h ++ [(q, e)])) (hz : H1.size ≤ z + h.length + 1) : q = z + h.length := by
  have hq : (bx_w tc z h ++ [(q, e)])[h.length]? = some (q, e) := by
    rw [List.getElem?_append_right (by rw [bx_w_len]; exact Nat.le_refl _), bx_w_len, Nat.sub_self]; rfl
  have h1 : q < H1.size := (hP _ _ hq).lt
  have h2 : z ≤ q := hD.2 _ _ hq
  rcases Nat.lt_or_ge q (z + h.length) with h3 | h3
  · have hj : q - z < h.length := by omega
    have he : h[q - z]? = some h[q - z] := List.getElem?_eq_getElem hj
    have h4 := hD.1 (q - z) h.length _ _ (by rw [List.getElem?_append_left (by rw [bx_w_len]; exact hj)]; exact bx_w_at he) hq (by show z + (q - z) = q; omega)
    omega
  · omega
end BXW
theorem bx_rep {N : Nat} {v : Value} {β : Type} {f : Value → β} (h : f v = f .null) : (fun j => f ((List.replicate N v).getD j .null)) = fun _ => f v := by
  funext j
  rw [List.getD_eq_getElem?_getD, List.getElem?_replicate]
  by_cases hj : j < N
  · rw [if_pos hj]; rfl
  · rw [if_neg hj]; exact h.symm
theorem bx_c10 (N : Nat) : bx_c (10, List.replicate N (.int 0)) = .inl (0, N, .inl (fun _ => 0)) := by
  show (Sum.inl (0, (List.replicate N (Value.int 0)).length, .inl (fun j => bx_vi ((List.replicate N (Value.int 0)).getD j .null))) : ax_C) = _
  rw [bx_rep (v := (.int 0)) (f := bx_vi) rfl, List.length_replicate]; rfl
theorem bx_c11 (N : Nat) : bx_c (11, List.replicate N (.long 0)) = .inl (1, N, .inr (.inl (fun _ => 0))) := by
  show (Sum.inl (1, (List.replicate N (Value.long 0)).length, .inr (.inl (fun j => bx_vj ((List.replicate N (Value.long 0)).getD j .null)))) : ax_C) = _
  rw [bx_rep (v := (.long 0)) (f := bx_vj) rfl, List.length_replicate]; rfl
theorem bx_c12 (N : Nat) : bx_c (12, List.replicate N (.int 0)) = .inl (2, N, .inl (fun _ => 0)) := by
  show (Sum.inl (2, (List.replicate N (Value.int 0)).length, .inl (fun j => bx_vi ((List.replicate N (Value.int 0)).getD j .null))) : ax_C) = _
  rw [bx_rep (v := (.int 0)) (f := bx_vi) rfl, List.length_replicate]; rfl
theorem bx_c13 (N : Nat) : bx_c (13, List.replicate N .null) = .inl (3, N, .inr (.inr (.inr (.inr (fun _ => none))))) := by
  show (Sum.inl (3, (List.replicate N Value.null).length, .inr (.inr (.inr (.inr (fun j => bx_vr ((List.replicate N Value.null).getD j .null)))))) : ax_C) = _
  rw [bx_rep (v := .null) (f := bx_vr) rfl, List.length_replicate]; rfl
theorem bx_c14 (N : Nat) : bx_c (14, List.replicate N .null) = .inl (4, N, .inr (.inr (.inr (.inr (fun _ => none))))) := by
  show (Sum.inl (4, (List.replicate N Value.null).length, .inr (.inr (.inr (.inr (fun j => bx_vr ((List.replicate N Value.null).getD j .null)))))) : ax_C) = _
  rw [bx_rep (v := .null) (f := bx_vr) rfl, List.length_replicate]; rfl
