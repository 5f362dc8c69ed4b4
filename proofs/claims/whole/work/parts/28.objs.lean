/-! ===== fields and rows of the other objects ===== -/
section OB
variable {X Y : Nat → Nat → Nat} {sc : Nat → Nat → Int32} {ai : Nat → Nat → Int32} {aj : Nat → Nat → Int64}
theorem oo_114 : ax_isO (hp X Y sc ai aj) 114 5 = true := isO (hp_o (by decide)) (Nat.le_of_ble_eq_true rfl)
theorem gf114_0 : ax_getF (hp X Y sc ai aj) 114 5 0 = some (.ref (ha 0 0)) := rfl
theorem gf114_1 : ax_getF (hp X Y sc ai aj) 114 5 1 = some (.ref (ha 1 0)) := rfl
theorem gf114_2 : ax_getF (hp X Y sc ai aj) 114 5 2 = some (.ref (hi_ 0)) := rfl
theorem gf114_3 : ax_getF (hp X Y sc ai aj) 114 5 3 = some (.ref (ha 2 0)) := rfl
theorem gf114_4 : ax_getF (hp X Y sc ai aj) 114 5 4 = some (.ref (hi_ 1)) := rfl
theorem gf114_5 : ax_getF (hp X Y sc ai aj) 114 5 5 = some (.int (sc 114 5)) := rfl
theorem pf114_5 {v : Int32} : ax_putF (hp X Y sc ai aj) 114 5 5 (.int v) = some (hp X Y (upS sc 114 5 v) ai aj) := pF (hp_o (by decide)) (Nat.le_of_ble_eq_true rfl) (Nat.le_of_ble_eq_true rfl) (hp_S (by decide) rfl)
theorem gf114_6 : ax_getF (hp X Y sc ai aj) 114 5 6 = some (.ref (119)) := rfl
theorem gf114_7 : ax_getF (hp X Y sc ai aj) 114 5 7 = some (.ref (121)) := rfl
theorem gf114_8 : ax_getF (hp X Y sc ai aj) 114 5 8 = some (.ref (130)) := rfl
theorem gf114_9 : ax_getF (hp X Y sc ai aj) 114 5 9 = some (.ref (133)) := rfl
theorem oo_119 : ax_isO (hp X Y sc ai aj) 119 4 = true := isO (hp_o (by decide)) (Nat.le_of_ble_eq_true rfl)
theorem gf119_0 : ax_getF (hp X Y sc ai aj) 119 4 0 = some (.ref (120)) := rfl
theorem gf119_1 : ax_getF (hp X Y sc ai aj) 119 4 1 = some (.int (sc 119 1)) := rfl
theorem pf119_1 {v : Int32} : ax_putF (hp X Y sc ai aj) 119 4 1 (.int v) = some (hp X Y (upS sc 119 1 v) ai aj) := pF (hp_o (by decide)) (Nat.le_of_ble_eq_true rfl) (Nat.le_of_ble_eq_true rfl) (hp_S (by decide) rfl)
theorem gf119_2 : ax_getF (hp X Y sc ai aj) 119 4 2 = some (.int (sc 119 2)) := rfl
theorem pf119_2 {v : Int32} : ax_putF (hp X Y sc ai aj) 119 4 2 (.int v) = some (hp X Y (upS sc 119 2 v) ai aj) := pF (hp_o (by decide)) (Nat.le_of_ble_eq_true rfl) (Nat.le_of_ble_eq_true rfl) (hp_S (by decide) rfl)
theorem oo_130 : ax_isO (hp X Y sc ai aj) 130 0 = true := isO (hp_o (by decide)) (Nat.le_of_ble_eq_true rfl)
theorem gf130_0 : ax_getF (hp X Y sc ai aj) 130 0 0 = some (.ref (131)) := rfl
theorem gf130_1 : ax_getF (hp X Y sc ai aj) 130 0 1 = some (.ref (132)) := rfl
theorem gf130_2 : ax_getF (hp X Y sc ai aj) 130 0 2 = some (.int (sc 130 2)) := rfl
theorem pf130_2 {v : Int32} : ax_putF (hp X Y sc ai aj) 130 0 2 (.int v) = some (hp X Y (upS sc 130 2 v) ai aj) := pF (hp_o (by decide)) (Nat.le_of_ble_eq_true rfl) (Nat.le_of_ble_eq_true rfl) (hp_S (by decide) rfl)
theorem oo_134 : ax_isO (hp X Y sc ai aj) 134 6 = true := isO (hp_o (by decide)) (Nat.le_of_ble_eq_true rfl)
theorem gf134_0 : ax_getF (hp X Y sc ai aj) 134 6 0 = some (.ref (135)) := rfl
theorem gf134_1 : ax_getF (hp X Y sc ai aj) 134 6 1 = some (.int (sc 134 1)) := rfl
theorem pf134_1 {v : Int32} : ax_putF (hp X Y sc ai aj) 134 6 1 (.int v) = some (hp X Y (upS sc 134 1 v) ai aj) := pF (hp_o (by decide)) (Nat.le_of_ble_eq_true rfl) (Nat.le_of_ble_eq_true rfl) (hp_S (by decide) rfl)
theorem gf134_2 : ax_getF (hp X Y sc ai aj) 134 6 2 = some (.int (sc 134 2)) := rfl
theorem pf134_2 {v : Int32} : ax_putF (hp X Y sc ai aj) 134 6 2 (.int v) = some (hp X Y (upS sc 134 2 v) ai aj) := pF (hp_o (by decide)) (Nat.le_of_ble_eq_true rfl) (Nat.le_of_ble_eq_true rfl) (hp_S (by decide) rfl)
theorem gf134_3 : ax_getF (hp X Y sc ai aj) 134 6 3 = some (.int (sc 134 3)) := rfl
theorem pf134_3 {v : Int32} : ax_putF (hp X Y sc ai aj) 134 6 3 (.int v) = some (hp X Y (upS sc 134 3 v) ai aj) := pF (hp_o (by decide)) (Nat.le_of_ble_eq_true rfl) (Nat.le_of_ble_eq_true rfl) (hp_S (by decide) rfl)
theorem gf134_4 : ax_getF (hp X Y sc ai aj) 134 6 4 = some (.ref (136)) := rfl
theorem gf134_5 : ax_getF (hp X Y sc ai aj) 134 6 5 = some (.int (sc 134 5)) := rfl
theorem pf134_5 {v : Int32} : ax_putF (hp X Y sc ai aj) 134 6 5 (.int v) = some (hp X Y (upS sc 134 5 v) ai aj) := pF (hp_o (by decide)) (Nat.le_of_ble_eq_true rfl) (Nat.le_of_ble_eq_true rfl) (hp_S (by decide) rfl)
theorem gf134_6 : ax_getF (hp X Y sc ai aj) 134 6 6 = some (.ref (137)) := rfl
theorem gf134_7 : ax_getF (hp X Y sc ai aj) 134 6 7 = some (.ref (138)) := rfl
theorem gf134_8 : ax_getF (hp X Y sc ai aj) 134 6 8 = some (.ref (139)) := rfl
theorem gf134_9 : ax_getF (hp X Y sc ai aj) 134 6 9 = some (.int (sc 134 9)) := rfl
theorem pf134_9 {v : Int32} : ax_putF (hp X Y sc ai aj) 134 6 9 (.int v) = some (hp X Y (upS sc 134 9 v) ai aj) := pF (hp_o (by decide)) (Nat.le_of_ble_eq_true rfl) (Nat.le_of_ble_eq_true rfl) (hp_S (by decide) rfl)
theorem gf134_10 : ax_getF (hp X Y sc ai aj) 134 6 10 = some (.ref (140)) := rfl
theorem gf134_11 : ax_getF (hp X Y sc ai aj) 134 6 11 = some (.ref (141)) := rfl
theorem gf134_12 : ax_getF (hp X Y sc ai aj) 134 6 12 = some (.ref (142)) := rfl
theorem gf134_13 : ax_getF (hp X Y sc ai aj) 134 6 13 = some (.ref (143)) := rfl
theorem gf134_14 : ax_getF (hp X Y sc ai aj) 134 6 14 = some (.ref (144)) := rfl
theorem gf134_15 : ax_getF (hp X Y sc ai aj) 134 6 15 = some (.ref (145)) := rfl
theorem gf134_16 : ax_getF (hp X Y sc ai aj) 134 6 16 = some (.ref (146)) := rfl
theorem gi120 {k : Nat} (hk : k < 70) : ax_getI (hp X Y sc ai aj) 120 2 (nI k) = some (ai 120 k) := gI (hp_o (by decide)) (Nat.le_of_ble_eq_true rfl) hk (by decide)
theorem li120 : ax_lenA (hp X Y sc ai aj) 120 = some (nI 70) := lA (x := (70, .inl (ai 120))) (hp_o (by decide)) (Nat.le_of_ble_eq_true rfl) (by decide)
theorem pi120 {k : Nat} {v : Int32} (hk : k < 70) : ax_putC (hp X Y sc ai aj) 120 (nI k) v = some (hp X Y sc (upA ai 120 (upd (ai 120) k (vp_nar .char v))) aj) := pC (hp_o (by decide)) (Nat.le_of_ble_eq_true rfl) hk (by decide) (hp_up (by decide) (by rw [upA_s]; rfl) rfl (fun b hb => by rw [upA_n hb]))
theorem gi131 {k : Nat} (hk : k < 6) : ax_getI (hp X Y sc ai aj) 131 0 (nI k) = some (ai 131 k) := gI (hp_o (by decide)) (Nat.le_of_ble_eq_true rfl) hk (by decide)
theorem li131 : ax_lenA (hp X Y sc ai aj) 131 = some (nI 6) := lA (x := (6, .inl (ai 131))) (hp_o (by decide)) (Nat.le_of_ble_eq_true rfl) (by decide)
theorem pi131 {k : Nat} {v : Int32} (hk : k < 6) : ax_putI (hp X Y sc ai aj) 131 (nI k) v = some (hp X Y sc (upA ai 131 (upd (ai 131) k v)) aj) := pI (hp_o (by decide)) (Nat.le_of_ble_eq_true rfl) hk (by decide) (hp_up (by decide) (by rw [upA_s]; rfl) rfl (fun b hb => by rw [upA_n hb]))
theorem gi132 {k : Nat} (hk : k < 6) : ax_getI (hp X Y sc ai aj) 132 0 (nI k) = some (ai 132 k) := gI (hp_o (by decide)) (Nat.le_of_ble_eq_true rfl) hk (by decide)
theorem li132 : ax_lenA (hp X Y sc ai aj) 132 = some (nI 6) := lA (x := (6, .inl (ai 132))) (hp_o (by decide)) (Nat.le_of_ble_eq_true rfl) (by decide)
theorem pi132 {k : Nat} {v : Int32} (hk : k < 6) : ax_putI (hp X Y sc ai aj) 132 (nI k) v = some (hp X Y sc (upA ai 132 (upd (ai 132) k v)) aj) := pI (hp_o (by decide)) (Nat.le_of_ble_eq_true rfl) hk (by decide) (hp_up (by decide) (by rw [upA_s]; rfl) rfl (fun b hb => by rw [upA_n hb]))
theorem gi136 {k : Nat} (hk : k < 70) : ax_getI (hp X Y sc ai aj) 136 0 (nI k) = some (ai 136 k) := gI (hp_o (by decide)) (Nat.le_of_ble_eq_true rfl) hk (by decide)
theorem li136 : ax_lenA (hp X Y sc ai aj) 136 = some (nI 70) := lA (x := (70, .inl (ai 136))) (hp_o (by decide)) (Nat.le_of_ble_eq_true rfl) (by decide)
theorem pi136 {k : Nat} {v : Int32} (hk : k < 70) : ax_putI (hp X Y sc ai aj) 136 (nI k) v = some (hp X Y sc (upA ai 136 (upd (ai 136) k v)) aj) := pI (hp_o (by decide)) (Nat.le_of_ble_eq_true rfl) hk (by decide) (hp_up (by decide) (by rw [upA_s]; rfl) rfl (fun b hb => by rw [upA_n hb]))
theorem gi138 {k : Nat} (hk : k < 4) : ax_getI (hp X Y sc ai aj) 138 0 (nI k) = some (ai 138 k) := gI (hp_o (by decide)) (Nat.le_of_ble_eq_true rfl) hk (by decide)
theorem li138 : ax_lenA (hp X Y sc ai aj) 138 = some (nI 4) := lA (x := (4, .inl (ai 138))) (hp_o (by decide)) (Nat.le_of_ble_eq_true rfl) (by decide)
theorem pi138 {k : Nat} {v : Int32} (hk : k < 4) : ax_putI (hp X Y sc ai aj) 138 (nI k) v = some (hp X Y sc (upA ai 138 (upd (ai 138) k v)) aj) := pI (hp_o (by decide)) (Nat.le_of_ble_eq_true rfl) hk (by decide) (hp_up (by decide) (by rw [upA_s]; rfl) rfl (fun b hb => by rw [upA_n hb]))
theorem gi139 {k : Nat} (hk : k < 4) : ax_getI (hp X Y sc ai aj) 139 0 (nI k) = some (ai 139 k) := gI (hp_o (by decide)) (Nat.le_of_ble_eq_true rfl) hk (by decide)
theorem li139 : ax_lenA (hp X Y sc ai aj) 139 = some (nI 4) := lA (x := (4, .inl (ai 139))) (hp_o (by decide)) (Nat.le_of_ble_eq_true rfl) (by decide)
theorem pi139 {k : Nat} {v : Int32} (hk : k < 4) : ax_putI (hp X Y sc ai aj) 139 (nI k) v = some (hp X Y sc (upA ai 139 (upd (ai 139) k v)) aj) := pI (hp_o (by decide)) (Nat.le_of_ble_eq_true rfl) hk (by decide) (hp_up (by decide) (by rw [upA_s]; rfl) rfl (fun b hb => by rw [upA_n hb]))
theorem gi140 {k : Nat} (hk : k < 6) : ax_getI (hp X Y sc ai aj) 140 0 (nI k) = some (ai 140 k) := gI (hp_o (by decide)) (Nat.le_of_ble_eq_true rfl) hk (by decide)
theorem li140 : ax_lenA (hp X Y sc ai aj) 140 = some (nI 6) := lA (x := (6, .inl (ai 140))) (hp_o (by decide)) (Nat.le_of_ble_eq_true rfl) (by decide)
theorem pi140 {k : Nat} {v : Int32} (hk : k < 6) : ax_putI (hp X Y sc ai aj) 140 (nI k) v = some (hp X Y sc (upA ai 140 (upd (ai 140) k v)) aj) := pI (hp_o (by decide)) (Nat.le_of_ble_eq_true rfl) hk (by decide) (hp_up (by decide) (by rw [upA_s]; rfl) rfl (fun b hb => by rw [upA_n hb]))
theorem gi141 {k : Nat} (hk : k < 6) : ax_getI (hp X Y sc ai aj) 141 0 (nI k) = some (ai 141 k) := gI (hp_o (by decide)) (Nat.le_of_ble_eq_true rfl) hk (by decide)
theorem li141 : ax_lenA (hp X Y sc ai aj) 141 = some (nI 6) := lA (x := (6, .inl (ai 141))) (hp_o (by decide)) (Nat.le_of_ble_eq_true rfl) (by decide)
theorem pi141 {k : Nat} {v : Int32} (hk : k < 6) : ax_putI (hp X Y sc ai aj) 141 (nI k) v = some (hp X Y sc (upA ai 141 (upd (ai 141) k v)) aj) := pI (hp_o (by decide)) (Nat.le_of_ble_eq_true rfl) hk (by decide) (hp_up (by decide) (by rw [upA_s]; rfl) rfl (fun b hb => by rw [upA_n hb]))
theorem gi142 {k : Nat} (hk : k < 6) : ax_getI (hp X Y sc ai aj) 142 0 (nI k) = some (ai 142 k) := gI (hp_o (by decide)) (Nat.le_of_ble_eq_true rfl) hk (by decide)
theorem li142 : ax_lenA (hp X Y sc ai aj) 142 = some (nI 6) := lA (x := (6, .inl (ai 142))) (hp_o (by decide)) (Nat.le_of_ble_eq_true rfl) (by decide)
theorem pi142 {k : Nat} {v : Int32} (hk : k < 6) : ax_putI (hp X Y sc ai aj) 142 (nI k) v = some (hp X Y sc (upA ai 142 (upd (ai 142) k v)) aj) := pI (hp_o (by decide)) (Nat.le_of_ble_eq_true rfl) hk (by decide) (hp_up (by decide) (by rw [upA_s]; rfl) rfl (fun b hb => by rw [upA_n hb]))
theorem gi144 {k : Nat} (hk : k < 6) : ax_getI (hp X Y sc ai aj) 144 0 (nI k) = some (ai 144 k) := gI (hp_o (by decide)) (Nat.le_of_ble_eq_true rfl) hk (by decide)
theorem li144 : ax_lenA (hp X Y sc ai aj) 144 = some (nI 6) := lA (x := (6, .inl (ai 144))) (hp_o (by decide)) (Nat.le_of_ble_eq_true rfl) (by decide)
theorem pi144 {k : Nat} {v : Int32} (hk : k < 6) : ax_putI (hp X Y sc ai aj) 144 (nI k) v = some (hp X Y sc (upA ai 144 (upd (ai 144) k v)) aj) := pI (hp_o (by decide)) (Nat.le_of_ble_eq_true rfl) hk (by decide) (hp_up (by decide) (by rw [upA_s]; rfl) rfl (fun b hb => by rw [upA_n hb]))
theorem gi145 {k : Nat} (hk : k < 6) : ax_getI (hp X Y sc ai aj) 145 0 (nI k) = some (ai 145 k) := gI (hp_o (by decide)) (Nat.le_of_ble_eq_true rfl) hk (by decide)
theorem li145 : ax_lenA (hp X Y sc ai aj) 145 = some (nI 6) := lA (x := (6, .inl (ai 145))) (hp_o (by decide)) (Nat.le_of_ble_eq_true rfl) (by decide)
theorem pi145 {k : Nat} {v : Int32} (hk : k < 6) : ax_putI (hp X Y sc ai aj) 145 (nI k) v = some (hp X Y sc (upA ai 145 (upd (ai 145) k v)) aj) := pI (hp_o (by decide)) (Nat.le_of_ble_eq_true rfl) hk (by decide) (hp_up (by decide) (by rw [upA_s]; rfl) rfl (fun b hb => by rw [upA_n hb]))
theorem gj133 {k : Nat} (hk : k < 301) : ax_getJ (hp X Y sc ai aj) 133 (nI k) = some (aj 133 k) := gJ (hp_o (by decide)) (Nat.le_of_ble_eq_true rfl) hk (by decide)
theorem lj133 : ax_lenA (hp X Y sc ai aj) 133 = some (nI 301) := lA (x := (301, .inr (.inl (aj 133)))) (hp_o (by decide)) (Nat.le_of_ble_eq_true rfl) (by decide)
theorem pj133 {k : Nat} {v : Int64} (hk : k < 301) : ax_putJ (hp X Y sc ai aj) 133 (nI k) v = some (hp X Y sc ai (upJ aj 133 (vp_updL (aj 133) k v))) := pJ (hp_o (by decide)) (Nat.le_of_ble_eq_true rfl) hk (by decide) (hp_up (by decide) (by rw [upJ_s]; rfl) rfl (fun b hb => by rw [upJ_n hb]))
theorem gj137 {k : Nat} (hk : k < 96) : ax_getJ (hp X Y sc ai aj) 137 (nI k) = some (aj 137 k) := gJ (hp_o (by decide)) (Nat.le_of_ble_eq_true rfl) hk (by decide)
theorem lj137 : ax_lenA (hp X Y sc ai aj) 137 = some (nI 96) := lA (x := (96, .inr (.inl (aj 137)))) (hp_o (by decide)) (Nat.le_of_ble_eq_true rfl) (by decide)
theorem pj137 {k : Nat} {v : Int64} (hk : k < 96) : ax_putJ (hp X Y sc ai aj) 137 (nI k) v = some (hp X Y sc ai (upJ aj 137 (vp_updL (aj 137) k v))) := pJ (hp_o (by decide)) (Nat.le_of_ble_eq_true rfl) hk (by decide) (hp_up (by decide) (by rw [upJ_s]; rfl) rfl (fun b hb => by rw [upJ_n hb]))
theorem gj143 {k : Nat} (hk : k < 301) : ax_getJ (hp X Y sc ai aj) 143 (nI k) = some (aj 143 k) := gJ (hp_o (by decide)) (Nat.le_of_ble_eq_true rfl) hk (by decide)
theorem lj143 : ax_lenA (hp X Y sc ai aj) 143 = some (nI 301) := lA (x := (301, .inr (.inl (aj 143)))) (hp_o (by decide)) (Nat.le_of_ble_eq_true rfl) (by decide)
theorem pj143 {k : Nat} {v : Int64} (hk : k < 301) : ax_putJ (hp X Y sc ai aj) 143 (nI k) v = some (hp X Y sc ai (upJ aj 143 (vp_updL (aj 143) k v))) := pJ (hp_o (by decide)) (Nat.le_of_ble_eq_true rfl) hk (by decide) (hp_up (by decide) (by rw [upJ_s]; rfl) rfl (fun b hb => by rw [upJ_n hb]))
theorem gj146 {k : Nat} (hk : k < 24) : ax_getJ (hp X Y sc ai aj) 146 (nI k) = some (aj 146 k) := gJ (hp_o (by decide)) (Nat.le_of_ble_eq_true rfl) hk (by decide)
theorem lj146 : ax_lenA (hp X Y sc ai aj) 146 = some (nI 24) := lA (x := (24, .inr (.inl (aj 146)))) (hp_o (by decide)) (Nat.le_of_ble_eq_true rfl) (by decide)
theorem pj146 {k : Nat} {v : Int64} (hk : k < 24) : ax_putJ (hp X Y sc ai aj) 146 (nI k) v = some (hp X Y sc ai (upJ aj 146 (vp_updL (aj 146) k v))) := pJ (hp_o (by decide)) (Nat.le_of_ble_eq_true rfl) hk (by decide) (hp_up (by decide) (by rw [upJ_s]; rfl) rfl (fun b hb => by rw [upJ_n hb]))
theorem sh_ge {s : Nat} : ¬ sh s < 114 := by unfold sh; omega
theorem si_ge {s : Nat} : ¬ si s < 114 := by unfold si; omega
theorem hi_ge {t : Nat} : ¬ hi_ t < 114 := by unfold hi_; omega
theorem sh_lt {s : Nat} (hs : s < 4) : sh s < ax_NC := by unfold sh ax_NC; omega
theorem si_lt {s : Nat} (hs : s < 4) : si s < ax_NC := by unfold si ax_NC; omega
theorem hi_lt {t : Nat} (ht : t < 2) : hi_ t < ax_NC := by unfold hi_ ax_NC; omega
theorem hq_lt {t : Nat} (ht : t < 2) : hq_ t < ax_NC := by unfold hq_ ax_NC; omega
theorem oc_sh {s : Nat} {f : Nat → Int32} {g : Nat → Int64} {z : Nat → Int32} (hs : s < 4) : ocell z Y f g (sh s) = .inr (3, [.int (z 0), .int (z 1), .ref (si s)]) := by
  rcases (show s = 0 ∨ s = 1 ∨ s = 2 ∨ s = 3 by omega) with rfl | rfl | rfl | rfl <;> rfl
theorem oc_si {s : Nat} {f : Nat → Int32} {g : Nat → Int64} {z : Nat → Int32} (hs : s < 4) : ocell z Y f g (si s) = .inl (1, 24, .inr (.inl g)) := by
  rcases (show s = 0 ∨ s = 1 ∨ s = 2 ∨ s = 3 by omega) with rfl | rfl | rfl | rfl <;> rfl
theorem oc_hi {t : Nat} {f : Nat → Int32} {g : Nat → Int64} {z : Nat → Int32} (ht : t < 2) : ocell z Y f g (hi_ t) = .inr (1, [.ref (hq_ t), .int (z 1), .int (z 2)]) := by
  rcases (show t = 0 ∨ t = 1 by omega) with rfl | rfl <;> rfl
theorem gA121 {k : Nat} (hk : k < 4) : ax_getA (hp X Y sc ai aj) 121 (nI k) = some (sh k) := gA (f := fun i => some (sh i)) (hp_o (by decide)) (Nat.le_of_ble_eq_true rfl) (Or.inr rfl) hk (by decide)
theorem gAq {t k : Nat} (ht : t < 2) (hk : k < 8) : ax_getA (hp X Y sc ai aj) (hq_ t) (nI k) = some (ha (3 + 8 * t + k) 0) := gA (f := fun i => some (ha (3 + 8 * t + i) 0)) (hp_hq ht) (hq_lt ht) (Or.inl rfl) hk (by decide)
theorem oo_s {s : Nat} (hs : s < 4) : ax_isO (hp X Y sc ai aj) (sh s) 3 = true := isO (hp_sh hs) (sh_lt hs)
theorem gfs_0 {s : Nat} (hs : s < 4) : ax_getF (hp X Y sc ai aj) (sh s) 3 0 = some (.int (sc (sh s) 0)) := gF (hp_sh hs) (sh_lt hs) rfl
theorem gfs_1 {s : Nat} (hs : s < 4) : ax_getF (hp X Y sc ai aj) (sh s) 3 1 = some (.int (sc (sh s) 1)) := gF (hp_sh hs) (sh_lt hs) rfl
theorem gfs_2 {s : Nat} (hs : s < 4) : ax_getF (hp X Y sc ai aj) (sh s) 3 2 = some (.ref (si s)) := gF (hp_sh hs) (sh_lt hs) rfl
theorem pfs_0 {s : Nat} {v : Int32} (hs : s < 4) : ax_putF (hp X Y sc ai aj) (sh s) 3 0 (.int v) = some (hp X Y (upS sc (sh s) 0 v) ai aj) := pF (hp_sh hs) (sh_lt hs) (Nat.le_of_ble_eq_true rfl) (hp_S sh_ge (by rw [oc_sh hs, upS_s, upS_k (by decide)]; rfl))
theorem pfs_1 {s : Nat} {v : Int32} (hs : s < 4) : ax_putF (hp X Y sc ai aj) (sh s) 3 1 (.int v) = some (hp X Y (upS sc (sh s) 1 v) ai aj) := pF (hp_sh hs) (sh_lt hs) (Nat.le_of_ble_eq_true rfl) (hp_S sh_ge (by rw [oc_sh hs, upS_s, upS_k (by decide)]; rfl))
theorem gjs {s k : Nat} (hs : s < 4) (hk : k < 24) : ax_getJ (hp X Y sc ai aj) (si s) (nI k) = some (aj (si s) k) := gJ (hp_si hs) (si_lt hs) hk (by decide)
theorem ljs {s : Nat} (hs : s < 4) : ax_lenA (hp X Y sc ai aj) (si s) = some (nI 24) := lA (x := (24, .inr (.inl (aj (si s))))) (hp_si hs) (si_lt hs) (by decide)
theorem pjs {s k : Nat} {v : Int64} (hs : s < 4) (hk : k < 24) : ax_putJ (hp X Y sc ai aj) (si s) (nI k) v = some (hp X Y sc ai (upJ aj (si s) (vp_updL (aj (si s)) k v))) := pJ (hp_si hs) (si_lt hs) hk (by decide) (hp_up si_ge (by rw [oc_si hs, upJ_s]) rfl (fun b hb => by rw [upJ_n hb]))
theorem oo_h {t : Nat} (ht : t < 2) : ax_isO (hp X Y sc ai aj) (hi_ t) 1 = true := isO (hp_hi ht) (hi_lt ht)
theorem gfh_0 {t : Nat} (ht : t < 2) : ax_getF (hp X Y sc ai aj) (hi_ t) 1 0 = some (.ref (hq_ t)) := gF (hp_hi ht) (hi_lt ht) rfl
theorem gfh_1 {t : Nat} (ht : t < 2) : ax_getF (hp X Y sc ai aj) (hi_ t) 1 1 = some (.int (sc (hi_ t) 1)) := gF (hp_hi ht) (hi_lt ht) rfl
theorem pfh_1 {t : Nat} {v : Int32} (ht : t < 2) : ax_putF (hp X Y sc ai aj) (hi_ t) 1 1 (.int v) = some (hp X Y (upS sc (hi_ t) 1 v) ai aj) := pF (hp_hi ht) (hi_lt ht) (Nat.le_of_ble_eq_true rfl) (hp_S hi_ge (by rw [oc_hi ht, upS_s, upS_k (by decide)]; rfl))
theorem gfh_2 {t : Nat} (ht : t < 2) : ax_getF (hp X Y sc ai aj) (hi_ t) 1 2 = some (.int (sc (hi_ t) 2)) := gF (hp_hi ht) (hi_lt ht) rfl
theorem pfh_2 {t : Nat} {v : Int32} (ht : t < 2) : ax_putF (hp X Y sc ai aj) (hi_ t) 1 2 (.int v) = some (hp X Y (upS sc (hi_ t) 2 v) ai aj) := pF (hp_hi ht) (hi_lt ht) (Nat.le_of_ble_eq_true rfl) (hp_S hi_ge (by rw [oc_hi ht, upS_s, upS_k (by decide)]; rfl))
end OB
