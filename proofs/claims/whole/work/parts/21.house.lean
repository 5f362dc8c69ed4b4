/-! ===== a house of the class: its fields and rows ===== -/
section HH
variable {X Y : Nat → Nat → Nat} {sc : Nat → Nat → Int32} {ai : Nat → Nat → Int32} {aj : Nat → Nat → Int64} {j : Nat}
theorem gh_people (hj : j < 19) : ax_getF (hp X Y sc ai aj) (ha j 0) 2 0 = some (.int (nI (X j 0))) := gF (hp_h hj (by decide)) (ha_lt hj (by decide)) rfl
theorem ph_people {v : Nat} (hj : j < 19) : ax_putF (hp X Y sc ai aj) (ha j 0) 2 0 (.int (nI v)) = some (hp (upX X j (up1 (X j) 0 v)) Y sc ai aj) := pF (hp_h hj (by decide)) (ha_lt hj (by decide)) (Nat.le_of_ble_eq_true rfl) (hp_uh (x := up1 (X j) 0 v) hj (by decide) (fun i hi h0 => by rcases (show i = 1 ∨ i = 2 ∨ i = 3 ∨ i = 4 ∨ i = 5 by omega) with rfl | rfl | rfl | rfl | rfl <;> (simp only [hcell]; rw [hrow_n (fun q hq => by omega)])))
theorem gh_here (hj : j < 19) : ax_getF (hp X Y sc ai aj) (ha j 0) 2 6 = some (.int (nI (X j 4))) := gF (hp_h hj (by decide)) (ha_lt hj (by decide)) rfl
theorem ph_here {v : Nat} (hj : j < 19) : ax_putF (hp X Y sc ai aj) (ha j 0) 2 6 (.int (nI v)) = some (hp (upX X j (up1 (X j) 4 v)) Y sc ai aj) := pF (hp_h hj (by decide)) (ha_lt hj (by decide)) (Nat.le_of_ble_eq_true rfl) (hp_uh (x := up1 (X j) 4 v) hj (by decide) (fun i hi h0 => by rcases (show i = 1 ∨ i = 2 ∨ i = 3 ∨ i = 4 ∨ i = 5 by omega) with rfl | rfl | rfl | rfl | rfl <;> (simp only [hcell]; rw [hrow_n (fun q hq => by omega)])))
theorem gh_sat (hj : j < 19) : ax_getF (hp X Y sc ai aj) (ha j 0) 2 8 = some (.int (nI (X j 3))) := gF (hp_h hj (by decide)) (ha_lt hj (by decide)) rfl
theorem ph_sat {v : Nat} (hj : j < 19) : ax_putF (hp X Y sc ai aj) (ha j 0) 2 8 (.int (nI v)) = some (hp (upX X j (up1 (X j) 3 v)) Y sc ai aj) := pF (hp_h hj (by decide)) (ha_lt hj (by decide)) (Nat.le_of_ble_eq_true rfl) (hp_uh (x := up1 (X j) 3 v) hj (by decide) (fun i hi h0 => by rcases (show i = 1 ∨ i = 2 ∨ i = 3 ∨ i = 4 ∨ i = 5 by omega) with rfl | rfl | rfl | rfl | rfl <;> (simp only [hcell]; rw [hrow_n (fun q hq => by omega)])))
theorem gh_minute (hj : j < 19) : ax_getF (hp X Y sc ai aj) (ha j 0) 2 9 = some (.int (nI (X j 1))) := gF (hp_h hj (by decide)) (ha_lt hj (by decide)) rfl
theorem ph_minute {v : Nat} (hj : j < 19) : ax_putF (hp X Y sc ai aj) (ha j 0) 2 9 (.int (nI v)) = some (hp (upX X j (up1 (X j) 1 v)) Y sc ai aj) := pF (hp_h hj (by decide)) (ha_lt hj (by decide)) (Nat.le_of_ble_eq_true rfl) (hp_uh (x := up1 (X j) 1 v) hj (by decide) (fun i hi h0 => by rcases (show i = 1 ∨ i = 2 ∨ i = 3 ∨ i = 4 ∨ i = 5 by omega) with rfl | rfl | rfl | rfl | rfl <;> (simp only [hcell]; rw [hrow_n (fun q hq => by omega)])))
theorem gh_draw (hj : j < 19) : ax_getF (hp X Y sc ai aj) (ha j 0) 2 10 = some (.int (nI (X j 5))) := gF (hp_h hj (by decide)) (ha_lt hj (by decide)) rfl
theorem ph_draw {v : Nat} (hj : j < 19) : ax_putF (hp X Y sc ai aj) (ha j 0) 2 10 (.int (nI v)) = some (hp (upX X j (up1 (X j) 5 v)) Y sc ai aj) := pF (hp_h hj (by decide)) (ha_lt hj (by decide)) (Nat.le_of_ble_eq_true rfl) (hp_uh (x := up1 (X j) 5 v) hj (by decide) (fun i hi h0 => by rcases (show i = 1 ∨ i = 2 ∨ i = 3 ∨ i = 4 ∨ i = 5 by omega) with rfl | rfl | rfl | rfl | rfl <;> (simp only [hcell]; rw [hrow_n (fun q hq => by omega)])))
theorem gh_sitter (hj : j < 19) : ax_getF (hp X Y sc ai aj) (ha j 0) 2 7 = some (.int (sv (X j 2))) := gF (hp_h hj (by decide)) (ha_lt hj (by decide)) rfl
theorem ph_sitter0 {v : Int32} {s : Nat} (hj : j < 19) (hv : v = sv s) : ax_putF (hp X Y sc ai aj) (ha j 0) 2 7 (.int v) = some (hp (upX X j (up1 (X j) 2 s)) Y sc ai aj) := by
  subst hv
  exact pF (hp_h hj (by decide)) (ha_lt hj (by decide)) (Nat.le_of_ble_eq_true rfl) (hp_uh (x := up1 (X j) 2 s) hj (by decide) (fun i hi h0 => by rcases (show i = 1 ∨ i = 2 ∨ i = 3 ∨ i = 4 ∨ i = 5 by omega) with rfl | rfl | rfl | rfl | rfl <;> (simp only [hcell]; rw [hrow_n (fun q hq => by omega)])))
theorem ph_sitter {s : Nat} (hj : j < 19) (hs : s < 6) : ax_putF (hp X Y sc ai aj) (ha j 0) 2 7 (.int (nI s)) = some (hp (upX X j (up1 (X j) 2 s)) Y sc ai aj) := ph_sitter0 hj (by unfold sv; rw [if_pos hs])
theorem ph_nobody (hj : j < 19) : ax_putF (hp X Y sc ai aj) (ha j 0) 2 7 (.int (-4)) = some (hp (upX X j (up1 (X j) 2 6)) Y sc ai aj) := ph_sitter0 hj rfl
theorem ph_sitterV {s : Nat} (hj : j < 19) : ax_putF (hp X Y sc ai aj) (ha j 0) 2 7 (.int (sv s)) = some (hp (upX X j (up1 (X j) 2 s)) Y sc ai aj) := ph_sitter0 hj rfl
theorem gh_kinds (hj : j < 19) : ax_getF (hp X Y sc ai aj) (ha j 0) 2 1 = some (.ref (ha j 1)) := gF (hp_h hj (by decide)) (ha_lt hj (by decide)) rfl
theorem ga_kinds {b : Nat} (hj : j < 19) (hb : b < 6) : ax_getI (hp X Y sc ai aj) (ha j 1) 0 (nI b) = some (nI (X j (24 + b))) := by
  rw [← hrow_at hb]; exact gI (hp_h (k := 1) hj (by decide)) (ha_lt hj (by decide)) hb (by decide)
theorem pa_kinds {b v : Nat} (hj : j < 19) (hb : b < 6) : ax_putI (hp X Y sc ai aj) (ha j 1) (nI b) (nI v) = some (hp (upX X j (up1 (X j) (24 + b) v)) Y sc ai aj) := by
  refine pI (f := hrow (X j) 24) (hp_h (k := 1) hj (by decide)) (ha_lt hj (by decide)) hb (by decide) ?_
  rw [hrow_s hb]
  refine hp_uh (k := 1) (x := up1 (X j) (24 + b) v) hj (by decide) (fun i hi h0 => ?_)
  rcases (show i = 0 ∨ i = 2 ∨ i = 3 ∨ i = 4 ∨ i = 5 by omega) with rfl | rfl | rfl | rfl | rfl
  · simp only [hcell]; rw [up1_n (by omega), up1_n (by omega), up1_n (by omega), up1_n (by omega), up1_n (by omega), up1_n (by omega)]
  · simp only [hcell]; rw [hrow_n (fun q hq => by omega)]
  · simp only [hcell]; rw [hrow_n (fun q hq => by omega)]
  · simp only [hcell]; rw [hrow_n (fun q hq => by omega)]
  · simp only [hcell]; rw [hrow_n (fun q hq => by omega)]
theorem gh_prices (hj : j < 19) : ax_getF (hp X Y sc ai aj) (ha j 0) 2 2 = some (.ref (ha j 2)) := gF (hp_h hj (by decide)) (ha_lt hj (by decide)) rfl
theorem ga_prices {b : Nat} (hj : j < 19) (hb : b < 6) : ax_getI (hp X Y sc ai aj) (ha j 2) 0 (nI b) = some (nI (X j (30 + b))) := by
  rw [← hrow_at hb]; exact gI (hp_h (k := 2) hj (by decide)) (ha_lt hj (by decide)) hb (by decide)
theorem pa_prices {b v : Nat} (hj : j < 19) (hb : b < 6) : ax_putI (hp X Y sc ai aj) (ha j 2) (nI b) (nI v) = some (hp (upX X j (up1 (X j) (30 + b) v)) Y sc ai aj) := by
  refine pI (f := hrow (X j) 30) (hp_h (k := 2) hj (by decide)) (ha_lt hj (by decide)) hb (by decide) ?_
  rw [hrow_s hb]
  refine hp_uh (k := 2) (x := up1 (X j) (30 + b) v) hj (by decide) (fun i hi h0 => ?_)
  rcases (show i = 0 ∨ i = 1 ∨ i = 3 ∨ i = 4 ∨ i = 5 by omega) with rfl | rfl | rfl | rfl | rfl
  · simp only [hcell]; rw [up1_n (by omega), up1_n (by omega), up1_n (by omega), up1_n (by omega), up1_n (by omega), up1_n (by omega)]
  · simp only [hcell]; rw [hrow_n (fun q hq => by omega)]
  · simp only [hcell]; rw [hrow_n (fun q hq => by omega)]
  · simp only [hcell]; rw [hrow_n (fun q hq => by omega)]
  · simp only [hcell]; rw [hrow_n (fun q hq => by omega)]
theorem gh_known (hj : j < 19) : ax_getF (hp X Y sc ai aj) (ha j 0) 2 3 = some (.ref (ha j 3)) := gF (hp_h hj (by decide)) (ha_lt hj (by decide)) rfl
theorem ga_known {b : Nat} (hj : j < 19) (hb : b < 6) : ax_getI (hp X Y sc ai aj) (ha j 3) 0 (nI b) = some (nI (X j (6 + b))) := by
  rw [← hrow_at hb]; exact gI (hp_h (k := 3) hj (by decide)) (ha_lt hj (by decide)) hb (by decide)
theorem pa_known {b v : Nat} (hj : j < 19) (hb : b < 6) : ax_putI (hp X Y sc ai aj) (ha j 3) (nI b) (nI v) = some (hp (upX X j (up1 (X j) (6 + b) v)) Y sc ai aj) := by
  refine pI (f := hrow (X j) 6) (hp_h (k := 3) hj (by decide)) (ha_lt hj (by decide)) hb (by decide) ?_
  rw [hrow_s hb]
  refine hp_uh (k := 3) (x := up1 (X j) (6 + b) v) hj (by decide) (fun i hi h0 => ?_)
  rcases (show i = 0 ∨ i = 1 ∨ i = 2 ∨ i = 4 ∨ i = 5 by omega) with rfl | rfl | rfl | rfl | rfl
  · simp only [hcell]; rw [up1_n (by omega), up1_n (by omega), up1_n (by omega), up1_n (by omega), up1_n (by omega), up1_n (by omega)]
  · simp only [hcell]; rw [hrow_n (fun q hq => by omega)]
  · simp only [hcell]; rw [hrow_n (fun q hq => by omega)]
  · simp only [hcell]; rw [hrow_n (fun q hq => by omega)]
  · simp only [hcell]; rw [hrow_n (fun q hq => by omega)]
theorem gh_sights (hj : j < 19) : ax_getF (hp X Y sc ai aj) (ha j 0) 2 4 = some (.ref (ha j 4)) := gF (hp_h hj (by decide)) (ha_lt hj (by decide)) rfl
theorem ga_sights {b : Nat} (hj : j < 19) (hb : b < 6) : ax_getI (hp X Y sc ai aj) (ha j 4) 0 (nI b) = some (nI (X j (12 + b))) := by
  rw [← hrow_at hb]; exact gI (hp_h (k := 4) hj (by decide)) (ha_lt hj (by decide)) hb (by decide)
theorem pa_sights {b v : Nat} (hj : j < 19) (hb : b < 6) : ax_putI (hp X Y sc ai aj) (ha j 4) (nI b) (nI v) = some (hp (upX X j (up1 (X j) (12 + b) v)) Y sc ai aj) := by
  refine pI (f := hrow (X j) 12) (hp_h (k := 4) hj (by decide)) (ha_lt hj (by decide)) hb (by decide) ?_
  rw [hrow_s hb]
  refine hp_uh (k := 4) (x := up1 (X j) (12 + b) v) hj (by decide) (fun i hi h0 => ?_)
  rcases (show i = 0 ∨ i = 1 ∨ i = 2 ∨ i = 3 ∨ i = 5 by omega) with rfl | rfl | rfl | rfl | rfl
  · simp only [hcell]; rw [up1_n (by omega), up1_n (by omega), up1_n (by omega), up1_n (by omega), up1_n (by omega), up1_n (by omega)]
  · simp only [hcell]; rw [hrow_n (fun q hq => by omega)]
  · simp only [hcell]; rw [hrow_n (fun q hq => by omega)]
  · simp only [hcell]; rw [hrow_n (fun q hq => by omega)]
  · simp only [hcell]; rw [hrow_n (fun q hq => by omega)]
theorem gh_places (hj : j < 19) : ax_getF (hp X Y sc ai aj) (ha j 0) 2 5 = some (.ref (ha j 5)) := gF (hp_h hj (by decide)) (ha_lt hj (by decide)) rfl
theorem ga_places {b : Nat} (hj : j < 19) (hb : b < 6) : ax_getI (hp X Y sc ai aj) (ha j 5) 0 (nI b) = some (nI (X j (18 + b))) := by
  rw [← hrow_at hb]; exact gI (hp_h (k := 5) hj (by decide)) (ha_lt hj (by decide)) hb (by decide)
theorem pa_places {b v : Nat} (hj : j < 19) (hb : b < 6) : ax_putI (hp X Y sc ai aj) (ha j 5) (nI b) (nI v) = some (hp (upX X j (up1 (X j) (18 + b) v)) Y sc ai aj) := by
  refine pI (f := hrow (X j) 18) (hp_h (k := 5) hj (by decide)) (ha_lt hj (by decide)) hb (by decide) ?_
  rw [hrow_s hb]
  refine hp_uh (k := 5) (x := up1 (X j) (18 + b) v) hj (by decide) (fun i hi h0 => ?_)
  rcases (show i = 0 ∨ i = 1 ∨ i = 2 ∨ i = 3 ∨ i = 4 by omega) with rfl | rfl | rfl | rfl | rfl
  · simp only [hcell]; rw [up1_n (by omega), up1_n (by omega), up1_n (by omega), up1_n (by omega), up1_n (by omega), up1_n (by omega)]
  · simp only [hcell]; rw [hrow_n (fun q hq => by omega)]
  · simp only [hcell]; rw [hrow_n (fun q hq => by omega)]
  · simp only [hcell]; rw [hrow_n (fun q hq => by omega)]
  · simp only [hcell]; rw [hrow_n (fun q hq => by omega)]
theorem oh (hj : j < 19) : ax_isO (hp X Y sc ai aj) (ha j 0) 2 = true := isO (hp_h hj (by decide)) (ha_lt hj (by decide))
end HH
