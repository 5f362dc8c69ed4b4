/-! ===== the model's row w ===== -/
def hvc (c n : Nat) : Int32 := if c = 2 then sv n else nI n
section WW
variable {X Y : Nat → Nat → Nat} {sc : Nat → Nat → Int32} {ai : Nat → Nat → Int32} {aj : Nat → Nat → Int64} {q b : Nat}
theorem gw {c n : Nat} (hq : q < 20) (hc : c < 36) (hn : n = 36 * q + c) : ax_getI (hp X Y sc ai aj) 135 0 (nI n) = some (hvc c (Y q c)) := by
  have e : (fun i => hv (Y (i / 36)) (i % 36)) n = hvc c (Y q c) := by
    subst hn
    show hv (Y ((36 * q + c) / 36)) ((36 * q + c) % 36) = _
    rw [show (36 * q + c) / 36 = q by omega, show (36 * q + c) % 36 = c by omega]
    unfold hv hvc
    by_cases h : c = 2
    · rw [if_pos h, if_pos h, h]
    · rw [if_neg h, if_neg h]
  rw [← e]
  exact gI (f := fun i => hv (Y (i / 36)) (i % 36)) (hp_o (by decide)) (Nat.le_of_ble_eq_true rfl) (by omega) (by decide)
theorem pw {c n v : Nat} {z : Int32} (hq : q < 20) (hc : c < 36) (hn : n = 36 * q + c) (hz : z = hvc c v) : ax_putI (hp X Y sc ai aj) 135 (nI n) z = some (hp X (upX Y q (up1 (Y q) c v)) sc ai aj) := by
  refine pI (f := fun i => hv (Y (i / 36)) (i % 36)) (hp_o (by decide)) (Nat.le_of_ble_eq_true rfl) (by omega) (by decide) (hp_up (by decide) ?_ rfl (fun b hb => ?_))
  · show (Sum.inl (0, 720, .inl (fun i => hv (upX Y q (up1 (Y q) c v) (i / 36)) (i % 36))) : ax_C) = _
    congr 4
    funext i
    unfold upd
    by_cases h : i = n
    · rw [if_pos h, h, hn, show (36 * q + c) / 36 = q by omega, show (36 * q + c) % 36 = c by omega, upX_s, hz]
      unfold hv hvc
      by_cases h2 : c = 2
      · rw [if_pos h2, if_pos h2, ← h2, up1_s]
      · rw [if_neg h2, if_neg h2, up1_s]
    · rw [if_neg h]
      show hv (upX Y q (up1 (Y q) c v) (i / 36)) (i % 36) = hv (Y (i / 36)) (i % 36)
      by_cases h3 : i / 36 = q
      · rw [h3, upX_s]
        unfold hv
        by_cases h2 : i % 36 = 2
        · rw [if_pos h2, if_pos h2, up1_n (by omega)]
        · rw [if_neg h2, if_neg h2, up1_n (by omega)]
      · rw [upX_n h3]
  · have h9 : ∀ (s : Nat → Int32) (f : Nat → Int32) (g : Nat → Int64) (Y1 Y2 : Nat → Nat → Nat), ocell s Y1 f g b = ocell s Y2 f g b := by
      intro s f g Y1 Y2
      unfold ocell
      split <;> first | rfl | (exfalso; exact hb rfl)
    exact h9 _ _ _ _ _
theorem hp_extY {Y2 : Nat → Nat → Nat} (h : ∀ q c, c < 36 → Y q c = Y2 q c) : hp X Y sc ai aj = hp X Y2 sc ai aj := by
  funext a
  unfold hp
  by_cases h1 : a < 114
  · rw [if_pos h1, if_pos h1]
  · rw [if_neg h1, if_neg h1]
    have e : (fun i => hv (Y (i / 36)) (i % 36)) = fun i => hv (Y2 (i / 36)) (i % 36) := by
      funext i
      unfold hv
      by_cases h2 : i % 36 = 2
      · rw [if_pos h2, if_pos h2, h _ 2 (by omega)]
      · rw [if_neg h2, if_neg h2, h _ _ (by omega)]
    unfold ocell
    rw [e]
theorem gwq_0 (hq : q < 20)  : ax_getI (hp X Y sc ai aj) 135 0 (nI (36 * q + 0)) = some (nI (Y q 0)) := gw (q := q) (c := 0) hq (by decide) rfl
theorem pwq_0 {v : Nat} (hq : q < 20) : ax_putI (hp X Y sc ai aj) 135 (nI (36 * q + 0)) (nI v) = some (hp X (upX Y q (up1 (Y q) 0 v)) sc ai aj) := pw (q := q) (c := 0) (v := v) hq (by decide) rfl rfl
theorem gwq_1 (hq : q < 20)  : ax_getI (hp X Y sc ai aj) 135 0 (nI (36 * q + 1)) = some (nI (Y q 1)) := gw (q := q) (c := 1) hq (by decide) rfl
theorem pwq_1 {v : Nat} (hq : q < 20) : ax_putI (hp X Y sc ai aj) 135 (nI (36 * q + 1)) (nI v) = some (hp X (upX Y q (up1 (Y q) 1 v)) sc ai aj) := pw (q := q) (c := 1) (v := v) hq (by decide) rfl rfl
theorem gwq_2 (hq : q < 20)  : ax_getI (hp X Y sc ai aj) 135 0 (nI (36 * q + 2)) = some (sv (Y q 2)) := gw (q := q) (c := 2) hq (by decide) rfl
theorem pwq_2 {s : Nat} (hq : q < 20) (hs : s < 6) : ax_putI (hp X Y sc ai aj) 135 (nI (36 * q + 2)) (nI s) = some (hp X (upX Y q (up1 (Y q) 2 s)) sc ai aj) := pw (q := q) (c := 2) (v := s) hq (by decide) rfl (by rw [show hvc 2 s = sv s from rfl, sv_of hs])
theorem pwq_2n (hq : q < 20) : ax_putI (hp X Y sc ai aj) 135 (nI (36 * q + 2)) (-4) = some (hp X (upX Y q (up1 (Y q) 2 6)) sc ai aj) := pw (q := q) (c := 2) (v := 6) hq (by decide) rfl rfl
theorem gwq_3 (hq : q < 20)  : ax_getI (hp X Y sc ai aj) 135 0 (nI (36 * q + 3)) = some (nI (Y q 3)) := gw (q := q) (c := 3) hq (by decide) rfl
theorem pwq_3 {v : Nat} (hq : q < 20) : ax_putI (hp X Y sc ai aj) 135 (nI (36 * q + 3)) (nI v) = some (hp X (upX Y q (up1 (Y q) 3 v)) sc ai aj) := pw (q := q) (c := 3) (v := v) hq (by decide) rfl rfl
theorem gwq_4 (hq : q < 20)  : ax_getI (hp X Y sc ai aj) 135 0 (nI (36 * q + 4)) = some (nI (Y q 4)) := gw (q := q) (c := 4) hq (by decide) rfl
theorem pwq_4 {v : Nat} (hq : q < 20) : ax_putI (hp X Y sc ai aj) 135 (nI (36 * q + 4)) (nI v) = some (hp X (upX Y q (up1 (Y q) 4 v)) sc ai aj) := pw (q := q) (c := 4) (v := v) hq (by decide) rfl rfl
theorem gwq_5 (hq : q < 20)  : ax_getI (hp X Y sc ai aj) 135 0 (nI (36 * q + 5)) = some (nI (Y q 5)) := gw (q := q) (c := 5) hq (by decide) rfl
theorem pwq_5 {v : Nat} (hq : q < 20) : ax_putI (hp X Y sc ai aj) 135 (nI (36 * q + 5)) (nI v) = some (hp X (upX Y q (up1 (Y q) 5 v)) sc ai aj) := pw (q := q) (c := 5) (v := v) hq (by decide) rfl rfl
theorem gwqT (hq : q < 20) (hb : b < 6) : ax_getI (hp X Y sc ai aj) 135 0 (nI (36 * q + 6 + b)) = some (nI (Y q (6 + b))) := by
  rw [gw (q := q) (c := 6 + b) hq (by omega) (by omega)]; unfold hvc; rw [if_neg (by omega)]
theorem pwqT {v : Nat} (hq : q < 20) (hb : b < 6) : ax_putI (hp X Y sc ai aj) 135 (nI (36 * q + 6 + b)) (nI v) = some (hp X (upX Y q (up1 (Y q) (6 + b) v)) sc ai aj) := pw (q := q) (c := 6 + b) (v := v) hq (by omega) (by omega) (by unfold hvc; rw [if_neg (by omega)])
theorem gwqS (hq : q < 20) (hb : b < 6) : ax_getI (hp X Y sc ai aj) 135 0 (nI (36 * q + 12 + b)) = some (nI (Y q (12 + b))) := by
  rw [gw (q := q) (c := 12 + b) hq (by omega) (by omega)]; unfold hvc; rw [if_neg (by omega)]
theorem pwqS {v : Nat} (hq : q < 20) (hb : b < 6) : ax_putI (hp X Y sc ai aj) 135 (nI (36 * q + 12 + b)) (nI v) = some (hp X (upX Y q (up1 (Y q) (12 + b) v)) sc ai aj) := pw (q := q) (c := 12 + b) (v := v) hq (by omega) (by omega) (by unfold hvc; rw [if_neg (by omega)])
theorem gwqP (hq : q < 20) (hb : b < 6) : ax_getI (hp X Y sc ai aj) 135 0 (nI (36 * q + 18 + b)) = some (nI (Y q (18 + b))) := by
  rw [gw (q := q) (c := 18 + b) hq (by omega) (by omega)]; unfold hvc; rw [if_neg (by omega)]
theorem pwqP {v : Nat} (hq : q < 20) (hb : b < 6) : ax_putI (hp X Y sc ai aj) 135 (nI (36 * q + 18 + b)) (nI v) = some (hp X (upX Y q (up1 (Y q) (18 + b) v)) sc ai aj) := pw (q := q) (c := 18 + b) (v := v) hq (by omega) (by omega) (by unfold hvc; rw [if_neg (by omega)])
theorem gwqK (hq : q < 20) (hb : b < 6) : ax_getI (hp X Y sc ai aj) 135 0 (nI (36 * q + 24 + b)) = some (nI (Y q (24 + b))) := by
  rw [gw (q := q) (c := 24 + b) hq (by omega) (by omega)]; unfold hvc; rw [if_neg (by omega)]
theorem pwqK {v : Nat} (hq : q < 20) (hb : b < 6) : ax_putI (hp X Y sc ai aj) 135 (nI (36 * q + 24 + b)) (nI v) = some (hp X (upX Y q (up1 (Y q) (24 + b) v)) sc ai aj) := pw (q := q) (c := 24 + b) (v := v) hq (by omega) (by omega) (by unfold hvc; rw [if_neg (by omega)])
theorem gwqZ (hq : q < 20) (hb : b < 6) : ax_getI (hp X Y sc ai aj) 135 0 (nI (36 * q + 30 + b)) = some (nI (Y q (30 + b))) := by
  rw [gw (q := q) (c := 30 + b) hq (by omega) (by omega)]; unfold hvc; rw [if_neg (by omega)]
theorem pwqZ {v : Nat} (hq : q < 20) (hb : b < 6) : ax_putI (hp X Y sc ai aj) 135 (nI (36 * q + 30 + b)) (nI v) = some (hp X (upX Y q (up1 (Y q) (30 + b) v)) sc ai aj) := pw (q := q) (c := 30 + b) (v := v) hq (by omega) (by omega) (by unfold hvc; rw [if_neg (by omega)])
theorem gw0_0  : ax_getI (hp X Y sc ai aj) 135 0 (nI (0)) = some (nI (Y 0 0)) := gw (q := 0) (c := 0) (by decide) (by decide) rfl
theorem pw0_0 {v : Nat} : ax_putI (hp X Y sc ai aj) 135 (nI (0)) (nI v) = some (hp X (upX Y 0 (up1 (Y 0) 0 v)) sc ai aj) := pw (q := 0) (c := 0) (v := v) (by decide) (by decide) rfl rfl
theorem gw0_1  : ax_getI (hp X Y sc ai aj) 135 0 (nI (1)) = some (nI (Y 0 1)) := gw (q := 0) (c := 1) (by decide) (by decide) rfl
theorem pw0_1 {v : Nat} : ax_putI (hp X Y sc ai aj) 135 (nI (1)) (nI v) = some (hp X (upX Y 0 (up1 (Y 0) 1 v)) sc ai aj) := pw (q := 0) (c := 1) (v := v) (by decide) (by decide) rfl rfl
theorem gw0_2  : ax_getI (hp X Y sc ai aj) 135 0 (nI (2)) = some (sv (Y 0 2)) := gw (q := 0) (c := 2) (by decide) (by decide) rfl
theorem pw0_2 {s : Nat} (hs : s < 6) : ax_putI (hp X Y sc ai aj) 135 (nI (2)) (nI s) = some (hp X (upX Y 0 (up1 (Y 0) 2 s)) sc ai aj) := pw (q := 0) (c := 2) (v := s) (by decide) (by decide) rfl (by rw [show hvc 2 s = sv s from rfl, sv_of hs])
theorem pw0_2n : ax_putI (hp X Y sc ai aj) 135 (nI (2)) (-4) = some (hp X (upX Y 0 (up1 (Y 0) 2 6)) sc ai aj) := pw (q := 0) (c := 2) (v := 6) (by decide) (by decide) rfl rfl
theorem gw0_3  : ax_getI (hp X Y sc ai aj) 135 0 (nI (3)) = some (nI (Y 0 3)) := gw (q := 0) (c := 3) (by decide) (by decide) rfl
theorem pw0_3 {v : Nat} : ax_putI (hp X Y sc ai aj) 135 (nI (3)) (nI v) = some (hp X (upX Y 0 (up1 (Y 0) 3 v)) sc ai aj) := pw (q := 0) (c := 3) (v := v) (by decide) (by decide) rfl rfl
theorem gw0_4  : ax_getI (hp X Y sc ai aj) 135 0 (nI (4)) = some (nI (Y 0 4)) := gw (q := 0) (c := 4) (by decide) (by decide) rfl
theorem pw0_4 {v : Nat} : ax_putI (hp X Y sc ai aj) 135 (nI (4)) (nI v) = some (hp X (upX Y 0 (up1 (Y 0) 4 v)) sc ai aj) := pw (q := 0) (c := 4) (v := v) (by decide) (by decide) rfl rfl
theorem gw0_5  : ax_getI (hp X Y sc ai aj) 135 0 (nI (5)) = some (nI (Y 0 5)) := gw (q := 0) (c := 5) (by decide) (by decide) rfl
theorem pw0_5 {v : Nat} : ax_putI (hp X Y sc ai aj) 135 (nI (5)) (nI v) = some (hp X (upX Y 0 (up1 (Y 0) 5 v)) sc ai aj) := pw (q := 0) (c := 5) (v := v) (by decide) (by decide) rfl rfl
theorem gw0T (hb : b < 6) : ax_getI (hp X Y sc ai aj) 135 0 (nI (6 + b)) = some (nI (Y 0 (6 + b))) := by
  rw [gw (q := 0) (c := 6 + b) (by decide) (by omega) (by omega)]; unfold hvc; rw [if_neg (by omega)]
theorem pw0T {v : Nat} (hb : b < 6) : ax_putI (hp X Y sc ai aj) 135 (nI (6 + b)) (nI v) = some (hp X (upX Y 0 (up1 (Y 0) (6 + b) v)) sc ai aj) := pw (q := 0) (c := 6 + b) (v := v) (by decide) (by omega) (by omega) (by unfold hvc; rw [if_neg (by omega)])
theorem gw0S (hb : b < 6) : ax_getI (hp X Y sc ai aj) 135 0 (nI (12 + b)) = some (nI (Y 0 (12 + b))) := by
  rw [gw (q := 0) (c := 12 + b) (by decide) (by omega) (by omega)]; unfold hvc; rw [if_neg (by omega)]
theorem pw0S {v : Nat} (hb : b < 6) : ax_putI (hp X Y sc ai aj) 135 (nI (12 + b)) (nI v) = some (hp X (upX Y 0 (up1 (Y 0) (12 + b) v)) sc ai aj) := pw (q := 0) (c := 12 + b) (v := v) (by decide) (by omega) (by omega) (by unfold hvc; rw [if_neg (by omega)])
theorem gw0P (hb : b < 6) : ax_getI (hp X Y sc ai aj) 135 0 (nI (18 + b)) = some (nI (Y 0 (18 + b))) := by
  rw [gw (q := 0) (c := 18 + b) (by decide) (by omega) (by omega)]; unfold hvc; rw [if_neg (by omega)]
theorem pw0P {v : Nat} (hb : b < 6) : ax_putI (hp X Y sc ai aj) 135 (nI (18 + b)) (nI v) = some (hp X (upX Y 0 (up1 (Y 0) (18 + b) v)) sc ai aj) := pw (q := 0) (c := 18 + b) (v := v) (by decide) (by omega) (by omega) (by unfold hvc; rw [if_neg (by omega)])
theorem gw0K (hb : b < 6) : ax_getI (hp X Y sc ai aj) 135 0 (nI (24 + b)) = some (nI (Y 0 (24 + b))) := by
  rw [gw (q := 0) (c := 24 + b) (by decide) (by omega) (by omega)]; unfold hvc; rw [if_neg (by omega)]
theorem pw0K {v : Nat} (hb : b < 6) : ax_putI (hp X Y sc ai aj) 135 (nI (24 + b)) (nI v) = some (hp X (upX Y 0 (up1 (Y 0) (24 + b) v)) sc ai aj) := pw (q := 0) (c := 24 + b) (v := v) (by decide) (by omega) (by omega) (by unfold hvc; rw [if_neg (by omega)])
theorem gw0Z (hb : b < 6) : ax_getI (hp X Y sc ai aj) 135 0 (nI (30 + b)) = some (nI (Y 0 (30 + b))) := by
  rw [gw (q := 0) (c := 30 + b) (by decide) (by omega) (by omega)]; unfold hvc; rw [if_neg (by omega)]
theorem pw0Z {v : Nat} (hb : b < 6) : ax_putI (hp X Y sc ai aj) 135 (nI (30 + b)) (nI v) = some (hp X (upX Y 0 (up1 (Y 0) (30 + b) v)) sc ai aj) := pw (q := 0) (c := 30 + b) (v := v) (by decide) (by omega) (by omega) (by unfold hvc; rw [if_neg (by omega)])
theorem gw1_0  : ax_getI (hp X Y sc ai aj) 135 0 (nI (36)) = some (nI (Y 1 0)) := gw (q := 1) (c := 0) (by decide) (by decide) rfl
theorem pw1_0 {v : Nat} : ax_putI (hp X Y sc ai aj) 135 (nI (36)) (nI v) = some (hp X (upX Y 1 (up1 (Y 1) 0 v)) sc ai aj) := pw (q := 1) (c := 0) (v := v) (by decide) (by decide) rfl rfl
theorem gw1_1  : ax_getI (hp X Y sc ai aj) 135 0 (nI (37)) = some (nI (Y 1 1)) := gw (q := 1) (c := 1) (by decide) (by decide) rfl
theorem pw1_1 {v : Nat} : ax_putI (hp X Y sc ai aj) 135 (nI (37)) (nI v) = some (hp X (upX Y 1 (up1 (Y 1) 1 v)) sc ai aj) := pw (q := 1) (c := 1) (v := v) (by decide) (by decide) rfl rfl
theorem gw1_2  : ax_getI (hp X Y sc ai aj) 135 0 (nI (38)) = some (sv (Y 1 2)) := gw (q := 1) (c := 2) (by decide) (by decide) rfl
theorem pw1_2 {s : Nat} (hs : s < 6) : ax_putI (hp X Y sc ai aj) 135 (nI (38)) (nI s) = some (hp X (upX Y 1 (up1 (Y 1) 2 s)) sc ai aj) := pw (q := 1) (c := 2) (v := s) (by decide) (by decide) rfl (by rw [show hvc 2 s = sv s from rfl, sv_of hs])
theorem pw1_2n : ax_putI (hp X Y sc ai aj) 135 (nI (38)) (-4) = some (hp X (upX Y 1 (up1 (Y 1) 2 6)) sc ai aj) := pw (q := 1) (c := 2) (v := 6) (by decide) (by decide) rfl rfl
theorem gw1_3  : ax_getI (hp X Y sc ai aj) 135 0 (nI (39)) = some (nI (Y 1 3)) := gw (q := 1) (c := 3) (by decide) (by decide) rfl
theorem pw1_3 {v : Nat} : ax_putI (hp X Y sc ai aj) 135 (nI (39)) (nI v) = some (hp X (upX Y 1 (up1 (Y 1) 3 v)) sc ai aj) := pw (q := 1) (c := 3) (v := v) (by decide) (by decide) rfl rfl
theorem gw1_4  : ax_getI (hp X Y sc ai aj) 135 0 (nI (40)) = some (nI (Y 1 4)) := gw (q := 1) (c := 4) (by decide) (by decide) rfl
theorem pw1_4 {v : Nat} : ax_putI (hp X Y sc ai aj) 135 (nI (40)) (nI v) = some (hp X (upX Y 1 (up1 (Y 1) 4 v)) sc ai aj) := pw (q := 1) (c := 4) (v := v) (by decide) (by decide) rfl rfl
theorem gw1_5  : ax_getI (hp X Y sc ai aj) 135 0 (nI (41)) = some (nI (Y 1 5)) := gw (q := 1) (c := 5) (by decide) (by decide) rfl
theorem pw1_5 {v : Nat} : ax_putI (hp X Y sc ai aj) 135 (nI (41)) (nI v) = some (hp X (upX Y 1 (up1 (Y 1) 5 v)) sc ai aj) := pw (q := 1) (c := 5) (v := v) (by decide) (by decide) rfl rfl
theorem gw1T (hb : b < 6) : ax_getI (hp X Y sc ai aj) 135 0 (nI (42 + b)) = some (nI (Y 1 (6 + b))) := by
  rw [gw (q := 1) (c := 6 + b) (by decide) (by omega) (by omega)]; unfold hvc; rw [if_neg (by omega)]
theorem pw1T {v : Nat} (hb : b < 6) : ax_putI (hp X Y sc ai aj) 135 (nI (42 + b)) (nI v) = some (hp X (upX Y 1 (up1 (Y 1) (6 + b) v)) sc ai aj) := pw (q := 1) (c := 6 + b) (v := v) (by decide) (by omega) (by omega) (by unfold hvc; rw [if_neg (by omega)])
theorem gw1S (hb : b < 6) : ax_getI (hp X Y sc ai aj) 135 0 (nI (48 + b)) = some (nI (Y 1 (12 + b))) := by
  rw [gw (q := 1) (c := 12 + b) (by decide) (by omega) (by omega)]; unfold hvc; rw [if_neg (by omega)]
theorem pw1S {v : Nat} (hb : b < 6) : ax_putI (hp X Y sc ai aj) 135 (nI (48 + b)) (nI v) = some (hp X (upX Y 1 (up1 (Y 1) (12 + b) v)) sc ai aj) := pw (q := 1) (c := 12 + b) (v := v) (by decide) (by omega) (by omega) (by unfold hvc; rw [if_neg (by omega)])
theorem gw1P (hb : b < 6) : ax_getI (hp X Y sc ai aj) 135 0 (nI (54 + b)) = some (nI (Y 1 (18 + b))) := by
  rw [gw (q := 1) (c := 18 + b) (by decide) (by omega) (by omega)]; unfold hvc; rw [if_neg (by omega)]
theorem pw1P {v : Nat} (hb : b < 6) : ax_putI (hp X Y sc ai aj) 135 (nI (54 + b)) (nI v) = some (hp X (upX Y 1 (up1 (Y 1) (18 + b) v)) sc ai aj) := pw (q := 1) (c := 18 + b) (v := v) (by decide) (by omega) (by omega) (by unfold hvc; rw [if_neg (by omega)])
theorem gw1K (hb : b < 6) : ax_getI (hp X Y sc ai aj) 135 0 (nI (60 + b)) = some (nI (Y 1 (24 + b))) := by
  rw [gw (q := 1) (c := 24 + b) (by decide) (by omega) (by omega)]; unfold hvc; rw [if_neg (by omega)]
theorem pw1K {v : Nat} (hb : b < 6) : ax_putI (hp X Y sc ai aj) 135 (nI (60 + b)) (nI v) = some (hp X (upX Y 1 (up1 (Y 1) (24 + b) v)) sc ai aj) := pw (q := 1) (c := 24 + b) (v := v) (by decide) (by omega) (by omega) (by unfold hvc; rw [if_neg (by omega)])
theorem gw1Z (hb : b < 6) : ax_getI (hp X Y sc ai aj) 135 0 (nI (66 + b)) = some (nI (Y 1 (30 + b))) := by
  rw [gw (q := 1) (c := 30 + b) (by decide) (by omega) (by omega)]; unfold hvc; rw [if_neg (by omega)]
theorem pw1Z {v : Nat} (hb : b < 6) : ax_putI (hp X Y sc ai aj) 135 (nI (66 + b)) (nI v) = some (hp X (upX Y 1 (up1 (Y 1) (30 + b) v)) sc ai aj) := pw (q := 1) (c := 30 + b) (v := v) (by decide) (by omega) (by omega) (by unfold hvc; rw [if_neg (by omega)])
end WW
