/-! ===== the picture of the whole heap: houses of the class X, houses of the model Y, scalars sc, rows of ints ai, rows of longs aj ===== -/
def ha (j k : Nat) : Nat := 6 * j + k
def sh (s : Nat) : Nat := 122 + 2 * s
def si (s : Nat) : Nat := 123 + 2 * s
def hi_ (t : Nat) : Nat := 115 + 2 * t
def hq_ (t : Nat) : Nat := 116 + 2 * t
def sv (s : Nat) : Int32 := if s < 6 then nI s else -4
def up1 (x : Nat → Nat) (i v : Nat) : Nat → Nat := fun k => if k = i then v else x k
def upX (X : Nat → Nat → Nat) (j : Nat) (x : Nat → Nat) : Nat → Nat → Nat := fun k => if k = j then x else X k
def upS (sc : Nat → Nat → Int32) (a k : Nat) (v : Int32) : Nat → Nat → Int32 := fun b => if b = a then (fun q => if q = k then v else sc a q) else sc b
def upA (ai : Nat → Nat → Int32) (a : Nat) (f : Nat → Int32) : Nat → Nat → Int32 := fun k => if k = a then f else ai k
def upJ (aj : Nat → Nat → Int64) (a : Nat) (f : Nat → Int64) : Nat → Nat → Int64 := fun k => if k = a then f else aj k
/-- a number of a house as the machine holds it -/
def hv (x : Nat → Nat) (i : Nat) : Int32 := if i = 2 then sv (x 2) else nI (x i)
def hrow (x : Nat → Nat) (c : Nat) : Nat → Int32 := fun i => if i < 6 then nI (x (c + i)) else 0
def hcell (x : Nat → Nat) (j k : Nat) : ax_C := match k with
  | 0 => .inr (2, [.int (nI (x 0)), .ref (ha j 1), .ref (ha j 2), .ref (ha j 3), .ref (ha j 4), .ref (ha j 5), .int (nI (x 4)), .int (sv (x 2)), .int (nI (x 3)), .int (nI (x 1)), .int (nI (x 5))])
  | 1 => .inl (0, 6, .inl (hrow x 24))
  | 2 => .inl (0, 6, .inl (hrow x 30))
  | 3 => .inl (0, 6, .inl (hrow x 6))
  | 4 => .inl (0, 6, .inl (hrow x 12))
  | _ => .inl (0, 6, .inl (hrow x 18))
def ocell (s : Nat → Int32) (Y : Nat → Nat → Nat) (f : Nat → Int32) (g : Nat → Int64) (a : Nat) : ax_C := match a with
  | 114 => .inr (5, [.ref (ha 0 0), .ref (ha 1 0), .ref (hi_ 0), .ref (ha 2 0), .ref (hi_ 1), .int (s 5), .ref 119, .ref 121, .ref 130, .ref 133])
  | 115 => .inr (1, [.ref (hq_ 0), .int (s 1), .int (s 2)])
  | 116 => .inl (3, 8, .inr (.inr (.inr (.inr (fun i => some (ha (3 + 8 * 0 + i) 0))))))
  | 117 => .inr (1, [.ref (hq_ 1), .int (s 1), .int (s 2)])
  | 118 => .inl (3, 8, .inr (.inr (.inr (.inr (fun i => some (ha (3 + 8 * 1 + i) 0))))))
  | 119 => .inr (4, [.ref 120, .int (s 1), .int (s 2)])
  | 120 => .inl (2, 70, .inl f)
  | 121 => .inl (4, 4, .inr (.inr (.inr (.inr (fun i => some (sh i))))))
  | 122 => .inr (3, [.int (s 0), .int (s 1), .ref (si 0)])
  | 123 => .inl (1, 24, .inr (.inl g))
  | 124 => .inr (3, [.int (s 0), .int (s 1), .ref (si 1)])
  | 125 => .inl (1, 24, .inr (.inl g))
  | 126 => .inr (3, [.int (s 0), .int (s 1), .ref (si 2)])
  | 127 => .inl (1, 24, .inr (.inl g))
  | 128 => .inr (3, [.int (s 0), .int (s 1), .ref (si 3)])
  | 129 => .inl (1, 24, .inr (.inl g))
  | 130 => .inr (0, [.ref 131, .ref 132, .int (s 2)])
  | 131 => .inl (0, 6, .inl f)
  | 132 => .inl (0, 6, .inl f)
  | 133 => .inl (1, 301, .inr (.inl g))
  | 134 => .inr (6, [.ref 135, .int (s 1), .int (s 2), .int (s 3), .ref 136, .int (s 5), .ref 137, .ref 138, .ref 139, .int (s 9), .ref 140, .ref 141, .ref 142, .ref 143, .ref 144, .ref 145, .ref 146])
  | 135 => .inl (0, 720, .inl (fun i => hv (Y (i / 36)) (i % 36)))
  | 136 => .inl (0, 70, .inl f)
  | 137 => .inl (1, 96, .inr (.inl g))
  | 138 => .inl (0, 4, .inl f)
  | 139 => .inl (0, 4, .inl f)
  | 140 => .inl (0, 6, .inl f)
  | 141 => .inl (0, 6, .inl f)
  | 142 => .inl (0, 6, .inl f)
  | 143 => .inl (1, 301, .inr (.inl g))
  | 144 => .inl (0, 6, .inl f)
  | 145 => .inl (0, 6, .inl f)
  | _ => .inl (1, 24, .inr (.inl g))
def hp (X Y : Nat → Nat → Nat) (sc : Nat → Nat → Int32) (ai : Nat → Nat → Int32) (aj : Nat → Nat → Int64) : ax_H := fun a =>
  if a < 114 then hcell (X (a / 6)) (a / 6) (a % 6) else ocell (sc a) Y (ai a) (aj a) a
section HP
variable {X Y : Nat → Nat → Nat} {sc : Nat → Nat → Int32} {ai : Nat → Nat → Int32} {aj : Nat → Nat → Int64}
theorem up1_s {x : Nat → Nat} {i v : Nat} : up1 x i v i = v := if_pos rfl
theorem up1_n {x : Nat → Nat} {i v k : Nat} (h : ¬ k = i) : up1 x i v k = x k := if_neg h
theorem upX_s {j : Nat} {x : Nat → Nat} : upX X j x j = x := if_pos rfl
theorem upX_n {j k : Nat} {x : Nat → Nat} (h : ¬ k = j) : upX X j x k = X k := if_neg h
theorem upX_u {j : Nat} {x y : Nat → Nat} : upX (upX X j x) j y = upX X j y := by
  funext k; unfold upX; by_cases h : k = j <;> simp [h]
theorem upX_i {j : Nat} : upX X j (X j) = X := by
  funext k; unfold upX; by_cases h : k = j <;> simp [h]
theorem upX_c {j k : Nat} {x y : Nat → Nat} (h : ¬ j = k) : upX (upX X j x) k y = upX (upX X k y) j x := by
  funext m; unfold upX; by_cases h1 : m = j <;> by_cases h2 : m = k <;> simp_all
theorem upS_s {a k : Nat} {v : Int32} : upS sc a k v a k = v := by unfold upS; rw [if_pos rfl, if_pos rfl]
theorem upS_k {a k q : Nat} {v : Int32} (h : ¬ q = k) : upS sc a k v a q = sc a q := by unfold upS; rw [if_pos rfl, if_neg h]
theorem upS_n {a b k : Nat} {v : Int32} (h : ¬ b = a) : upS sc a k v b = sc b := by unfold upS; rw [if_neg h]
theorem hp_up {X2 Y2 : Nat → Nat → Nat} {sc2 : Nat → Nat → Int32} {ai2 : Nat → Nat → Int32} {aj2 : Nat → Nat → Int64} {a : Nat} {c : ax_C} (ha : ¬ a < 114) (hc : ocell (sc2 a) Y2 (ai2 a) (aj2 a) a = c) (hX : X2 = X) (h : ∀ b, ¬ b = a → ocell (sc2 b) Y2 (ai2 b) (aj2 b) b = ocell (sc b) Y (ai b) (aj b) b) : ax_up (hp X Y sc ai aj) a c = hp X2 Y2 sc2 ai2 aj2 := by
  subst hX
  funext b
  unfold ax_up hp
  by_cases h1 : b = a
  · rw [if_pos h1, h1, if_neg ha, hc]
  · rw [if_neg h1]
    by_cases h2 : b < 114
    · rw [if_pos h2, if_pos h2]
    · rw [if_neg h2, if_neg h2, h b h1]
theorem hp_S {a k : Nat} {v : Int32} {c : ax_C} (ha : ¬ a < 114) (hc : ocell (upS sc a k v a) Y (ai a) (aj a) a = c) : ax_up (hp X Y sc ai aj) a c = hp X Y (upS sc a k v) ai aj := hp_up ha hc rfl (fun b hb => by rw [upS_n hb])
theorem upA_s {a : Nat} {f : Nat → Int32} : upA ai a f a = f := if_pos rfl
theorem upA_n {a k : Nat} {f : Nat → Int32} (h : ¬ k = a) : upA ai a f k = ai k := if_neg h
theorem upA_u {a : Nat} {f g : Nat → Int32} : upA (upA ai a f) a g = upA ai a g := by
  funext k; unfold upA; by_cases h : k = a <;> simp [h]
theorem upJ_s {a : Nat} {f : Nat → Int64} : upJ aj a f a = f := if_pos rfl
theorem upJ_n {a k : Nat} {f : Nat → Int64} (h : ¬ k = a) : upJ aj a f k = aj k := if_neg h
theorem upJ_u {a : Nat} {f g : Nat → Int64} : upJ (upJ aj a f) a g = upJ aj a g := by
  funext k; unfold upJ; by_cases h : k = a <;> simp [h]
theorem hp_h {j k : Nat} (hj : j < 19) (hk : k < 6) : hp X Y sc ai aj (ha j k) = hcell (X j) j k := by
  unfold hp ha
  rw [if_pos (by omega), show (6 * j + k) / 6 = j by omega, show (6 * j + k) % 6 = k by omega]
theorem hp_o {a : Nat} (h : ¬ a < 114) : hp X Y sc ai aj a = ocell (sc a) Y (ai a) (aj a) a := if_neg h
theorem hp_sh {s : Nat} (hs : s < 4) : hp X Y sc ai aj (sh s) = .inr (3, [.int (sc (sh s) 0), .int (sc (sh s) 1), .ref (si s)]) := by
  rcases (show s = 0 ∨ s = 1 ∨ s = 2 ∨ s = 3 by omega) with rfl | rfl | rfl | rfl <;> rfl
theorem hp_si {s : Nat} (hs : s < 4) : hp X Y sc ai aj (si s) = .inl (1, 24, .inr (.inl (aj (si s)))) := by
  rcases (show s = 0 ∨ s = 1 ∨ s = 2 ∨ s = 3 by omega) with rfl | rfl | rfl | rfl <;> rfl
theorem hp_hi {t : Nat} (ht : t < 2) : hp X Y sc ai aj (hi_ t) = .inr (1, [.ref (hq_ t), .int (sc (hi_ t) 1), .int (sc (hi_ t) 2)]) := by
  rcases (show t = 0 ∨ t = 1 by omega) with rfl | rfl <;> rfl
theorem hp_hq {t : Nat} (ht : t < 2) : hp X Y sc ai aj (hq_ t) = .inl (3, 8, .inr (.inr (.inr (.inr (fun i => some (ha (3 + 8 * t + i) 0)))))) := by
  rcases (show t = 0 ∨ t = 1 by omega) with rfl | rfl <;> rfl
theorem ha_lt {j k : Nat} (hj : j < 19) (hk : k < 6) : ha j k < ax_NC := by unfold ha ax_NC; omega
theorem gF {h : ax_H} {a ci k : Nat} {fs : List Value} {v : Value} (e : h a = .inr (ci, fs)) (ha : a < ax_NC) (hv : fs[k]? = some v) : ax_getF h a ci k = some v := by
  unfold ax_getF; rw [e]; simp only [ha, true_and, if_true]; exact hv
theorem isO {h : ax_H} {a ci : Nat} {fs : List Value} (e : h a = .inr (ci, fs)) (ha : a < ax_NC) : ax_isO h a ci = true := by
  unfold ax_isO; rw [e]; simp only [ha, decide_true, BEq.rfl, Bool.and_self]
theorem pF {h : ax_H} {a ci k : Nat} {fs : List Value} {v : Value} {h' : ax_H} (e : h a = .inr (ci, fs)) (ha : a < ax_NC) (hk : k < fs.length) (hh : ax_up h a (.inr (ci, fs.set k v)) = h') : ax_putF h a ci k v = some h' := by
  unfold ax_putF; rw [e]; simp only [ha, hk, true_and, if_true, hh]
theorem nI_in2 {k n : Nat} (h : k < n) (hn : n < 2 ^ 31) : ¬ (nI k < 0 ∨ n ≤ (nI k).toNatClampNeg) := nI_in h hn
theorem gI {h : ax_H} {a t n k : Nat} {f : Nat → Int32} (e : h a = .inl (t, n, .inl f)) (ha : a < ax_NC) (hk : k < n) (hn : n < 2 ^ 31) : ax_getI h a t (nI k) = some (f k) := by
  unfold ax_getI; rw [e]; simp only [ha, true_and]; rw [if_pos (nI_in2 hk hn), nI_clamp (by omega)]
theorem gJ {h : ax_H} {a n k : Nat} {f : Nat → Int64} (e : h a = .inl (1, n, .inr (.inl f))) (ha : a < ax_NC) (hk : k < n) (hn : n < 2 ^ 31) : ax_getJ h a (nI k) = some (f k) := by
  unfold ax_getJ; rw [e]; simp only [ha, true_and]; rw [if_pos (nI_in2 hk hn), nI_clamp (by omega)]
theorem gA {h : ax_H} {a t n k : Nat} {f : Nat → Option Nat} (e : h a = .inl (t, n, .inr (.inr (.inr (.inr f))))) (ha : a < ax_NC) (ht : t = 3 ∨ t = 4) (hk : k < n) (hn : n < 2 ^ 31) : ax_getA h a (nI k) = f k := by
  unfold ax_getA; rw [e]; simp only [ha, ht, true_and]; rw [if_pos (nI_in2 hk hn), nI_clamp (by omega)]
theorem lA {h : ax_H} {a t : Nat} {x : vp_A} (e : h a = .inl (t, x)) (ha : a < ax_NC) (ht : t < 5) : ax_lenA h a = some (nI x.1) := by
  unfold ax_lenA; rw [e]; obtain ⟨n, y⟩ := x; simp only [ha, ht, and_self, if_true]; rfl
theorem pI {h : ax_H} {a n k : Nat} {v : Int32} {f : Nat → Int32} {h' : ax_H} (e : h a = .inl (0, n, .inl f)) (ha : a < ax_NC) (hk : k < n) (hn : n < 2 ^ 31) (hh : ax_up h a (.inl (0, n, .inl (upd f k v))) = h') : ax_putI h a (nI k) v = some h' := by
  unfold ax_putI; rw [e]; simp only [ha, true_and]; rw [if_pos (nI_in2 hk hn), nI_clamp (by omega), hh]
theorem pC {h : ax_H} {a n k : Nat} {v : Int32} {f : Nat → Int32} {h' : ax_H} (e : h a = .inl (2, n, .inl f)) (ha : a < ax_NC) (hk : k < n) (hn : n < 2 ^ 31) (hh : ax_up h a (.inl (2, n, .inl (upd f k (vp_nar .char v)))) = h') : ax_putC h a (nI k) v = some h' := by
  unfold ax_putC; rw [e]; simp only [ha, true_and]; rw [if_pos (nI_in2 hk hn), nI_clamp (by omega), hh]
theorem pJ {h : ax_H} {a n k : Nat} {v : Int64} {f : Nat → Int64} {h' : ax_H} (e : h a = .inl (1, n, .inr (.inl f))) (ha : a < ax_NC) (hk : k < n) (hn : n < 2 ^ 31) (hh : ax_up h a (.inl (1, n, .inr (.inl (vp_updL f k v)))) = h') : ax_putJ h a (nI k) v = some h' := by
  unfold ax_putJ; rw [e]; simp only [ha, true_and]; rw [if_pos (nI_in2 hk hn), nI_clamp (by omega), hh]
theorem hrow_n {x : Nat → Nat} {c i v : Nat} (h : ∀ q, q < 6 → ¬ c + q = i) : hrow (up1 x i v) c = hrow x c := by
  funext q; unfold hrow; by_cases h1 : q < 6
  · rw [if_pos h1, if_pos h1, up1_n (h q h1)]
  · rw [if_neg h1, if_neg h1]
theorem hrow_s {x : Nat → Nat} {c b v : Nat} (hb : b < 6) : upd (hrow x c) b (nI v) = hrow (up1 x (c + b) v) c := by
  funext q; unfold hrow upd; by_cases h : q = b
  · subst h; rw [if_pos rfl, if_pos hb, up1_s]
  · rw [if_neg h]; dsimp only; by_cases h1 : q < 6
    · rw [if_pos h1, if_pos h1, up1_n (by omega)]
    · rw [if_neg h1, if_neg h1]
theorem hrow_at {x : Nat → Nat} {c b : Nat} (hb : b < 6) : hrow x c b = nI (x (c + b)) := if_pos hb
/-- a house's cell is changed -/
theorem hp_uh {j k : Nat} {x : Nat → Nat} (hj : j < 19) (hk : k < 6) (hx : ∀ i, i < 6 → ¬ i = k → hcell x j i = hcell (X j) j i) : ax_up (hp X Y sc ai aj) (ha j k) (hcell x j k) = hp (upX X j x) Y sc ai aj := by
  funext a
  unfold ax_up
  by_cases h1 : a = ha j k
  · rw [if_pos h1, h1, hp_h hj hk, upX_s]
  · rw [if_neg h1]
    by_cases h2 : a < 114
    · unfold hp
      rw [if_pos h2, if_pos h2]
      by_cases h3 : a / 6 = j
      · rw [h3, upX_s]
        refine (hx (a % 6) (by omega) (fun h4 => h1 ?_)).symm
        unfold ha; omega
      · rw [upX_n h3]
    · unfold hp
      rw [if_neg h2, if_neg h2]

end HP
