/-! ===== the start: contracts of the two constructors, the picture, the relation ===== -/
section BXE
variable {l : Launch} {D : va_G} {tc : Nat → ClassId}
theorem bx_ef0_ok : bx_EF l D tc bx_ef0 := fun y r e => by cases e
theorem bx_ef1_ok : bx_EF l D tc bx_ef1 := by
  intro y r e hy z
  rcases (show y = 0 ∨ y = 1 ∨ y = 2 ∨ y = 3 ∨ y = 4 ∨ y = 5 ∨ y = 6 by omega) with rfl | rfl | rfl | rfl | rfl | rfl | rfl
  · cases e; exact bx_met bx_ef0_ok hy bx_r0
  · cases e
  · cases e; exact bx_met bx_ef0_ok hy bx_r2
  · cases e; exact bx_met bx_ef0_ok hy bx_r3
  · cases e; exact bx_met bx_ef0_ok hy bx_r4
  · cases e
  · cases e
theorem bx_ef2_ok : bx_EF l D tc bx_ef2 := by
  intro y r e hy z
  rcases (show y = 0 ∨ y = 1 ∨ y = 2 ∨ y = 3 ∨ y = 4 ∨ y = 5 ∨ y = 6 by omega) with rfl | rfl | rfl | rfl | rfl | rfl | rfl
  · cases e; exact bx_met bx_ef0_ok hy bx_r0
  · cases e; exact bx_met bx_ef1_ok hy bx_r1
  · cases e; exact bx_met bx_ef0_ok hy bx_r2
  · cases e; exact bx_met bx_ef0_ok hy bx_r3
  · cases e; exact bx_met bx_ef0_ok hy bx_r4
  · cases e
  · cases e
theorem bx_m5 (z : Nat) : Met l (bx_y 5) (bx_ws 5) (bx_rm 5) (bx_Pc D tc z [(5, bx_def 5)] [.ref 0]) (bx_Q D tc z bx_R5) (bx_mc 5) (bx_ms 5) (fun q => z ≤ q) := bx_met bx_ef2_ok (by decide) bx_r5
theorem bx_m6 (z : Nat) : Met l (bx_y 6) (bx_ws 6) (bx_rm 6) (bx_Pc D tc z [(6, bx_def 6)] [.ref 0]) (bx_Q D tc z bx_R6) (bx_mc 6) (bx_ms 6) (fun q => z ≤ q) := bx_met bx_ef0_ok (by decide) bx_r6
end BXE
def bx_h2 : bx_H := bx_R5 ++ bx_R6.map (bx_sh 134)
def bx_pl : List Nat := [1, 2, 3, 4, 5, 6, 7, 8, 9, 10, 11, 12, 63, 64, 65, 66, 67, 68, 15, 16, 17, 18, 19, 20, 21, 22, 23, 24, 25, 26, 27, 28, 29, 30, 31, 32, 33, 34, 35, 36, 37, 38, 39, 40, 41, 42, 43, 44, 45, 46, 47, 48, 49, 50, 51, 52, 53, 54, 55, 56, 57, 58, 59, 60, 61, 62, 71, 72, 73, 74, 75, 76, 77, 78, 79, 80, 81, 82, 83, 84, 85, 86, 87, 88, 89, 90, 91, 92, 93, 94, 95, 96, 97, 98, 99, 100, 101, 102, 103, 104, 105, 106, 107, 108, 109, 110, 111, 112, 113, 114, 115, 116, 117, 118, 0, 13, 14, 69, 70, 119, 120, 121, 122, 123, 124, 125, 126, 127, 128, 129, 130, 131, 132, 133, 134, 135, 136, 137, 138, 139, 140, 141, 142, 143, 144, 145, 146]
def plN (k : Nat) : Nat := bx_pl.getD k 0
theorem plN_inj : ∀ i, i < 147 → ∀ j, j < 147 → plN i = plN j → i = j := by decide +kernel
theorem plN_lt : ∀ i, i < 147 → plN i < 147 := by decide +kernel
theorem bx_R5_n : bx_R5.length = 134 := by decide +kernel
theorem bx_R6_n : bx_R6.length = 13 := by decide +kernel
theorem bx_h2_n : bx_h2.length = 147 := by
  unfold bx_h2
  rw [List.length_append, List.length_map, bx_R5_n, bx_R6_n]
def x0 (i : Nat) : Nat := if i = 2 then 6 else if i = 5 then 1 else 0
def X0 : Nat → Nat → Nat := fun _ => x0
def Y0 : Nat → Nat → Nat := fun q => if q = 0 then x0 else fun _ => 0
def sc0 : Nat → Nat → Int32 := fun a k => if k = 0 ∧ (a = 122 ∨ a = 124 ∨ a = 126 ∨ a = 128) then -1 else nI 0
def ai0 : Nat → Nat → Int32 := fun a _ => if a = 138 then -1 else nI 0
def aj0 : Nat → Nat → Int64 := fun _ _ => lN 0
def h0 : ax_H := hp X0 Y0 sc0 ai0 aj0
def bx_ev (v w : Value) : Bool := match v, w with
  | .ref a, .ref k => Nat.ble (k + 1) 147 && Nat.beq a (plN k)
  | .int x, .int y => decide (x = y)
  | .long x, .long y => decide (x = y)
  | .null, .null => true
  | _, _ => false
def bx_evl : List Value → List Value → Bool
  | [], [] => true
  | v :: vs, w :: ws => bx_ev v w && bx_evl vs ws
  | _, _ => false
def bx_rf (v : Value) (o : Option Nat) : Bool := match v, o with
  | .ref a, some k => Nat.ble (k + 1) 147 && Nat.beq a (plN k)
  | .null, none => true
  | _, _ => false
def bx_eqv (e : bx_E) : ax_C → Bool
  | .inr (ci, gs) => Nat.ble (ci + 1) 7 && (Nat.beq e.1 ci && bx_evl e.2 gs)
  | .inl (t, n, .inl f) => ((Nat.beq t 0 && Nat.beq e.1 10) || (Nat.beq t 2 && Nat.beq e.1 12)) && (Nat.beq e.2.length n && (List.range n).all (fun j => decide (bx_vi (e.2.getD j .null) = f j)))
  | .inl (t, n, .inr (.inl f)) => (Nat.beq t 1 && Nat.beq e.1 11) && (Nat.beq e.2.length n && (List.range n).all (fun j => decide (bx_vj (e.2.getD j .null) = f j)))
  | .inl (t, n, .inr (.inr (.inr (.inr f)))) => ((Nat.beq t 3 && Nat.beq e.1 13) || (Nat.beq t 4 && Nat.beq e.1 14)) && (Nat.beq e.2.length n && (List.range n).all (fun j => bx_rf (e.2.getD j .null) (f j)))
  | _ => false
set_option maxRecDepth 100000 in
theorem bx_eqv_all : (List.range 147).all (fun k => bx_eqv (bx_h2.getD (plN k) (0, [])) (h0 k)) = true := by decide +kernel
