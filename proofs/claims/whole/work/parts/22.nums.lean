/-! ===== numbers ===== -/
theorem n_eq {a b : Nat} (ha : a < 2 ^ 31) (hb : b < 2 ^ 31) : (nI a = nI b) ↔ a = b := nI_eq ha hb
theorem n_lt {a b : Nat} (ha : a < 2 ^ 31) (hb : b < 2 ^ 31) : (nI a < nI b) ↔ a < b := nI_ltI ha hb
theorem n_le {a b : Nat} (ha : a < 2 ^ 31) (hb : b < 2 ^ 31) : (nI a ≤ nI b) ↔ a ≤ b := nI_leI ha hb
theorem n_eq0 {a : Nat} (ha : a < 2 ^ 31) : (nI a = 0) ↔ a = 0 := by rw [← nI_0]; exact nI_eq ha (by decide)
theorem n_lt0 {a : Nat} (ha : a < 2 ^ 31) : (nI a < 0) ↔ False := by rw [← nI_0, nI_ltI ha (by decide)]; simp
theorem n_0le {a : Nat} (ha : a < 2 ^ 31) : (0 ≤ nI a) ↔ True := by rw [← nI_0, nI_leI (by decide) ha]; simp
theorem n_0lt {a : Nat} (ha : a < 2 ^ 31) : (0 < nI a) ↔ 0 < a := by rw [← nI_0, nI_ltI (by decide) ha]
theorem n_le0 {a : Nat} (ha : a < 2 ^ 31) : (nI a ≤ 0) ↔ a = 0 := by rw [← nI_0, nI_leI ha (by decide)]; omega
theorem n_sub {a b : Nat} (h : b ≤ a) : nI a - nI b = nI (a - b) := pk_sub h
theorem n_rem {a d : Nat} (ha : a < 2 ^ 31) (h0 : 0 < d) (hd : d < 2 ^ 31) : nI a - nI a / nI d * nI d = nI (a % d) := pk_rem ha h0 hd
theorem n_ne0 {a : Nat} (h0 : 0 < a) (ha : a < 2 ^ 31) : ¬ nI a = 0 := nI_ne0 h0 ha
theorem n_s32 : ∀ k, k < 32 → ((nI k &&& 31).toBitVec.smod 32).toNat = k := by decide +kernel
theorem n_bv (n : Nat) : (nI n).toBitVec = BitVec.ofNat 32 n := rfl
theorem n_and (a b : Nat) : nI a &&& nI b = nI (a &&& b) := by
  apply Int32.toBitVec_inj.mp
  show (nI a).toBitVec &&& (nI b).toBitVec = (nI (a &&& b)).toBitVec
  rw [n_bv, n_bv, n_bv]
  exact (BitVec.ofNat_and ..).symm
theorem n_or (a b : Nat) : nI a ||| nI b = nI (a ||| b) := by
  apply Int32.toBitVec_inj.mp
  show (nI a).toBitVec ||| (nI b).toBitVec = (nI (a ||| b)).toBitVec
  rw [n_bv, n_bv, n_bv]
  exact (BitVec.ofNat_or ..).symm
theorem n_shr {a k : Nat} (ha : a < 2 ^ 31) (hk : k < 32) : nI a >>> (nI k &&& 31) = nI (a >>> k) := by
  rw [pk_shrN ha _ k (n_s32 k hk), Nat.shiftRight_eq_div_pow]
theorem n_shl {a k : Nat} (hk : k < 32) (ha : a * 2 ^ k < 2 ^ 32) : nI a <<< (nI k &&& 31) = nI (a * 2 ^ k) := pk_shlN _ k (n_s32 k hk) ha
/-- a bit of a set -/
def bt (a b : Nat) : Nat := if a.testBit b then 1 else 0
theorem bt_le (a b : Nat) : bt a b < 2 := by unfold bt; split <;> decide
theorem n_bit {a b : Nat} (ha : a < 2 ^ 31) (hb : b < 32) : nI a >>> (nI b &&& 31) &&& nI 1 = nI (bt a b) := by
  rw [n_shr ha hb, n_and]
  congr 1
  unfold bt
  rw [Nat.testBit, Nat.and_comm]
  have h := Nat.and_one_is_mod (a >>> b)
  rw [Nat.and_comm] at h
  rw [h]
  rcases Nat.mod_two_eq_zero_or_one (a >>> b) with h1 | h1 <;> rw [h1] <;> rfl
theorem n_bt1 {a b : Nat} : (nI (bt a b) = nI 1) ↔ a.testBit b = true := by
  have h := bt_le a b
  rw [n_eq (by omega) (by decide)]
  unfold bt
  cases a.testBit b <;> simp
theorem n_bt0 {a b : Nat} : (nI (bt a b) = 0) ↔ a.testBit b = false := by
  have h := bt_le a b
  rw [n_eq0 (by omega)]
  unfold bt
  cases a.testBit b <;> simp
theorem sv_lt {s : Nat} : (sv s < 0) ↔ ¬ s < 6 := by
  unfold sv; by_cases h : s < 6
  · rw [if_pos h, n_lt0 (by omega)]; simp [h]
  · rw [if_neg h]; simp [h]
theorem sv_le {s : Nat} : (0 ≤ sv s) ↔ s < 6 := by
  rw [← Int32.not_lt, sv_lt]; simp
theorem sv_eq {s b : Nat} (hb : b < 6) : (sv s = nI b) ↔ s = b := by
  unfold sv; by_cases h : s < 6
  · rw [if_pos h, n_eq (by omega) (by omega)]
  · rw [if_neg h]
    constructor
    · intro e
      have := (n_lt0 (a := b) (by omega)).mp (by rw [← e]; decide)
      exact this.elim
    · intro e; omega
theorem sv_of {s : Nat} (h : s < 6) : sv s = nI s := if_pos h
theorem sv_6 {s : Nat} (h : ¬ s < 6) : sv s = -4 := if_neg h
theorem sv_n4 {s : Nat} : (sv s = -4) ↔ ¬ s < 6 := by
  unfold sv; by_cases h : s < 6
  · rw [if_pos h]
    constructor
    · intro e
      have := (n_lt0 (a := s) (by omega)).mp (by rw [e]; decide)
      exact this.elim
    · intro e; omega
  · rw [if_neg h]; simp [h]
