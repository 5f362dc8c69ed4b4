/-! ===== houses alike give answers alike ===== -/
theorem i_and3 (a b c : Int32) : (a &&& (b ^^^ (-1))) &&& (c ^^^ (-1)) = a &&& ((b ||| c) ^^^ (-1)) := by
  apply Int32.toBitVec_inj.mp
  show (a.toBitVec &&& (b.toBitVec ^^^ (-1 : Int32).toBitVec)) &&& (c.toBitVec ^^^ (-1 : Int32).toBitVec) = a.toBitVec &&& ((b.toBitVec ||| c.toBitVec) ^^^ (-1 : Int32).toBitVec)
  rw [show (-1 : Int32).toBitVec = BitVec.allOnes 32 from by decide]
  ext i hi
  simp only [BitVec.getElem_and, BitVec.getElem_xor, BitVec.getElem_or, BitVec.getElem_allOnes]
  cases a.toBitVec[i] <;> cases b.toBitVec[i] <;> cases c.toBitVec[i] <;> rfl
theorem i_and0 (a : Int32) : a &&& (nI 0 ^^^ (-1)) = a := by
  apply Int32.toBitVec_inj.mp
  show a.toBitVec &&& ((nI 0).toBitVec ^^^ (-1 : Int32).toBitVec) = a.toBitVec
  rw [show (nI 0).toBitVec ^^^ (-1 : Int32).toBitVec = BitVec.allOnes 32 from by decide]
  exact BitVec.and_allOnes
theorem saf_I {x : Nat → Nat} {h : Int32} (n : Nat) : ∀ (i acc : Nat), safI x i n (h &&& (nI acc ^^^ (-1))) = h &&& (nI (saf x i n acc) ^^^ (-1)) := by
  induction n with
  | zero => intro i acc; rw [safI, saf]
  | succ n ih =>
    intro i acc
    rw [safI, saf]
    by_cases c : (x 4).testBit i = true
    · rw [if_pos c, if_pos c, i_and3, n_or, ih]
    · rw [if_neg c, if_neg c, Int32.and_self, ih]
section AA
variable {x y : Nat → Nat}
theorem Hs.b {c b : Nat} (h : Hs x y) (hc : c % 6 = 0) (hc2 : c ≤ 30) (hb : b < x 0) : x (c + b) = y (c + b) := h.2.2.b hc hc2 h.1.1 hb
theorem ag_saf (h : Ag x y) (hI : Inv x) (n : Nat) : ∀ (i acc : Nat), i + n ≤ x 0 → saf x i n acc = saf y i n acc := by
  induction n with
  | zero => intro i acc _; rw [saf, saf]
  | succ n ih =>
    intro i acc hi
    rw [saf, saf, ← h.lo (show 0 < 6 by decide), ← h.lo (show 4 < 6 by decide), ← ag_ous h hI (by omega) (x 0) 0 0 (by omega), ih (i + 1) _ (by omega)]
theorem ag_safe (h : Hs x y) : nI (x 4) &&& (nI (saf x 0 (x 0) 0) ^^^ (-1)) = safI y 0 (y 0) (nI (y 4)) := by
  have e := saf_I (x := y) (h := nI (y 4)) (y 0) 0 0
  rw [i_and0] at e
  rw [e, h.n, ag_saf h.2.2 h.1 (x 0) 0 0 (by omega), h.2.2.lo (show 4 < 6 by decide)]
theorem ag_ofA (h : Hs x y) {b w : Nat} (hb : b < x 0) : ofA x b w = ofA y b w := by
  have h6 := h.1.1
  unfold ofA
  rw [h.b (c := 24) (by decide) (by decide) hb, h.b (c := 30) (by decide) (by decide) hb, h.b (c := 6) (by decide) (by decide) hb, h.b (c := 12) (by decide) (by decide) hb, h.2.2.lo (show 4 < 6 by decide), h.n, ag_plc h.2.2 h6 b (x 0) 0 (by omega), ag_may h.2.2 h.1 hb]
theorem ag_cntA (h : Hs x y) {u w : Nat} : cntA x u w = cntA y u w := by
  unfold cntA
  rw [ag_trn h.2.2 h.1, ag_ones h.2.2 h.1.1 (x 0) 0 (by omega), h.n, h.2.2.lo (show 1 < 6 by decide), h.2.2.lo (show 2 < 6 by decide), h.2.2.lo (show 3 < 6 by decide), h.2.2.lo (show 4 < 6 by decide)]
theorem ag_pN2 (h : Hs x y) (n : Nat) : pasN n x 2 = pasN n y 2 := (ag_pasN n h.2.2 h.1).lo (by decide)
theorem ag_pNb (h : Hs x y) {n b : Nat} (hb : b < x 0) : pasN n x (12 + b) = pasN n y (12 + b) := by
  have e0 := (inv_pasN n h.1).2.1
  exact (ag_pasN n h.2.2 h.1).b (c := 12) (by decide) (by decide) (by rw [e0]; exact h.1.1) (by rw [e0]; exact hb)
theorem ag_pNo (h : Hs x y) (n : Nat) : ones_ (pasN n x) 0 (x 0) = ones_ (pasN n y) 0 (y 0) := by
  have e0 := (inv_pasN n h.1).2.1
  rw [h.n]
  exact ag_ones (ag_pasN n h.2.2 h.1) (by rw [e0]; exact h.1.1) (x 0) 0 (by rw [e0]; omega)
theorem ag_fi (b n : Nat) : ∀ {x y : Nat → Nat} (t : Nat), Ag x y → Inv x → fi b n x t = fi b n y t := by
  induction n with
  | zero => intro x y t _ _; rw [fi, fi]
  | succ n ih => intro x y t h hI; rw [fi, fi, h.lo (show 2 < 6 by decide), ih (t + 1) (ag_pas h hI false) (inv_pas hI).1]
theorem ag_pyF (h : Hs x y) {b n : Nat} (hb : b < x 0) (m : Nat) : ∀ p, p + m ≤ 100 → pyF b n x m p = pyF b n y m p := by
  induction m with
  | zero => intro p _; rw [pyF_0, pyF_0]
  | succ m ih => intro p hp; rw [pyF_s, pyF_s, (ag_pasN n (ag_up h.2.2 (by omega)) (inv_up30 h.1 hb (by omega))).lo (show 2 < 6 by decide), ih (p + 1) (by omega)]
theorem ag_lrF (h : Hs x y) {b n : Nat} (hb : b < x 0) (m : Nat) : ∀ k be mo, k + m ≤ 5 → lrF b n x m k be mo = lrF b n y m k be mo := by
  induction m with
  | zero => intro k be mo _; rw [lrF_0, lrF_0]
  | succ m ih =>
    intro k be mo hk
    have hI := inv_fgt h.1
    have hg := ag_fgt h.2.2
    have hb' : b < fgt x 0 := by rw [fgt_0]; exact hb
    obtain ⟨a1, a2, a3⟩ := inv_tea (k := k) hI hb' (by omega)
    have e0 := (inv_pasN n a1).2.1
    have e : pasN n (tea (fgt x) b k) (12 + b) = pasN n (tea (fgt y) b k) (12 + b) := (ag_pasN n (ag_tea hg hI.1 hb') a1).b (c := 12) (by decide) (by decide) (by rw [e0, a2]; exact hI.1) (by rw [e0, a2]; exact hb')
    rw [lrF_s, lrF_s, h.b (c := 6) (by decide) (by decide) hb, e, ih (k + 1) _ _ (by omega), ih (k + 1) _ _ (by omega)]
theorem ag_lrA (h : Hs x y) {b n w : Nat} (hb : b < x 0) : lrA b n w x = lrA b n w y := by unfold lrA; rw [ag_lrF h hb 5 0 _ _ (by omega)]
theorem ag_sdA (h : Hs x y) {b n w : Nat} : sdA x b n w = sdA y b n w := by
  have e : stW x b n = stW y b n := by
    funext s
    unfold stW
    rw [h.n, (ag_pasN n (ag_snL s (x 0) 0 h.2.2) (inv_snL s (x 0) 0 x h.1 (by have := h.1.1; omega)).1).lo (show 2 < 6 by decide)]
  unfold sdA
  rw [e, h.2.2.lo (show 4 < 6 by decide)]
theorem ag_msA (h : Hs x y) {b n c w : Nat} : msA x b n c w = msA y b n c w := by
  have e : msW x b n = msW y b n := by
    funext s
    unfold msW
    rw [(ag_msN s n 0 h.2.2 h.1).lo (show 2 < 6 by decide)]
  unfold msA
  rw [e]
theorem ag_mark {x y : Nat → Nat} (h : Ag x y) (hI : Inv x) : mark_ x = mark_ y := by
  have hk : ∀ (n i a : Nat), i + n ≤ x 0 → mkF x i n a = mkF y i n a := by
    intro n
    induction n with
    | zero => intro i a _; rw [mkF, mkF]
    | succ n ih => intro i a hi; rw [mkF, mkF, h.b (c := 6) (by decide) (by decide) hI.1 (by omega), ih (i + 1) _ (by omega)]
  unfold mark_ mark0
  rw [← h.lo (show 0 < 6 by decide), ← h.lo (show 1 < 6 by decide), ← h.lo (show 2 < 6 by decide), ← h.lo (show 3 < 6 by decide)]
  exact hk _ _ _ (by omega)
theorem ag_rdP (h : Hs x y) : rdP x = rdP y := by
  funext i t
  unfold rdP
  rw [ag_mark (ag_pasN i h.2.2 h.1) (inv_pasN i h.1).1, ag_mark (ag_pasN t h.2.2 h.1) (inv_pasN t h.1).1]
theorem ag_tnA (h : Hs x y) {n b : Nat} {k : Option Nat} (hb : b < x 0) : tnA x n b k = tnA y n b k := by
  have e : tS x n b = tS y n b := funext (fun c => ag_tS h.2.2 h.1 (by omega) hb)
  unfold tnA
  rw [h.n, e]
theorem ag_frA (h : Hs x y) {n : Nat} {k : Option Nat} (hN : 0 < x 0) : frA x n k = frA y n k := by
  have e : fD x n = fD y n := funext (fun c => ag_fD h.2.2 h.1 hN)
  unfold frA
  rw [h.n, e]
theorem ag_fol {f f' : Nat → Int64} (n : Nat) : ∀ {x y : Nat → Nat} (p p' : Nat), Ag x y → Inv x → (∀ j, j < n → f (p + j) = f' (p' + j)) → fol f n x p = fol f' n y p' := by
  induction n with
  | zero => intro x y p p' _ _ _; rw [fol_0, fol_0]
  | succ n ih =>
    intro x y p p' h hI hf
    have e0 := hf 0 (by omega)
    rw [Nat.add_zero, Nat.add_zero] at e0
    rw [fol_s, fol_s, e0, (ag_pas h hI false).lo (show 2 < 6 by decide), ih (p + 1) (p' + 1) (ag_pas h hI false) (inv_pas hI).1 (fun j hj => by rw [show p + 1 + j = p + (j + 1) by omega, show p' + 1 + j = p' + (j + 1) by omega]; exact hf (j + 1) (by omega))]
theorem ag_stA (h : Hs x y) {f f' : Nat → Int64} {b n p p' w : Nat} (hb : b < x 0) (hf : ∀ j, j < n → f (p + j) = f' (p' + j)) : stA f b n p x w = stA f' b n p' y w := by
  have ek : ∀ m k acc, k + m ≤ 5 → knd f b n p x m k acc = knd f' b n p' y m k acc := by
    intro m
    induction m with
    | zero => intro k acc _; rw [knd_0, knd_0]
    | succ m ih => intro k acc hk; rw [knd_s, knd_s, ag_fol n p p' (ag_up h.2.2 (by omega)) (inv_up24 h.1 hb (by omega)) hf, ih (k + 1) _ (by omega)]
  have et : ∀ m w l, m ≤ 32 → trk f b n p x m w l = trk f' b n p' y m w l := by
    intro m
    induction m with
    | zero => intro w l _; rw [trk_0, trk_0]
    | succ m ih => intro w l hm; rw [trk_s, trk_s, ag_fol n p p' (ag_up h.2.2 (by omega)) (inv_up6 h.1 hb (by omega)) hf, ih _ _ (by omega), ih _ _ (by omega)]
  unfold stA
  rw [ek 5 0 0 (by omega), et 32 0 (-4) (by omega)]
end AA
/-- filmed alike -/
theorem flm_o {L : Int32} (n : Nat) : ∀ (x : Nat → Nat) (p : Nat) (g : Nat → Int64) (k : Nat), ¬ (p ≤ k ∧ k < p + n) → flm L n x p g k = g k := by
  induction n with
  | zero => intro x p g k _; rw [flm_0]
  | succ n ih =>
    intro x p g k h
    rw [flm_s, ih _ _ _ _ (by omega)]
    unfold vp_updL; rw [if_neg (by omega)]
theorem ag_flm {L : Int32} {t : Nat} (n : Nat) : ∀ {x y : Nat → Nat} (p : Nat) (f g : Nat → Int64), Ag x y → Inv x → p + n ≤ 24 → (∀ k, k < 24 → f k = g (24 * t + k)) → ∀ k, k < 24 → flm L n x p f k = flm L n y (24 * t + p) g (24 * t + k) := by
  induction n with
  | zero => intro x y p f g _ _ _ h k hk; rw [flm_0, flm_0]; exact h k hk
  | succ n ih =>
    intro x y p f g hA hI hp h k hk
    rw [flm_s, flm_s, (ag_pas hA hI false).lo (show 2 < 6 by decide)]
    refine ih (p + 1) _ _ (ag_pas hA hI false) (inv_pas hI).1 (by omega) (fun q hq => ?_) k hk
    unfold vp_updL
    by_cases c : q = p
    · rw [if_pos c, if_pos (by omega)]
    · rw [if_neg c, if_neg (by omega)]; exact h q hq
/-- minutes alike -/
theorem gm_X (n : Nat) : ∀ (rb : Bool) (X Y : Nat → Nat → Nat) (nx u : Nat), Inv (X 0) → X 0 1 + n ≤ 9999 → Ag (X 0) (Y 0) → HP X Y 3 2 nx u → Hs (gX n rb X nx 0) (mX n rb Y u 0) ∧ HP (gX n rb X nx) (mX n rb Y u) 3 2 ((nx + n) % 8) (min (u + n) 8) ∧ (∀ k, k = 2 ∨ 11 ≤ k → gX n rb X nx k = X k) ∧ ∀ k, 10 ≤ k → mX n rb Y u k = Y k := by
  induction n with
  | zero =>
    intro rb X Y nx u hI hm hA hH
    rw [gX_0, mX_0]
    refine ⟨⟨hI, by omega, hA⟩, ?_, fun _ _ => rfl, fun _ _ => rfl⟩
    rw [show (nx + 0) % 8 = nx by have := hH.1; omega, show min (u + 0) 8 = u by have := hH.2.1; omega]
    exact hH
  | succ n ih =>
    intro rb X Y nx u hI hm hA hH
    have hu := hH.2.1
    have hx := hH.1
    obtain ⟨g1, g2, g3⟩ := gst_inv (rb := rb) (nx := nx) hI
    have hA2 : Ag (gst rb X nx 0) (mst rb Y u 0) := by
      rw [gst_at, mst_at]
      cases rb with
      | true => rw [if_pos rfl, if_pos rfl]; exact ag_pas (ag_rum hA hI) (inv_rum hI).1 false
      | false => rw [if_neg (by decide), if_neg (by decide)]; exact ag_pas hA hI false
    have hP : HP (gst rb X nx) (mst rb Y u) 3 2 ((nx + 1) % 8) (min (u + 1) 8) := hH.push ⟨hI, by omega, hA⟩ _ _
    obtain ⟨a, b, c, d⟩ := ih rb (gst rb X nx) (mst rb Y u) ((nx + 1) % 8) (min (u + 1) 8) g1 (by rw [g2]; omega) hA2 hP
    rw [gX_s, mX_s]
    refine ⟨a, ?_, fun k hk => ?_, fun k hk => ?_⟩
    · rw [show (nx + (n + 1)) % 8 = ((nx + 1) % 8 + n) % 8 by omega, show min (u + (n + 1)) 8 = min (min (u + 1) 8 + n) 8 by omega]
      exact b
    · rw [c k hk]
      unfold gst
      rw [upX_n (by omega), upX_n (by omega)]
    · rw [d k hk]
      unfold mst mnd
      rw [upX_n (by omega)]
      split
      · rw [upX_n (by omega)]; unfold shf; rw [if_neg (by omega)]
      · rw [upX_n (by omega)]
