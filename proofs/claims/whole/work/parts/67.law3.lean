/-! ===== the law's loop ===== -/
theorem lx_t33 : decode code 33 = .ok (.tableswitch 1335 0 34 #[155, 198, 231, 254, 277, 290, 313, 336, 369, 392, 405, 438, 461, 474, 497, 530, 563, 586, 609, 652, 685, 728, 761, 804, 827, 840, 893, 906, 919, 994, 1070, 1123, 1166, 1189, 1272], 155) := by decide +kernel
theorem lx_sm : ∀ L : Nat, L < 7 → ∀ i : Nat, i < 7 → nI L - nI 7 < nI i := by decide
theorem lx_ti {n : Nat} (h : n < 64) : (nI n).toInt = n := by
  have : ∀ n : Nat, n < 64 → (nI n).toInt = n := by decide
  exact this n h
section LXL
variable {l : Launch} {p : Program} {e : Env} {s : State} {m : MethodId} {below : List Frame} {meth : Method} {c : Code} {b L : Nat} {xs : Nat → Int32} {D : va_G} {tc : Nat → ClassId} {γ aK aV : Nat → Nat}
theorem lx_sw (hIX : ax_IX l) {i : Nat} {la : Array Slot} {h : ax_H} (C : lx_C p s m meth c b L xs D tc γ aK aV la i) (hR : RR h) (K : ∀ h2 : ax_H, RR h2 → lx_W l p e s m below meth c b D tc γ la h2 1368 []) (j : Nat) (hj : j < 64) : lx_W l p e s m below meth c b D tc γ la h 33 [.int (nI j)] := by
  obtain ⟨⟨hx, hb, hr, hml, hown, hts, hX, hbl, hlocks, hgv⟩, hW, hL, hi, hl⟩ := id C
  intro H locs hP hS
  match j, hj with
  | 0, _ => exact lv_tableIn (tgt := 188) (off := 155) hx hb lx_t33 (by decide) (by decide) (by decide) (by decide) (lx_g0 hIX C hR K H locs hP hS)
  | 1, _ => exact lv_tableIn (tgt := 231) (off := 198) hx hb lx_t33 (by decide) (by decide) (by decide) (by decide) (lx_g1 hIX C hR K H locs hP hS)
  | 2, _ => exact lv_tableIn (tgt := 264) (off := 231) hx hb lx_t33 (by decide) (by decide) (by decide) (by decide) (lx_g2 hIX C hR K H locs hP hS)
  | 3, _ => exact lv_tableIn (tgt := 287) (off := 254) hx hb lx_t33 (by decide) (by decide) (by decide) (by decide) (lx_g3 hIX C hR K H locs hP hS)
  | 4, _ => exact lv_tableIn (tgt := 310) (off := 277) hx hb lx_t33 (by decide) (by decide) (by decide) (by decide) (lx_g4 hIX C hR K H locs hP hS)
  | 5, _ => exact lv_tableIn (tgt := 323) (off := 290) hx hb lx_t33 (by decide) (by decide) (by decide) (by decide) (lx_g5 hIX C hR K H locs hP hS)
  | 6, _ => exact lv_tableIn (tgt := 346) (off := 313) hx hb lx_t33 (by decide) (by decide) (by decide) (by decide) (lx_g6 hIX C hR K H locs hP hS)
  | 7, _ => exact lv_tableIn (tgt := 369) (off := 336) hx hb lx_t33 (by decide) (by decide) (by decide) (by decide) (lx_g7 hIX C hR K H locs hP hS)
  | 8, _ => exact lv_tableIn (tgt := 402) (off := 369) hx hb lx_t33 (by decide) (by decide) (by decide) (by decide) (lx_g8 hIX C hR K H locs hP hS)
  | 9, _ => exact lv_tableIn (tgt := 425) (off := 392) hx hb lx_t33 (by decide) (by decide) (by decide) (by decide) (lx_g9 hIX C hR K H locs hP hS)
  | 10, _ => exact lv_tableIn (tgt := 438) (off := 405) hx hb lx_t33 (by decide) (by decide) (by decide) (by decide) (lx_g10 hIX C hR K H locs hP hS)
  | 11, _ => exact lv_tableIn (tgt := 471) (off := 438) hx hb lx_t33 (by decide) (by decide) (by decide) (by decide) (lx_g11 hIX C hR K H locs hP hS)
  | 12, _ => exact lv_tableIn (tgt := 494) (off := 461) hx hb lx_t33 (by decide) (by decide) (by decide) (by decide) (lx_g12 hIX C hR K H locs hP hS)
  | 13, _ => exact lv_tableIn (tgt := 507) (off := 474) hx hb lx_t33 (by decide) (by decide) (by decide) (by decide) (lx_g13 hIX C hR K H locs hP hS)
  | 14, _ => exact lv_tableIn (tgt := 530) (off := 497) hx hb lx_t33 (by decide) (by decide) (by decide) (by decide) (lx_g14 hIX C hR K H locs hP hS)
  | 15, _ => exact lv_tableIn (tgt := 563) (off := 530) hx hb lx_t33 (by decide) (by decide) (by decide) (by decide) (lx_g15 hIX C hR K H locs hP hS)
  | 16, _ => exact lv_tableIn (tgt := 596) (off := 563) hx hb lx_t33 (by decide) (by decide) (by decide) (by decide) (lx_g16 hIX C hR K H locs hP hS)
  | 17, _ => exact lv_tableIn (tgt := 619) (off := 586) hx hb lx_t33 (by decide) (by decide) (by decide) (by decide) (lx_g17 hIX C hR K H locs hP hS)
  | 18, _ => exact lv_tableIn (tgt := 642) (off := 609) hx hb lx_t33 (by decide) (by decide) (by decide) (by decide) (lx_g18 hIX C hR K H locs hP hS)
  | 19, _ => exact lv_tableIn (tgt := 685) (off := 652) hx hb lx_t33 (by decide) (by decide) (by decide) (by decide) (lx_g19 hIX C hR K H locs hP hS)
  | 20, _ => exact lv_tableIn (tgt := 718) (off := 685) hx hb lx_t33 (by decide) (by decide) (by decide) (by decide) (lx_g20 hIX C hR K H locs hP hS)
  | 21, _ => exact lv_tableIn (tgt := 761) (off := 728) hx hb lx_t33 (by decide) (by decide) (by decide) (by decide) (lx_g21 hIX C hR K H locs hP hS)
  | 22, _ => exact lv_tableIn (tgt := 794) (off := 761) hx hb lx_t33 (by decide) (by decide) (by decide) (by decide) (lx_g22 hIX C hR K H locs hP hS)
  | 23, _ => exact lv_tableIn (tgt := 837) (off := 804) hx hb lx_t33 (by decide) (by decide) (by decide) (by decide) (lx_g23 hIX C hR K H locs hP hS)
  | 24, _ => exact lv_tableIn (tgt := 860) (off := 827) hx hb lx_t33 (by decide) (by decide) (by decide) (by decide) (lx_g24 hIX C hR K H locs hP hS)
  | 25, _ => exact lv_tableIn (tgt := 873) (off := 840) hx hb lx_t33 (by decide) (by decide) (by decide) (by decide) (lx_g25 hIX C hR K H locs hP hS)
  | 26, _ => exact lv_tableIn (tgt := 926) (off := 893) hx hb lx_t33 (by decide) (by decide) (by decide) (by decide) (lx_g26 hIX C hR K H locs hP hS)
  | 27, _ => exact lv_tableIn (tgt := 939) (off := 906) hx hb lx_t33 (by decide) (by decide) (by decide) (by decide) (lx_g27 hIX C hR K H locs hP hS)
  | 28, _ => exact lv_tableIn (tgt := 952) (off := 919) hx hb lx_t33 (by decide) (by decide) (by decide) (by decide) (lx_g28 hIX C hR K H locs hP hS)
  | 29, _ => exact lv_tableIn (tgt := 1027) (off := 994) hx hb lx_t33 (by decide) (by decide) (by decide) (by decide) (lx_g29 hIX C hR K H locs hP hS)
  | 30, _ => exact lv_tableIn (tgt := 1103) (off := 1070) hx hb lx_t33 (by decide) (by decide) (by decide) (by decide) (lx_g30 hIX C hR K H locs hP hS)
  | 31, _ => exact lv_tableIn (tgt := 1156) (off := 1123) hx hb lx_t33 (by decide) (by decide) (by decide) (by decide) (lx_g31 hIX C hR K H locs hP hS)
  | 32, _ => exact lv_tableIn (tgt := 1199) (off := 1166) hx hb lx_t33 (by decide) (by decide) (by decide) (by decide) (lx_g32 hIX C hR K H locs hP hS)
  | 33, _ => exact lv_tableIn (tgt := 1222) (off := 1189) hx hb lx_t33 (by decide) (by decide) (by decide) (by decide) (lx_g33 hIX C hR K H locs hP hS)
  | 34, _ => exact lv_tableIn (tgt := 1305) (off := 1272) hx hb lx_t33 (by decide) (by decide) (by decide) (by decide) (lx_g34 hIX C hR K H locs hP hS)
  | j + 35, hj =>
    refine lv_tableOut (tgt := 1368) hx hb lx_t33 (Or.inr ?_) (by decide) (K h hR H locs hP hS)
    rw [lx_ti hj]
    omega
theorem lx_loop (hIX : ax_IX l) (hL : L ≤ 448) (C0 : lw_At p s m meth c b L xs) (hW : ax_Wo D tc γ aK aV (fun q => s.heap.size ≤ q) s) :
    ∀ (n i : Nat), i ≤ L → L + 1 ≤ i + n → ∀ (h : ax_H), RR h → ∀ (la : Array Slot), lv_has la 4 [(0, .ref b), (1, .ref (γ 114)), (2, .ref (γ 134)), (3, .int (nI i))] → lx_W l p e s m below meth c b D tc γ la h 18 [] := by
  obtain ⟨hx, hb, hr, hml, hown, hts, hX, hbl, hlocks, hgv⟩ := id C0
  have hbA : ¬ (fun q : Nat => s.heap.size ≤ q) b := Nat.not_le.mpr hbl
  intro n
  induction n with
  | zero =>
    intro i h1 h2
    exact absurd h2 (by omega)
  | succ n ih =>
    intro i hi hin h hR la hl H locs hP hS
    refine lv_iload_n hx hb (lx_dec_i (I := (.iload_n 3, 1)) (pc := 18) (by decide +kernel)) rfl (lv_at hl 3 rfl) ?_
    refine lv_aload_n hx hb (lx_dec_i (I := (.aload_n 0, 1)) (pc := 19) (by decide +kernel)) rfl (lv_at hl 0 rfl) ?_
    refine va_slen hx hb hX hbl hbA hS (lx_dec_i (I := (.arraylength, 1)) (pc := 20) (by decide +kernel)) ?_
    refine lv_bipush (v := nI 7) (n := 7) hx hb (lx_dec_i (I := (.bipush 7, 2)) (pc := 21) (by decide +kernel)) (by decide) ?_
    refine lv_isub hx hb (lx_dec_i (I := (.isub, 1)) (pc := 23) (by decide +kernel)) ?_
    refine lv_icmp_gt (tgt := 1374) (off := 1350) hx hb (lx_dec_i (I := (.if_icmp .gt 1350, 3)) (pc := 24) (by decide +kernel)) (by decide) (fun _ => ?_) (fun hc => ?_)
    · refine lv_iconst (v := 1) (n := 1) hx hb (lx_dec_i (I := (.iconst 1, 1)) (pc := 1374) (by decide +kernel)) (by decide) ?_
      refine va_forget (fun q hq => hS.2.2 q hq) ?_
      exact lw_ret hx hb hr hlocks (lx_dec_i (I := (.ireturn, 1)) (pc := 1375) (by decide +kernel))
    · have hc : ¬ nI L - nI 7 < nI i := hc
      have h7 : i + 7 ≤ L := by
        rcases Nat.lt_or_ge L 7 with q | q
        · exact absurd (lx_sm L q i (by omega)) hc
        · have e1 : nI L - nI 7 = nI (L - 7) := by
            have e2 := nI_add (L - 7) 7
            rw [show L - 7 + 7 = L by omega] at e2
            rw [← e2, Int32.add_sub_cancel]
          rw [e1] at hc
          rcases Nat.lt_or_ge (L - 7) i with q2 | q2
          · exact absurd (nI_lt q2 (by omega)) hc
          · omega
      have C : lx_C p s m meth c b L xs D tc γ aK aV la i := ⟨C0, hW, hL, h7, hl⟩
      refine lv_aload_n hx hb (lx_dec_i (I := (.aload_n 0, 1)) (pc := 27) (by decide +kernel)) rfl (lv_at hl 0 rfl) ?_
      refine lv_iload_n hx hb (lx_dec_i (I := (.iload_n 3, 1)) (pc := 28) (by decide +kernel)) rfl (lv_at hl 3 rfl) ?_
      refine va_sld hx hb hX hbl hbA hS (vp_in_nI (by omega) (by omega)) (lx_dec_i (I := (.iaload, 1)) (pc := 29) (by decide +kernel)) ?_
      refine lv_bipush (v := 63) (n := 63) hx hb (lx_dec_i (I := (.bipush 63, 2)) (pc := 30) (by decide +kernel)) (by decide) ?_
      refine lv_iand hx hb (lx_dec_i (I := (.iand, 1)) (pc := 32) (by decide +kernel)) ?_
      obtain ⟨j, hj, e2⟩ := pk_andE (xs (nI i).toNatClampNeg) (m := 63) 6 (by decide)
      rw [e2]
      refine lx_sw hIX C hR (fun h2 rr => ?_) j hj H locs hP hS
      intro H locs hP hS
      refine lv_iinc (v := nI (i + 7)) (n := 7) (lv' := [(3, .int (nI (i + 7))), (0, .ref b), (1, .ref (γ 114)), (2, .ref (γ 134))]) hx hb (lx_dec_i (I := (.iinc 3 7, 3)) (pc := 1368) (by decide +kernel)) hl (k := 3) rfl (nI_add i 7) (by decide) rfl (fun la' hl' => ?_)
      refine lv_goto (tgt := 18) (off := -1353) hx hb (lx_dec_i (I := (.goto (-1353), 3)) (pc := 1371) (by decide +kernel)) (by decide) ?_
      exact ih (i + 7) h7 (by omega) h2 rr la' (lv_sub hl' [1, 2, 3, 0] rfl) H locs hP hS
end LXL
