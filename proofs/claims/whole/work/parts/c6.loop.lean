/-! the loop -/
theorem lw_cmp {L i : Nat} (hL : L ≤ 4608) (hi : i ≤ 4608) : (nI L - 9 < nI i) ↔ L < i + 9 := by
  have e1 : (nI L).toInt = L := nI_toInt (by omega)
  have e2 : (nI i).toInt = i := nI_toInt (by omega)
  have e3 : (nI L - 9).toInt = (L : Int) - 9 := by
    rw [Int32.toInt_sub, e1, show (9 : Int32).toInt = 9 from rfl]
    exact Int.bmod_eq_of_le (by omega) (by omega)
  rw [Int32.lt_iff_toInt_lt, e2, e3]
  omega
set_option maxRecDepth 20000 in
set_option maxHeartbeats 4000000 in
theorem lw_loop {nm : String} {E : zE} {L : Nat} {xs : Nat → Int32} {Q : zQx} (hE : zOKE E) (hX : zOKX E) (hl0 : ∀ l s c, Q.1 l s c → l.stackTraces = false) (hs : zScr E L xs) (h4 : L ≤ 4608) (hend : ∀ (i : Nat) (S : zM), zJx E 10 0 0 (mL_law nm) cL_law 1818 (zll i) [] S Q) : ∀ (k i n : Nat) (S : zM) (s : zST), i + 9 * k = 4608 → n + k < 600 → zLI n S s → zJx E 10 (24 * k) (614 * k) (mL_law nm) cL_law 23 (zll i) [] S Q := by
  have hd : ∀ (i : Nat) (S : zM) (mc ms : Nat), i ≤ 4608 → (i + 9 ≤ L → zJx E 10 mc ms (mL_law nm) cL_law 33 (zll i) [] S Q) → zJx E 10 mc ms (mL_law nm) cL_law 23 (zll i) [] S Q := by
    intro i S mc ms hi kk
    refine x_iload (pc := 23) dL_law_23 rfl ?_
    refine x_aload_nq (pc := 25) dL_law_25 rfl ?_
    refine x_slen (pc := 26) hs dL_law_26 ?_
    refine x_bipush (pc := 27) (v := 9) dL_law_27 (by decide) ?_
    refine x_isub (pc := 29) dL_law_29 ?_
    refine x_icmp_gt (pc := 30) (tgt := 1818) dL_law_30 (by decide) (fun _ => (hend i S).less (Nat.zero_le _) (Nat.zero_le _)) (fun g => kk ?_)
    have := mt (lw_cmp h4 hi).mpr g
    omega
  intro k
  induction k with
  | zero =>
    intro i n S s hi hn hI
    exact hd i S _ _ (by omega) (fun h => absurd h (by omega))
  | succ k ih =>
    intro i n S s hi hn hI
    refine hd i S _ _ (by omega) (fun h9 => ?_)
    have fin : ∀ (T : zM) (s' : zST), zLI (n + 1) T s' → zJx E 10 (24 * k) (614 * k) (mL_law nm) cL_law 1812 (zll i) [] T Q := by
      intro T s' h'
      refine x_iinc (pc := 1812) (v := _ + 9) (ls' := [_, _, _, _, _, _, _]) dL_law_1812 rfl rfl (show 4 < 7 by decide) rfl rfl ?_
      refine x_goto (pc := 1815) (tgt := 23) dL_law_1815 (by decide) ?_
      rw [nI_p9]
      exact ih (i + 9) (n + 1) T s' (by omega) (by omega) h'
    refine x_aload_nq (pc := 33) dL_law_33 rfl ?_
    refine x_iload (pc := 34) dL_law_34 rfl ?_
    refine x_sld (pc := 36) (j := i) hs h4 dL_law_36 rfl (by omega) ?_
    refine x_bipush (pc := 37) (v := 63) dL_law_37 (by decide) ?_
    refine x_iand (pc := 39) dL_law_39 ?_
    refine x_swC (pc := 40) (k := 0) (tgt := 216) dL_law_40 (by decide) (by decide) rfl (by decide) (fun _ => lw_c0 hE hX hl0 hs h4 h9 (by omega) hI fin) (fun g0 => ?_)
    refine x_swC (pc := 40) (k := 1) (tgt := 289) dL_law_40 (by decide) (by decide) rfl (by decide) (fun _ => lw_c1 hE hX hl0 hs h4 h9 (by omega) hI fin) (fun g1 => ?_)
    refine x_swC (pc := 40) (k := 2) (tgt := 314) dL_law_40 (by decide) (by decide) rfl (by decide) (fun _ => lw_c2 hE hX hl0 hs h4 h9 (by omega) hI fin) (fun g2 => ?_)
    refine x_swC (pc := 40) (k := 3) (tgt := 327) dL_law_40 (by decide) (by decide) rfl (by decide) (fun _ => lw_c3 hE hX hl0 hs h4 h9 (by omega) hI fin) (fun g3 => ?_)
    refine x_swC (pc := 40) (k := 4) (tgt := 340) dL_law_40 (by decide) (by decide) rfl (by decide) (fun _ => lw_c4 hE hX hl0 hs h4 h9 (by omega) hI fin) (fun g4 => ?_)
    refine x_swC (pc := 40) (k := 5) (tgt := 365) dL_law_40 (by decide) (by decide) rfl (by decide) (fun _ => lw_c5 hE hX hl0 hs h4 h9 (by omega) hI fin) (fun g5 => ?_)
    refine x_swC (pc := 40) (k := 6) (tgt := 390) dL_law_40 (by decide) (by decide) rfl (by decide) (fun _ => lw_c6 hE hX hl0 hs h4 h9 (by omega) hI fin) (fun g6 => ?_)
    refine x_swC (pc := 40) (k := 7) (tgt := 427) dL_law_40 (by decide) (by decide) rfl (by decide) (fun _ => lw_c7 hE hX hl0 hs h4 h9 (by omega) hI fin) (fun g7 => ?_)
    refine x_swC (pc := 40) (k := 8) (tgt := 465) dL_law_40 (by decide) (by decide) rfl (by decide) (fun _ => lw_c8 hE hX hl0 hs h4 h9 (by omega) hI fin) (fun g8 => ?_)
    refine x_swC (pc := 40) (k := 9) (tgt := 515) dL_law_40 (by decide) (by decide) rfl (by decide) (fun _ => lw_c9 hE hX hl0 hs h4 h9 (by omega) hI fin) (fun g9 => ?_)
    refine x_swC (pc := 40) (k := 10) (tgt := 540) dL_law_40 (by decide) (by decide) rfl (by decide) (fun _ => lw_c10 hE hX hl0 hs h4 h9 (by omega) hI fin) (fun g10 => ?_)
    refine x_swC (pc := 40) (k := 11) (tgt := 577) dL_law_40 (by decide) (by decide) rfl (by decide) (fun _ => lw_c11 hE hX hl0 hs h4 h9 (by omega) hI fin) (fun g11 => ?_)
    refine x_swC (pc := 40) (k := 12) (tgt := 602) dL_law_40 (by decide) (by decide) rfl (by decide) (fun _ => lw_c12 hE hX hl0 hs h4 h9 (by omega) hI fin) (fun g12 => ?_)
    refine x_swC (pc := 40) (k := 13) (tgt := 627) dL_law_40 (by decide) (by decide) rfl (by decide) (fun _ => lw_c13 hE hX hl0 hs h4 h9 (by omega) hI fin) (fun g13 => ?_)
    refine x_swC (pc := 40) (k := 14) (tgt := 664) dL_law_40 (by decide) (by decide) rfl (by decide) (fun _ => lw_c14 hE hX hl0 hs h4 h9 (by omega) hI fin) (fun g14 => ?_)
    refine x_swC (pc := 40) (k := 15) (tgt := 717) dL_law_40 (by decide) (by decide) rfl (by decide) (fun _ => lw_c15 hE hX hl0 hs h4 h9 (by omega) hI fin) (fun g15 => ?_)
    refine x_swC (pc := 40) (k := 16) (tgt := 742) dL_law_40 (by decide) (by decide) rfl (by decide) (fun _ => lw_c16 hE hX hl0 hs h4 h9 (by omega) hI fin) (fun g16 => ?_)
    refine x_swC (pc := 40) (k := 17) (tgt := 767) dL_law_40 (by decide) (by decide) rfl (by decide) (fun _ => lw_c17 hE hX hl0 hs h4 h9 (by omega) hI fin) (fun g17 => ?_)
    refine x_swC (pc := 40) (k := 18) (tgt := 836) dL_law_40 (by decide) (by decide) rfl (by decide) (fun _ => lw_c18 hE hX hl0 hs h4 h9 (by omega) hI fin) (fun g18 => ?_)
    refine x_swC (pc := 40) (k := 19) (tgt := 861) dL_law_40 (by decide) (by decide) rfl (by decide) (fun _ => lw_c19 hE hX hl0 hs h4 h9 (by omega) hI fin) (fun g19 => ?_)
    refine x_swC (pc := 40) (k := 20) (tgt := 899) dL_law_40 (by decide) (by decide) rfl (by decide) (fun _ => lw_c20 hE hX hl0 hs h4 h9 (by omega) hI fin) (fun g20 => ?_)
    refine x_swC (pc := 40) (k := 21) (tgt := 924) dL_law_40 (by decide) (by decide) rfl (by decide) (fun _ => lw_c21 hE hX hl0 hs h4 h9 (by omega) hI fin) (fun g21 => ?_)
    refine x_swC (pc := 40) (k := 22) (tgt := 961) dL_law_40 (by decide) (by decide) rfl (by decide) (fun _ => lw_c22 hE hX hl0 hs h4 h9 (by omega) hI fin) (fun g22 => ?_)
    refine x_swC (pc := 40) (k := 23) (tgt := 986) dL_law_40 (by decide) (by decide) rfl (by decide) (fun _ => lw_c23 hE hX hl0 hs h4 h9 (by omega) hI fin) (fun g23 => ?_)
    refine x_swC (pc := 40) (k := 24) (tgt := 1011) dL_law_40 (by decide) (by decide) rfl (by decide) (fun _ => lw_c24 hE hX hl0 hs h4 h9 (by omega) hI fin) (fun g24 => ?_)
    refine x_swC (pc := 40) (k := 25) (tgt := 1076) dL_law_40 (by decide) (by decide) rfl (by decide) (fun _ => lw_c25 hE hX hl0 hs h4 h9 (by omega) hI fin) (fun g25 => ?_)
    refine x_swC (pc := 40) (k := 26) (tgt := 1101) dL_law_40 (by decide) (by decide) rfl (by decide) (fun _ => lw_c26 hE hX hl0 hs h4 h9 (by omega) hI fin) (fun g26 => ?_)
    refine x_swC (pc := 40) (k := 27) (tgt := 1126) dL_law_40 (by decide) (by decide) rfl (by decide) (fun _ => lw_c27 hE hX hl0 hs h4 h9 (by omega) hI fin) (fun g27 => ?_)
    refine x_swC (pc := 40) (k := 28) (tgt := 1163) dL_law_40 (by decide) (by decide) rfl (by decide) (fun _ => lw_c28 hE hX hl0 hs h4 h9 (by omega) hI fin) (fun g28 => ?_)
    refine x_swC (pc := 40) (k := 29) (tgt := 1200) dL_law_40 (by decide) (by decide) rfl (by decide) (fun _ => lw_c29 hE hX hl0 hs h4 h9 (by omega) hI fin) (fun g29 => ?_)
    refine x_swC (pc := 40) (k := 30) (tgt := 1395) dL_law_40 (by decide) (by decide) rfl (by decide) (fun _ => lw_c30 hE hX hl0 hs h4 h9 (by omega) hI fin) (fun g30 => ?_)
    refine x_swC (pc := 40) (k := 31) (tgt := 1420) dL_law_40 (by decide) (by decide) rfl (by decide) (fun _ => lw_c31 hE hX hl0 hs h4 h9 (by omega) hI fin) (fun g31 => ?_)
    refine x_swC (pc := 40) (k := 32) (tgt := 1501) dL_law_40 (by decide) (by decide) rfl (by decide) (fun _ => lw_c32 hE hX hl0 hs h4 h9 (by omega) hI fin) (fun g32 => ?_)
    refine x_swC (pc := 40) (k := 33) (tgt := 1562) dL_law_40 (by decide) (by decide) rfl (by decide) (fun _ => lw_c33 hE hX hl0 hs h4 h9 (by omega) hI fin) (fun g33 => ?_)
    refine x_swC (pc := 40) (k := 34) (tgt := 1643) dL_law_40 (by decide) (by decide) rfl (by decide) (fun _ => lw_c34 hE hX hl0 hs h4 h9 (by omega) hI fin) (fun g34 => ?_)
    refine x_swC (pc := 40) (k := 35) (tgt := 1656) dL_law_40 (by decide) (by decide) rfl (by decide) (fun _ => lw_c35 hE hX hl0 hs h4 h9 (by omega) hI fin) (fun g35 => ?_)
    refine x_swC (pc := 40) (k := 36) (tgt := 1681) dL_law_40 (by decide) (by decide) rfl (by decide) (fun _ => lw_c36 hE hX hl0 hs h4 h9 (by omega) hI fin) (fun g36 => ?_)
    refine x_swC (pc := 40) (k := 37) (tgt := 1718) dL_law_40 (by decide) (by decide) rfl (by decide) (fun _ => lw_c37 hE hX hl0 hs h4 h9 (by omega) hI fin) (fun g37 => ?_)
    refine x_swC (pc := 40) (k := 38) (tgt := 1774) dL_law_40 (by decide) (by decide) rfl (by decide) (fun _ => lw_c38 hE hX hl0 hs h4 h9 (by omega) hI fin) (fun g38 => ?_)
    refine x_swC (pc := 40) (k := 39) (tgt := 1799) dL_law_40 (by decide) (by decide) rfl (by decide) (fun _ => lw_c39 hE hX hl0 hs h4 h9 (by omega) hI fin) (fun g39 => ?_)
    refine x_swD (pc := 40) (n := 40) (tgt := 1812) dL_law_40 rfl (fun j hj => by match j, hj with | 0, _ => exact g0 | 1, _ => exact g1 | 2, _ => exact g2 | 3, _ => exact g3 | 4, _ => exact g4 | 5, _ => exact g5 | 6, _ => exact g6 | 7, _ => exact g7 | 8, _ => exact g8 | 9, _ => exact g9 | 10, _ => exact g10 | 11, _ => exact g11 | 12, _ => exact g12 | 13, _ => exact g13 | 14, _ => exact g14 | 15, _ => exact g15 | 16, _ => exact g16 | 17, _ => exact g17 | 18, _ => exact g18 | 19, _ => exact g19 | 20, _ => exact g20 | 21, _ => exact g21 | 22, _ => exact g22 | 23, _ => exact g23 | 24, _ => exact g24 | 25, _ => exact g25 | 26, _ => exact g26 | 27, _ => exact g27 | 28, _ => exact g28 | 29, _ => exact g29 | 30, _ => exact g30 | 31, _ => exact g31 | 32, _ => exact g32 | 33, _ => exact g33 | 34, _ => exact g34 | 35, _ => exact g35 | 36, _ => exact g36 | 37, _ => exact g37 | 38, _ => exact g38 | 39, _ => exact g39 | j + 40, h => exact absurd h (by omega)) (by decide) ?_
    exact (fin S s ⟨hI.1, hI.2.1, hI.2.2.1.up (by omega), hI.2.2.2⟩).less (by omega) (by omega)
