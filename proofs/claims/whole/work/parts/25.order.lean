/-! an act taken back; several -/
def zinv (so si sc : Nat → Nat) (ol : Nat → Int64) (k : Nat) (s : (Nat → Bool) × (Nat → Nat → Int64)) : (Nat → Bool) × (Nat → Nat → Int64) := if so k = 2 then (s.1, zu2 s.2 (si k) (sc k) (ol k)) else (va_up s.1 (si k) (decide (so k = 1)), s.2)
def zbk (so si sc : Nat → Nat) (ol : Nat → Int64) : Nat → Nat → (Nat → Bool) × (Nat → Nat → Int64) → (Nat → Bool) × (Nat → Nat → Int64)
  | 0, _, s => s
  | n + 1, v, s => zbk so si sc ol n (v - 1) (zinv so si sc ol ((v - 1) % 40) s)
set_option maxRecDepth 20000 in
set_option maxHeartbeats 4000000 in
theorem c_takeBack {E : zE} {S : zM} {a v : Nat} {so si sc : Nat → Nat} {ol : Nat → Int64} {b g w : Nat} {th : Nat → Bool} {vl : Nat → Nat → Int64} (h : zAc S a so si sc ol v) (hR : zRo S b th vl g) (hd : b + 2 < a ∨ a + 4 < b) (hwv : w ≤ v) (hw : v - 40 ≤ w) : zSp E 2 0 0 mX0_takeBack cX0_takeBack [zR a, zR b, zI (nI w)] S (fun r T => r = none ∧ zRo T b (zbk so si sc ol (v - w) v (th, vl)).1 (zbk so si sc ol (v - w) v (th, vl)).2 g ∧ zF (zX3 b) S T) := by
  refine zSp.of (by decide) rfl (Nat.le_of_ble_eq_true rfl) rfl ?_
  obtain ⟨⟨k1, k2, k3, k4, k5⟩, ⟨p1, p2, p3, p4⟩, i1, i2, e1, e2⟩ := id h
  have hdis : ∀ k, k < 5 → ¬ zX3 b (a + k) := by
    intro k hk q
    rcases q with q | q | q <;> omega
  have lp : ∀ (n : Nat) (T : zM) (y : Option zV) (s : (Nat → Bool) × (Nat → Nat → Int64)), zRo T b s.1 s.2 g → zF (zX3 b) S T → zAc T a so si sc ol v → w + n ≤ v → zbk so si sc ol (v - w) v (th, vl) = zbk so si sc ol n (w + n) s → zJ E 2 0 0 mX0_takeBack cX0_takeBack 7 [some (zR a), some (zR b), some (zI (nI w)), some (zI (nI (w + n) - 1)), y] [] T (fun r T => r = none ∧ zRo T b (zbk so si sc ol (v - w) v (th, vl)).1 (zbk so si sc ol (v - w) v (th, vl)).2 g ∧ zF (zX3 b) S T) := by
    intro n
    induction n with
    | zero =>
      intro T y s hB hT hA hn hs
      rw [zbk] at hs
      refine j_iload_n (pc := 7) dX0_takeBack_7 rfl ?_
      
      refine j_iload_n (pc := 8) dX0_takeBack_8 rfl ?_
      refine j_icmp_lt (pc := 9) (tgt := 100) dX0_takeBack_9 (by decide) (fun h9 => ?_) (fun h9 => ?_)
      · refine j_vret (pc := 100) dX0_takeBack_100 rfl ?_
        rw [hs]
        exact ⟨rfl, hB, hT⟩
      · have e9 : (nI (w + 0) - 1).toInt = (w : Int) - 1 := pk_sub_toInt (a := w) (b := 1) (by omega) (by decide)
        exact absurd (by rw [Int32.lt_iff_toInt_lt, e9, nI_toInt (by omega)]; omega) h9
    | succ n ih =>
      intro T y s hB hT hA hn hs
      have hm : (w + n) % 40 < 40 := Nat.mod_lt _ (by decide)
      have hin : vp_in (nI ((w + n) % 40)) 40 := vp_in_nI hm (by decide)
      have hcl : (nI ((w + n) % 40)).toNatClampNeg = (w + n) % 40 := nI_clamp (by omega)
      have hsi := (e2 _ hm).2.1
      have hsc := (e2 _ hm).2.2
      have ka : zkd T a = (1, 0) := by rw [hT.1]; exact k1
      have ka1 : zkd T (a + 1) = (14, 40) := by rw [hT.1]; exact k2
      have ka2 : zkd T (a + 2) = (14, 40) := by rw [hT.1]; exact k3
      have ka3 : zkd T (a + 3) = (14, 40) := by rw [hT.1]; exact k4
      have ka4 : zkd T (a + 4) = (15, 40) := by rw [hT.1]; exact k5
      have kb := hB.1
      have hq : nI (w + (n + 1)) - 1 = nI (w + n) := pk_sub (a := w + (n + 1)) (b := 1) (by omega)
      refine j_iload_n (pc := 7) dX0_takeBack_7 rfl ?_
      refine j_iload_n (pc := 8) dX0_takeBack_8 rfl ?_
      rw [hq]
      refine j_icmp_lt (pc := 9) (tgt := 100) dX0_takeBack_9 (by decide) (fun h9 => ?_) (fun h9 => ?_)
      · exact absurd h9 (nI_nlt (by omega) (by omega))
      · refine j_iload_n (pc := 12) dX0_takeBack_12 rfl ?_
        refine j_aload_n (pc := 13) dX0_takeBack_13 rfl ?_
        refine j_callV (pc := 14) (t := 0) (c_earliest hA) dX0_takeBack_14 l_X0_35 mk_X0_earliest mv_X0_earliest (by decide) rfl (by assumption) (by decide) rfl rfl (Nat.le_of_ble_eq_true rfl) (Nat.le_refl _) (Nat.le_refl _) (fun r T2 h_1 => ?_)
        obtain ⟨rfl, rfl⟩ := h_1
        refine j_icmp_lt (pc := 17) (tgt := 100) dX0_takeBack_17 (by decide) (fun h17 => ?_) (fun h17 => ?_)
        · exact absurd h17 (nI_nlt (by omega) (by omega))
        · refine j_iload_n (pc := 20) dX0_takeBack_20 rfl ?_
          refine j_bipush (pc := 21) (v := 40) dX0_takeBack_21 (by decide) ?_
          
          refine j_callS (pc := 23) (c_floorMod (a := w + n) (b := 40) (by omega) (by decide) (by decide)) dX0_takeBack_23 l_X0_39 mk_J9_floorMod_7cf53 ms_J9_floorMod_7cf53 (by decide) rfl rfl (Nat.le_of_ble_eq_true rfl) (Nat.le_refl _) (Nat.le_refl _) (fun r T2 h_1 => ?_)
          obtain ⟨rfl, rfl⟩ := h_1
          refine j_istore (pc := 26) (ls' := [_, _, _, _, _]) dX0_takeBack_26 (by decide) rfl rfl ?_
          
          refine j_aload_n (pc := 28) dX0_takeBack_28 rfl ?_
          refine j_getP (pc := 29) dX0_takeBack_29 f_X0_9 (Or.inr ⟨_, rfl⟩) (by assumption) ?_
          rw [show zgP T a 0 = a + 1 from by rw [hT.2.2.1]; exact p1]
          refine j_iload (pc := 32) dX0_takeBack_32 rfl ?_
          refine j_iald (pc := 34) dX0_takeBack_34 (by assumption) (by assumption) ?_
          rw [hcl, (hA.2.2.2.2.1 _ hm).1]
          refine j_iconst (pc := 35) (v := 2) dX0_takeBack_35 (by decide) ?_
          refine j_icmp_ne (pc := 36) (tgt := 67) dX0_takeBack_36 (by decide) (fun h36 => ?_) (fun h36 => ?_)
          · refine j_aload_n (pc := 67) dX0_takeBack_67 rfl ?_
            refine j_aload_n (pc := 68) dX0_takeBack_68 rfl ?_
            refine j_getP (pc := 69) dX0_takeBack_69 f_X0_15 (Or.inr ⟨_, rfl⟩) (by assumption) ?_
            rw [show zgP T a 1 = a + 2 from by rw [hT.2.2.1]; exact p2]
            refine j_iload (pc := 72) dX0_takeBack_72 rfl ?_
            refine j_iald (pc := 74) dX0_takeBack_74 (by assumption) (by assumption) ?_
            rw [hcl, (hA.2.2.2.2.1 _ hm).2.1]
            refine j_aload_n (pc := 75) dX0_takeBack_75 rfl ?_
            refine j_getP (pc := 76) dX0_takeBack_76 f_X0_9 (Or.inr ⟨_, rfl⟩) (by assumption) ?_
            rw [show zgP T a 0 = a + 1 from by rw [hT.2.2.1]; exact p1]
            refine j_iload (pc := 79) dX0_takeBack_79 rfl ?_
            refine j_iald (pc := 81) dX0_takeBack_81 (by assumption) (by assumption) ?_
            rw [hcl, (hA.2.2.2.2.1 _ hm).1]
            refine j_iconst (pc := 82) (v := 1) dX0_takeBack_82 (by decide) ?_
            refine j_icmp_ne (pc := 83) (tgt := 90) dX0_takeBack_83 (by decide) (fun h83 => ?_) (fun h83 => ?_)
            · refine j_iconst (pc := 90) (v := 0) dX0_takeBack_90 (by decide) ?_
              refine j_callV (pc := 91) (t := 7) (c_set (b := false) hB hsi) dX0_takeBack_91 l_X0_48 mk_X7_set mv_X7_set (by decide) rfl (by assumption) (by decide) rfl rfl (Nat.le_of_ble_eq_true rfl) (Nat.le_refl _) (Nat.le_refl _) (fun r T2 h_1 => ?_)
              obtain ⟨rfl, hB2, hF2⟩ := h_1
              refine j_iinc (pc := 94) (v := _ + (-1)) (ls' := [_, _, _, _, _]) dX0_takeBack_94 rfl rfl (by decide) rfl rfl ?_
              refine j_goto (pc := 97) (tgt := 7) dX0_takeBack_97 (by decide) ?_
              have hso : so ((w + n) % 40) ≠ 2 := fun q => h36 (by rw [q]; rfl)
              have hso1 : so ((w + n) % 40) ≠ 1 := fun q => h83 (by rw [q]; rfl)
              rw [show nI (w + n) + -1 = nI (w + n) - 1 from (Int32.sub_eq_add_neg _ _).symm]
              refine ih _ _ (va_up s.1 (si ((w + n) % 40)) false, s.2) hB2 (hT.tr (hF2.mo (fun c q => q.elim Or.inl (fun z => Or.inr (Or.inl z))))) (hA.keep hF2 (fun k hk q => hdis k hk (q.elim Or.inl (fun z => Or.inr (Or.inl z))))) (by omega) ?_
              rw [hs, zbk, show w + (n + 1) - 1 = w + n from rfl, zinv, if_neg hso, decide_eq_false hso1]
            · refine j_iconst (pc := 86) (v := 1) dX0_takeBack_86 (by decide) ?_
              refine j_goto (pc := 87) (tgt := 91) dX0_takeBack_87 (by decide) ?_
              refine j_callV (pc := 91) (t := 7) (c_set (b := true) hB hsi) dX0_takeBack_91 l_X0_48 mk_X7_set mv_X7_set (by decide) rfl (by assumption) (by decide) rfl rfl (Nat.le_of_ble_eq_true rfl) (Nat.le_refl _) (Nat.le_refl _) (fun r T2 h_1 => ?_)
              obtain ⟨rfl, hB2, hF2⟩ := h_1
              refine j_iinc (pc := 94) (v := _ + (-1)) (ls' := [_, _, _, _, _]) dX0_takeBack_94 rfl rfl (by decide) rfl rfl ?_
              refine j_goto (pc := 97) (tgt := 7) dX0_takeBack_97 (by decide) ?_
              have hso1 : so ((w + n) % 40) = 1 := by
                have hlt := (e2 _ hm).1
                exact (nI_eq (b := 1) (by omega) (by decide)).mp h83
              rw [show nI (w + n) + -1 = nI (w + n) - 1 from (Int32.sub_eq_add_neg _ _).symm]
              refine ih _ _ (va_up s.1 (si ((w + n) % 40)) true, s.2) hB2 (hT.tr (hF2.mo (fun c q => q.elim Or.inl (fun z => Or.inr (Or.inl z))))) (hA.keep hF2 (fun k hk q => hdis k hk (q.elim Or.inl (fun z => Or.inr (Or.inl z))))) (by omega) ?_
              rw [hs, zbk, show w + (n + 1) - 1 = w + n from rfl, zinv, if_neg (by rw [hso1]; decide), decide_eq_true hso1]
          · refine j_aload_n (pc := 39) dX0_takeBack_39 rfl ?_
            refine j_aload_n (pc := 40) dX0_takeBack_40 rfl ?_
            refine j_getP (pc := 41) dX0_takeBack_41 f_X0_15 (Or.inr ⟨_, rfl⟩) (by assumption) ?_
            rw [show zgP T a 1 = a + 2 from by rw [hT.2.2.1]; exact p2]
            refine j_iload (pc := 44) dX0_takeBack_44 rfl ?_
            refine j_iald (pc := 46) dX0_takeBack_46 (by assumption) (by assumption) ?_
            rw [hcl, (hA.2.2.2.2.1 _ hm).2.1]
            refine j_aload_n (pc := 47) dX0_takeBack_47 rfl ?_
            refine j_getP (pc := 48) dX0_takeBack_48 f_X0_18 (Or.inr ⟨_, rfl⟩) (by assumption) ?_
            rw [show zgP T a 2 = a + 3 from by rw [hT.2.2.1]; exact p3]
            refine j_iload (pc := 51) dX0_takeBack_51 rfl ?_
            refine j_iald (pc := 53) dX0_takeBack_53 (by assumption) (by assumption) ?_
            rw [hcl, (hA.2.2.2.2.1 _ hm).2.2.1]
            refine j_aload_n (pc := 54) dX0_takeBack_54 rfl ?_
            refine j_getP (pc := 55) dX0_takeBack_55 f_X0_21 (Or.inr ⟨_, rfl⟩) (by assumption) ?_
            rw [show zgP T a 3 = a + 4 from by rw [hT.2.2.1]; exact p4]
            refine j_iload (pc := 58) dX0_takeBack_58 rfl ?_
            refine j_lald (pc := 60) dX0_takeBack_60 (by assumption) (by assumption) ?_
            rw [hcl, (hA.2.2.2.2.1 _ hm).2.2.2]
            refine j_callV (pc := 61) (t := 7) (c_write hB hsi hsc _) dX0_takeBack_61 l_X0_42 mk_X7_write mv_X7_write (by decide) rfl (by assumption) (by decide) rfl rfl (Nat.le_of_ble_eq_true rfl) (Nat.le_refl _) (Nat.le_refl _) (fun r T2 h_1 => ?_)
            obtain ⟨rfl, rfl⟩ := h_1
            refine j_goto (pc := 64) (tgt := 94) dX0_takeBack_64 (by decide) ?_
            refine j_iinc (pc := 94) (v := _ + (-1)) (ls' := [_, _, _, _, _]) dX0_takeBack_94 rfl rfl (by decide) rfl rfl ?_
            refine j_goto (pc := 97) (tgt := 7) dX0_takeBack_97 (by decide) ?_
            have hso : so ((w + n) % 40) = 2 := by
              have hlt := (e2 _ hm).1
              exact (nI_eq (b := 2) (by omega) (by decide)).mp h36
            rw [show nI (w + n) + -1 = nI (w + n) - 1 from (Int32.sub_eq_add_neg _ _).symm]
            refine ih _ _ (s.1, zu2 s.2 (si ((w + n) % 40)) (sc ((w + n) % 40)) (ol ((w + n) % 40))) (hB.write hsi hsc _) (hT.tr (zF.wL (Or.inr (Or.inr rfl)))) (hA.keep (zF.wL (X := zX3 b) (Or.inr (Or.inr rfl))) hdis) (by omega) ?_
            rw [hs, zbk, show w + (n + 1) - 1 = w + n from rfl, zinv, if_pos hso]
  refine j_aload_n (pc := 0) dX0_takeBack_0 rfl ?_
  refine j_getI (pc := 1) dX0_takeBack_1 f_X0_25 (Or.inl rfl) (by assumption) ?_
  rw [i1]
  refine j_iconst (pc := 4) (v := 1) dX0_takeBack_4 (by decide) ?_
  refine j_isub (pc := 5) dX0_takeBack_5 ?_
  refine j_istore_n (pc := 6) (ls' := [_, _, _, _, _]) dX0_takeBack_6 (by decide) rfl rfl ?_
  rw [show nI v = nI (w + (v - w)) from by rw [Nat.add_sub_cancel' hwv]]
  exact lp (v - w) S _ (th, vl) hR zF.rf h (by omega) (by rw [Nat.add_sub_cancel' hwv])
