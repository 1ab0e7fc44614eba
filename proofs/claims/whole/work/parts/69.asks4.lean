set_option maxRecDepth 20000 in
set_option maxHeartbeats 4000000 in
theorem p_account {E : zE} {S : zM} {s : zST} {n : Nat} (h : zCI S s) (hw : zWF n s) (x w : Int32) : zSp E 4 0 0 mX11_account cX11_account [zR 1, zI x, zI w] S (fun r T => r = some (zI (q_account s x w).1) ∧ zCI T (q_account s x w).2 ∧ zQF S T) := by
  refine zSp.of (by decide) rfl (Nat.le_of_ble_eq_true rfl) rfl ?_
  obtain ⟨h0, hF, hG4, hi, hV, hP, hR, hT⟩ := _root_.id h
  have k1 := h0.1
  cases hz : zbeg s x with
  | false =>
    have e : q_account s x w = zrf s 1 := by
      rcases zbeg_f hz with g | ⟨t, g, g2 | ⟨g2, g3⟩⟩
      · simp only [q_account, g]
      · simp only [q_account, g]
        rw [if_pos g2]
      · simp only [q_account, g]
        rw [if_neg (by rw [g2]; decide), g3]
    refine j_aload_n (pc := 0) dX11_account_0 rfl ?_
    refine j_iload_n (pc := 1) dX11_account_1 rfl ?_
    refine j_callV (pc := 2) (t := 11) (c_hasBegun h _) dX11_account_2 l_X11_246 mk_X11_hasBegun mv_X11_hasBegun (by decide) rfl (by assumption) (by decide) rfl rfl (Nat.le_of_ble_eq_true rfl) (Nat.le_refl _) (Nat.le_refl _) (fun r T h_1 => ?_)
    obtain ⟨rfl, rfl⟩ := h_1
    rw [hz]
    refine j_if_eq (pc := 5) (tgt := 18) dX11_account_5 (by decide) (fun h5 => ?_) (fun h5 => absurd rfl h5)
    refine j_aload_n (pc := 18) dX11_account_18 rfl ?_
    refine j_iconst (pc := 19) (v := 1) dX11_account_19 (by decide) ?_
    refine j_callV (pc := 20) (t := 11) (c_refused k1 _) dX11_account_20 l_X11_68 mk_X11_refused mv_X11_refused (by decide) rfl (by assumption) (by decide) rfl rfl (Nat.le_of_ble_eq_true rfl) (Nat.le_refl _) (Nat.le_refl _) (fun r T h_1 => ?_)
    obtain ⟨rfl, rfl⟩ := h_1
    refine j_iret (pc := 23) dX11_account_23 rfl ?_
    exact q_ref h zQF.rf e
  | true =>
    obtain ⟨t, j, y, ht, hj, rfl, hy⟩ := zbeg_t hz
    have hcl : (nI j).toNatClampNeg = j := nI_clamp (by omega)
    have hc4 : ¬ zcl2 4 (nI j) = false := by rw [zcl2_nI hj (by decide)]; decide
    have hyn : sR s (zn (nI j)) = some y := by rw [zn, hcl]; exact hy
    have hRj := hR j hj
    rw [hy] at hRj
    have hRd : zRd S (103 + 5 * j) true y.1 y.2.1 y.2.2.1 y.2.2.2.1 y.2.2.2.2.1 y.2.2.2.2.2.1 y.2.2.2.2.2.2.1 y.2.2.2.2.2.2.2 := hRj
    have krd := hRd.1.1
    have k102 : zkd S 102 = (14 + 4, 4) := h0.2.2.1
    have pr := h0.2.2.2.1 j hj
    rw [ht] at hT
    obtain ⟨a, p5, a161, ag, hTt, hVI⟩ := hT
    obtain ⟨ka, q2, q3, q4, q5, q6, q1, i7, i8⟩ := hTt.d
    have k6 : zkd S 6 = (11, 0) := by obtain ⟨q, t0, g, h1, h2⟩ := hV.1; exact h1.1.1
    obtain ⟨so, si, sc, ol, hTA, hHi⟩ := hTt
    have hOr := hTA.2.2.1
    have hSv := hTA.2.2.2.1
    have hRo := hTA.2.2.2.2.1
    have hAc := hTA.2.2.2.2.2.1
    have kor := hOr.1.1
    have ksv := hSv.1.1
    have kro := hRo.1
    have kac := hAc.1.1
    have iv := hAc.2.2.1
    have hn : n ≤ 600 := Nat.le_of_lt hw.1
    have hwT := hw.2.2.2
    rw [ht] at hwT
    obtain ⟨hWt, hWp, hWr⟩ := hwT
    have g64 := hRo.2.2.2.2.2.2.2.2.2
    refine j_aload_n (pc := 0) dX11_account_0 rfl ?_
    refine j_iload_n (pc := 1) dX11_account_1 rfl ?_
    refine j_callV (pc := 2) (t := 11) (c_hasBegun h _) dX11_account_2 l_X11_246 mk_X11_hasBegun mv_X11_hasBegun (by decide) rfl (by assumption) (by decide) rfl rfl (Nat.le_of_ble_eq_true rfl) (Nat.le_refl _) (Nat.le_refl _) (fun r T h_1 => ?_)
    obtain ⟨rfl, rfl⟩ := h_1
    rw [hz]
    refine j_if_eq (pc := 5) (tgt := 18) dX11_account_5 (by decide) (fun h5 => absurd h5 (by decide)) (fun h5 => ?_)
    refine j_iload_n (pc := 8) dX11_account_8 rfl ?_
    refine j_if_lt (pc := 9) (tgt := 18) dX11_account_9 (by decide) (fun h9 => ?_) (fun h9 => ?_)
    · refine j_aload_n (pc := 18) dX11_account_18 rfl ?_
      refine j_iconst (pc := 19) (v := 1) dX11_account_19 (by decide) ?_
      refine j_callV (pc := 20) (t := 11) (c_refused k1 _) dX11_account_20 l_X11_68 mk_X11_refused mv_X11_refused (by decide) rfl (by assumption) (by decide) rfl rfl (Nat.le_of_ble_eq_true rfl) (Nat.le_refl _) (Nat.le_refl _) (fun r T h_1 => ?_)
      obtain ⟨rfl, rfl⟩ := h_1
      refine j_iret (pc := 23) dX11_account_23 rfl ?_
      exact q_ref h zQF.rf (by simp only [q_account, ht]; rw [if_neg hc4, hyn]; simp only []; rw [if_pos (zcl2_f1 h9)])
    · refine j_iload_n (pc := 12) dX11_account_12 rfl ?_
      refine j_bipush (pc := 13) (v := 6) dX11_account_13 (by decide) ?_
      refine j_icmp_le (pc := 15) (tgt := 24) dX11_account_15 (by decide) (fun h15 => ?_) (fun h15 => ?_)
      · have hw7 : ¬ zcl2 7 w = false := by rw [show zcl2 7 w = true from decide_eq_true (p := ¬ w < 0 ∧ ¬ nI 7 ≤ w) ⟨h9, Int32.not_le.mpr (Int32.lt_of_le_of_lt h15 (by decide))⟩]; decide
        refine j_aload_n (pc := 24) dX11_account_24 rfl ?_
        refine j_getPv (pc := 25) dX11_account_25 f_X11_39 (Or.inr ⟨_, rfl⟩) (by assumption) (h0.2.1.2.2.2.2) ?_
        refine j_iload_n (pc := 28) dX11_account_28 rfl ?_
        refine j_aaldn (pc := 29) (j := 4) dX11_account_29 k102 (by decide) hj (by decide) pr ?_
        refine j_astore_n (pc := 30) (ls' := [_, _, _, _, _, _]) dX11_account_30 (by decide) rfl rfl ?_
        refine j_iload_n (pc := 31) dX11_account_31 rfl ?_
        refine j_iconst (pc := 32) (v := 5) dX11_account_32 (by decide) ?_
        refine j_icmp_ne (pc := 33) (tgt := 53) dX11_account_33 (by decide) (fun h33 => ?_) (fun h33 => ?_)
        · refine j_iload_n (pc := 53) dX11_account_53 rfl ?_
          refine j_bipush (pc := 54) (v := 6) dX11_account_54 (by decide) ?_
          refine j_icmp_ne (pc := 56) (tgt := 68) dX11_account_56 (by decide) (fun h56 => ?_) (fun h56 => ?_)
          · refine j_iconst (pc := 68) (v := 0) dX11_account_68 (by decide) ?_
            refine j_istore (pc := 69) (ls' := [_, _, _, _, _, _]) dX11_account_69 (by decide) rfl rfl ?_
            refine j_iconst (pc := 71) (v := 0) dX11_account_71 (by decide) ?_
            refine j_istore (pc := 72) (ls' := [_, _, _, _, _, _]) dX11_account_72 (by decide) rfl rfl ?_
            have ew : q_account s (nI j) w = zan s (nI (zacc t y w (tG t))) := by
              simp only [q_account, ht]
              rw [if_neg hc4, hyn]
              simp only []
              rw [if_neg hw7, if_neg h33, if_neg h56]
            have lp : ∀ (m i : Nat), i + m = tG t → zJ E 4 0 0 mX11_account cX11_account 74 [some (zR 1), some (zI (nI j)), some (zI w), some (zR (103 + 5 * j)), some (zI (nI (zacc t y w i))), some (zI (nI i))] [] S (fun r T => r = some (zI (q_account s (nI j) w).1) ∧ zCI T (q_account s (nI j) w).2 ∧ zQF S T) := by
              intro m
              induction m with
              | zero =>
                intro i hi
                have ei : i = tG t := by omega
                subst ei
                refine j_iload (pc := 74) dX11_account_74 rfl ?_
                refine j_aload_n (pc := 76) dX11_account_76 rfl ?_
                refine j_getPv (pc := 77) dX11_account_77 f_X11_44 (Or.inl ⟨_, rfl⟩) (by assumption) (p5) ?_
                refine j_getPv (pc := 80) dX11_account_80 f_X11_96 (Or.inl ⟨_, rfl⟩) (by assumption) (q4) ?_
                refine j_getIv (pc := 83) dX11_account_83 f_X11_116 (Or.inl rfl) (by assumption) (hRo.2.2.2.2.2.1) ?_
                refine j_icmp_ge (pc := 86) (tgt := 119) dX11_account_86 (by decide) (fun h86 => ?_) (fun h86 => absurd (nI_le (Nat.le_refl _) (by omega)) h86)
                refine j_aload_n (pc := 119) dX11_account_119 rfl ?_
                refine j_iload (pc := 120) dX11_account_120 rfl ?_
                refine j_callV (pc := 122) (t := 11) (c_answered k1 _) dX11_account_122 l_X11_103 mk_X11_answered mv_X11_answered (by decide) rfl (by assumption) (by decide) rfl rfl (Nat.le_of_ble_eq_true rfl) (Nat.le_refl _) (Nat.le_refl _) (fun r T h_1 => ?_)
                obtain ⟨rfl, rfl⟩ := h_1
                refine j_iret (pc := 125) dX11_account_125 rfl ?_
                exact q_ans h zQF.rf ew
              | succ m ih =>
                intro i hi
                refine j_iload (pc := 74) dX11_account_74 rfl ?_
                refine j_aload_n (pc := 76) dX11_account_76 rfl ?_
                refine j_getPv (pc := 77) dX11_account_77 f_X11_44 (Or.inl ⟨_, rfl⟩) (by assumption) (p5) ?_
                refine j_getPv (pc := 80) dX11_account_80 f_X11_96 (Or.inl ⟨_, rfl⟩) (by assumption) (q4) ?_
                refine j_getIv (pc := 83) dX11_account_83 f_X11_116 (Or.inl rfl) (by assumption) (hRo.2.2.2.2.2.1) ?_
                refine j_icmp_ge (pc := 86) (tgt := 119) dX11_account_86 (by decide) (fun h86 => absurd h86 (nI_ge (by omega) (by omega))) (fun h86 => ?_)
                refine j_iload (pc := 89) dX11_account_89 rfl ?_
                refine j_bipush (pc := 91) (v := 64) dX11_account_91 (by decide) ?_
                refine j_icmp_ge (pc := 93) (tgt := 119) dX11_account_93 (by decide) (fun h93 => absurd h93 (nI_ge (b := 64) (by omega) (by decide))) (fun h93 => ?_)
                refine j_aload_n (pc := 96) dX11_account_96 rfl ?_
                refine j_iload_n (pc := 97) dX11_account_97 rfl ?_
                refine j_iload (pc := 98) dX11_account_98 rfl ?_
                refine j_aload_n (pc := 100) dX11_account_100 rfl ?_
                refine j_getPv (pc := 101) dX11_account_101 f_X11_44 (Or.inl ⟨_, rfl⟩) (by assumption) (p5) ?_
                refine j_callV (pc := 104) (t := 6) (c_counts hRd hTA (show i < 64 by omega) w) dX11_account_104 l_X11_255 mk_X6_counts mv_X6_counts (by decide) rfl (by assumption) (by decide) rfl rfl (Nat.le_of_ble_eq_true rfl) (Nat.le_refl _) (Nat.le_refl _) (fun r T h_1 => ?_)
                obtain ⟨rfl, rfl⟩ := h_1
                refine j_if_eq (pc := 107) (tgt := 113) dX11_account_107 (by decide) (fun h107 => ?_) (fun h107 => ?_)
                · refine j_iinc (pc := 113) (v := _ + 1) (ls' := [_, _, _, _, _, _]) dX11_account_113 rfl rfl (by decide) rfl rfl ?_
                  refine j_goto (pc := 116) (tgt := 74) dX11_account_116 (by decide) ?_
                  rw [nI_1]
                  have := ih (i + 1) (by omega)
                  rwa [show zacc t y w (i + 1) = zacc t y w i by rw [zacc, fb_ct_succ, zbi_eq0.mp h107]; rfl] at this
                · refine j_iinc (pc := 110) (v := _ + 1) (ls' := [_, _, _, _, _, _]) dX11_account_110 rfl rfl (by decide) rfl rfl ?_
                  refine j_iinc (pc := 113) (v := _ + 1) (ls' := [_, _, _, _, _, _]) dX11_account_113 rfl rfl (by decide) rfl rfl ?_
                  refine j_goto (pc := 116) (tgt := 74) dX11_account_116 (by decide) ?_
                  rw [nI_1, nI_1]
                  have := ih (i + 1) (by omega)
                  rwa [show zacc t y w (i + 1) = zacc t y w i + 1 by rw [zacc, fb_ct_succ, zbi_ne0 h107]; rfl] at this
            exact lp (tG t) 0 (by omega)
          · refine j_aload_n (pc := 59) dX11_account_59 rfl ?_
            refine j_aload_n (pc := 60) dX11_account_60 rfl ?_
            refine j_getIv (pc := 61) dX11_account_61 f_X11_252 (Or.inl rfl) (by assumption) (hRd.2.2.1.2.2.2.2.2) ?_
            refine j_callV (pc := 64) (t := 11) (c_answered k1 _) dX11_account_64 l_X11_103 mk_X11_answered mv_X11_answered (by decide) rfl (by assumption) (by decide) rfl rfl (Nat.le_of_ble_eq_true rfl) (Nat.le_refl _) (Nat.le_refl _) (fun r T h_1 => ?_)
            obtain ⟨rfl, rfl⟩ := h_1
            refine j_iret (pc := 67) dX11_account_67 rfl ?_
            exact q_ans h zQF.rf (by simp only [q_account, ht]; rw [if_neg hc4, hyn]; simp only []; rw [if_neg hw7, if_neg h33, if_pos h56])
        · refine j_aload_n (pc := 36) dX11_account_36 rfl ?_
          refine j_aload_n (pc := 37) dX11_account_37 rfl ?_
          refine j_getIv (pc := 38) dX11_account_38 f_X11_249 (Or.inr rfl) (by assumption) (hRd.2.2.1.2.2.1) ?_
          refine j_if_eq (pc := 41) (tgt := 48) dX11_account_41 (by decide) (fun h41 => ?_) (fun h41 => ?_)
          · refine j_iconst (pc := 48) (v := 0) dX11_account_48 (by decide) ?_
            refine j_callV (pc := 49) (t := 11) (c_answered k1 _) dX11_account_49 l_X11_103 mk_X11_answered mv_X11_answered (by decide) rfl (by assumption) (by decide) rfl rfl (Nat.le_of_ble_eq_true rfl) (Nat.le_refl _) (Nat.le_refl _) (fun r T h_1 => ?_)
            obtain ⟨rfl, rfl⟩ := h_1
            refine j_iret (pc := 52) dX11_account_52 rfl ?_
            exact q_ans h zQF.rf (by simp only [q_account, ht]; rw [if_neg hc4, hyn]; simp only []; rw [if_neg hw7, if_pos h33, h41])
          · refine j_iconst (pc := 44) (v := 1) dX11_account_44 (by decide) ?_
            refine j_goto (pc := 45) (tgt := 49) dX11_account_45 (by decide) ?_
            refine j_callV (pc := 49) (t := 11) (c_answered k1 _) dX11_account_49 l_X11_103 mk_X11_answered mv_X11_answered (by decide) rfl (by assumption) (by decide) rfl rfl (Nat.le_of_ble_eq_true rfl) (Nat.le_refl _) (Nat.le_refl _) (fun r T h_1 => ?_)
            obtain ⟨rfl, rfl⟩ := h_1
            refine j_iret (pc := 52) dX11_account_52 rfl ?_
            exact q_ans h zQF.rf (by simp only [q_account, ht]; rw [if_neg hc4, hyn]; simp only []; rw [if_neg hw7, if_pos h33, zbi_ne0 h41]; rfl)
      · refine j_aload_n (pc := 18) dX11_account_18 rfl ?_
        refine j_iconst (pc := 19) (v := 1) dX11_account_19 (by decide) ?_
        refine j_callV (pc := 20) (t := 11) (c_refused k1 _) dX11_account_20 l_X11_68 mk_X11_refused mv_X11_refused (by decide) rfl (by assumption) (by decide) rfl rfl (Nat.le_of_ble_eq_true rfl) (Nat.le_refl _) (Nat.le_refl _) (fun r T h_1 => ?_)
        obtain ⟨rfl, rfl⟩ := h_1
        refine j_iret (pc := 23) dX11_account_23 rfl ?_
        exact q_ref h zQF.rf (by simp only [q_account, ht]; rw [if_neg hc4, hyn]; simp only []; rw [if_pos (zcl2_f2 (m := 7) (by rcases pk_ix w (n := 7) (by decide) with g | g | ⟨k, hk, rfl⟩; exact absurd g h9; exact g; exact absurd (nI_le (b := 6) (by omega) (by decide)) h15))])
set_option maxRecDepth 20000 in
set_option maxHeartbeats 4000000 in
theorem p_differ {E : zE} {S : zM} {s : zST} {n : Nat} (h : zCI S s) (hw : zWF n s) (x x2 : Int32) : zSp E 2 0 0 mX11_differ cX11_differ [zR 1, zI x, zI x2] S (fun r T => r = some (zI (q_differ s x x2).1) ∧ zCI T (q_differ s x x2).2 ∧ zQF S T) := by
  refine zSp.of (by decide) rfl (Nat.le_of_ble_eq_true rfl) rfl ?_
  obtain ⟨h0, hF, hG4, hi, hV, hP, hR, hT⟩ := _root_.id h
  have k1 := h0.1
  cases hz : zrow s x with
  | false =>
    have e : q_differ s x x2 = zrf s 1 := by
      unfold q_differ
      split
      · rfl
      · rename_i t ht
        rw [zrow_s ht] at hz
        simp [hz]
    refine j_aload_n (pc := 0) dX11_differ_0 rfl ?_
    refine j_iload_n (pc := 1) dX11_differ_1 rfl ?_
    refine j_callV (pc := 2) (t := 11) (c_isRow h _) dX11_differ_2 l_X11_151 mk_X11_isRow mv_X11_isRow (by decide) rfl (by assumption) (by decide) rfl rfl (Nat.le_of_ble_eq_true rfl) (Nat.le_refl _) (Nat.le_refl _) (fun r T h_1 => ?_)
    obtain ⟨rfl, rfl⟩ := h_1
    rw [hz]
    refine j_if_eq (pc := 5) (tgt := 21) dX11_differ_5 (by decide) (fun h5 => ?_) (fun h5 => absurd rfl h5)
    refine j_aload_n (pc := 21) dX11_differ_21 rfl ?_
    refine j_iconst (pc := 22) (v := 1) dX11_differ_22 (by decide) ?_
    refine j_callV (pc := 23) (t := 11) (c_refused k1 _) dX11_differ_23 l_X11_68 mk_X11_refused mv_X11_refused (by decide) rfl (by assumption) (by decide) rfl rfl (Nat.le_of_ble_eq_true rfl) (Nat.le_refl _) (Nat.le_refl _) (fun r T h_1 => ?_)
    obtain ⟨rfl, rfl⟩ := h_1
    refine j_iret (pc := 26) dX11_differ_26 rfl ?_
    exact q_ref h zQF.rf e
  | true =>
    obtain ⟨t, j, ht, hj, rfl, hjr⟩ := zrow_t hz
    have hjt : zth (tW t).1 (nI j) = true := by rw [zth_nI _ hj]; exact hjr
    have hcl : (nI j).toNatClampNeg = j := nI_clamp (by omega)
    rw [ht] at hT
    obtain ⟨a, p5, a161, ag, hTt, hVI⟩ := hT
    obtain ⟨ka, q2, q3, q4, q5, q6, q1, i7, i8⟩ := hTt.d
    have k6 : zkd S 6 = (11, 0) := by obtain ⟨q, t0, g, h1, h2⟩ := hV.1; exact h1.1.1
    obtain ⟨so, si, sc, ol, hTA, hHi⟩ := hTt
    have hOr := hTA.2.2.1
    have hSv := hTA.2.2.2.1
    have hRo := hTA.2.2.2.2.1
    have hAc := hTA.2.2.2.2.2.1
    have kor := hOr.1.1
    have ksv := hSv.1.1
    have kro := hRo.1
    have kac := hAc.1.1
    have iv := hAc.2.2.1
    have hn : n ≤ 600 := Nat.le_of_lt hw.1
    have hwT := hw.2.2.2
    rw [ht] at hwT
    obtain ⟨hWt, hWp, hWr⟩ := hwT
    have hO4 := hOr.2.2.2.1
    refine j_aload_n (pc := 0) dX11_differ_0 rfl ?_
    refine j_iload_n (pc := 1) dX11_differ_1 rfl ?_
    refine j_callV (pc := 2) (t := 11) (c_isRow h _) dX11_differ_2 l_X11_151 mk_X11_isRow mv_X11_isRow (by decide) rfl (by assumption) (by decide) rfl rfl (Nat.le_of_ble_eq_true rfl) (Nat.le_refl _) (Nat.le_refl _) (fun r T h_1 => ?_)
    obtain ⟨rfl, rfl⟩ := h_1
    rw [hz]
    refine j_if_eq (pc := 5) (tgt := 21) dX11_differ_5 (by decide) (fun h5 => absurd h5 (by decide)) (fun h5 => ?_)
    refine j_aload_n (pc := 8) dX11_differ_8 rfl ?_
    refine j_iload_n (pc := 9) dX11_differ_9 rfl ?_
    refine j_callV (pc := 10) (t := 11) (c_isRow h x2) dX11_differ_10 l_X11_151 mk_X11_isRow mv_X11_isRow (by decide) rfl (by assumption) (by decide) rfl rfl (Nat.le_of_ble_eq_true rfl) (Nat.le_refl _) (Nat.le_refl _) (fun r T h_1 => ?_)
    obtain ⟨rfl, rfl⟩ := h_1
    refine j_if_eq (pc := 13) (tgt := 21) dX11_differ_13 (by decide) (fun h13 => ?_) (fun h13 => ?_)
    · refine j_aload_n (pc := 21) dX11_differ_21 rfl ?_
      refine j_iconst (pc := 22) (v := 1) dX11_differ_22 (by decide) ?_
      refine j_callV (pc := 23) (t := 11) (c_refused k1 _) dX11_differ_23 l_X11_68 mk_X11_refused mv_X11_refused (by decide) rfl (by assumption) (by decide) rfl rfl (Nat.le_of_ble_eq_true rfl) (Nat.le_refl _) (Nat.le_refl _) (fun r T h_1 => ?_)
      obtain ⟨rfl, rfl⟩ := h_1
      refine j_iret (pc := 26) dX11_differ_26 rfl ?_
      have hx2 := zbi_eq0.mp h13
      rw [zrow_s ht] at hx2
      exact q_ref h zQF.rf (by simp only [q_differ, ht]; rw [if_neg (fun g => bnf hx2 g.2.1)])
    · refine j_iload_n (pc := 16) dX11_differ_16 rfl ?_
      refine j_iload_n (pc := 17) dX11_differ_17 rfl ?_
      refine j_icmp_ne (pc := 18) (tgt := 27) dX11_differ_18 (by decide) (fun h18 => ?_) (fun h18 => ?_)
      · obtain ⟨t2, k, ht2, hk, rfl, hkr⟩ := zrow_t (zbi_ne0 h13)
        rw [ht] at ht2
        cases ht2
        have hkt : zth (tW t).1 (nI k) = true := by rw [zth_nI _ hk]; exact hkr
        have hck : (nI k).toNatClampNeg = k := nI_clamp (by omega)
        refine j_iconst (pc := 27) (v := 0) dX11_differ_27 (by decide) ?_
        refine j_istore_n (pc := 28) (ls' := [_, _, _, _, _]) dX11_differ_28 (by decide) rfl rfl ?_
        have ew : q_differ s (nI j) (nI k) = zan s (zdf (tO t) ((tW t).2 j) ((tW t).2 k)) := by
          simp only [q_differ, ht]
          rw [if_pos ⟨hjt, hkt, h18⟩]
          simp only [zn, hcl, hck]
        have lp : ∀ (m i : Nat) (z : Option zV), i + m = (tO t).length → (∀ i' e', i' < i → (tO t)[i']? = some e' → (tW t).2 j e'.1 = (tW t).2 k e'.1) → zJ E 2 0 0 mX11_differ cX11_differ 29 [some (zR 1), some (zI (nI j)), some (zI (nI k)), some (zI (nI i)), z] [] S (fun r T => r = some (zI (q_differ s (nI j) (nI k)).1) ∧ zCI T (q_differ s (nI j) (nI k)).2 ∧ zQF S T) := by
          intro m
          induction m with
          | zero =>
            intro i z hi hq
            have ei : i = (tO t).length := by omega
            subst ei
            refine j_iload_n (pc := 29) dX11_differ_29 rfl ?_
            refine j_aload_n (pc := 30) dX11_differ_30 rfl ?_
            refine j_getPv (pc := 31) dX11_differ_31 f_X11_44 (Or.inl ⟨_, rfl⟩) (by assumption) (p5) ?_
            refine j_getPv (pc := 34) dX11_differ_34 f_X11_109 (Or.inl ⟨_, rfl⟩) (by assumption) (q2) ?_
            refine j_getIv (pc := 37) dX11_differ_37 f_X11_113 (Or.inl rfl) (by assumption) (hOr.2.2.1) ?_
            refine j_icmp_ge (pc := 40) (tgt := 99) dX11_differ_40 (by decide) (fun h40 => ?_) (fun h40 => absurd (nI_le (Nat.le_refl _) (by omega)) h40)
            refine j_aload_n (pc := 99) dX11_differ_99 rfl ?_
            refine j_bipush (pc := 100) (v := (-2)) dX11_differ_100 (by decide) ?_
            refine j_callV (pc := 102) (t := 11) (c_answered k1 _) dX11_differ_102 l_X11_103 mk_X11_answered mv_X11_answered (by decide) rfl (by assumption) (by decide) rfl rfl (Nat.le_of_ble_eq_true rfl) (Nat.le_refl _) (Nat.le_refl _) (fun r T h_1 => ?_)
            obtain ⟨rfl, rfl⟩ := h_1
            refine j_iret (pc := 105) dX11_differ_105 rfl ?_
            have en : (tO t).findIdx? (fun e => decide ((tW t).2 j e.1 ≠ (tW t).2 k e.1)) = none := List.findIdx?_eq_none_iff.mpr (fun e he => by
              obtain ⟨i, hi⟩ := List.getElem?_of_mem he
              exact decide_eq_false (not_not_intro (hq i e (List.getElem?_eq_some_iff.mp hi).1 hi)))
            exact q_ans h zQF.rf (ew.trans (by rw [zdf, en]))
          | succ m ih =>
            intro i z hi hq
            have he := gD (0, false, false, false) (show i < (tO t).length by omega)
            generalize (tO t).getD i (0, false, false, false) = e at he
            obtain ⟨o1, o2, o3, o4, o5⟩ := hOr.2.2.2.2 i e he
            have kc := hOr.1.2.1
            refine j_iload_n (pc := 29) dX11_differ_29 rfl ?_
            refine j_aload_n (pc := 30) dX11_differ_30 rfl ?_
            refine j_getPv (pc := 31) dX11_differ_31 f_X11_44 (Or.inl ⟨_, rfl⟩) (by assumption) (p5) ?_
            refine j_getPv (pc := 34) dX11_differ_34 f_X11_109 (Or.inl ⟨_, rfl⟩) (by assumption) (q2) ?_
            refine j_getIv (pc := 37) dX11_differ_37 f_X11_113 (Or.inl rfl) (by assumption) (hOr.2.2.1) ?_
            refine j_icmp_ge (pc := 40) (tgt := 99) dX11_differ_40 (by decide) (fun h40 => absurd h40 (nI_ge (by omega) (by omega))) (fun h40 => ?_)
            refine j_aload_n (pc := 43) dX11_differ_43 rfl ?_
            refine j_getPv (pc := 44) dX11_differ_44 f_X11_44 (Or.inl ⟨_, rfl⟩) (by assumption) (p5) ?_
            refine j_getPv (pc := 47) dX11_differ_47 f_X11_109 (Or.inl ⟨_, rfl⟩) (by assumption) (q2) ?_
            refine j_getPv (pc := 50) dX11_differ_50 f_X11_142 (Or.inr ⟨_, rfl⟩) (by assumption) (hOr.2.1.1) ?_
            refine j_iload_n (pc := 53) dX11_differ_53 rfl ?_
            refine j_ialdn (pc := 54) dX11_differ_54 kc (by omega) (by decide) o1 ?_
            refine j_istore (pc := 55) (ls' := [_, _, _, _, _]) dX11_differ_55 (by decide) rfl rfl ?_
            refine j_aload_n (pc := 57) dX11_differ_57 rfl ?_
            refine j_getPv (pc := 58) dX11_differ_58 f_X11_44 (Or.inl ⟨_, rfl⟩) (by assumption) (p5) ?_
            refine j_getPv (pc := 61) dX11_differ_61 f_X11_96 (Or.inl ⟨_, rfl⟩) (by assumption) (q4) ?_
            refine j_iload_n (pc := 64) dX11_differ_64 rfl ?_
            refine j_iload (pc := 65) dX11_differ_65 rfl ?_
            refine j_callV (pc := 67) (t := 7) (c_read hRo hj (show e.1 < 4 by omega)) dX11_differ_67 l_X11_158 mk_X7_read mv_X7_read (by decide) rfl (by assumption) (by decide) rfl rfl (Nat.le_of_ble_eq_true rfl) (Nat.le_refl _) (Nat.le_refl _) (fun r T h_1 => ?_)
            obtain ⟨rfl, rfl⟩ := h_1
            refine j_aload_n (pc := 70) dX11_differ_70 rfl ?_
            refine j_getPv (pc := 71) dX11_differ_71 f_X11_44 (Or.inl ⟨_, rfl⟩) (by assumption) (p5) ?_
            refine j_getPv (pc := 74) dX11_differ_74 f_X11_96 (Or.inl ⟨_, rfl⟩) (by assumption) (q4) ?_
            refine j_iload_n (pc := 77) dX11_differ_77 rfl ?_
            refine j_iload (pc := 78) dX11_differ_78 rfl ?_
            refine j_callV (pc := 80) (t := 7) (c_read hRo hk (show e.1 < 4 by omega)) dX11_differ_80 l_X11_158 mk_X7_read mv_X7_read (by decide) rfl (by assumption) (by decide) rfl rfl (Nat.le_of_ble_eq_true rfl) (Nat.le_refl _) (Nat.le_refl _) (fun r T h_1 => ?_)
            obtain ⟨rfl, rfl⟩ := h_1
            refine j_lcmp (pc := 83) dX11_differ_83 ?_
            refine j_if_eq (pc := 84) (tgt := 93) dX11_differ_84 (by decide) (fun h84 => ?_) (fun h84 => ?_)
            · refine j_iinc (pc := 93) (v := _ + 1) (ls' := [_, _, _, _, _]) dX11_differ_93 rfl rfl (by decide) rfl rfl ?_
              refine j_goto (pc := 96) (tgt := 29) dX11_differ_96 (by decide) ?_
              rw [nI_1]
              refine ih (i + 1) _ (by omega) (fun i' e' hi' he' => ?_)
              by_cases g : i' = i
              · subst g
                rw [he] at he'
                cases he'
                exact (lg_cmp_eq _ _).mp h84
              · exact hq i' e' (by omega) he'
            · refine j_aload_n (pc := 87) dX11_differ_87 rfl ?_
              refine j_iload_n (pc := 88) dX11_differ_88 rfl ?_
              refine j_callV (pc := 89) (t := 11) (c_answered k1 _) dX11_differ_89 l_X11_103 mk_X11_answered mv_X11_answered (by decide) rfl (by assumption) (by decide) rfl rfl (Nat.le_of_ble_eq_true rfl) (Nat.le_refl _) (Nat.le_refl _) (fun r T h_1 => ?_)
              obtain ⟨rfl, rfl⟩ := h_1
              refine j_iret (pc := 92) dX11_differ_92 rfl ?_
              have en : (tO t).findIdx? (fun e => decide ((tW t).2 j e.1 ≠ (tW t).2 k e.1)) = some i := List.findIdx?_eq_some_iff_getElem.mpr ⟨by omega, by
                rw [(List.getElem?_eq_some_iff.mp he).2]
                exact decide_eq_true (fun g => h84 ((lg_cmp_eq _ _).mpr g)), fun i' hi' => by
                have := hq i' _ hi' (List.getElem?_eq_getElem (by omega))
                simp [this]⟩
              exact q_ans h zQF.rf (ew.trans (by rw [zdf, en]))
        exact lp (tO t).length 0 none (by omega) (fun i' _ hi' => absurd hi' (Nat.not_lt_zero i'))
      · refine j_aload_n (pc := 21) dX11_differ_21 rfl ?_
        refine j_iconst (pc := 22) (v := 1) dX11_differ_22 (by decide) ?_
        refine j_callV (pc := 23) (t := 11) (c_refused k1 _) dX11_differ_23 l_X11_68 mk_X11_refused mv_X11_refused (by decide) rfl (by assumption) (by decide) rfl rfl (Nat.le_of_ble_eq_true rfl) (Nat.le_refl _) (Nat.le_refl _) (fun r T h_1 => ?_)
        obtain ⟨rfl, rfl⟩ := h_1
        refine j_iret (pc := 26) dX11_differ_26 rfl ?_
        exact q_ref h zQF.rf (by simp only [q_differ, ht]; rw [if_neg (fun g => g.2.2 h18)])
theorem zput_t (L M : List Nat) (x : Int32) (h : L.length + M.length < 900) : zput 900 (L ++ M) x = L ++ (M ++ [zb8 x]) := by
  rw [zput, if_pos (by rw [List.length_append]; exact h), List.append_assoc]
theorem zput4 {L : List Nat} (x : Int32) (h : L.length + 4 ≤ 900) : zput 900 (zput 900 (zput 900 (zput 900 L (x >>> (16 &&& 31) >>> (8 &&& 31))) (x >>> (16 &&& 31))) (x >>> (8 &&& 31))) x = L ++ z4 x := by
  have h0 : zput 900 L (x >>> (16 &&& 31) >>> (8 &&& 31)) = L ++ [zb8 (x >>> (16 &&& 31) >>> (8 &&& 31))] := if_pos (by omega)
  have h1 := zput_t L [zb8 (x >>> (16 &&& 31) >>> (8 &&& 31))] (x >>> (16 &&& 31)) (by simp only [List.length_cons, List.length_nil]; omega)
  have h2 := zput_t L ([zb8 (x >>> (16 &&& 31) >>> (8 &&& 31))] ++ [zb8 (x >>> (16 &&& 31))]) (x >>> (8 &&& 31)) (by simp only [List.length_cons, List.length_nil, List.length_append]; omega)
  have h3 := zput_t L ([zb8 (x >>> (16 &&& 31) >>> (8 &&& 31))] ++ [zb8 (x >>> (16 &&& 31))] ++ [zb8 (x >>> (8 &&& 31))]) x (by simp only [List.length_cons, List.length_nil, List.length_append]; omega)
  rw [h0, h1, h2, h3]
  rfl
theorem z4_len (x : Int32) : (z4 x).length = 4 := rfl
/-- what was fed is more -/
theorem zCI.fed {S T : zM} {s : zST} {F : List Nat} (h : zCI S s) (f : zF (zAB 2 3) S T) (hF : zBy T 2 3 900 F) : zCI T (F, s.2) := by
  obtain ⟨h0, -, ⟨G, hG⟩, ⟨i1, i2, i3⟩, ⟨hV, hV2⟩, hP, hR, hT⟩ := h
  have ff : ∀ c, c ≠ 2 → c ≠ 3 → zAg S T c := fun c h1 h2 => f.ag (fun q => q.elim h1 h2)
  have f1 := ff 1 (by decide) (by decide)
  refine ⟨h0.ag f1 (ff 102 (by decide) (by decide)) (Nat.le_of_eq f.2.1.symm), hF, ⟨G, hG.ag (ff 4 (by decide) (by decide)) (ff 5 (by decide) (by decide))⟩, ⟨(f1.2.1 6).trans i1, (f1.2.1 7).trans i2, (f1.2.1 8).trans i3⟩, ⟨hV.ag (fun c z1 z2 => ff c (by omega) (by omega)), by rw [f.2.1, f.2.2.1]; exact hV2⟩, hP.ag (fun c z1 z2 => ff c (by omega) (by omega)), fun r hr => (hR r hr).ag (fun k hk => ff _ (by omega) (by omega)), ?_⟩
  show zCT T (sT s)
  generalize sT s = t at hT
  cases t with
  | none => exact (f1.2.2.2 5).trans hT
  | some t =>
    obtain ⟨a, h1, h2, h3, h4, h5⟩ := hT
    exact ⟨a, (f1.2.2.2 5).trans h1, h2, by rw [f.2.1]; exact h3, h4.ag (fun k hk => ff _ (by omega) (by omega)), h5.ag (fun c z1 z2 => ff c (by omega) (by omega))⟩
set_option maxRecDepth 20000 in
set_option maxHeartbeats 4000000 in
theorem p_feed {E : zE} {S : zM} {s : zST} {n : Nat} (h : zCI S s) (hw : zWF n s) (a b c d e : Int32) : zSp E 3 0 0 mX11_feed cX11_feed [zR 1, zI a, zI b, zI c, zI d, zI e] S (fun r T => r = some (zI (q_feed s a b c d e).1) ∧ zCI T (q_feed s a b c d e).2 ∧ zQF S T) := by
  refine zSp.of (by decide) rfl (Nat.le_of_ble_eq_true rfl) rfl ?_
  obtain ⟨h0, hF, hG4, hi, hV, hP, hR, hT⟩ := _root_.id h
  have k1 := h0.1
  have k2 := hF.1
  have l900 := hw.2.1.1
  have b0 := hF
  have g0 : zF (zAB 2 3) S S := zF.rf
  refine j_aload_n (pc := 0) dX11_feed_0 rfl ?_
  refine j_getPv (pc := 1) dX11_feed_1 f_X11_16 (Or.inl ⟨_, rfl⟩) (by assumption) (h0.2.1.1) ?_
  refine j_getIv (pc := 4) dX11_feed_4 f_X11_58 (Or.inl rfl) (by assumption) (hF.2.2.2.2.1) ?_
  refine j_bipush (pc := 7) (v := 20) dX11_feed_7 (by decide) ?_
  refine j_iadd (pc := 9) dX11_feed_9 ?_
  rw [show (20 : Int32) = nI 20 from rfl, nI_add]
  refine j_sipush (pc := 10) (v := 900) dX11_feed_10 (by decide) ?_
  refine j_icmp_le (pc := 13) (tgt := 18) dX11_feed_13 (by decide) (fun h13 => ?_) (fun h13 => ?_)
  · have h880 : ¬ 880 < (sF s).length := fun q => nI_ge (b := (sF s).length + 20) (a := 900) (by omega) (by omega) h13
    refine j_aload_n (pc := 18) dX11_feed_18 rfl ?_
    refine j_getPv (pc := 19) dX11_feed_19 f_X11_16 (Or.inl ⟨_, rfl⟩) (by assumption) (h0.2.1.1) ?_
    refine j_iload_n (pc := 22) dX11_feed_22 rfl ?_
    refine j_callV (pc := 23) (t := 1) (c_putFour b0 a) dX11_feed_23 l_X11_61 mk_X1_putFour mv_X1_putFour (by decide) rfl (by assumption) (by decide) rfl rfl (Nat.le_of_ble_eq_true rfl) (Nat.le_refl _) (Nat.le_refl _) (fun r T1 h_1 => ?_)
    obtain ⟨rfl, b1, f1⟩ := h_1
    rw [zput4 _ (by first | omega | (simp only [List.length_append, z4_len]; omega))] at b1
    have g1 := g0.tr f1
    have k11 : zkd T1 1 = (12, 0) := by rw [g1.1]; exact k1
    have k21 := b1.1
    have p1 : zgP T1 1 0 = 2 := by rw [g1.2.2.1]; exact h0.2.1.1
    refine j_aload_n (pc := 26) dX11_feed_26 rfl ?_
    refine j_getPv (pc := 27) dX11_feed_27 f_X11_16 (Or.inl ⟨_, rfl⟩) (by assumption) (p1) ?_
    refine j_iload_n (pc := 30) dX11_feed_30 rfl ?_
    refine j_callV (pc := 31) (t := 1) (c_putFour b1 b) dX11_feed_31 l_X11_61 mk_X1_putFour mv_X1_putFour (by decide) rfl (by assumption) (by decide) rfl rfl (Nat.le_of_ble_eq_true rfl) (Nat.le_refl _) (Nat.le_refl _) (fun r T2 h_1 => ?_)
    obtain ⟨rfl, b2, f2⟩ := h_1
    rw [zput4 _ (by first | omega | (simp only [List.length_append, z4_len]; omega))] at b2
    have g2 := g1.tr f2
    have k12 : zkd T2 1 = (12, 0) := by rw [g2.1]; exact k1
    have k22 := b2.1
    have p2 : zgP T2 1 0 = 2 := by rw [g2.2.2.1]; exact h0.2.1.1
    refine j_aload_n (pc := 34) dX11_feed_34 rfl ?_
    refine j_getPv (pc := 35) dX11_feed_35 f_X11_16 (Or.inl ⟨_, rfl⟩) (by assumption) (p2) ?_
    refine j_iload_n (pc := 38) dX11_feed_38 rfl ?_
    refine j_callV (pc := 39) (t := 1) (c_putFour b2 c) dX11_feed_39 l_X11_61 mk_X1_putFour mv_X1_putFour (by decide) rfl (by assumption) (by decide) rfl rfl (Nat.le_of_ble_eq_true rfl) (Nat.le_refl _) (Nat.le_refl _) (fun r T3 h_1 => ?_)
    obtain ⟨rfl, b3, f3⟩ := h_1
    rw [zput4 _ (by first | omega | (simp only [List.length_append, z4_len]; omega))] at b3
    have g3 := g2.tr f3
    have k13 : zkd T3 1 = (12, 0) := by rw [g3.1]; exact k1
    have k23 := b3.1
    have p3 : zgP T3 1 0 = 2 := by rw [g3.2.2.1]; exact h0.2.1.1
    refine j_aload_n (pc := 42) dX11_feed_42 rfl ?_
    refine j_getPv (pc := 43) dX11_feed_43 f_X11_16 (Or.inl ⟨_, rfl⟩) (by assumption) (p3) ?_
    refine j_iload (pc := 46) dX11_feed_46 rfl ?_
    refine j_callV (pc := 48) (t := 1) (c_putFour b3 d) dX11_feed_48 l_X11_61 mk_X1_putFour mv_X1_putFour (by decide) rfl (by assumption) (by decide) rfl rfl (Nat.le_of_ble_eq_true rfl) (Nat.le_refl _) (Nat.le_refl _) (fun r T4 h_1 => ?_)
    obtain ⟨rfl, b4, f4⟩ := h_1
    rw [zput4 _ (by first | omega | (simp only [List.length_append, z4_len]; omega))] at b4
    have g4 := g3.tr f4
    have k14 : zkd T4 1 = (12, 0) := by rw [g4.1]; exact k1
    have k24 := b4.1
    have p4 : zgP T4 1 0 = 2 := by rw [g4.2.2.1]; exact h0.2.1.1
    refine j_aload_n (pc := 51) dX11_feed_51 rfl ?_
    refine j_getPv (pc := 52) dX11_feed_52 f_X11_16 (Or.inl ⟨_, rfl⟩) (by assumption) (p4) ?_
    refine j_iload (pc := 55) dX11_feed_55 rfl ?_
    refine j_callV (pc := 57) (t := 1) (c_putFour b4 e) dX11_feed_57 l_X11_61 mk_X1_putFour mv_X1_putFour (by decide) rfl (by assumption) (by decide) rfl rfl (Nat.le_of_ble_eq_true rfl) (Nat.le_refl _) (Nat.le_refl _) (fun r T5 h_1 => ?_)
    obtain ⟨rfl, b5, f5⟩ := h_1
    rw [zput4 _ (by first | omega | (simp only [List.length_append, z4_len]; omega))] at b5
    have g5 := g4.tr f5
    have k15 : zkd T5 1 = (12, 0) := by rw [g5.1]; exact k1
    have k25 := b5.1
    have p5 : zgP T5 1 0 = 2 := by rw [g5.2.2.1]; exact h0.2.1.1
    refine j_aload_n (pc := 60) dX11_feed_60 rfl ?_
    refine j_getPv (pc := 61) dX11_feed_61 f_X11_16 (Or.inl ⟨_, rfl⟩) (by assumption) (p5) ?_
    refine j_getIv (pc := 64) dX11_feed_64 f_X11_58 (Or.inl rfl) (by assumption) (b5.2.2.2.2.1) ?_
    refine j_iret (pc := 67) dX11_feed_67 rfl ?_
    refine ⟨?_, ?_, (g5.mo (fun c z => Or.inl (by unfold zAB at z; omega))).nf⟩
    · rw [q_feed, if_neg h880]
      simp only [List.length_append, z4_len, Nat.add_assoc]
    · rw [q_feed, if_neg h880]
      exact h.fed g5 b5
  · refine j_iconst (pc := 16) (v := (-1)) dX11_feed_16 (by decide) ?_
    refine j_iret (pc := 17) dX11_feed_17 rfl ?_
    exact ⟨by rw [q_feed, if_pos (by rcases Nat.lt_or_ge 880 (sF s).length with g | g; exact g; exact absurd (nI_le (b := 900) (by omega) (by decide)) h13)], by rw [q_feed, if_pos (by rcases Nat.lt_or_ge 880 (sF s).length with g | g; exact g; exact absurd (nI_le (b := 900) (by omega) (by decide)) h13)]; exact h, zQF.rf⟩
/-- a reader is written -/
theorem zCI.rd {S T : zM} {s : zST} {j : Nat} {y : zRDR} (h : zCI S s) (hj : j < 4) (f : zF (zX5 (103 + 5 * j)) S T) (hy : zCr T (103 + 5 * j) (some y)) : zCI T (sF s, s.2.1, sT s, sP s, va_up (sR s) j (some y)) := by
  obtain ⟨h0, hF, ⟨G, hG⟩, ⟨i1, i2, i3⟩, ⟨hV, hV2⟩, hP, hR, hT⟩ := h
  have ff : ∀ c, ¬ (103 + 5 * j ≤ c ∧ c < 103 + 5 * j + 5) → zAg S T c := fun c h1 => f.ag h1
  have f1 := ff 1 (by omega)
  refine ⟨h0.ag f1 (ff 102 (by omega)) (Nat.le_of_eq f.2.1.symm), hF.ag (ff 2 (by omega)) (ff 3 (by omega)), ⟨G, hG.ag (ff 4 (by omega)) (ff 5 (by omega))⟩, ⟨(f1.2.1 6).trans i1, (f1.2.1 7).trans i2, (f1.2.1 8).trans i3⟩, ⟨hV.ag (fun c z1 z2 => ff c (by omega)), by rw [f.2.1, f.2.2.1]; exact hV2⟩, hP.ag (fun c z1 z2 => ff c (by omega)), fun r hr => ?_, ?_⟩
  · show zCr T _ (va_up (sR s) j (some y) r)
    by_cases e : r = j
    · subst e
      rw [va_up, if_pos rfl]
      exact hy
    · rw [va_up, if_neg e]
      exact (hR r hr).ag (fun k hk => ff _ (by omega))
  · show zCT T (sT s)
    generalize sT s = t at hT
    cases t with
    | none => exact (f1.2.2.2 5).trans hT
    | some t =>
      obtain ⟨a, h1, h2, h3, h4, h5⟩ := hT
      exact ⟨a, (f1.2.2.2 5).trans h1, h2, by rw [f.2.1]; exact h3, h4.ag (fun k hk => ff _ (by omega)), h5.ag (fun c z1 z2 => ff c (by omega))⟩
theorem zQF.x5 {S T : zM} {j : Nat} (hj : j < 4) (f : zF (zX5 (103 + 5 * j)) S T) : zQF S T := (f.mo (fun c z => Or.inl (by unfold zX5 at z; omega))).nf
theorem zCr.any {S : zM} {a : Nat} {x : Option zRDR} (h : zCr S a x) : ∃ bg sb en sz vr pg sg sa L, zRd S a bg sb en sz vr pg sg sa L := by
  cases x with
  | none =>
    obtain ⟨sb, en, sz, vr, pg, sg, sa, L, h⟩ := h
    exact ⟨_, sb, en, sz, vr, pg, sg, sa, L, h⟩
  | some x => exact ⟨_, _, _, _, _, _, _, _, _, h⟩
theorem zsz_t {z : Int32} (h : zsz z = true) : ∃ k, 1 ≤ k ∧ k ≤ 20 ∧ z = nI k := by
  have h2 := of_decide_eq_true h
  rcases pk_ix z (n := 21) (by decide) with g | g | ⟨k, hk, rfl⟩
  · exact absurd (Int32.lt_of_lt_of_le g (by decide)) h2.1
  · exact absurd (Int32.lt_of_lt_of_le (by decide) g) h2.2
  · refine ⟨k, ?_, by omega, rfl⟩
    rcases Nat.eq_zero_or_pos k with e | e
    · subst e
      exact absurd (by decide) h2.1
    · exact e
set_option maxRecDepth 20000 in
set_option maxHeartbeats 4000000 in
theorem p_begin {E : zE} {S : zM} {s : zST} {n : Nat} (h : zCI S s) (hw : zWF n s) (rr z : Int32) (st : Bool) : zSp E 2 0 0 mX11_begin cX11_begin [zR 1, zI rr, zI z, zI (zbi st)] S (fun r T => r = some (zI (q_begin s rr z st).1) ∧ zCI T (q_begin s rr z st).2 ∧ zQF S T) := by
  refine zSp.of (by decide) rfl (Nat.le_of_ble_eq_true rfl) rfl ?_
  obtain ⟨h0, hF, hG4, hi, hV, hP, hR, hT⟩ := _root_.id h
  have k1 := h0.1
  cases ht : sT s with
  | none =>
    rw [ht] at hT
    have p5 : zgP S 1 5 = 0 := hT
    refine j_aload_n (pc := 0) dX11_begin_0 rfl ?_
    refine j_getPv (pc := 1) dX11_begin_1 f_X11_44 (Or.inl ⟨_, rfl⟩) (by assumption) (p5) ?_
    refine j_ifnull (pc := 4) (tgt := 16) dX11_begin_4 (by decide) (fun h4 => ?_) (fun h4 => absurd rfl h4)
    refine j_aload_n (pc := 16) dX11_begin_16 rfl ?_
    refine j_iconst (pc := 17) (v := 1) dX11_begin_17 (by decide) ?_
    refine j_putI (pc := 18) dX11_begin_18 f_X11_48 rfl (by assumption) rfl ?_
    refine j_iconst (pc := 21) (v := 0) dX11_begin_21 (by decide) ?_
    refine j_zret (pc := 22) dX11_begin_22 rfl (by first | assumption | decide) ?_
    refine ⟨?_, ?_, zQF.w1⟩
    · rw [q_begin, ht]
    · rw [q_begin, ht]
      exact h.no 1
  | some t =>
    rw [ht] at hT
    obtain ⟨a, p5, a161, ag, hTt, hVI⟩ := hT
    obtain ⟨ka, q2, q3, q4, q5, q6, q1, i7, i8⟩ := hTt.d
    have k6 : zkd S 6 = (11, 0) := by obtain ⟨q, t0, g, h1, h2⟩ := hV.1; exact h1.1.1
    obtain ⟨so, si, sc, ol, hTA, hHi⟩ := hTt
    have hOr := hTA.2.2.1
    have hSv := hTA.2.2.2.1
    have hRo := hTA.2.2.2.2.1
    have hAc := hTA.2.2.2.2.2.1
    have kor := hOr.1.1
    have ksv := hSv.1.1
    have kro := hRo.1
    have kac := hAc.1.1
    have iv := hAc.2.2.1
    have hn : n ≤ 600 := Nat.le_of_lt hw.1
    have hwT := hw.2.2.2
    rw [ht] at hwT
    obtain ⟨hWt, hWp, hWr⟩ := hwT
    have hst := zbi_01 st
    refine j_aload_n (pc := 0) dX11_begin_0 rfl ?_
    refine j_getPv (pc := 1) dX11_begin_1 f_X11_44 (Or.inl ⟨_, rfl⟩) (by assumption) (p5) ?_
    refine j_ifnull (pc := 4) (tgt := 16) dX11_begin_4 (by decide) (fun h4 => absurd h4 (by omega)) (fun h4 => ?_)
    refine j_iload_n (pc := 7) dX11_begin_7 rfl ?_
    refine j_if_lt (pc := 8) (tgt := 16) dX11_begin_8 (by decide) (fun h8 => ?_) (fun h8 => ?_)
    · refine j_aload_n (pc := 16) dX11_begin_16 rfl ?_
      refine j_iconst (pc := 17) (v := 1) dX11_begin_17 (by decide) ?_
      refine j_putI (pc := 18) dX11_begin_18 f_X11_48 rfl (by assumption) rfl ?_
      refine j_iconst (pc := 21) (v := 0) dX11_begin_21 (by decide) ?_
      refine j_zret (pc := 22) dX11_begin_22 rfl (by first | assumption | decide) ?_
      refine ⟨?_, ?_, zQF.w1⟩
      · simp only [q_begin, ht]
        rw [if_pos (zcl2_f1 h8)]
      · simp only [q_begin, ht]
        rw [if_pos (zcl2_f1 h8)]
        exact h.no 1
    · refine j_iload_n (pc := 11) dX11_begin_11 rfl ?_
      refine j_iconst (pc := 12) (v := 4) dX11_begin_12 (by decide) ?_
      refine j_icmp_lt (pc := 13) (tgt := 23) dX11_begin_13 (by decide) (fun h13 => ?_) (fun h13 => ?_)
      · refine j_iload_n (pc := 23) dX11_begin_23 rfl ?_
        refine j_callS (pc := 24) (c_isPageSize z) dX11_begin_24 l_X11_193 mk_X11_isPageSize ms_X11_isPageSize (by decide) rfl rfl (Nat.le_of_ble_eq_true rfl) (Nat.le_refl _) (Nat.le_refl _) (fun r T h_1 => ?_)
        obtain ⟨rfl, rfl⟩ := h_1
        refine j_if_ne (pc := 27) (tgt := 37) dX11_begin_27 (by decide) (fun h27 => ?_) (fun h27 => ?_)
        · have hr2 : zcl2 4 rr = true := decide_eq_true (p := ¬ rr < 0 ∧ ¬ nI 4 ≤ rr) ⟨h8, Int32.not_le.mpr h13⟩
          obtain ⟨j, hj, rfl⟩ := zcl2_t (by decide) hr2
          obtain ⟨k, k1', k20, rfl⟩ := zsz_t (zbi_ne0 h27)
          obtain ⟨bg, sb, en, sz, vr, pg, sg, sa, L, hRd⟩ := (hR j hj).any
          have krd := hRd.1.1
          have k102 : zkd S 102 = (14 + 4, 4) := h0.2.2.1
          have pr := h0.2.2.2.1 j hj
          refine j_aload_n (pc := 37) dX11_begin_37 rfl ?_
          refine j_getPv (pc := 38) dX11_begin_38 f_X11_39 (Or.inr ⟨_, rfl⟩) (by assumption) (h0.2.1.2.2.2.2) ?_
          refine j_iload_n (pc := 41) dX11_begin_41 rfl ?_
          refine j_aaldn (pc := 42) (j := 4) dX11_begin_42 k102 (by decide) hj (by decide) pr ?_
          refine j_iload_n (pc := 43) dX11_begin_43 rfl ?_
          refine j_iload_n (pc := 44) dX11_begin_44 rfl ?_
          refine j_aload_n (pc := 45) dX11_begin_45 rfl ?_
          refine j_getPv (pc := 46) dX11_begin_46 f_X11_44 (Or.inl ⟨_, rfl⟩) (by assumption) (p5) ?_
          refine j_getPv (pc := 49) dX11_begin_49 f_X11_119 (Or.inl ⟨_, rfl⟩) (by assumption) (q5) ?_
          refine j_getIv (pc := 52) dX11_begin_52 f_X11_123 (Or.inl rfl) (by assumption) (iv) ?_
          refine j_callV (pc := 55) (t := 6) (c_rstart hRd st) dX11_begin_55 l_X11_239 mk_X6_start mv_X6_start (by decide) rfl (by assumption) (by decide) rfl rfl (Nat.le_of_ble_eq_true rfl) (Nat.le_refl _) (Nat.le_refl _) (fun r T h_1 => ?_)
          obtain ⟨rfl, hRd2, f1⟩ := h_1
          have k11 : zkd T 1 = (12, 0) := by rw [f1.1]; exact k1
          refine j_aload_n (pc := 58) dX11_begin_58 rfl ?_
          refine j_iconst (pc := 59) (v := 0) dX11_begin_59 (by decide) ?_
          refine j_putI (pc := 60) dX11_begin_60 f_X11_48 rfl (by assumption) rfl ?_
          refine j_iconst (pc := 63) (v := 1) dX11_begin_63 (by decide) ?_
          refine j_zret (pc := 64) dX11_begin_64 rfl (by first | assumption | decide) ?_
          refine ⟨?_, ?_, (zQF.x5 hj f1).tr zQF.w1⟩
          · simp only [q_begin, ht]
            rw [if_neg (fun q => bnf q hr2), if_neg (fun q => bnf q (zbi_ne0 h27))]
          · simp only [q_begin, ht]
            rw [if_neg (fun q => bnf q hr2), if_neg (fun q => bnf q (zbi_ne0 h27))]
            have h9 := (h.rd (y := (st, false, k, tv t, 0, fun _ => 0, fun _ => 0, [])) hj f1 hRd2).no 0
            simp only [zn, nI_clamp (show j < 2 ^ 31 by omega), nI_clamp (show k < 2 ^ 31 by omega)]
            rw [ht] at h9
            exact h9
        · refine j_aload_n (pc := 30) dX11_begin_30 rfl ?_
          refine j_iconst (pc := 31) (v := 2) dX11_begin_31 (by decide) ?_
          refine j_putI (pc := 32) dX11_begin_32 f_X11_48 rfl (by assumption) rfl ?_
          refine j_iconst (pc := 35) (v := 0) dX11_begin_35 (by decide) ?_
          refine j_zret (pc := 36) dX11_begin_36 rfl (by first | assumption | decide) ?_
          refine ⟨?_, ?_, zQF.w1⟩
          · simp only [q_begin, ht]
            rw [if_neg (fun (q : zcl2 4 rr = false) => bnf q (decide_eq_true (p := ¬ rr < 0 ∧ ¬ nI 4 ≤ rr) ⟨h8, Int32.not_le.mpr h13⟩)), if_pos (zbi_eq0.mp h27)]
          · simp only [q_begin, ht]
            rw [if_neg (fun (q : zcl2 4 rr = false) => bnf q (decide_eq_true (p := ¬ rr < 0 ∧ ¬ nI 4 ≤ rr) ⟨h8, Int32.not_le.mpr h13⟩)), if_pos (zbi_eq0.mp h27)]
            exact h.no 2
      · refine j_aload_n (pc := 16) dX11_begin_16 rfl ?_
        refine j_iconst (pc := 17) (v := 1) dX11_begin_17 (by decide) ?_
        refine j_putI (pc := 18) dX11_begin_18 f_X11_48 rfl (by assumption) rfl ?_
        refine j_iconst (pc := 21) (v := 0) dX11_begin_21 (by decide) ?_
        refine j_zret (pc := 22) dX11_begin_22 rfl (by first | assumption | decide) ?_
        refine ⟨?_, ?_, zQF.w1⟩
        · simp only [q_begin, ht]
          rw [if_pos (zcl2_f2 (m := 4) (Int32.not_lt.mp h13))]
        · simp only [q_begin, ht]
          rw [if_pos (zcl2_f2 (m := 4) (Int32.not_lt.mp h13))]
          exact h.no 1
