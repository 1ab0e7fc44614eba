theorem zgetL {F : List Nat} {i : Nat} {x : Int32} (e : x = nI i) (h : i < F.length) (hl : F.length ≤ 900) : zget F x = nI (F.getD i 0) := by
  subst e
  exact zget_in h (by omega)
theorem zsz_nI {b : Nat} (hb : b < 256) : zsz (nI b) = true ↔ ¬ (b < 1 ∨ 20 < b) := by
  have h1 : nI b < 1 ↔ b < 1 := nI_ltI (b := 1) (by omega) (by decide)
  have h2 : (20 : Int32) < nI b ↔ 20 < b := nI_ltI (a := 20) (by decide) (by omega)
  rw [zsz, decide_eq_true_iff, h1, h2]
  omega
set_option maxRecDepth 20000 in
set_option maxHeartbeats 4000000 in
theorem c_wtok {E : zE} {S : zM} {s : zST} {t : zTB} {k : Nat} (h : zCI S s) (ht : sT s = some t) (hk : k ≤ (sF s).length) : zSp E 3 0 0 mX11_troubleOfToken cX11_troubleOfToken [zR 1, zI (nI k)] S (fun r T => S = T ∧ r = some (zI (nI (zwt t (sF s) k)))) := by
  refine zSp.of (by decide) rfl (Nat.le_of_ble_eq_true rfl) rfl ?_
  obtain ⟨h0, hF, hG4, hi, hV, hP, hR, hT⟩ := _root_.id h
  rw [ht] at hT
  obtain ⟨a, p5, a161, ag, hTt, hVI⟩ := hT
  obtain ⟨ka, q2, q3, q4, q5, q6, q1, i7, i8⟩ := hTt.d
  have k1 := h0.1
  have k2 := hF.1
  obtain ⟨so, si, sc, ol, hTA, hHi⟩ := hTt
  have hAc := hTA.2.2.2.2.2.1
  have kac := hAc.1.1
  have l9 := hF.2.2.2.2.2.1
  have hb : ∀ i, i < (sF s).length → (sF s).getD i 0 < 256 := fun i hi => (hF.2.2.2.2.2.2 i hi).2
  refine j_iload_n (pc := 0) dX11_troubleOfToken_0 rfl ?_
  refine j_bipush (pc := 1) (v := 8) dX11_troubleOfToken_1 (by decide) ?_
  refine j_icmp_lt (pc := 3) (tgt := 56) dX11_troubleOfToken_3 (by decide) (fun h3 => ?_) (fun h3 => ?_)
  · refine j_bipush (pc := 56) (v := 6) dX11_troubleOfToken_56 (by decide) ?_
    refine j_iret (pc := 58) dX11_troubleOfToken_58 rfl ?_
    exact ⟨rfl, by rw [zwt, if_pos (Or.inl (Nat.lt_of_not_le (fun q => nI_le (a := 8) q (by omega) |> fun g => absurd h3 (Int32.not_lt.mpr g))))]; rfl⟩
  · have hk8 : 8 ≤ k := Nat.le_of_not_lt (fun q => h3 (nI_lt (b := 8) q (by decide)))
    refine j_aload_n (pc := 6) dX11_troubleOfToken_6 rfl ?_
    refine j_getPv (pc := 7) dX11_troubleOfToken_7 f_X11_16 (Or.inl ⟨_, rfl⟩) (by assumption) (h0.2.1.1) ?_
    refine j_iconst (pc := 10) (v := 0) dX11_troubleOfToken_10 (by decide) ?_
    refine j_callV (pc := 11) (t := 1) (c_get hF _) dX11_troubleOfToken_11 l_X11_181 mk_X1_get mv_X1_get (by decide) rfl (by assumption) (by decide) rfl rfl (Nat.le_of_ble_eq_true rfl) (Nat.le_refl _) (Nat.le_refl _) (fun r T h_1 => ?_)
    obtain ⟨rfl, rfl⟩ := h_1
    rw [zgetL (i := 0) (x := 0) rfl (by omega) l9]
    refine j_bipush (pc := 14) (v := 84) dX11_troubleOfToken_14 (by decide) ?_
    refine j_icmp_ne (pc := 16) (tgt := 56) dX11_troubleOfToken_16 (by decide) (fun h16 => ?_) (fun h16 => ?_)
    · refine j_bipush (pc := 56) (v := 6) dX11_troubleOfToken_56 (by decide) ?_
      refine j_iret (pc := 58) dX11_troubleOfToken_58 rfl ?_
      exact ⟨rfl, by rw [zwt, if_pos (Or.inr (Or.inl (fun q => h16 (by rw [q]; rfl))))]; rfl⟩
    · refine j_aload_n (pc := 19) dX11_troubleOfToken_19 rfl ?_
      refine j_getPv (pc := 20) dX11_troubleOfToken_20 f_X11_16 (Or.inl ⟨_, rfl⟩) (by assumption) (h0.2.1.1) ?_
      refine j_iload_n (pc := 23) dX11_troubleOfToken_23 rfl ?_
      refine j_iconst (pc := 24) (v := 1) dX11_troubleOfToken_24 (by decide) ?_
      refine j_isub (pc := 25) dX11_troubleOfToken_25 ?_
      rw [show nI k - 1 = nI (k - 1) from pk_sub (b := 1) (by omega)]
      refine j_callV (pc := 26) (t := 1) (c_get hF _) dX11_troubleOfToken_26 l_X11_181 mk_X1_get mv_X1_get (by decide) rfl (by assumption) (by decide) rfl rfl (Nat.le_of_ble_eq_true rfl) (Nat.le_refl _) (Nat.le_refl _) (fun r T h_1 => ?_)
      obtain ⟨rfl, rfl⟩ := h_1
      rw [zgetL (i := k - 1) rfl (by omega) l9]
      refine j_aload_n (pc := 29) dX11_troubleOfToken_29 rfl ?_
      refine j_getPv (pc := 30) dX11_troubleOfToken_30 f_X11_16 (Or.inl ⟨_, rfl⟩) (by assumption) (h0.2.1.1) ?_
      refine j_iload_n (pc := 33) dX11_troubleOfToken_33 rfl ?_
      refine j_iconst (pc := 34) (v := 1) dX11_troubleOfToken_34 (by decide) ?_
      refine j_isub (pc := 35) dX11_troubleOfToken_35 ?_
      rw [show nI k - 1 = nI (k - 1) from pk_sub (b := 1) (by omega)]
      refine j_callV (pc := 36) (t := 1) (c_checkOf hF (show k - 1 ≤ (sF s).length by omega)) dX11_troubleOfToken_36 l_X11_356 mk_X1_checkOf mv_X1_checkOf (by decide) rfl (by assumption) (by decide) rfl rfl (Nat.le_of_ble_eq_true rfl) (Nat.le_refl _) (Nat.le_refl _) (fun r T h_1 => ?_)
      obtain ⟨rfl, rfl⟩ := h_1
      refine j_icmp_ne (pc := 39) (tgt := 56) dX11_troubleOfToken_39 (by decide) (fun h39 => ?_) (fun h39 => ?_)
      · refine j_bipush (pc := 56) (v := 6) dX11_troubleOfToken_56 (by decide) ?_
        refine j_iret (pc := 58) dX11_troubleOfToken_58 rfl ?_
        exact ⟨rfl, by rw [zwt, if_pos (Or.inr (Or.inr (Or.inl (fun q => h39 (by rw [q])))))]; rfl⟩
      · refine j_aload_n (pc := 42) dX11_troubleOfToken_42 rfl ?_
        refine j_getPv (pc := 43) dX11_troubleOfToken_43 f_X11_16 (Or.inl ⟨_, rfl⟩) (by assumption) (h0.2.1.1) ?_
        refine j_iconst (pc := 46) (v := 2) dX11_troubleOfToken_46 (by decide) ?_
        refine j_callV (pc := 47) (t := 1) (c_get hF _) dX11_troubleOfToken_47 l_X11_181 mk_X1_get mv_X1_get (by decide) rfl (by assumption) (by decide) rfl rfl (Nat.le_of_ble_eq_true rfl) (Nat.le_refl _) (Nat.le_refl _) (fun r T h_1 => ?_)
        obtain ⟨rfl, rfl⟩ := h_1
        rw [zgetL (i := 2) (x := 2) rfl (by omega) l9]
        refine j_callS (pc := 50) (c_isPageSize _) dX11_troubleOfToken_50 l_X11_193 mk_X11_isPageSize ms_X11_isPageSize (by decide) rfl rfl (Nat.le_of_ble_eq_true rfl) (Nat.le_refl _) (Nat.le_refl _) (fun r T h_1 => ?_)
        obtain ⟨rfl, rfl⟩ := h_1
        refine j_if_ne (pc := 53) (tgt := 59) dX11_troubleOfToken_53 (by decide) (fun h53 => ?_) (fun h53 => ?_)
        · have hA : ¬ (k < 8 ∨ (sF s).getD 0 0 ≠ 84 ∨ (sF s).getD (k - 1) 0 ≠ zchk ((sF s).take (k - 1)) ∨ (sF s).getD 2 0 < 1 ∨ 20 < (sF s).getD 2 0) := by
            rintro (g | g | g | g)
            · omega
            · exact g ((nI_eq (b := 84) (by have := hb 0 (by omega); omega) (by decide)).mp h16)
            · exact g ((nI_eq (by have := hb (k - 1) (by omega); omega) (by have := zchk_lt ((sF s).take (k - 1)); omega)).mp h39)
            · exact (zsz_nI (hb 2 (by omega))).mp (zbi_ne0 h53) g
          refine j_aload_n (pc := 59) dX11_troubleOfToken_59 rfl ?_
          refine j_getPv (pc := 60) dX11_troubleOfToken_60 f_X11_16 (Or.inl ⟨_, rfl⟩) (by assumption) (h0.2.1.1) ?_
          refine j_iconst (pc := 63) (v := 1) dX11_troubleOfToken_63 (by decide) ?_
          refine j_callV (pc := 64) (t := 1) (c_get hF _) dX11_troubleOfToken_64 l_X11_181 mk_X1_get mv_X1_get (by decide) rfl (by assumption) (by decide) rfl rfl (Nat.le_of_ble_eq_true rfl) (Nat.le_refl _) (Nat.le_refl _) (fun r T h_1 => ?_)
          obtain ⟨rfl, rfl⟩ := h_1
          rw [zgetL (i := 1) (x := 1) rfl (by omega) l9]
          refine j_aload_n (pc := 67) dX11_troubleOfToken_67 rfl ?_
          refine j_getPv (pc := 68) dX11_troubleOfToken_68 f_X11_44 (Or.inl ⟨_, rfl⟩) (by assumption) (p5) ?_
          refine j_getIv (pc := 71) dX11_troubleOfToken_71 f_X11_128 (Or.inl rfl) (by assumption) (i8) ?_
          refine j_sipush (pc := 74) (v := 255) dX11_troubleOfToken_74 (by decide) ?_
          refine j_iand (pc := 77) dX11_troubleOfToken_77 ?_
          rw [show nI (tn t) &&& 255 = nI (tn t % 256) from fa_mask _ 8]
          refine j_icmp_eq (pc := 78) (tgt := 84) dX11_troubleOfToken_78 (by decide) (fun h78 => ?_) (fun h78 => ?_)
          · have hB : ¬ (sF s).getD 1 0 ≠ tn t % 256 := not_not_intro ((nI_eq (by have := hb 1 (by omega); omega) (by omega)).mp h78)
            have b3 := hb 3 (by omega)
            have b4 := hb 4 (by omega)
            refine j_aload_n (pc := 84) dX11_troubleOfToken_84 rfl ?_
            refine j_getPv (pc := 85) dX11_troubleOfToken_85 f_X11_16 (Or.inl ⟨_, rfl⟩) (by assumption) (h0.2.1.1) ?_
            refine j_iconst (pc := 88) (v := 3) dX11_troubleOfToken_88 (by decide) ?_
            refine j_callV (pc := 89) (t := 1) (c_getTwo hF _) dX11_troubleOfToken_89 l_X11_341 mk_X1_getTwo mv_X1_getTwo (by decide) rfl (by assumption) (by decide) rfl rfl (Nat.le_of_ble_eq_true rfl) (Nat.le_refl _) (Nat.le_refl _) (fun r T h_1 => ?_)
            obtain ⟨rfl, rfl⟩ := h_1
            rw [zgetL (i := 3) (x := 3) rfl (by omega) l9, zgetL (i := 4) (x := 3 + 1) rfl (by omega) l9, show nI ((sF s).getD 3 0) * 256 + nI ((sF s).getD 4 0) = nI (zst (sF s)) by rw [show (256 : Int32) = nI 256 from rfl, pk_mul, nI_add]]
            refine j_istore_n (pc := 92) (ls' := [_, _, _]) dX11_troubleOfToken_92 (by decide) rfl rfl ?_
            refine j_iload_n (pc := 93) dX11_troubleOfToken_93 rfl ?_
            refine j_if_eq (pc := 94) (tgt := 118) dX11_troubleOfToken_94 (by decide) (fun h94 => ?_) (fun h94 => ?_)
            · refine j_iconst (pc := 118) (v := 0) dX11_troubleOfToken_118 (by decide) ?_
              refine j_iret (pc := 119) dX11_troubleOfToken_119 rfl ?_
              exact ⟨rfl, by rw [zwt, if_neg hA, if_neg hB, if_neg (fun q => q.1 ((nI_eq (b := 0) (by omega) (by decide)).mp h94))]; rfl⟩
            · have hst : zst (sF s) ≠ 0 := fun q => h94 (by rw [q]; rfl)
              refine j_aload_n (pc := 97) dX11_troubleOfToken_97 rfl ?_
              refine j_getPv (pc := 98) dX11_troubleOfToken_98 f_X11_44 (Or.inl ⟨_, rfl⟩) (by assumption) (p5) ?_
              refine j_getPv (pc := 101) dX11_troubleOfToken_101 f_X11_119 (Or.inl ⟨_, rfl⟩) (by assumption) (q5) ?_
              refine j_iload_n (pc := 104) dX11_troubleOfToken_104 rfl ?_
              refine j_iconst (pc := 105) (v := 1) dX11_troubleOfToken_105 (by decide) ?_
              refine j_isub (pc := 106) dX11_troubleOfToken_106 ?_
              rw [show nI (zst (sF s)) - 1 = nI (zst (sF s) - 1) from pk_sub (b := 1) (Nat.pos_of_ne_zero hst)]
              refine j_callV (pc := 107) (t := 0) (c_canView hAc _) dX11_troubleOfToken_107 l_X11_166 mk_X0_canView mv_X0_canView (by decide) rfl (by assumption) (by decide) rfl rfl (Nat.le_of_ble_eq_true rfl) (Nat.le_refl _) (Nat.le_refl _) (fun r T h_1 => ?_)
              obtain ⟨rfl, rfl⟩ := h_1
              refine j_if_ne (pc := 110) (tgt := 118) dX11_troubleOfToken_110 (by decide) (fun h110 => ?_) (fun h110 => ?_)
              · refine j_iconst (pc := 118) (v := 0) dX11_troubleOfToken_118 (by decide) ?_
                refine j_iret (pc := 119) dX11_troubleOfToken_119 rfl ?_
                exact ⟨rfl, by rw [zwt, if_neg hA, if_neg hB, if_neg (fun q => bnf2 (zbi_ne0 h110) q.2)]; rfl⟩
              · refine j_bipush (pc := 113) (v := 8) dX11_troubleOfToken_113 (by decide) ?_
                refine j_goto (pc := 115) (tgt := 119) dX11_troubleOfToken_115 (by decide) ?_
                refine j_iret (pc := 119) dX11_troubleOfToken_119 rfl ?_
                exact ⟨rfl, by rw [zwt, if_neg hA, if_neg hB, if_pos ⟨hst, zbi_eq0.mp h110⟩]; rfl⟩
          · refine j_bipush (pc := 81) (v := 7) dX11_troubleOfToken_81 (by decide) ?_
            refine j_iret (pc := 83) dX11_troubleOfToken_83 rfl ?_
            exact ⟨rfl, by rw [zwt, if_neg hA, if_pos (fun q => h78 (by rw [q]))]; rfl⟩
        · refine j_bipush (pc := 56) (v := 6) dX11_troubleOfToken_56 (by decide) ?_
          refine j_iret (pc := 58) dX11_troubleOfToken_58 rfl ?_
          exact ⟨rfl, by rw [zwt, if_pos (Or.inr (Or.inr (Or.inr (Classical.byContradiction (fun g => absurd (zbi_eq0.mp h53) (bnf2 ((zsz_nI (hb 2 (by omega))).mpr g)))))))]; rfl⟩
theorem zoT_t {m : Nat} {x : Int32} (hm : m ≤ 900) (h : zoT m x = true) : ∃ k, k ≤ m ∧ x = nI k := by
  have h2 := of_decide_eq_true h
  rcases pk_ix x (n := m + 1) (by omega) with g | g | ⟨k, hk, rfl⟩
  · exact absurd g h2.1
  · exact absurd (Int32.lt_of_lt_of_le (nI_lt (Nat.lt_succ_self m) (by omega)) g) h2.2
  · exact ⟨k, by omega, rfl⟩
set_option maxRecDepth 20000 in
set_option maxHeartbeats 4000000 in
theorem p_checks {E : zE} {S : zM} {s : zST} {n : Nat} (h : zCI S s) (hw : zWF n s) (x : Int32) : zSp E 4 0 0 mX11_checks cX11_checks [zR 1, zI x] S (fun r T => r = some (zI (q_checks s x).1) ∧ zCI T (q_checks s x).2 ∧ zQF S T) := by
  refine zSp.of (by decide) rfl (Nat.le_of_ble_eq_true rfl) rfl ?_
  obtain ⟨h0, hF, hG4, hi, hV, hP, hR, hT⟩ := _root_.id h
  have k1 := h0.1
  cases ht : sT s with
  | none =>
    rw [ht] at hT
    have p5 : zgP S 1 5 = 0 := hT
    refine j_aload_n (pc := 0) dX11_checks_0 rfl ?_
    refine j_getPv (pc := 1) dX11_checks_1 f_X11_44 (Or.inl ⟨_, rfl⟩) (by assumption) (p5) ?_
    refine j_ifnonnull (pc := 4) (tgt := 13) dX11_checks_4 (by decide) (fun h4 => absurd rfl h4) (fun h4 => ?_)
    refine j_aload_n (pc := 7) dX11_checks_7 rfl ?_
    refine j_iconst (pc := 8) (v := 1) dX11_checks_8 (by decide) ?_
    refine j_callV (pc := 9) (t := 11) (c_refused k1 _) dX11_checks_9 l_X11_68 mk_X11_refused mv_X11_refused (by decide) rfl (by assumption) (by decide) rfl rfl (Nat.le_of_ble_eq_true rfl) (Nat.le_refl _) (Nat.le_refl _) (fun r T h_1 => ?_)
    obtain ⟨rfl, rfl⟩ := h_1
    refine j_iret (pc := 12) dX11_checks_12 rfl ?_
    exact q_ref h zQF.rf (by rw [q_checks, ht])
  | some t =>
    rw [ht] at hT
    obtain ⟨a, p5, a161, ag, hTt, hVI⟩ := hT
    obtain ⟨ka, q2, q3, q4, q5, q6, q1, i7, i8⟩ := hTt.d
    have k6 : zkd S 6 = (11, 0) := by obtain ⟨q, t0, g, h1, h2⟩ := hV.1; exact h1.1.1
    obtain ⟨so, si, sc, ol, hTA, hHi⟩ := hTt
    have hOr := hTA.2.2.1
    have hSv := hTA.2.2.2.1
    have hRo := hTA.2.2.2.2.1
    have hAc := hTA.2.2.2.2.2.1
    have kor := hOr.1.1
    have ksv := hSv.1.1
    have kro := hRo.1
    have kac := hAc.1.1
    have iv := hAc.2.2.1
    have hn : n ≤ 600 := Nat.le_of_lt hw.1
    have hwT := hw.2.2.2
    rw [ht] at hwT
    obtain ⟨hWt, hWp, hWr⟩ := hwT
    have l9 := hw.2.1.1
    refine j_aload_n (pc := 0) dX11_checks_0 rfl ?_
    refine j_getPv (pc := 1) dX11_checks_1 f_X11_44 (Or.inl ⟨_, rfl⟩) (by assumption) (p5) ?_
    refine j_ifnonnull (pc := 4) (tgt := 13) dX11_checks_4 (by decide) (fun h4 => ?_) (fun h4 => absurd h4 (by omega))
    refine j_aload_n (pc := 13) dX11_checks_13 rfl ?_
    refine j_iload_n (pc := 14) dX11_checks_14 rfl ?_
    refine j_callV (pc := 15) (t := 11) (c_isOnTape k1 h0.2.1.1 hF _) dX11_checks_15 l_X11_64 mk_X11_isOnTape mv_X11_isOnTape (by decide) rfl (by assumption) (by decide) rfl rfl (Nat.le_of_ble_eq_true rfl) (Nat.le_refl _) (Nat.le_refl _) (fun r T h_1 => ?_)
    obtain ⟨rfl, rfl⟩ := h_1
    refine j_if_ne (pc := 18) (tgt := 27) dX11_checks_18 (by decide) (fun h18 => ?_) (fun h18 => ?_)
    · obtain ⟨k, hk, rfl⟩ := zoT_t hw.2.1.1 (zbi_ne0 h18)
      refine j_aload_n (pc := 27) dX11_checks_27 rfl ?_
      refine j_aload_n (pc := 28) dX11_checks_28 rfl ?_
      refine j_iload_n (pc := 29) dX11_checks_29 rfl ?_
      refine j_callV (pc := 30) (t := 11) (c_wtok h ht hk) dX11_checks_30 l_X11_236 mk_X11_troubleOfToken mv_X11_troubleOfToken (by decide) rfl (by assumption) (by decide) rfl rfl (Nat.le_of_ble_eq_true rfl) (Nat.le_refl _) (Nat.le_refl _) (fun r T h_1 => ?_)
      obtain ⟨rfl, rfl⟩ := h_1
      refine j_callV (pc := 33) (t := 11) (c_answered k1 _) dX11_checks_33 l_X11_103 mk_X11_answered mv_X11_answered (by decide) rfl (by assumption) (by decide) rfl rfl (Nat.le_of_ble_eq_true rfl) (Nat.le_refl _) (Nat.le_refl _) (fun r T h_1 => ?_)
      obtain ⟨rfl, rfl⟩ := h_1
      refine j_iret (pc := 36) dX11_checks_36 rfl ?_
      exact q_ans h zQF.rf (by simp only [q_checks, ht]; rw [if_neg (bnf2 (zbi_ne0 h18)), zn, nI_clamp (by omega)])
    · refine j_aload_n (pc := 21) dX11_checks_21 rfl ?_
      refine j_iconst (pc := 22) (v := 2) dX11_checks_22 (by decide) ?_
      refine j_callV (pc := 23) (t := 11) (c_refused k1 _) dX11_checks_23 l_X11_68 mk_X11_refused mv_X11_refused (by decide) rfl (by assumption) (by decide) rfl rfl (Nat.le_of_ble_eq_true rfl) (Nat.le_refl _) (Nat.le_refl _) (fun r T h_1 => ?_)
      obtain ⟨rfl, rfl⟩ := h_1
      refine j_iret (pc := 26) dX11_checks_26 rfl ?_
      exact q_ref h zQF.rf (by simp only [q_checks, ht]; rw [if_pos (zbi_eq0.mp h18)])
