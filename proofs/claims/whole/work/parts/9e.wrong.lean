/-! what is wrong with a token, by the model -/
def mTp (S : zM) (F : List Nat) : Prop := ∀ i, i < F.length → zgI S 124 i = nI (F.getD i 0)
set_option maxRecDepth 20000 in
set_option maxHeartbeats 4000000 in
theorem n_checkOf {E : zE} {S : zM} {F : List Nat} {k : Nat} (hM : zMs S) (hA : mTp S F) (hF9 : F.length ≤ 900) (hFb : ∀ b ∈ F, b < 256) (hk1 : 1 ≤ k) (hk2 : k ≤ F.length) : zSp E 0 0 0 mX12_checkOf cX12_checkOf [zR 123, zI (nI k)] S (fun r T => S = T ∧ r = some (zI (nI (zchk (F.take (k - 1)))))) := by
  refine zSp.of (by decide) rfl (Nat.le_of_ble_eq_true rfl) rfl ?_
  have lp : ∀ (m j : Nat), j + m = k - 1 → zJ E 0 0 0 mX12_checkOf cX12_checkOf 5 [some (zR 123), some (zI (nI k)), some (zI (nI (zchk (F.take j)))), some (zI (nI j))] [] S (fun r T => S = T ∧ r = some (zI (nI (zchk (F.take (k - 1)))))) := by
    intro m
    induction m with
    | zero =>
      intro j hj
      refine j_iload_n (pc := 5) dX12_checkOf_5 rfl ?_
      refine j_iload_n (pc := 6) dX12_checkOf_6 rfl ?_
      refine j_iconst (pc := 7) (v := 1) dX12_checkOf_7 (by decide) ?_
      refine j_isub (pc := 8) dX12_checkOf_8 ?_
      rw [show nI k - 1 = nI (k - 1) from pk_sub (b := 1) hk1]
      refine j_icmp_ge (pc := 9) (tgt := 34) dX12_checkOf_9 (by decide) (fun h9 => ?_) (fun h9 => absurd (nI_le (show k - 1 ≤ j by omega) (by omega)) h9)
      refine j_iload_n (pc := 34) dX12_checkOf_34 rfl ?_
      refine j_iret (pc := 35) dX12_checkOf_35 rfl ?_
      exact ⟨rfl, by rw [show j = k - 1 by omega]⟩
    | succ m ih =>
      intro j hj
      refine j_iload_n (pc := 5) dX12_checkOf_5 rfl ?_
      refine j_iload_n (pc := 6) dX12_checkOf_6 rfl ?_
      refine j_iconst (pc := 7) (v := 1) dX12_checkOf_7 (by decide) ?_
      refine j_isub (pc := 8) dX12_checkOf_8 ?_
      rw [show nI k - 1 = nI (k - 1) from pk_sub (b := 1) hk1]
      refine j_icmp_ge (pc := 9) (tgt := 34) dX12_checkOf_9 (by decide) (fun h9 => absurd h9 (nI_ge (by omega) (by omega))) (fun h9 => ?_)
      refine j_bipush (pc := 12) (v := 31) dX12_checkOf_12 (by decide) ?_
      refine j_iload_n (pc := 14) dX12_checkOf_14 rfl ?_
      refine j_imul (pc := 15) dX12_checkOf_15 ?_
      rw [show (31 : Int32) * nI (zchk (F.take j)) = nI (31 * zchk (F.take j)) from pk_mul 31 _]
      refine j_aload_n (pc := 16) dX12_checkOf_16 rfl ?_
      refine j_getPv (pc := 17) dX12_checkOf_17 f_X12_15 (Or.inr ⟨_, rfl⟩) hM.1 (mp_tape hM) ?_
      refine j_iload_n (pc := 20) dX12_checkOf_20 rfl ?_
      refine j_ialdn (pc := 21) dX12_checkOf_21 (mk_tape hM) (by omega) (Nat.le_of_ble_eq_true rfl) (hA j (by omega)) ?_
      refine j_iadd (pc := 22) dX12_checkOf_22 ?_
      rw [nI_add]
      refine j_sipush (pc := 23) (v := 251) dX12_checkOf_23 (by decide) ?_
      refine j_irem (pc := 26) dX12_checkOf_26 (by decide) ?_
      rw [show nI (31 * zchk (F.take j) + F.getD j 0) - nI (31 * zchk (F.take j) + F.getD j 0) / 251 * 251 = nI ((31 * zchk (F.take j) + F.getD j 0) % 251) from pk_rem (d := 251) (by have := zchk_lt (F.take j); have := hFb _ (gD_mem (show j < F.length by omega)); omega) (by decide) (by decide), ← zchk_up (show j < F.length by omega)]
      refine j_istore_n (pc := 27) (ls' := [_, _, _, _]) dX12_checkOf_27 (by decide) rfl rfl ?_
      refine j_iinc (pc := 28) (v := _ + 1) (ls' := [_, _, _, _]) dX12_checkOf_28 rfl rfl (by decide) rfl rfl ?_
      refine j_goto (pc := 31) (tgt := 5) dX12_checkOf_31 (by decide) ?_
      rw [nI_1]
      exact ih (j + 1) (by omega)
  refine j_bipush (pc := 0) (v := 7) dX12_checkOf_0 (by decide) ?_
  refine j_istore_n (pc := 2) (ls' := [_, _, _, _]) dX12_checkOf_2 (by decide) rfl rfl ?_
  refine j_iconst (pc := 3) (v := 0) dX12_checkOf_3 (by decide) ?_
  refine j_istore_n (pc := 4) (ls' := [_, _, _, _]) dX12_checkOf_4 (by decide) rfl rfl ?_
  exact lp (k - 1) 0 (by omega)
set_option maxRecDepth 20000 in
set_option maxHeartbeats 4000000 in
theorem n_wrongToken {E : zE} {S : zM} {t : zTB} {F : List Nat} {k : Nat} (hM : zMs S) (hA : mTp S F) (hF9 : F.length ≤ 900) (hFb : ∀ b ∈ F, b < 256) (hk2 : k ≤ F.length) (hv1 : zgI S 123 29 = nI (tv t)) (hs1 : zgI S 123 30 = nI (tn t)) (hv : tv t < 600) (hn : tn t < 600) : zSp E 2 0 0 mX12_wrongToken cX12_wrongToken [zR 123, zI (nI k)] S (fun r T => S = T ∧ r = some (zI (nI (zwt t F k)))) := by
  refine zSp.of (by decide) rfl (Nat.le_of_ble_eq_true rfl) rfl ?_
  refine j_iload_n (pc := 0) dX12_wrongToken_0 rfl ?_
  refine j_bipush (pc := 1) (v := 8) dX12_wrongToken_1 (by decide) ?_
  refine j_icmp_lt (pc := 3) (tgt := 50) dX12_wrongToken_3 (by decide) (fun h3 => ?_) (fun h3 => ?_)
  · refine j_bipush (pc := 50) (v := 6) dX12_wrongToken_50 (by decide) ?_
    refine j_iret (pc := 52) dX12_wrongToken_52 rfl ?_
    exact ⟨rfl, by rw [zwt, if_pos (Or.inl (Nat.lt_of_not_le (fun q => absurd h3 (Int32.not_lt.mpr (nI_le (a := 8) q (by omega))))))]; rfl⟩
  · have hk8 : 8 ≤ k := Nat.le_of_not_lt (fun q => h3 (nI_lt (b := 8) q (by decide)))
    have b0 := hFb _ (gD_mem (show 0 < F.length by omega))
    have b1 := hFb _ (gD_mem (show 1 < F.length by omega))
    have b2 := hFb _ (gD_mem (show 2 < F.length by omega))
    have b3 := hFb _ (gD_mem (show 3 < F.length by omega))
    have b4 := hFb _ (gD_mem (show 4 < F.length by omega))
    have bk := hFb _ (gD_mem (show k - 1 < F.length by omega))
    have bc := zchk_lt (F.take (k - 1))
    refine j_aload_n (pc := 6) dX12_wrongToken_6 rfl ?_
    refine j_getPv (pc := 7) dX12_wrongToken_7 f_X12_15 (Or.inr ⟨_, rfl⟩) hM.1 (mp_tape hM) ?_
    refine j_iconst (pc := 10) (v := 0) dX12_wrongToken_10 (by decide) ?_
    refine j_ialdn (pc := 11) dX12_wrongToken_11 (mk_tape hM) (show 0 < 900 by omega) (Nat.le_of_ble_eq_true rfl) (hA 0 (by omega)) ?_
    refine j_bipush (pc := 12) (v := 84) dX12_wrongToken_12 (by decide) ?_
    refine j_icmp_ne (pc := 14) (tgt := 50) dX12_wrongToken_14 (by decide) (fun h14 => ?_) (fun h14 => ?_)
    · refine j_bipush (pc := 50) (v := 6) dX12_wrongToken_50 (by decide) ?_
      refine j_iret (pc := 52) dX12_wrongToken_52 rfl ?_
      exact ⟨rfl, by rw [zwt, if_pos (Or.inr (Or.inl (fun q => h14 (by rw [q]; rfl))))]; rfl⟩
    · refine j_aload_n (pc := 17) dX12_wrongToken_17 rfl ?_
      refine j_getPv (pc := 18) dX12_wrongToken_18 f_X12_15 (Or.inr ⟨_, rfl⟩) hM.1 (mp_tape hM) ?_
      refine j_iload_n (pc := 21) dX12_wrongToken_21 rfl ?_
      refine j_iconst (pc := 22) (v := 1) dX12_wrongToken_22 (by decide) ?_
      refine j_isub (pc := 23) dX12_wrongToken_23 ?_
      rw [show nI k - 1 = nI (k - 1) from pk_sub (b := 1) (by omega)]
      refine j_ialdn (pc := 24) dX12_wrongToken_24 (mk_tape hM) (by omega) (Nat.le_of_ble_eq_true rfl) (hA (k - 1) (by omega)) ?_
      refine j_aload_n (pc := 25) dX12_wrongToken_25 rfl ?_
      refine j_iload_n (pc := 26) dX12_wrongToken_26 rfl ?_
      refine j_callV (pc := 27) (t := 12) (n_checkOf hM hA hF9 hFb (show 1 ≤ k by omega) hk2) dX12_wrongToken_27 l_X12_425 mk_X12_checkOf mv_X12_checkOf (by decide) rfl hM.1 (by decide) rfl rfl (Nat.le_of_ble_eq_true rfl) (Nat.le_refl _) (Nat.le_refl _) (fun r T h_1 => ?_)
      obtain ⟨rfl, rfl⟩ := h_1
      refine j_icmp_ne (pc := 30) (tgt := 50) dX12_wrongToken_30 (by decide) (fun h30 => ?_) (fun h30 => ?_)
      · refine j_bipush (pc := 50) (v := 6) dX12_wrongToken_50 (by decide) ?_
        refine j_iret (pc := 52) dX12_wrongToken_52 rfl ?_
        exact ⟨rfl, by rw [zwt, if_pos (Or.inr (Or.inr (Or.inl (fun q => h30 (by rw [q])))))]; rfl⟩
      · refine j_aload_n (pc := 33) dX12_wrongToken_33 rfl ?_
        refine j_getPv (pc := 34) dX12_wrongToken_34 f_X12_15 (Or.inr ⟨_, rfl⟩) hM.1 (mp_tape hM) ?_
        refine j_iconst (pc := 37) (v := 2) dX12_wrongToken_37 (by decide) ?_
        refine j_ialdn (pc := 38) dX12_wrongToken_38 (mk_tape hM) (show 2 < 900 by omega) (Nat.le_of_ble_eq_true rfl) (hA 2 (by omega)) ?_
        refine j_i2l (pc := 39) dX12_wrongToken_39 ?_
        refine j_lconst (pc := 40) (v := 1) dX12_wrongToken_40 (by decide) ?_
        refine j_ldcL (pc := 41) dX12_wrongToken_41 k_X12_412 ?_
        refine j_callS (pc := 44) (n_in _ _ _) dX12_wrongToken_44 l_X12_159 mk_X12_in ms_X12_in (by decide) rfl rfl (Nat.le_of_ble_eq_true rfl) (Nat.le_refl _) (Nat.le_refl _) (fun r T h_1 => ?_)
        obtain ⟨rfl, rfl⟩ := h_1
        rw [zin_sz]
        refine j_if_ne (pc := 47) (tgt := 53) dX12_wrongToken_47 (by decide) (fun h47 => ?_) (fun h47 => ?_)
        · have hn5 : ¬ (k < 8 ∨ F.getD 0 0 ≠ 84 ∨ F.getD (k - 1) 0 ≠ zchk (F.take (k - 1)) ∨ F.getD 2 0 < 1 ∨ 20 < F.getD 2 0) := by
            have g0 := (nI_eq (b := 84) (by omega) (by decide)).mp h14
            have g1 := (nI_eq (by omega) (by omega)).mp h30
            have g2 := (zsz_nI b2).mp (zbi_ne0 h47)
            omega
          refine j_aload_n (pc := 53) dX12_wrongToken_53 rfl ?_
          refine j_getPv (pc := 54) dX12_wrongToken_54 f_X12_15 (Or.inr ⟨_, rfl⟩) hM.1 (mp_tape hM) ?_
          refine j_iconst (pc := 57) (v := 1) dX12_wrongToken_57 (by decide) ?_
          refine j_ialdn (pc := 58) dX12_wrongToken_58 (mk_tape hM) (show 1 < 900 by omega) (Nat.le_of_ble_eq_true rfl) (hA 1 (by omega)) ?_
          refine j_aload_n (pc := 59) dX12_wrongToken_59 rfl ?_
          refine j_getIv (pc := 60) dX12_wrongToken_60 f_X12_280 (Or.inl rfl) hM.1 (hs1) ?_
          refine j_sipush (pc := 63) (v := 256) dX12_wrongToken_63 (by decide) ?_
          refine j_irem (pc := 66) dX12_wrongToken_66 (by decide) ?_
          rw [show nI (tn t) - nI (tn t) / 256 * 256 = nI (tn t % 256) from pk_rem (d := 256) (by omega) (by decide) (by decide)]
          refine j_icmp_eq (pc := 67) (tgt := 73) dX12_wrongToken_67 (by decide) (fun h67 => ?_) (fun h67 => ?_)
          · have e7 : ¬ F.getD 1 0 ≠ tn t % 256 := fun q => q ((nI_eq (by omega) (by omega)).mp h67)
            refine j_sipush (pc := 73) (v := 256) dX12_wrongToken_73 (by decide) ?_
            refine j_aload_n (pc := 76) dX12_wrongToken_76 rfl ?_
            refine j_getPv (pc := 77) dX12_wrongToken_77 f_X12_15 (Or.inr ⟨_, rfl⟩) hM.1 (mp_tape hM) ?_
            refine j_iconst (pc := 80) (v := 3) dX12_wrongToken_80 (by decide) ?_
            refine j_ialdn (pc := 81) dX12_wrongToken_81 (mk_tape hM) (show 3 < 900 by omega) (Nat.le_of_ble_eq_true rfl) (hA 3 (by omega)) ?_
            refine j_imul (pc := 82) dX12_wrongToken_82 ?_
            rw [show (256 : Int32) * nI (F.getD 3 0) = nI (256 * F.getD 3 0) from pk_mul 256 _]
            refine j_aload_n (pc := 83) dX12_wrongToken_83 rfl ?_
            refine j_getPv (pc := 84) dX12_wrongToken_84 f_X12_15 (Or.inr ⟨_, rfl⟩) hM.1 (mp_tape hM) ?_
            refine j_iconst (pc := 87) (v := 4) dX12_wrongToken_87 (by decide) ?_
            refine j_ialdn (pc := 88) dX12_wrongToken_88 (mk_tape hM) (show 4 < 900 by omega) (Nat.le_of_ble_eq_true rfl) (hA 4 (by omega)) ?_
            refine j_iadd (pc := 89) dX12_wrongToken_89 ?_
            rw [nI_add, show 256 * F.getD 3 0 + F.getD 4 0 = F.getD 3 0 * 256 + F.getD 4 0 by omega]
            refine j_istore_n (pc := 90) (ls' := [_, _, _]) dX12_wrongToken_90 (by decide) rfl rfl ?_
            refine j_iload_n (pc := 91) dX12_wrongToken_91 rfl ?_
            refine j_if_le (pc := 92) (tgt := 110) dX12_wrongToken_92 (by decide) (fun h92 => ?_) (fun h92 => ?_)
            · refine j_iconst (pc := 110) (v := 0) dX12_wrongToken_110 (by decide) ?_
              refine j_iret (pc := 111) dX12_wrongToken_111 rfl ?_
              exact ⟨rfl, by rw [zwt, if_neg hn5, if_neg e7, if_neg (fun q => q.1 (Nat.le_zero.mp (Nat.le_of_not_lt (fun g => absurd (nI_lt (a := 0) g (by omega)) (Int32.not_lt.mpr h92)))))]; rfl⟩
            · have hst : 0 < F.getD 3 0 * 256 + F.getD 4 0 := nI_pos2 (Int32.not_le.mp h92)
              refine j_aload_n (pc := 95) dX12_wrongToken_95 rfl ?_
              refine j_iload_n (pc := 96) dX12_wrongToken_96 rfl ?_
              refine j_iconst (pc := 97) (v := 1) dX12_wrongToken_97 (by decide) ?_
              refine j_isub (pc := 98) dX12_wrongToken_98 ?_
              rw [show nI (F.getD 3 0 * 256 + F.getD 4 0) - 1 = nI (F.getD 3 0 * 256 + F.getD 4 0 - 1) from pk_sub (b := 1) hst]
              refine j_callV (pc := 99) (t := 12) (n_canView hM hv1 (by omega) _) dX12_wrongToken_99 l_X12_331 mk_X12_canView mv_X12_canView (by decide) rfl hM.1 (by decide) rfl rfl (Nat.le_of_ble_eq_true rfl) (Nat.le_refl _) (Nat.le_refl _) (fun r T h_1 => ?_)
              obtain ⟨rfl, rfl⟩ := h_1
              refine j_if_ne (pc := 102) (tgt := 110) dX12_wrongToken_102 (by decide) (fun h102 => ?_) (fun h102 => ?_)
              · refine j_iconst (pc := 110) (v := 0) dX12_wrongToken_110 (by decide) ?_
                refine j_iret (pc := 111) dX12_wrongToken_111 rfl ?_
                exact ⟨rfl, by rw [zwt, if_neg hn5, if_neg e7, if_neg (fun q => absurd (zbi_ne0 h102) (by rw [q.2]; decide))]; rfl⟩
              · refine j_bipush (pc := 105) (v := 8) dX12_wrongToken_105 (by decide) ?_
                refine j_goto (pc := 107) (tgt := 111) dX12_wrongToken_107 (by decide) ?_
                refine j_iret (pc := 111) dX12_wrongToken_111 rfl ?_
                exact ⟨rfl, by rw [zwt, if_neg hn5, if_neg e7, if_pos ⟨by omega, zbi_eq0.mp h102⟩]; rfl⟩
          · refine j_bipush (pc := 70) (v := 7) dX12_wrongToken_70 (by decide) ?_
            refine j_iret (pc := 72) dX12_wrongToken_72 rfl ?_
            exact ⟨rfl, by rw [zwt, if_neg hn5, if_pos (fun q => h67 (by rw [q]))]; rfl⟩
        · refine j_bipush (pc := 50) (v := 6) dX12_wrongToken_50 (by decide) ?_
          refine j_iret (pc := 52) dX12_wrongToken_52 rfl ?_
          exact ⟨rfl, by rw [zwt, if_pos (Or.inr (Or.inr (Or.inr (Decidable.not_not.mp (fun q => absurd ((zsz_nI b2).mpr q) (by rw [zbi_eq0.mp h47]; decide))))))]; rfl⟩
set_option maxRecDepth 20000 in
set_option maxHeartbeats 4000000 in
theorem m_checks {E : zE} {S : zM} {s : zST} {n : Nat} (h : zMO S s) (hw : zWF n s) (x : Int32) : zSp E 3 0 0 mX12_checks cX12_checks [zR 123, zI x] S (fun r T => r = some (zI (q_checks s x).1) ∧ zMO T (q_checks s x).2 ∧ zF zMX S T) := by
  refine zSp.of (by decide) rfl (Nat.le_of_ble_eq_true rfl) rfl ?_
  have hM := h.1
  cases ht : sT s with
  | none =>
    have hto : zgI S 123 12 = 0 := by have := h.2.2.2.1.1; rw [ht] at this; exact this
    have e : q_checks s x = zrf s 1 := by rw [q_checks, ht]
    refine j_aload_n (pc := 0) dX12_checks_0 rfl ?_
    refine j_aload_n (pc := 1) dX12_checks_1 rfl ?_
    refine j_getIv (pc := 2) dX12_checks_2 f_X12_296 (Or.inr rfl) hM.1 (hto) ?_
    refine j_if_ne (pc := 5) (tgt := 12) dX12_checks_5 (by decide) (fun h5 => absurd rfl h5) (fun h5 => ?_)
    refine j_iconst (pc := 8) (v := 1) dX12_checks_8 (by decide) ?_
    refine j_goto (pc := 9) (tgt := 31) dX12_checks_9 (by decide) ?_
    refine j_callV (pc := 31) (t := 12) (n_rf1 hM) dX12_checks_31 l_X12_256 mk_X12_isRefused mv_X12_isRefused (by decide) rfl hM.1 (by decide) rfl rfl (Nat.le_of_ble_eq_true rfl) (Nat.le_refl _) (Nat.le_refl _) (fun r T h_1 => ?_)
    obtain ⟨rfl, rfl⟩ := h_1
    refine j_if_eq (pc := 34) (tgt := 41) dX12_checks_34 (by decide) (fun h34 => absurd h34 (by decide)) (fun h34 => ?_)
    refine j_iconst (pc := 37) (v := (-1)) dX12_checks_37 (by decide) ?_
    refine j_goto (pc := 38) (tgt := 46) dX12_checks_38 (by decide) ?_
    refine j_iret (pc := 46) dX12_checks_46 rfl ?_
    exact m_ref h (n := 1) (by decide) e
  | some t =>
    have hto : zgI S 123 12 = 1 := by have := h.2.2.2.1.1; rw [ht] at this; exact this
    have hv := hw.v ht
    refine j_aload_n (pc := 0) dX12_checks_0 rfl ?_
    refine j_aload_n (pc := 1) dX12_checks_1 rfl ?_
    refine j_getIv (pc := 2) dX12_checks_2 f_X12_296 (Or.inr rfl) hM.1 (hto) ?_
    refine j_if_ne (pc := 5) (tgt := 12) dX12_checks_5 (by decide) (fun h5 => ?_) (fun h5 => absurd h5 (by decide))
    refine j_iload_n (pc := 12) dX12_checks_12 rfl ?_
    refine j_i2l (pc := 13) dX12_checks_13 ?_
    refine j_lconst (pc := 14) (v := 0) dX12_checks_14 (by decide) ?_
    refine j_aload_n (pc := 15) dX12_checks_15 rfl ?_
    refine j_getIv (pc := 16) dX12_checks_16 f_X12_132 (Or.inl rfl) hM.1 (h.2.1.1) ?_
    refine j_i2l (pc := 19) dX12_checks_19 ?_
    refine j_callS (pc := 20) (n_in _ _ _) dX12_checks_20 l_X12_159 mk_X12_in ms_X12_in (by decide) rfl rfl (Nat.le_of_ble_eq_true rfl) (Nat.le_refl _) (Nat.le_refl _) (fun r T h_1 => ?_)
    obtain ⟨rfl, rfl⟩ := h_1
    rw [zin_tp]
    refine j_if_eq (pc := 23) (tgt := 30) dX12_checks_23 (by decide) (fun h23 => ?_) (fun h23 => ?_)
    · refine j_iconst (pc := 30) (v := 2) dX12_checks_30 (by decide) ?_
      refine j_callV (pc := 31) (t := 12) (n_rf2 hM) dX12_checks_31 l_X12_256 mk_X12_isRefused mv_X12_isRefused (by decide) rfl hM.1 (by decide) rfl rfl (Nat.le_of_ble_eq_true rfl) (Nat.le_refl _) (Nat.le_refl _) (fun r T h_1 => ?_)
      obtain ⟨rfl, rfl⟩ := h_1
      refine j_if_eq (pc := 34) (tgt := 41) dX12_checks_34 (by decide) (fun h34 => absurd h34 (by decide)) (fun h34 => ?_)
      refine j_iconst (pc := 37) (v := (-1)) dX12_checks_37 (by decide) ?_
      refine j_goto (pc := 38) (tgt := 46) dX12_checks_38 (by decide) ?_
      refine j_iret (pc := 46) dX12_checks_46 rfl ?_
      exact m_ref h (n := 2) (by decide) (by simp only [q_checks, ht]; rw [if_pos (zbi_eq0.mp h23)])
    · refine j_iconst (pc := 26) (v := 0) dX12_checks_26 (by decide) ?_
      refine j_goto (pc := 27) (tgt := 31) dX12_checks_27 (by decide) ?_
      refine j_callV (pc := 31) (t := 12) (n_ok hM) dX12_checks_31 l_X12_256 mk_X12_isRefused mv_X12_isRefused (by decide) rfl hM.1 (by decide) rfl rfl (Nat.le_of_ble_eq_true rfl) (Nat.le_refl _) (Nat.le_refl _) (fun r T h_1 => ?_)
      obtain ⟨rfl, rfl⟩ := h_1
      refine j_if_eq (pc := 34) (tgt := 41) dX12_checks_34 (by decide) (fun h34 => ?_) (fun h34 => absurd rfl h34)
      obtain ⟨k, hk, rfl⟩ := zoT_t hw.2.1.1 (zbi_ne0 h23)
      refine j_aload_n (pc := 41) dX12_checks_41 rfl ?_
      refine j_iload_n (pc := 42) dX12_checks_42 rfl ?_
      refine j_callV (pc := 43) (t := 12) (n_wrongToken (F := sF s) (t := t) (by exact hM) (by exact h.2.1.2) hw.2.1.1 hw.2.1.2 hk (by exact (h.2.2.2.2.1 t ht).1.2.2.2.1.1) (by exact (h.2.2.2.2.1 t ht).1.2.2.2.1.2.1) hv.1 hv.2.1) dX12_checks_43 l_X12_428 mk_X12_wrongToken mv_X12_wrongToken (by decide) rfl hM.1 (by decide) rfl rfl (Nat.le_of_ble_eq_true rfl) (Nat.le_refl _) (Nat.le_refl _) (fun r T h_1 => ?_)
      obtain ⟨rfl, rfl⟩ := h_1
      refine j_iret (pc := 46) dX12_checks_46 rfl ?_
      have ez : q_checks s (nI k) = zan s (nI (zwt t (sF s) k)) := by
        simp only [q_checks, ht]
        rw [if_neg (by rw [zbi_ne0 h23]; decide), zn, nI_clamp (by have := hw.2.1.1; omega)]
      rw [ez]
      exact ⟨rfl, h.no (n := 0) (by decide), zNw.f⟩
