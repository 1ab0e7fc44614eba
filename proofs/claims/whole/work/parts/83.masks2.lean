set_option maxRecDepth 20000 in
set_option maxHeartbeats 4000000 in
theorem m_orderAt {E : zE} {S : zM} {s : zST} {n : Nat} (h : zMO S s) (hw : zWF n s) (i w : Int32) : zSp E 2 0 0 mX12_orderAt cX12_orderAt [zR 123, zI i, zI w] S (fun r T => r = some (zI (q_orderAt s i w).1) ∧ zMO T (q_orderAt s i w).2 ∧ zF zMX S T) := by
  refine zSp.of (by decide) rfl (Nat.le_of_ble_eq_true rfl) rfl ?_
  have hM := h.1
  cases ht : sT s with
  | none =>
    have hto : zgI S 123 12 = 0 := by have := h.2.2.2.1.1; rw [ht] at this; exact this
    have e : q_orderAt s i w = zrf s 1 := by rw [q_orderAt, ht]
    refine j_aload_n (pc := 0) dX12_orderAt_0 rfl ?_
    refine j_aload_n (pc := 1) dX12_orderAt_1 rfl ?_
    refine j_getIv (pc := 2) dX12_orderAt_2 f_X12_296 (Or.inr rfl) hM.1 (hto) ?_
    refine j_if_eq (pc := 5) (tgt := 40) dX12_orderAt_5 (by decide) (fun h5 => ?_) (fun h5 => absurd rfl h5)
    refine j_iconst (pc := 40) (v := 0) dX12_orderAt_40 (by decide) ?_
    refine j_callS (pc := 41) (n_unlF) dX12_orderAt_41 l_X12_312 mk_X12_unless ms_X12_unless (by decide) rfl rfl (Nat.le_of_ble_eq_true rfl) (Nat.le_refl _) (Nat.le_refl _) (fun r T h_1 => ?_)
    obtain ⟨rfl, rfl⟩ := h_1
    refine j_callV (pc := 44) (t := 12) (n_rf1 hM) dX12_orderAt_44 l_X12_256 mk_X12_isRefused mv_X12_isRefused (by decide) rfl hM.1 (by decide) rfl rfl (Nat.le_of_ble_eq_true rfl) (Nat.le_refl _) (Nat.le_refl _) (fun r T h_1 => ?_)
    obtain ⟨rfl, rfl⟩ := h_1
    refine j_if_eq (pc := 47) (tgt := 52) dX12_orderAt_47 (by decide) (fun h47 => absurd h47 (by decide)) (fun h47 => ?_)
    refine j_iconst (pc := 50) (v := (-1)) dX12_orderAt_50 (by decide) ?_
    refine j_iret (pc := 51) dX12_orderAt_51 rfl ?_
    exact m_ref h (n := 1) (by decide) e
  | some t =>
    have hto : zgI S 123 12 = 1 := by have := h.2.2.2.1.1; rw [ht] at this; exact this
    have hv := hw.v ht
    refine j_aload_n (pc := 0) dX12_orderAt_0 rfl ?_
    refine j_aload_n (pc := 1) dX12_orderAt_1 rfl ?_
    refine j_getIv (pc := 2) dX12_orderAt_2 f_X12_296 (Or.inr rfl) hM.1 (hto) ?_
    refine j_if_eq (pc := 5) (tgt := 40) dX12_orderAt_5 (by decide) (fun h5 => absurd h5 (by decide)) (fun h5 => ?_)
    refine j_iload_n (pc := 8) dX12_orderAt_8 rfl ?_
    refine j_i2l (pc := 9) dX12_orderAt_9 ?_
    refine j_lconst (pc := 10) (v := 0) dX12_orderAt_10 (by decide) ?_
    refine j_aload_n (pc := 11) dX12_orderAt_11 rfl ?_
    refine j_getIv (pc := 12) dX12_orderAt_12 f_X12_274 (Or.inl rfl) hM.1 ((h.2.2.2.2.1 t ht).1.2.1.1) ?_
    refine j_iconst (pc := 15) (v := 1) dX12_orderAt_15 (by decide) ?_
    refine j_isub (pc := 16) dX12_orderAt_16 ?_
    refine j_i2l (pc := 17) dX12_orderAt_17 ?_
    refine j_callS (pc := 18) (n_in _ _ _) dX12_orderAt_18 l_X12_159 mk_X12_in ms_X12_in (by decide) rfl rfl (Nat.le_of_ble_eq_true rfl) (Nat.le_refl _) (Nat.le_refl _) (fun r T h_1 => ?_)
    obtain ⟨rfl, rfl⟩ := h_1
    rw [zin_col (by omega)]
    refine j_if_eq (pc := 21) (tgt := 40) dX12_orderAt_21 (by decide) (fun h21 => ?_) (fun h21 => ?_)
    · refine j_iconst (pc := 40) (v := 0) dX12_orderAt_40 (by decide) ?_
      refine j_callS (pc := 41) (n_unlF) dX12_orderAt_41 l_X12_312 mk_X12_unless ms_X12_unless (by decide) rfl rfl (Nat.le_of_ble_eq_true rfl) (Nat.le_refl _) (Nat.le_refl _) (fun r T h_1 => ?_)
      obtain ⟨rfl, rfl⟩ := h_1
      refine j_callV (pc := 44) (t := 12) (n_rf1 hM) dX12_orderAt_44 l_X12_256 mk_X12_isRefused mv_X12_isRefused (by decide) rfl hM.1 (by decide) rfl rfl (Nat.le_of_ble_eq_true rfl) (Nat.le_refl _) (Nat.le_refl _) (fun r T h_1 => ?_)
      obtain ⟨rfl, rfl⟩ := h_1
      refine j_if_eq (pc := 47) (tgt := 52) dX12_orderAt_47 (by decide) (fun h47 => absurd h47 (by decide)) (fun h47 => ?_)
      refine j_iconst (pc := 50) (v := (-1)) dX12_orderAt_50 (by decide) ?_
      refine j_iret (pc := 51) dX12_orderAt_51 rfl ?_
      exact m_ref h (n := 1) (by decide) (by simp only [q_orderAt, ht]; rw [if_neg (fun q => bnf (zbi_eq0.mp h21) q.1)])
    · refine j_iload_n (pc := 24) dX12_orderAt_24 rfl ?_
      refine j_i2l (pc := 25) dX12_orderAt_25 ?_
      refine j_lconst (pc := 26) (v := 0) dX12_orderAt_26 (by decide) ?_
      refine j_ldcL (pc := 27) dX12_orderAt_27 k_X12_322 ?_
      refine j_callS (pc := 30) (n_in _ _ _) dX12_orderAt_30 l_X12_159 mk_X12_in ms_X12_in (by decide) rfl rfl (Nat.le_of_ble_eq_true rfl) (Nat.le_refl _) (Nat.le_refl _) (fun r T h_1 => ?_)
      obtain ⟨rfl, rfl⟩ := h_1
      rw [show decide (¬ w.toInt64 < 0 ∧ ¬ (2 : Int64) < w.toInt64) = zcl2 3 w from zin_lit (m := 2) (by decide) w]
      refine j_if_eq (pc := 33) (tgt := 40) dX12_orderAt_33 (by decide) (fun h33 => ?_) (fun h33 => ?_)
      · refine j_iconst (pc := 40) (v := 0) dX12_orderAt_40 (by decide) ?_
        refine j_callS (pc := 41) (n_unlF) dX12_orderAt_41 l_X12_312 mk_X12_unless ms_X12_unless (by decide) rfl rfl (Nat.le_of_ble_eq_true rfl) (Nat.le_refl _) (Nat.le_refl _) (fun r T h_1 => ?_)
        obtain ⟨rfl, rfl⟩ := h_1
        refine j_callV (pc := 44) (t := 12) (n_rf1 hM) dX12_orderAt_44 l_X12_256 mk_X12_isRefused mv_X12_isRefused (by decide) rfl hM.1 (by decide) rfl rfl (Nat.le_of_ble_eq_true rfl) (Nat.le_refl _) (Nat.le_refl _) (fun r T h_1 => ?_)
        obtain ⟨rfl, rfl⟩ := h_1
        refine j_if_eq (pc := 47) (tgt := 52) dX12_orderAt_47 (by decide) (fun h47 => absurd h47 (by decide)) (fun h47 => ?_)
        refine j_iconst (pc := 50) (v := (-1)) dX12_orderAt_50 (by decide) ?_
        refine j_iret (pc := 51) dX12_orderAt_51 rfl ?_
        exact m_ref h (n := 1) (by decide) (by simp only [q_orderAt, ht]; rw [if_neg (fun q => bnf (zbi_eq0.mp h33) q.2)])
      · refine j_iconst (pc := 36) (v := 1) dX12_orderAt_36 (by decide) ?_
        refine j_goto (pc := 37) (tgt := 41) dX12_orderAt_37 (by decide) ?_
        refine j_callS (pc := 41) (n_unlT) dX12_orderAt_41 l_X12_312 mk_X12_unless ms_X12_unless (by decide) rfl rfl (Nat.le_of_ble_eq_true rfl) (Nat.le_refl _) (Nat.le_refl _) (fun r T h_1 => ?_)
        obtain ⟨rfl, rfl⟩ := h_1
        refine j_callV (pc := 44) (t := 12) (n_ok hM) dX12_orderAt_44 l_X12_256 mk_X12_isRefused mv_X12_isRefused (by decide) rfl hM.1 (by decide) rfl rfl (Nat.le_of_ble_eq_true rfl) (Nat.le_refl _) (Nat.le_refl _) (fun r T h_1 => ?_)
        obtain ⟨rfl, rfl⟩ := h_1
        refine j_if_eq (pc := 47) (tgt := 52) dX12_orderAt_47 (by decide) (fun h47 => ?_) (fun h47 => absurd rfl h47)
        have hi2 := zbi_ne0 h21
        obtain ⟨j, hj, rfl⟩ := zcl2_t (by omega) hi2
        have hcl : (nI j).toNatClampNeg = j := nI_clamp (by omega)
        have hO := (h.2.2.2.2.1 t ht).1.2.1.2 j _ (gD (0, false, false, false) hj)
        refine j_iload_n (pc := 52) dX12_orderAt_52 rfl ?_
        refine j_if_ne (pc := 53) (tgt := 65) dX12_orderAt_53 (by decide) (fun h53 => ?_) (fun h53 => ?_)
        · refine j_iload_n (pc := 65) dX12_orderAt_65 rfl ?_
          refine j_iconst (pc := 66) (v := 1) dX12_orderAt_66 (by decide) ?_
          refine j_icmp_ne (pc := 67) (tgt := 82) dX12_orderAt_67 (by decide) (fun h67 => ?_) (fun h67 => ?_)
          · refine j_aload_n (pc := 82) dX12_orderAt_82 rfl ?_
            refine j_getPv (pc := 83) dX12_orderAt_83 f_X12_29 (Or.inr ⟨_, rfl⟩) hM.1 (mp_isFirst hM) ?_
            refine j_iload_n (pc := 86) dX12_orderAt_86 rfl ?_
            refine j_zaldn (pc := 87) dX12_orderAt_87 (mk_isFirst hM) (by omega) (Nat.le_of_ble_eq_true rfl) (hO.2.2) ?_
            refine j_if_eq (pc := 88) (tgt := 95) dX12_orderAt_88 (by decide) (fun h88 => ?_) (fun h88 => ?_)
            · refine j_iconst (pc := 95) (v := 0) dX12_orderAt_95 (by decide) ?_
              refine j_iret (pc := 96) dX12_orderAt_96 rfl ?_
              exact m_ans h (by simp only [q_orderAt, ht]; rw [if_pos ⟨hi2, zbi_ne0 h33⟩, zoe, if_neg h53, if_neg h67, zn, hcl, h88])
            · refine j_iconst (pc := 91) (v := 1) dX12_orderAt_91 (by decide) ?_
              refine j_goto (pc := 92) (tgt := 96) dX12_orderAt_92 (by decide) ?_
              refine j_iret (pc := 96) dX12_orderAt_96 rfl ?_
              exact m_ans h (by simp only [q_orderAt, ht]; rw [if_pos ⟨hi2, zbi_ne0 h33⟩, zoe, if_neg h53, if_neg h67, zn, hcl, zbi_ne0 h88]; rfl)
          · refine j_aload_n (pc := 70) dX12_orderAt_70 rfl ?_
            refine j_getPv (pc := 71) dX12_orderAt_71 f_X12_26 (Or.inr ⟨_, rfl⟩) hM.1 (mp_isDown hM) ?_
            refine j_iload_n (pc := 74) dX12_orderAt_74 rfl ?_
            refine j_zaldn (pc := 75) dX12_orderAt_75 (mk_isDown hM) (by omega) (Nat.le_of_ble_eq_true rfl) (hO.2.1) ?_
            refine j_if_eq (pc := 76) (tgt := 95) dX12_orderAt_76 (by decide) (fun h76 => ?_) (fun h76 => ?_)
            · refine j_iconst (pc := 95) (v := 0) dX12_orderAt_95 (by decide) ?_
              refine j_iret (pc := 96) dX12_orderAt_96 rfl ?_
              exact m_ans h (by simp only [q_orderAt, ht]; rw [if_pos ⟨hi2, zbi_ne0 h33⟩, zoe, if_neg h53, if_pos h67, zn, hcl, h76])
            · refine j_goto (pc := 79) (tgt := 91) dX12_orderAt_79 (by decide) ?_
              refine j_iconst (pc := 91) (v := 1) dX12_orderAt_91 (by decide) ?_
              refine j_goto (pc := 92) (tgt := 96) dX12_orderAt_92 (by decide) ?_
              refine j_iret (pc := 96) dX12_orderAt_96 rfl ?_
              exact m_ans h (by simp only [q_orderAt, ht]; rw [if_pos ⟨hi2, zbi_ne0 h33⟩, zoe, if_neg h53, if_pos h67, zn, hcl, zbi_ne0 h76]; rfl)
        · refine j_aload_n (pc := 56) dX12_orderAt_56 rfl ?_
          refine j_getPv (pc := 57) dX12_orderAt_57 f_X12_23 (Or.inr ⟨_, rfl⟩) hM.1 (mp_order hM) ?_
          refine j_iload_n (pc := 60) dX12_orderAt_60 rfl ?_
          refine j_ialdn (pc := 61) dX12_orderAt_61 (mk_order hM) (by omega) (Nat.le_of_ble_eq_true rfl) (hO.1) ?_
          refine j_goto (pc := 62) (tgt := 96) dX12_orderAt_62 (by decide) ?_
          refine j_iret (pc := 96) dX12_orderAt_96 rfl ?_
          exact m_ans h (by simp only [q_orderAt, ht]; rw [if_pos ⟨hi2, zbi_ne0 h33⟩, zoe, if_pos h53, zn, hcl])
set_option maxRecDepth 20000 in
set_option maxHeartbeats 4000000 in
theorem m_value {E : zE} {S : zM} {s : zST} {n : Nat} (h : zMO S s) (hw : zWF n s) (x c : Int32) : zSp E 3 0 0 mX12_value cX12_value [zR 123, zI x, zI c] S (fun r T => r = some (zL (q_value s x c).1) ∧ zMO T (q_value s x c).2 ∧ zF zMX S T) := by
  refine zSp.of (by decide) rfl (Nat.le_of_ble_eq_true rfl) rfl ?_
  have hM := h.1
  cases hz : zrow s x with
  | false =>
    have e : q_value s x c = zrfL s 1 := by
      unfold q_value
      split
      · rfl
      · rename_i t ht
        rw [zrow_s ht] at hz
        simp [hz]
    refine j_aload_n (pc := 0) dX12_value_0 rfl ?_
    refine j_aload_n (pc := 1) dX12_value_1 rfl ?_
    refine j_iload_n (pc := 2) dX12_value_2 rfl ?_
    refine j_callV (pc := 3) (t := 12) (n_isNow h hw _) dX12_value_3 l_X12_324 mk_X12_isNow mv_X12_isNow (by decide) rfl hM.1 (by decide) rfl rfl (Nat.le_of_ble_eq_true rfl) (Nat.le_refl _) (Nat.le_refl _) (fun r T h_1 => ?_)
    obtain ⟨rfl, rfl⟩ := h_1
    rw [hz]
    refine j_if_eq (pc := 6) (tgt := 21) dX12_value_6 (by decide) (fun h6 => ?_) (fun h6 => absurd rfl h6)
    refine j_iconst (pc := 21) (v := 0) dX12_value_21 (by decide) ?_
    refine j_callS (pc := 22) (n_unlF) dX12_value_22 l_X12_312 mk_X12_unless ms_X12_unless (by decide) rfl rfl (Nat.le_of_ble_eq_true rfl) (Nat.le_refl _) (Nat.le_refl _) (fun r T h_1 => ?_)
    obtain ⟨rfl, rfl⟩ := h_1
    refine j_callV (pc := 25) (t := 12) (n_rf1 hM) dX12_value_25 l_X12_256 mk_X12_isRefused mv_X12_isRefused (by decide) rfl hM.1 (by decide) rfl rfl (Nat.le_of_ble_eq_true rfl) (Nat.le_refl _) (Nat.le_refl _) (fun r T h_1 => ?_)
    obtain ⟨rfl, rfl⟩ := h_1
    refine j_if_eq (pc := 28) (tgt := 37) dX12_value_28 (by decide) (fun h28 => absurd h28 (by decide)) (fun h28 => ?_)
    refine j_ldcL (pc := 31) dX12_value_31 k_X12_229 ?_
    refine j_goto (pc := 34) (tgt := 47) dX12_value_34 (by decide) ?_
    refine j_lret (pc := 47) dX12_value_47 rfl ?_
    exact m_refL h (n := 1) (by decide) e
  | true =>
    obtain ⟨t, j, ht, hj, rfl, hjr⟩ := zrow_t hz
    have hv := hw.v ht
    have hjt : zth (tW t).1 (nI j) = true := by rw [zth_nI _ hj]; exact hjr
    have hcl : (nI j).toNatClampNeg = j := nI_clamp (by omega)
    refine j_aload_n (pc := 0) dX12_value_0 rfl ?_
    refine j_aload_n (pc := 1) dX12_value_1 rfl ?_
    refine j_iload_n (pc := 2) dX12_value_2 rfl ?_
    refine j_callV (pc := 3) (t := 12) (n_isNow h hw _) dX12_value_3 l_X12_324 mk_X12_isNow mv_X12_isNow (by decide) rfl hM.1 (by decide) rfl rfl (Nat.le_of_ble_eq_true rfl) (Nat.le_refl _) (Nat.le_refl _) (fun r T h_1 => ?_)
    obtain ⟨rfl, rfl⟩ := h_1
    rw [hz]
    refine j_if_eq (pc := 6) (tgt := 21) dX12_value_6 (by decide) (fun h6 => absurd h6 (by decide)) (fun h6 => ?_)
    refine j_aload_n (pc := 9) dX12_value_9 rfl ?_
    refine j_iload_n (pc := 10) dX12_value_10 rfl ?_
    refine j_callV (pc := 11) (t := 12) (n_isColumn h hw c) dX12_value_11 l_X12_319 mk_X12_isColumn mv_X12_isColumn (by decide) rfl hM.1 (by decide) rfl rfl (Nat.le_of_ble_eq_true rfl) (Nat.le_refl _) (Nat.le_refl _) (fun r T h_1 => ?_)
    obtain ⟨rfl, rfl⟩ := h_1
    have hzc := zcol_s ht c
    refine j_if_eq (pc := 14) (tgt := 21) dX12_value_14 (by decide) (fun h14 => ?_) (fun h14 => ?_)
    · refine j_iconst (pc := 21) (v := 0) dX12_value_21 (by decide) ?_
      refine j_callS (pc := 22) (n_unlF) dX12_value_22 l_X12_312 mk_X12_unless ms_X12_unless (by decide) rfl rfl (Nat.le_of_ble_eq_true rfl) (Nat.le_refl _) (Nat.le_refl _) (fun r T h_1 => ?_)
      obtain ⟨rfl, rfl⟩ := h_1
      refine j_callV (pc := 25) (t := 12) (n_rf1 hM) dX12_value_25 l_X12_256 mk_X12_isRefused mv_X12_isRefused (by decide) rfl hM.1 (by decide) rfl rfl (Nat.le_of_ble_eq_true rfl) (Nat.le_refl _) (Nat.le_refl _) (fun r T h_1 => ?_)
      obtain ⟨rfl, rfl⟩ := h_1
      refine j_if_eq (pc := 28) (tgt := 37) dX12_value_28 (by decide) (fun h28 => absurd h28 (by decide)) (fun h28 => ?_)
      refine j_ldcL (pc := 31) dX12_value_31 k_X12_229 ?_
      refine j_goto (pc := 34) (tgt := 47) dX12_value_34 (by decide) ?_
      refine j_lret (pc := 47) dX12_value_47 rfl ?_
      exact m_refL h (n := 1) (by decide) (by rw [zbi_eq0.mp h14] at hzc; simp [q_value, ht, ← hzc])
    · refine j_iconst (pc := 17) (v := 1) dX12_value_17 (by decide) ?_
      refine j_goto (pc := 18) (tgt := 22) dX12_value_18 (by decide) ?_
      refine j_callS (pc := 22) (n_unlT) dX12_value_22 l_X12_312 mk_X12_unless ms_X12_unless (by decide) rfl rfl (Nat.le_of_ble_eq_true rfl) (Nat.le_refl _) (Nat.le_refl _) (fun r T h_1 => ?_)
      obtain ⟨rfl, rfl⟩ := h_1
      refine j_callV (pc := 25) (t := 12) (n_ok hM) dX12_value_25 l_X12_256 mk_X12_isRefused mv_X12_isRefused (by decide) rfl hM.1 (by decide) rfl rfl (Nat.le_of_ble_eq_true rfl) (Nat.le_refl _) (Nat.le_refl _) (fun r T h_1 => ?_)
      obtain ⟨rfl, rfl⟩ := h_1
      refine j_if_eq (pc := 28) (tgt := 37) dX12_value_28 (by decide) (fun h28 => ?_) (fun h28 => absurd rfl h28)
      obtain ⟨t2, jc, ht2, hjc, rfl, hK4⟩ := zcol_t hw (zbi_ne0 h14)
      rw [ht] at ht2
      cases ht2
      refine j_aload_n (pc := 37) dX12_value_37 rfl ?_
      refine j_aload_n (pc := 38) dX12_value_38 rfl ?_
      refine j_getIv (pc := 39) dX12_value_39 f_X12_277 (Or.inl rfl) hM.1 ((h.2.2.2.2.1 t ht).1.2.2.2.1.1) ?_
      refine j_iload_n (pc := 42) dX12_value_42 rfl ?_
      refine j_iload_n (pc := 43) dX12_value_43 rfl ?_
      refine j_callV (pc := 44) (t := 12) (n_valueThen (h.no (n := 0) (by decide)) ht (Nat.le_refl _) (Nat.le_add_right _ _) (by omega) hj hjc hK4 hjr) dX12_value_44 l_X12_327 mk_X12_valueThen mv_X12_valueThen (by decide) rfl hM.1 (by decide) rfl rfl (Nat.le_of_ble_eq_true rfl) (Nat.le_refl _) (Nat.le_refl _) (fun r T h_1 => ?_)
      obtain ⟨rfl, rfl⟩ := h_1
      refine j_lret (pc := 47) dX12_value_47 rfl ?_
      exact m_ansL h (by rw [zbi_ne0 h14] at hzc; simp [q_value, ht, ← hzc, hjt, hcl, nI_clamp (show jc < 2 ^ 31 by omega)])
set_option maxRecDepth 20000 in
set_option maxHeartbeats 4000000 in
theorem m_was {E : zE} {S : zM} {s : zST} {n : Nat} (h : zMO S s) (hw : zWF n s) (v x c : Int32) : zSp E 3 0 0 mX12_was cX12_was [zR 123, zI v, zI x, zI c] S (fun r T => r = some (zL (q_was s v x c).1) ∧ zMO T (q_was s v x c).2 ∧ zF zMX S T) := by
  refine zSp.of (by decide) rfl (Nat.le_of_ble_eq_true rfl) rfl ?_
  have hM := h.1
  cases ht : sT s with
  | none =>
    have hto : zgI S 123 12 = 0 := by have := h.2.2.2.1.1; rw [ht] at this; exact this
    have e : q_was s v x c = zrfL s 1 := by rw [q_was, ht]
    refine j_aload_n (pc := 0) dX12_was_0 rfl ?_
    refine j_aload_n (pc := 1) dX12_was_1 rfl ?_
    refine j_getIv (pc := 2) dX12_was_2 f_X12_296 (Or.inr rfl) hM.1 (hto) ?_
    refine j_if_ne (pc := 5) (tgt := 12) dX12_was_5 (by decide) (fun h5 => absurd rfl h5) (fun h5 => ?_)
    refine j_iconst (pc := 8) (v := 1) dX12_was_8 (by decide) ?_
    refine j_goto (pc := 9) (tgt := 50) dX12_was_9 (by decide) ?_
    refine j_callV (pc := 50) (t := 12) (n_rf1 hM) dX12_was_50 l_X12_256 mk_X12_isRefused mv_X12_isRefused (by decide) rfl hM.1 (by decide) rfl rfl (Nat.le_of_ble_eq_true rfl) (Nat.le_refl _) (Nat.le_refl _) (fun r T h_1 => ?_)
    obtain ⟨rfl, rfl⟩ := h_1
    refine j_if_eq (pc := 53) (tgt := 60) dX12_was_53 (by decide) (fun h53 => absurd h53 (by decide)) (fun h53 => ?_)
    refine j_ldcL (pc := 56) dX12_was_56 k_X12_229 ?_
    refine j_lret (pc := 59) dX12_was_59 rfl ?_
    exact m_refL h (n := 1) (by decide) e
  | some t =>
    have hto : zgI S 123 12 = 1 := by have := h.2.2.2.1.1; rw [ht] at this; exact this
    have hv := hw.v ht
    refine j_aload_n (pc := 0) dX12_was_0 rfl ?_
    refine j_aload_n (pc := 1) dX12_was_1 rfl ?_
    refine j_getIv (pc := 2) dX12_was_2 f_X12_296 (Or.inr rfl) hM.1 (hto) ?_
    refine j_if_ne (pc := 5) (tgt := 12) dX12_was_5 (by decide) (fun h5 => ?_) (fun h5 => absurd h5 (by decide))
    refine j_aload_n (pc := 12) dX12_was_12 rfl ?_
    refine j_iload_n (pc := 13) dX12_was_13 rfl ?_
    refine j_callV (pc := 14) (t := 12) (n_canView hM (h.2.2.2.2.1 t ht).1.2.2.2.1.1 (by omega) v) dX12_was_14 l_X12_331 mk_X12_canView mv_X12_canView (by decide) rfl hM.1 (by decide) rfl rfl (Nat.le_of_ble_eq_true rfl) (Nat.le_refl _) (Nat.le_refl _) (fun r T h_1 => ?_)
    obtain ⟨rfl, rfl⟩ := h_1
    refine j_if_ne (pc := 17) (tgt := 25) dX12_was_17 (by decide) (fun h17 => ?_) (fun h17 => ?_)
    · obtain ⟨w, rfl, hw1, hw2⟩ := zcv_t (by omega) (zbi_ne0 h17)
      have hcw : (nI w).toNatClampNeg = w := nI_clamp (by omega)
      refine j_aload_n (pc := 25) dX12_was_25 rfl ?_
      refine j_iload_n (pc := 26) dX12_was_26 rfl ?_
      refine j_iload_n (pc := 27) dX12_was_27 rfl ?_
      refine j_callV (pc := 28) (t := 12) (n_isThen h ht hw1 hw2 (by omega) x) dX12_was_28 l_X12_305 mk_X12_isThen mv_X12_isThen (by decide) rfl hM.1 (by decide) rfl rfl (Nat.le_of_ble_eq_true rfl) (Nat.le_refl _) (Nat.le_refl _) (fun r T h_1 => ?_)
      obtain ⟨rfl, rfl⟩ := h_1
      refine j_if_eq (pc := 31) (tgt := 46) dX12_was_31 (by decide) (fun h31 => ?_) (fun h31 => ?_)
      · refine j_iconst (pc := 46) (v := 0) dX12_was_46 (by decide) ?_
        refine j_callS (pc := 47) (n_unlF) dX12_was_47 l_X12_312 mk_X12_unless ms_X12_unless (by decide) rfl rfl (Nat.le_of_ble_eq_true rfl) (Nat.le_refl _) (Nat.le_refl _) (fun r T h_1 => ?_)
        obtain ⟨rfl, rfl⟩ := h_1
        refine j_callV (pc := 50) (t := 12) (n_rf1 hM) dX12_was_50 l_X12_256 mk_X12_isRefused mv_X12_isRefused (by decide) rfl hM.1 (by decide) rfl rfl (Nat.le_of_ble_eq_true rfl) (Nat.le_refl _) (Nat.le_refl _) (fun r T h_1 => ?_)
        obtain ⟨rfl, rfl⟩ := h_1
        refine j_if_eq (pc := 53) (tgt := 60) dX12_was_53 (by decide) (fun h53 => absurd h53 (by decide)) (fun h53 => ?_)
        refine j_ldcL (pc := 56) dX12_was_56 k_X12_229 ?_
        refine j_lret (pc := 59) dX12_was_59 rfl ?_
        exact m_refL h (n := 1) (by decide) (by simp only [q_was, ht]; rw [if_neg (fun q => absurd (zbi_eq0.mpr q) h17), zn, hcw, if_neg (fun q => bnf (zbi_eq0.mp h31) q.2)])
      · refine j_aload_n (pc := 34) dX12_was_34 rfl ?_
        refine j_iload_n (pc := 35) dX12_was_35 rfl ?_
        refine j_callV (pc := 36) (t := 12) (n_isColumn h hw c) dX12_was_36 l_X12_319 mk_X12_isColumn mv_X12_isColumn (by decide) rfl hM.1 (by decide) rfl rfl (Nat.le_of_ble_eq_true rfl) (Nat.le_refl _) (Nat.le_refl _) (fun r T h_1 => ?_)
        obtain ⟨rfl, rfl⟩ := h_1
        have hzc := zcol_s ht c
        refine j_if_eq (pc := 39) (tgt := 46) dX12_was_39 (by decide) (fun h39 => ?_) (fun h39 => ?_)
        · refine j_iconst (pc := 46) (v := 0) dX12_was_46 (by decide) ?_
          refine j_callS (pc := 47) (n_unlF) dX12_was_47 l_X12_312 mk_X12_unless ms_X12_unless (by decide) rfl rfl (Nat.le_of_ble_eq_true rfl) (Nat.le_refl _) (Nat.le_refl _) (fun r T h_1 => ?_)
          obtain ⟨rfl, rfl⟩ := h_1
          refine j_callV (pc := 50) (t := 12) (n_rf1 hM) dX12_was_50 l_X12_256 mk_X12_isRefused mv_X12_isRefused (by decide) rfl hM.1 (by decide) rfl rfl (Nat.le_of_ble_eq_true rfl) (Nat.le_refl _) (Nat.le_refl _) (fun r T h_1 => ?_)
          obtain ⟨rfl, rfl⟩ := h_1
          refine j_if_eq (pc := 53) (tgt := 60) dX12_was_53 (by decide) (fun h53 => absurd h53 (by decide)) (fun h53 => ?_)
          refine j_ldcL (pc := 56) dX12_was_56 k_X12_229 ?_
          refine j_lret (pc := 59) dX12_was_59 rfl ?_
          rw [zbi_eq0.mp h39] at hzc
          exact m_refL h (n := 1) (by decide) (by simp only [q_was, ht]; rw [if_neg (fun q => absurd (zbi_eq0.mpr q) h17), if_neg (fun q => bnf hzc.symm q.1)])
        · refine j_iconst (pc := 42) (v := 1) dX12_was_42 (by decide) ?_
          refine j_goto (pc := 43) (tgt := 47) dX12_was_43 (by decide) ?_
          refine j_callS (pc := 47) (n_unlT) dX12_was_47 l_X12_312 mk_X12_unless ms_X12_unless (by decide) rfl rfl (Nat.le_of_ble_eq_true rfl) (Nat.le_refl _) (Nat.le_refl _) (fun r T h_1 => ?_)
          obtain ⟨rfl, rfl⟩ := h_1
          refine j_callV (pc := 50) (t := 12) (n_ok hM) dX12_was_50 l_X12_256 mk_X12_isRefused mv_X12_isRefused (by decide) rfl hM.1 (by decide) rfl rfl (Nat.le_of_ble_eq_true rfl) (Nat.le_refl _) (Nat.le_refl _) (fun r T h_1 => ?_)
          obtain ⟨rfl, rfl⟩ := h_1
          refine j_if_eq (pc := 53) (tgt := 60) dX12_was_53 (by decide) (fun h53 => ?_) (fun h53 => absurd rfl h53)
          obtain ⟨t2, jc, ht2, hjc, rfl, hK4⟩ := zcol_t hw (zbi_ne0 h39)
          rw [ht] at ht2
          cases ht2
          rw [zbi_ne0 h39] at hzc
          obtain ⟨j, hj, rfl, hjr⟩ : ∃ j, j < 64 ∧ x = nI j ∧ (tH t w).1 j = true := by
            have hx := zbi_ne0 h31
            rcases pk_ix x (n := 64) (by decide) with g | g | ⟨j, hj, rfl⟩
            · rw [zth, decide_eq_false (fun q => q.1 g)] at hx
              cases hx
            · rw [zth, decide_eq_false (fun q => q.2 g)] at hx
              cases hx
            · exact ⟨j, hj, rfl, by rwa [zth_nI _ hj] at hx⟩
          refine j_aload_n (pc := 60) dX12_was_60 rfl ?_
          refine j_iload_n (pc := 61) dX12_was_61 rfl ?_
          refine j_iload_n (pc := 62) dX12_was_62 rfl ?_
          refine j_iload_n (pc := 63) dX12_was_63 rfl ?_
          refine j_callV (pc := 64) (t := 12) (n_valueThen (h.no (n := 0) (by decide)) ht hw1 hw2 (by omega) hj hjc hK4 hjr) dX12_was_64 l_X12_327 mk_X12_valueThen mv_X12_valueThen (by decide) rfl hM.1 (by decide) rfl rfl (Nat.le_of_ble_eq_true rfl) (Nat.le_refl _) (Nat.le_refl _) (fun r T h_1 => ?_)
          obtain ⟨rfl, rfl⟩ := h_1
          refine j_lret (pc := 67) dX12_was_67 rfl ?_
          exact m_ansL h (by simp only [q_was, ht]; rw [if_neg (fun q => absurd (zbi_eq0.mpr q) h17), zn, hcw, if_pos ⟨hzc.symm, zbi_ne0 h31⟩]; simp only [zn, nI_clamp (show j < 2 ^ 31 by omega), nI_clamp (show jc < 2 ^ 31 by omega)])
    · refine j_bipush (pc := 20) (v := 8) dX12_was_20 (by decide) ?_
      refine j_goto (pc := 22) (tgt := 50) dX12_was_22 (by decide) ?_
      refine j_callV (pc := 50) (t := 12) (n_rf8 hM) dX12_was_50 l_X12_256 mk_X12_isRefused mv_X12_isRefused (by decide) rfl hM.1 (by decide) rfl rfl (Nat.le_of_ble_eq_true rfl) (Nat.le_refl _) (Nat.le_refl _) (fun r T h_1 => ?_)
      obtain ⟨rfl, rfl⟩ := h_1
      refine j_if_eq (pc := 53) (tgt := 60) dX12_was_53 (by decide) (fun h53 => absurd h53 (by decide)) (fun h53 => ?_)
      refine j_ldcL (pc := 56) dX12_was_56 k_X12_229 ?_
      refine j_lret (pc := 59) dX12_was_59 rfl ?_
      exact m_refL h (n := 8) (by decide) (by simp only [q_was, ht]; rw [if_pos (zbi_eq0.mp h17)])
set_option maxRecDepth 20000 in
set_option maxHeartbeats 4000000 in
theorem m_condition {E : zE} {S : zM} {s : zST} {n : Nat} (h : zMO S s) (hw : zWF n s) (i w : Int32) : zSp E 2 0 0 mX12_condition cX12_condition [zR 123, zI i, zI w] S (fun r T => r = some (zI (q_condition s i w).1) ∧ zMO T (q_condition s i w).2 ∧ zF zMX S T) := by
  refine zSp.of (by decide) rfl (Nat.le_of_ble_eq_true rfl) rfl ?_
  have hM := h.1
  cases ht : sT s with
  | none =>
    have hto : zgI S 123 12 = 0 := by have := h.2.2.2.1.1; rw [ht] at this; exact this
    have e : q_condition s i w = zrf s 1 := by rw [q_condition, ht]
    refine j_aload_n (pc := 0) dX12_condition_0 rfl ?_
    refine j_aload_n (pc := 1) dX12_condition_1 rfl ?_
    refine j_getIv (pc := 2) dX12_condition_2 f_X12_296 (Or.inr rfl) hM.1 (hto) ?_
    refine j_if_eq (pc := 5) (tgt := 38) dX12_condition_5 (by decide) (fun h5 => ?_) (fun h5 => absurd rfl h5)
    refine j_iconst (pc := 38) (v := 0) dX12_condition_38 (by decide) ?_
    refine j_callS (pc := 39) (n_unlF) dX12_condition_39 l_X12_312 mk_X12_unless ms_X12_unless (by decide) rfl rfl (Nat.le_of_ble_eq_true rfl) (Nat.le_refl _) (Nat.le_refl _) (fun r T h_1 => ?_)
    obtain ⟨rfl, rfl⟩ := h_1
    refine j_callV (pc := 42) (t := 12) (n_rf1 hM) dX12_condition_42 l_X12_256 mk_X12_isRefused mv_X12_isRefused (by decide) rfl hM.1 (by decide) rfl rfl (Nat.le_of_ble_eq_true rfl) (Nat.le_refl _) (Nat.le_refl _) (fun r T h_1 => ?_)
    obtain ⟨rfl, rfl⟩ := h_1
    refine j_if_eq (pc := 45) (tgt := 50) dX12_condition_45 (by decide) (fun h45 => absurd h45 (by decide)) (fun h45 => ?_)
    refine j_iconst (pc := 48) (v := (-1)) dX12_condition_48 (by decide) ?_
    refine j_iret (pc := 49) dX12_condition_49 rfl ?_
    exact m_ref h (n := 1) (by decide) e
  | some t =>
    have hto : zgI S 123 12 = 1 := by have := h.2.2.2.1.1; rw [ht] at this; exact this
    have hv := hw.v ht
    refine j_aload_n (pc := 0) dX12_condition_0 rfl ?_
    refine j_aload_n (pc := 1) dX12_condition_1 rfl ?_
    refine j_getIv (pc := 2) dX12_condition_2 f_X12_296 (Or.inr rfl) hM.1 (hto) ?_
    refine j_if_eq (pc := 5) (tgt := 38) dX12_condition_5 (by decide) (fun h5 => absurd h5 (by decide)) (fun h5 => ?_)
    refine j_iload_n (pc := 8) dX12_condition_8 rfl ?_
    refine j_i2l (pc := 9) dX12_condition_9 ?_
    refine j_lconst (pc := 10) (v := 0) dX12_condition_10 (by decide) ?_
    refine j_aload_n (pc := 11) dX12_condition_11 rfl ?_
    refine j_getIv (pc := 12) dX12_condition_12 f_X12_286 (Or.inl rfl) hM.1 ((h.2.2.2.2.1 t ht).1.2.2.1.1) ?_
    refine j_iconst (pc := 15) (v := 1) dX12_condition_15 (by decide) ?_
    refine j_isub (pc := 16) dX12_condition_16 ?_
    refine j_i2l (pc := 17) dX12_condition_17 ?_
    refine j_callS (pc := 18) (n_in _ _ _) dX12_condition_18 l_X12_159 mk_X12_in ms_X12_in (by decide) rfl rfl (Nat.le_of_ble_eq_true rfl) (Nat.le_refl _) (Nat.le_refl _) (fun r T h_1 => ?_)
    obtain ⟨rfl, rfl⟩ := h_1
    rw [zin_col (by omega)]
    refine j_if_eq (pc := 21) (tgt := 38) dX12_condition_21 (by decide) (fun h21 => ?_) (fun h21 => ?_)
    · refine j_iconst (pc := 38) (v := 0) dX12_condition_38 (by decide) ?_
      refine j_callS (pc := 39) (n_unlF) dX12_condition_39 l_X12_312 mk_X12_unless ms_X12_unless (by decide) rfl rfl (Nat.le_of_ble_eq_true rfl) (Nat.le_refl _) (Nat.le_refl _) (fun r T h_1 => ?_)
      obtain ⟨rfl, rfl⟩ := h_1
      refine j_callV (pc := 42) (t := 12) (n_rf1 hM) dX12_condition_42 l_X12_256 mk_X12_isRefused mv_X12_isRefused (by decide) rfl hM.1 (by decide) rfl rfl (Nat.le_of_ble_eq_true rfl) (Nat.le_refl _) (Nat.le_refl _) (fun r T h_1 => ?_)
      obtain ⟨rfl, rfl⟩ := h_1
      refine j_if_eq (pc := 45) (tgt := 50) dX12_condition_45 (by decide) (fun h45 => absurd h45 (by decide)) (fun h45 => ?_)
      refine j_iconst (pc := 48) (v := (-1)) dX12_condition_48 (by decide) ?_
      refine j_iret (pc := 49) dX12_condition_49 rfl ?_
      exact m_ref h (n := 1) (by decide) (by simp only [q_condition, ht]; rw [if_neg (fun q => bnf (zbi_eq0.mp h21) q.1)])
    · refine j_iload_n (pc := 24) dX12_condition_24 rfl ?_
      refine j_i2l (pc := 25) dX12_condition_25 ?_
      refine j_lconst (pc := 26) (v := 0) dX12_condition_26 (by decide) ?_
      refine j_lconst (pc := 27) (v := 1) dX12_condition_27 (by decide) ?_
      refine j_callS (pc := 28) (n_in _ _ _) dX12_condition_28 l_X12_159 mk_X12_in ms_X12_in (by decide) rfl rfl (Nat.le_of_ble_eq_true rfl) (Nat.le_refl _) (Nat.le_refl _) (fun r T h_1 => ?_)
      obtain ⟨rfl, rfl⟩ := h_1
      rw [show decide (¬ w.toInt64 < 0 ∧ ¬ (1 : Int64) < w.toInt64) = zcl2 2 w from zin_lit (m := 1) (by decide) w]
      refine j_if_eq (pc := 31) (tgt := 38) dX12_condition_31 (by decide) (fun h31 => ?_) (fun h31 => ?_)
      · refine j_iconst (pc := 38) (v := 0) dX12_condition_38 (by decide) ?_
        refine j_callS (pc := 39) (n_unlF) dX12_condition_39 l_X12_312 mk_X12_unless ms_X12_unless (by decide) rfl rfl (Nat.le_of_ble_eq_true rfl) (Nat.le_refl _) (Nat.le_refl _) (fun r T h_1 => ?_)
        obtain ⟨rfl, rfl⟩ := h_1
        refine j_callV (pc := 42) (t := 12) (n_rf1 hM) dX12_condition_42 l_X12_256 mk_X12_isRefused mv_X12_isRefused (by decide) rfl hM.1 (by decide) rfl rfl (Nat.le_of_ble_eq_true rfl) (Nat.le_refl _) (Nat.le_refl _) (fun r T h_1 => ?_)
        obtain ⟨rfl, rfl⟩ := h_1
        refine j_if_eq (pc := 45) (tgt := 50) dX12_condition_45 (by decide) (fun h45 => absurd h45 (by decide)) (fun h45 => ?_)
        refine j_iconst (pc := 48) (v := (-1)) dX12_condition_48 (by decide) ?_
        refine j_iret (pc := 49) dX12_condition_49 rfl ?_
        exact m_ref h (n := 1) (by decide) (by simp only [q_condition, ht]; rw [if_neg (fun q => bnf (zbi_eq0.mp h31) q.2)])
      · refine j_iconst (pc := 34) (v := 1) dX12_condition_34 (by decide) ?_
        refine j_goto (pc := 35) (tgt := 39) dX12_condition_35 (by decide) ?_
        refine j_callS (pc := 39) (n_unlT) dX12_condition_39 l_X12_312 mk_X12_unless ms_X12_unless (by decide) rfl rfl (Nat.le_of_ble_eq_true rfl) (Nat.le_refl _) (Nat.le_refl _) (fun r T h_1 => ?_)
        obtain ⟨rfl, rfl⟩ := h_1
        refine j_callV (pc := 42) (t := 12) (n_ok hM) dX12_condition_42 l_X12_256 mk_X12_isRefused mv_X12_isRefused (by decide) rfl hM.1 (by decide) rfl rfl (Nat.le_of_ble_eq_true rfl) (Nat.le_refl _) (Nat.le_refl _) (fun r T h_1 => ?_)
        obtain ⟨rfl, rfl⟩ := h_1
        refine j_if_eq (pc := 45) (tgt := 50) dX12_condition_45 (by decide) (fun h45 => ?_) (fun h45 => absurd rfl h45)
        have hi2 := zbi_ne0 h21
        obtain ⟨j, hj, rfl⟩ := zcl2_t (by omega) hi2
        have hcl : (nI j).toNatClampNeg = j := nI_clamp (by omega)
        have hO := (h.2.2.2.2.1 t ht).1.2.2.1.2 j _ (gD (0, false, 0, 0) hj)
        refine j_iload_n (pc := 50) dX12_condition_50 rfl ?_
        refine j_if_ne (pc := 51) (tgt := 63) dX12_condition_51 (by decide) (fun h51 => ?_) (fun h51 => ?_)
        · refine j_aload_n (pc := 63) dX12_condition_63 rfl ?_
          refine j_getPv (pc := 64) dX12_condition_64 f_X12_69 (Or.inr ⟨_, rfl⟩) hM.1 (mp_sieveHow hM) ?_
          refine j_iload_n (pc := 67) dX12_condition_67 rfl ?_
          refine j_ialdn (pc := 68) dX12_condition_68 (mk_sieveHow hM) (by omega) (Nat.le_of_ble_eq_true rfl) (hO.2.1) ?_
          refine j_iret (pc := 69) dX12_condition_69 rfl ?_
          exact m_ans h (by simp only [q_condition, ht]; rw [if_pos ⟨hi2, zbi_ne0 h31⟩, if_neg h51, zn, hcl])
        · refine j_aload_n (pc := 54) dX12_condition_54 rfl ?_
          refine j_getPv (pc := 55) dX12_condition_55 f_X12_66 (Or.inr ⟨_, rfl⟩) hM.1 (mp_sieveColumn hM) ?_
          refine j_iload_n (pc := 58) dX12_condition_58 rfl ?_
          refine j_ialdn (pc := 59) dX12_condition_59 (mk_sieveColumn hM) (by omega) (Nat.le_of_ble_eq_true rfl) (hO.1) ?_
          refine j_goto (pc := 60) (tgt := 69) dX12_condition_60 (by decide) ?_
          refine j_iret (pc := 69) dX12_condition_69 rfl ?_
          exact m_ans h (by simp only [q_condition, ht]; rw [if_pos ⟨hi2, zbi_ne0 h31⟩, if_pos h51, zn, hcl])
set_option maxRecDepth 20000 in
set_option maxHeartbeats 4000000 in
theorem m_at {E : zE} {S : zM} {s : zST} {n : Nat} (h : zMO S s) (hw : zWF n s) (i : Int32) : zSp E 1 0 0 mX12_at cX12_at [zR 123, zI i] S (fun r T => r = some (zI (q_at s i).1) ∧ zMO T (q_at s i).2 ∧ zF zMX S T) := by
  refine zSp.of (by decide) rfl (Nat.le_of_ble_eq_true rfl) rfl ?_
  have hM := h.1
  cases hp : sP s with
  | none =>
    have hto : zgI S 123 46 = 0 := by have := h.2.2.2.2.2.1.1.1; rw [hp] at this; exact this
    have e : q_at s i = zrf s 1 := by rw [q_at, hp]
    refine j_aload_n (pc := 0) dX12_at_0 rfl ?_
    refine j_aload_n (pc := 1) dX12_at_1 rfl ?_
    refine j_getIv (pc := 2) dX12_at_2 f_X12_289 (Or.inr rfl) hM.1 (hto) ?_
    refine j_if_eq (pc := 5) (tgt := 28) dX12_at_5 (by decide) (fun h5 => ?_) (fun h5 => absurd rfl h5)
    refine j_iconst (pc := 28) (v := 0) dX12_at_28 (by decide) ?_
    refine j_callS (pc := 29) (n_unlF) dX12_at_29 l_X12_312 mk_X12_unless ms_X12_unless (by decide) rfl rfl (Nat.le_of_ble_eq_true rfl) (Nat.le_refl _) (Nat.le_refl _) (fun r T h_1 => ?_)
    obtain ⟨rfl, rfl⟩ := h_1
    refine j_callV (pc := 32) (t := 12) (n_rf1 hM) dX12_at_32 l_X12_256 mk_X12_isRefused mv_X12_isRefused (by decide) rfl hM.1 (by decide) rfl rfl (Nat.le_of_ble_eq_true rfl) (Nat.le_refl _) (Nat.le_refl _) (fun r T h_1 => ?_)
    obtain ⟨rfl, rfl⟩ := h_1
    refine j_if_eq (pc := 35) (tgt := 42) dX12_at_35 (by decide) (fun h35 => absurd h35 (by decide)) (fun h35 => ?_)
    refine j_iconst (pc := 38) (v := (-1)) dX12_at_38 (by decide) ?_
    refine j_goto (pc := 39) (tgt := 48) dX12_at_39 (by decide) ?_
    refine j_iret (pc := 48) dX12_at_48 rfl ?_
    exact m_ref h (n := 1) (by decide) e
  | some q =>
    have hto : zgI S 123 46 = 1 := by have := h.2.2.2.2.2.1.1.1; rw [hp] at this; exact this
    have hQ := h.2.2.2.2.2.1.2 q hp
    obtain ⟨t, ht, hWp⟩ := hw.pg hp
    have hv := hw.v ht
    have l20 := hWp.1
    have l9 := hWp.2.1
    refine j_aload_n (pc := 0) dX12_at_0 rfl ?_
    refine j_aload_n (pc := 1) dX12_at_1 rfl ?_
    refine j_getIv (pc := 2) dX12_at_2 f_X12_289 (Or.inr rfl) hM.1 (hto) ?_
    refine j_if_eq (pc := 5) (tgt := 28) dX12_at_5 (by decide) (fun h5 => absurd h5 (by decide)) (fun h5 => ?_)
    refine j_iload_n (pc := 8) dX12_at_8 rfl ?_
    refine j_i2l (pc := 9) dX12_at_9 ?_
    refine j_lconst (pc := 10) (v := 0) dX12_at_10 (by decide) ?_
    refine j_aload_n (pc := 11) dX12_at_11 rfl ?_
    refine j_getIv (pc := 12) dX12_at_12 f_X12_399 (Or.inl rfl) hM.1 (hQ.1.1) ?_
    refine j_iconst (pc := 15) (v := 1) dX12_at_15 (by decide) ?_
    refine j_isub (pc := 16) dX12_at_16 ?_
    refine j_i2l (pc := 17) dX12_at_17 ?_
    refine j_callS (pc := 18) (n_in _ _ _) dX12_at_18 l_X12_159 mk_X12_in ms_X12_in (by decide) rfl rfl (Nat.le_of_ble_eq_true rfl) (Nat.le_refl _) (Nat.le_refl _) (fun r T h_1 => ?_)
    obtain ⟨rfl, rfl⟩ := h_1
    rw [zin_col (by omega)]
    refine j_if_eq (pc := 21) (tgt := 28) dX12_at_21 (by decide) (fun h21 => ?_) (fun h21 => ?_)
    · refine j_iconst (pc := 28) (v := 0) dX12_at_28 (by decide) ?_
      refine j_callS (pc := 29) (n_unlF) dX12_at_29 l_X12_312 mk_X12_unless ms_X12_unless (by decide) rfl rfl (Nat.le_of_ble_eq_true rfl) (Nat.le_refl _) (Nat.le_refl _) (fun r T h_1 => ?_)
      obtain ⟨rfl, rfl⟩ := h_1
      refine j_callV (pc := 32) (t := 12) (n_rf1 hM) dX12_at_32 l_X12_256 mk_X12_isRefused mv_X12_isRefused (by decide) rfl hM.1 (by decide) rfl rfl (Nat.le_of_ble_eq_true rfl) (Nat.le_refl _) (Nat.le_refl _) (fun r T h_1 => ?_)
      obtain ⟨rfl, rfl⟩ := h_1
      refine j_if_eq (pc := 35) (tgt := 42) dX12_at_35 (by decide) (fun h35 => absurd h35 (by decide)) (fun h35 => ?_)
      refine j_iconst (pc := 38) (v := (-1)) dX12_at_38 (by decide) ?_
      refine j_goto (pc := 39) (tgt := 48) dX12_at_39 (by decide) ?_
      refine j_iret (pc := 48) dX12_at_48 rfl ?_
      exact m_ref h (n := 1) (by decide) (by simp only [q_at, hp]; rw [if_neg (show ¬ zin2 q.1.length i = true from bnf (zbi_eq0.mp h21))])
    · refine j_iconst (pc := 24) (v := 1) dX12_at_24 (by decide) ?_
      refine j_goto (pc := 25) (tgt := 29) dX12_at_25 (by decide) ?_
      refine j_callS (pc := 29) (n_unlT) dX12_at_29 l_X12_312 mk_X12_unless ms_X12_unless (by decide) rfl rfl (Nat.le_of_ble_eq_true rfl) (Nat.le_refl _) (Nat.le_refl _) (fun r T h_1 => ?_)
      obtain ⟨rfl, rfl⟩ := h_1
      refine j_callV (pc := 32) (t := 12) (n_ok hM) dX12_at_32 l_X12_256 mk_X12_isRefused mv_X12_isRefused (by decide) rfl hM.1 (by decide) rfl rfl (Nat.le_of_ble_eq_true rfl) (Nat.le_refl _) (Nat.le_refl _) (fun r T h_1 => ?_)
      obtain ⟨rfl, rfl⟩ := h_1
      refine j_if_eq (pc := 35) (tgt := 42) dX12_at_35 (by decide) (fun h35 => ?_) (fun h35 => absurd rfl h35)
      obtain ⟨j, hj, rfl⟩ := zcl2_t (by omega) (zbi_ne0 h21)
      refine j_aload_n (pc := 42) dX12_at_42 rfl ?_
      refine j_getPv (pc := 43) dX12_at_43 f_X12_81 (Or.inr ⟨_, rfl⟩) hM.1 (mp_pageIds hM) ?_
      refine j_iload_n (pc := 46) dX12_at_46 rfl ?_
      refine j_ialdn (pc := 47) dX12_at_47 (mk_pageIds hM) (by omega) (Nat.le_of_ble_eq_true rfl) (hQ.1.2.1 j _ (gD 0 hj)) ?_
      refine j_iret (pc := 48) dX12_at_48 rfl ?_
      exact m_ans h (by simp only [q_at, hp]; rw [if_pos (show zin2 q.1.length (nI j) = true from zbi_ne0 h21), zn, nI_clamp (by omega)])
set_option maxRecDepth 20000 in
set_option maxHeartbeats 4000000 in
theorem m_cell {E : zE} {S : zM} {s : zST} {n : Nat} (h : zMO S s) (hw : zWF n s) (i c : Int32) : zSp E 2 0 0 mX12_cell cX12_cell [zR 123, zI i, zI c] S (fun r T => r = some (zL (q_cell s i c).1) ∧ zMO T (q_cell s i c).2 ∧ zF zMX S T) := by
  refine zSp.of (by decide) rfl (Nat.le_of_ble_eq_true rfl) rfl ?_
  have hM := h.1
  cases hp : sP s with
  | none =>
    have hto : zgI S 123 46 = 0 := by have := h.2.2.2.2.2.1.1.1; rw [hp] at this; exact this
    have e : q_cell s i c = zrfL s 1 := by rw [q_cell, hp]
    refine j_aload_n (pc := 0) dX12_cell_0 rfl ?_
    refine j_aload_n (pc := 1) dX12_cell_1 rfl ?_
    refine j_getIv (pc := 2) dX12_cell_2 f_X12_289 (Or.inr rfl) hM.1 (hto) ?_
    refine j_if_eq (pc := 5) (tgt := 36) dX12_cell_5 (by decide) (fun h5 => ?_) (fun h5 => absurd rfl h5)
    refine j_iconst (pc := 36) (v := 0) dX12_cell_36 (by decide) ?_
    refine j_callS (pc := 37) (n_unlF) dX12_cell_37 l_X12_312 mk_X12_unless ms_X12_unless (by decide) rfl rfl (Nat.le_of_ble_eq_true rfl) (Nat.le_refl _) (Nat.le_refl _) (fun r T h_1 => ?_)
    obtain ⟨rfl, rfl⟩ := h_1
    refine j_callV (pc := 40) (t := 12) (n_rf1 hM) dX12_cell_40 l_X12_256 mk_X12_isRefused mv_X12_isRefused (by decide) rfl hM.1 (by decide) rfl rfl (Nat.le_of_ble_eq_true rfl) (Nat.le_refl _) (Nat.le_refl _) (fun r T h_1 => ?_)
    obtain ⟨rfl, rfl⟩ := h_1
    refine j_if_eq (pc := 43) (tgt := 52) dX12_cell_43 (by decide) (fun h43 => absurd h43 (by decide)) (fun h43 => ?_)
    refine j_ldcL (pc := 46) dX12_cell_46 k_X12_229 ?_
    refine j_goto (pc := 49) (tgt := 62) dX12_cell_49 (by decide) ?_
    refine j_lret (pc := 62) dX12_cell_62 rfl ?_
    exact m_refL h (n := 1) (by decide) e
  | some q =>
    have hto : zgI S 123 46 = 1 := by have := h.2.2.2.2.2.1.1.1; rw [hp] at this; exact this
    have hQ := h.2.2.2.2.2.1.2 q hp
    obtain ⟨t, ht, hWp⟩ := hw.pg hp
    have hv := hw.v ht
    have l20 := hWp.1
    have l9 := hWp.2.1
    refine j_aload_n (pc := 0) dX12_cell_0 rfl ?_
    refine j_aload_n (pc := 1) dX12_cell_1 rfl ?_
    refine j_getIv (pc := 2) dX12_cell_2 f_X12_289 (Or.inr rfl) hM.1 (hto) ?_
    refine j_if_eq (pc := 5) (tgt := 36) dX12_cell_5 (by decide) (fun h5 => absurd h5 (by decide)) (fun h5 => ?_)
    refine j_iload_n (pc := 8) dX12_cell_8 rfl ?_
    refine j_i2l (pc := 9) dX12_cell_9 ?_
    refine j_lconst (pc := 10) (v := 0) dX12_cell_10 (by decide) ?_
    refine j_aload_n (pc := 11) dX12_cell_11 rfl ?_
    refine j_getIv (pc := 12) dX12_cell_12 f_X12_399 (Or.inl rfl) hM.1 (hQ.1.1) ?_
    refine j_iconst (pc := 15) (v := 1) dX12_cell_15 (by decide) ?_
    refine j_isub (pc := 16) dX12_cell_16 ?_
    refine j_i2l (pc := 17) dX12_cell_17 ?_
    refine j_callS (pc := 18) (n_in _ _ _) dX12_cell_18 l_X12_159 mk_X12_in ms_X12_in (by decide) rfl rfl (Nat.le_of_ble_eq_true rfl) (Nat.le_refl _) (Nat.le_refl _) (fun r T h_1 => ?_)
    obtain ⟨rfl, rfl⟩ := h_1
    rw [zin_col (by omega)]
    refine j_if_eq (pc := 21) (tgt := 36) dX12_cell_21 (by decide) (fun h21 => ?_) (fun h21 => ?_)
    · refine j_iconst (pc := 36) (v := 0) dX12_cell_36 (by decide) ?_
      refine j_callS (pc := 37) (n_unlF) dX12_cell_37 l_X12_312 mk_X12_unless ms_X12_unless (by decide) rfl rfl (Nat.le_of_ble_eq_true rfl) (Nat.le_refl _) (Nat.le_refl _) (fun r T h_1 => ?_)
      obtain ⟨rfl, rfl⟩ := h_1
      refine j_callV (pc := 40) (t := 12) (n_rf1 hM) dX12_cell_40 l_X12_256 mk_X12_isRefused mv_X12_isRefused (by decide) rfl hM.1 (by decide) rfl rfl (Nat.le_of_ble_eq_true rfl) (Nat.le_refl _) (Nat.le_refl _) (fun r T h_1 => ?_)
      obtain ⟨rfl, rfl⟩ := h_1
      refine j_if_eq (pc := 43) (tgt := 52) dX12_cell_43 (by decide) (fun h43 => absurd h43 (by decide)) (fun h43 => ?_)
      refine j_ldcL (pc := 46) dX12_cell_46 k_X12_229 ?_
      refine j_goto (pc := 49) (tgt := 62) dX12_cell_49 (by decide) ?_
      refine j_lret (pc := 62) dX12_cell_62 rfl ?_
      exact m_refL h (n := 1) (by decide) (by simp only [q_cell, hp]; rw [if_neg (fun g => bnf (zbi_eq0.mp h21) g.1)])
    · refine j_aload_n (pc := 24) dX12_cell_24 rfl ?_
      refine j_iload_n (pc := 25) dX12_cell_25 rfl ?_
      refine j_callV (pc := 26) (t := 12) (n_isColumn h hw c) dX12_cell_26 l_X12_319 mk_X12_isColumn mv_X12_isColumn (by decide) rfl hM.1 (by decide) rfl rfl (Nat.le_of_ble_eq_true rfl) (Nat.le_refl _) (Nat.le_refl _) (fun r T h_1 => ?_)
      obtain ⟨rfl, rfl⟩ := h_1
      refine j_if_eq (pc := 29) (tgt := 36) dX12_cell_29 (by decide) (fun h29 => ?_) (fun h29 => ?_)
      · refine j_iconst (pc := 36) (v := 0) dX12_cell_36 (by decide) ?_
        refine j_callS (pc := 37) (n_unlF) dX12_cell_37 l_X12_312 mk_X12_unless ms_X12_unless (by decide) rfl rfl (Nat.le_of_ble_eq_true rfl) (Nat.le_refl _) (Nat.le_refl _) (fun r T h_1 => ?_)
        obtain ⟨rfl, rfl⟩ := h_1
        refine j_callV (pc := 40) (t := 12) (n_rf1 hM) dX12_cell_40 l_X12_256 mk_X12_isRefused mv_X12_isRefused (by decide) rfl hM.1 (by decide) rfl rfl (Nat.le_of_ble_eq_true rfl) (Nat.le_refl _) (Nat.le_refl _) (fun r T h_1 => ?_)
        obtain ⟨rfl, rfl⟩ := h_1
        refine j_if_eq (pc := 43) (tgt := 52) dX12_cell_43 (by decide) (fun h43 => absurd h43 (by decide)) (fun h43 => ?_)
        refine j_ldcL (pc := 46) dX12_cell_46 k_X12_229 ?_
        refine j_goto (pc := 49) (tgt := 62) dX12_cell_49 (by decide) ?_
        refine j_lret (pc := 62) dX12_cell_62 rfl ?_
        exact m_refL h (n := 1) (by decide) (by simp only [q_cell, hp]; rw [if_neg (fun g => bnf (zbi_eq0.mp h29) g.2)])
      · refine j_iconst (pc := 32) (v := 1) dX12_cell_32 (by decide) ?_
        refine j_goto (pc := 33) (tgt := 37) dX12_cell_33 (by decide) ?_
        refine j_callS (pc := 37) (n_unlT) dX12_cell_37 l_X12_312 mk_X12_unless ms_X12_unless (by decide) rfl rfl (Nat.le_of_ble_eq_true rfl) (Nat.le_refl _) (Nat.le_refl _) (fun r T h_1 => ?_)
        obtain ⟨rfl, rfl⟩ := h_1
        refine j_callV (pc := 40) (t := 12) (n_ok hM) dX12_cell_40 l_X12_256 mk_X12_isRefused mv_X12_isRefused (by decide) rfl hM.1 (by decide) rfl rfl (Nat.le_of_ble_eq_true rfl) (Nat.le_refl _) (Nat.le_refl _) (fun r T h_1 => ?_)
        obtain ⟨rfl, rfl⟩ := h_1
        refine j_if_eq (pc := 43) (tgt := 52) dX12_cell_43 (by decide) (fun h43 => ?_) (fun h43 => absurd rfl h43)
        obtain ⟨j, hj, rfl⟩ := zcl2_t (by omega) (zbi_ne0 h21)
        obtain ⟨t2, jc, ht2, hjc, rfl, hK4⟩ := zcol_t hw (zbi_ne0 h29)
        rw [ht] at ht2
        cases ht2
        refine j_aload_n (pc := 52) dX12_cell_52 rfl ?_
        refine j_getPv (pc := 53) dX12_cell_53 f_X12_84 (Or.inr ⟨_, rfl⟩) hM.1 (mp_pageValues hM) ?_
        refine j_iconst (pc := 56) (v := 4) dX12_cell_56 (by decide) ?_
        refine j_iload_n (pc := 57) dX12_cell_57 rfl ?_
        refine j_imul (pc := 58) dX12_cell_58 ?_
        rw [show (4 : Int32) * nI j = nI (4 * j) from pk_mul 4 _]
        refine j_iload_n (pc := 59) dX12_cell_59 rfl ?_
        refine j_iadd (pc := 60) dX12_cell_60 ?_
        rw [nI_add]
        refine j_laldn (pc := 61) dX12_cell_61 (mk_pageValues hM) (by omega) (Nat.le_of_ble_eq_true rfl) (hQ.2 j jc hj (by rw [sk_s ht]; exact hjc)) ?_
        refine j_lret (pc := 62) dX12_cell_62 rfl ?_
        exact m_ansL h (by simp only [q_cell, hp]; rw [if_pos ⟨zbi_ne0 h21, zbi_ne0 h29⟩]; simp only [zn, nI_clamp (show j < 2 ^ 31 by omega), nI_clamp (show jc < 2 ^ 31 by omega)])
set_option maxRecDepth 20000 in
set_option maxHeartbeats 4000000 in
theorem m_tokenSize {E : zE} {S : zM} {s : zST} {n : Nat} (h : zMO S s) (hw : zWF n s) (w : Int32) : zSp E 1 0 0 mX12_tokenSize cX12_tokenSize [zR 123, zI w] S (fun r T => r = some (zI (q_tokenSize s w).1) ∧ zMO T (q_tokenSize s w).2 ∧ zF zMX S T) := by
  refine zSp.of (by decide) rfl (Nat.le_of_ble_eq_true rfl) rfl ?_
  have hM := h.1
  cases hp : sP s with
  | none =>
    have hto : zgI S 123 46 = 0 := by have := h.2.2.2.2.2.1.1.1; rw [hp] at this; exact this
    have e : q_tokenSize s w = zrf s 1 := by rw [q_tokenSize, hp]
    refine j_aload_n (pc := 0) dX12_tokenSize_0 rfl ?_
    refine j_aload_n (pc := 1) dX12_tokenSize_1 rfl ?_
    refine j_getIv (pc := 2) dX12_tokenSize_2 f_X12_289 (Or.inr rfl) hM.1 (hto) ?_
    refine j_if_eq (pc := 5) (tgt := 22) dX12_tokenSize_5 (by decide) (fun h5 => ?_) (fun h5 => absurd rfl h5)
    refine j_iconst (pc := 22) (v := 0) dX12_tokenSize_22 (by decide) ?_
    refine j_callS (pc := 23) (n_unlF) dX12_tokenSize_23 l_X12_312 mk_X12_unless ms_X12_unless (by decide) rfl rfl (Nat.le_of_ble_eq_true rfl) (Nat.le_refl _) (Nat.le_refl _) (fun r T h_1 => ?_)
    obtain ⟨rfl, rfl⟩ := h_1
    refine j_callV (pc := 26) (t := 12) (n_rf1 hM) dX12_tokenSize_26 l_X12_256 mk_X12_isRefused mv_X12_isRefused (by decide) rfl hM.1 (by decide) rfl rfl (Nat.le_of_ble_eq_true rfl) (Nat.le_refl _) (Nat.le_refl _) (fun r T h_1 => ?_)
    obtain ⟨rfl, rfl⟩ := h_1
    refine j_if_eq (pc := 29) (tgt := 36) dX12_tokenSize_29 (by decide) (fun h29 => absurd h29 (by decide)) (fun h29 => ?_)
    refine j_iconst (pc := 32) (v := (-1)) dX12_tokenSize_32 (by decide) ?_
    refine j_goto (pc := 33) (tgt := 42) dX12_tokenSize_33 (by decide) ?_
    refine j_iret (pc := 42) dX12_tokenSize_42 rfl ?_
    exact m_ref h (n := 1) (by decide) e
  | some q =>
    have hto : zgI S 123 46 = 1 := by have := h.2.2.2.2.2.1.1.1; rw [hp] at this; exact this
    have hQ := h.2.2.2.2.2.1.2 q hp
    obtain ⟨t, ht, hWp⟩ := hw.pg hp
    have hv := hw.v ht
    have l20 := hWp.1
    have l9 := hWp.2.1
    refine j_aload_n (pc := 0) dX12_tokenSize_0 rfl ?_
    refine j_aload_n (pc := 1) dX12_tokenSize_1 rfl ?_
    refine j_getIv (pc := 2) dX12_tokenSize_2 f_X12_289 (Or.inr rfl) hM.1 (hto) ?_
    refine j_if_eq (pc := 5) (tgt := 22) dX12_tokenSize_5 (by decide) (fun h5 => absurd h5 (by decide)) (fun h5 => ?_)
    refine j_iload_n (pc := 8) dX12_tokenSize_8 rfl ?_
    refine j_i2l (pc := 9) dX12_tokenSize_9 ?_
    refine j_lconst (pc := 10) (v := 0) dX12_tokenSize_10 (by decide) ?_
    refine j_lconst (pc := 11) (v := 1) dX12_tokenSize_11 (by decide) ?_
    refine j_callS (pc := 12) (n_in _ _ _) dX12_tokenSize_12 l_X12_159 mk_X12_in ms_X12_in (by decide) rfl rfl (Nat.le_of_ble_eq_true rfl) (Nat.le_refl _) (Nat.le_refl _) (fun r T h_1 => ?_)
    obtain ⟨rfl, rfl⟩ := h_1
    rw [show decide (¬ w.toInt64 < 0 ∧ ¬ (1 : Int64) < w.toInt64) = zcl2 2 w from zin_lit (m := 1) (by decide) w]
    refine j_if_eq (pc := 15) (tgt := 22) dX12_tokenSize_15 (by decide) (fun h15 => ?_) (fun h15 => ?_)
    · refine j_iconst (pc := 22) (v := 0) dX12_tokenSize_22 (by decide) ?_
      refine j_callS (pc := 23) (n_unlF) dX12_tokenSize_23 l_X12_312 mk_X12_unless ms_X12_unless (by decide) rfl rfl (Nat.le_of_ble_eq_true rfl) (Nat.le_refl _) (Nat.le_refl _) (fun r T h_1 => ?_)
      obtain ⟨rfl, rfl⟩ := h_1
      refine j_callV (pc := 26) (t := 12) (n_rf1 hM) dX12_tokenSize_26 l_X12_256 mk_X12_isRefused mv_X12_isRefused (by decide) rfl hM.1 (by decide) rfl rfl (Nat.le_of_ble_eq_true rfl) (Nat.le_refl _) (Nat.le_refl _) (fun r T h_1 => ?_)
      obtain ⟨rfl, rfl⟩ := h_1
      refine j_if_eq (pc := 29) (tgt := 36) dX12_tokenSize_29 (by decide) (fun h29 => absurd h29 (by decide)) (fun h29 => ?_)
      refine j_iconst (pc := 32) (v := (-1)) dX12_tokenSize_32 (by decide) ?_
      refine j_goto (pc := 33) (tgt := 42) dX12_tokenSize_33 (by decide) ?_
      refine j_iret (pc := 42) dX12_tokenSize_42 rfl ?_
      exact m_ref h (n := 1) (by decide) (by simp only [q_tokenSize, hp]; rw [if_neg (bnf (zbi_eq0.mp h15))])
    · refine j_iconst (pc := 18) (v := 1) dX12_tokenSize_18 (by decide) ?_
      refine j_goto (pc := 19) (tgt := 23) dX12_tokenSize_19 (by decide) ?_
      refine j_callS (pc := 23) (n_unlT) dX12_tokenSize_23 l_X12_312 mk_X12_unless ms_X12_unless (by decide) rfl rfl (Nat.le_of_ble_eq_true rfl) (Nat.le_refl _) (Nat.le_refl _) (fun r T h_1 => ?_)
      obtain ⟨rfl, rfl⟩ := h_1
      refine j_callV (pc := 26) (t := 12) (n_ok hM) dX12_tokenSize_26 l_X12_256 mk_X12_isRefused mv_X12_isRefused (by decide) rfl hM.1 (by decide) rfl rfl (Nat.le_of_ble_eq_true rfl) (Nat.le_refl _) (Nat.le_refl _) (fun r T h_1 => ?_)
      obtain ⟨rfl, rfl⟩ := h_1
      refine j_if_eq (pc := 29) (tgt := 36) dX12_tokenSize_29 (by decide) (fun h29 => ?_) (fun h29 => absurd rfl h29)
      rcases (show w = 0 ∨ w = 1 from by
        obtain ⟨j, hj, rfl⟩ := zcl2_t (m := 2) (by decide) (zbi_ne0 h15)
        match j, hj with
        | 0, _ => exact Or.inl rfl
        | 1, _ => exact Or.inr rfl) with rfl | rfl
      · refine j_aload_n (pc := 36) dX12_tokenSize_36 rfl ?_
        refine j_getPv (pc := 37) dX12_tokenSize_37 f_X12_90 (Or.inr ⟨_, rfl⟩) hM.1 (mp_tokenLong hM) ?_
        refine j_iload_n (pc := 40) dX12_tokenSize_40 rfl ?_
        refine j_ialdn (i := 0) (pc := 41) dX12_tokenSize_41 (mk_tokenLong hM) (by omega) (Nat.le_of_ble_eq_true rfl) (hQ.1.2.2.1.1) ?_
        refine j_iret (pc := 42) dX12_tokenSize_42 rfl ?_
        exact m_ans h (by simp only [q_tokenSize, hp]; rw [if_pos (by decide)]; rfl)
      · refine j_aload_n (pc := 36) dX12_tokenSize_36 rfl ?_
        refine j_getPv (pc := 37) dX12_tokenSize_37 f_X12_90 (Or.inr ⟨_, rfl⟩) hM.1 (mp_tokenLong hM) ?_
        refine j_iload_n (pc := 40) dX12_tokenSize_40 rfl ?_
        refine j_ialdn (i := 1) (pc := 41) dX12_tokenSize_41 (mk_tokenLong hM) (by omega) (Nat.le_of_ble_eq_true rfl) (hQ.1.2.2.1.2) ?_
        refine j_iret (pc := 42) dX12_tokenSize_42 rfl ?_
        exact m_ans h (by simp only [q_tokenSize, hp]; rw [if_pos (by decide)]; rfl)
set_option maxRecDepth 20000 in
set_option maxHeartbeats 4000000 in
theorem m_beyond {E : zE} {S : zM} {s : zST} {n : Nat} (h : zMO S s) (hw : zWF n s) (w : Int32) : zSp E 1 0 0 mX12_beyond cX12_beyond [zR 123, zI w] S (fun r T => r = some (zI (q_beyond s w).1) ∧ zMO T (q_beyond s w).2 ∧ zF zMX S T) := by
  refine zSp.of (by decide) rfl (Nat.le_of_ble_eq_true rfl) rfl ?_
  have hM := h.1
  cases hp : sP s with
  | none =>
    have hto : zgI S 123 46 = 0 := by have := h.2.2.2.2.2.1.1.1; rw [hp] at this; exact this
    have e : q_beyond s w = zrf s 1 := by rw [q_beyond, hp]
    refine j_aload_n (pc := 0) dX12_beyond_0 rfl ?_
    refine j_aload_n (pc := 1) dX12_beyond_1 rfl ?_
    refine j_getIv (pc := 2) dX12_beyond_2 f_X12_289 (Or.inr rfl) hM.1 (hto) ?_
    refine j_if_eq (pc := 5) (tgt := 22) dX12_beyond_5 (by decide) (fun h5 => ?_) (fun h5 => absurd rfl h5)
    refine j_iconst (pc := 22) (v := 0) dX12_beyond_22 (by decide) ?_
    refine j_callS (pc := 23) (n_unlF) dX12_beyond_23 l_X12_312 mk_X12_unless ms_X12_unless (by decide) rfl rfl (Nat.le_of_ble_eq_true rfl) (Nat.le_refl _) (Nat.le_refl _) (fun r T h_1 => ?_)
    obtain ⟨rfl, rfl⟩ := h_1
    refine j_callV (pc := 26) (t := 12) (n_rf1 hM) dX12_beyond_26 l_X12_256 mk_X12_isRefused mv_X12_isRefused (by decide) rfl hM.1 (by decide) rfl rfl (Nat.le_of_ble_eq_true rfl) (Nat.le_refl _) (Nat.le_refl _) (fun r T h_1 => ?_)
    obtain ⟨rfl, rfl⟩ := h_1
    refine j_if_eq (pc := 29) (tgt := 36) dX12_beyond_29 (by decide) (fun h29 => absurd h29 (by decide)) (fun h29 => ?_)
    refine j_iconst (pc := 32) (v := (-1)) dX12_beyond_32 (by decide) ?_
    refine j_goto (pc := 33) (tgt := 42) dX12_beyond_33 (by decide) ?_
    refine j_iret (pc := 42) dX12_beyond_42 rfl ?_
    exact m_ref h (n := 1) (by decide) e
  | some q =>
    have hto : zgI S 123 46 = 1 := by have := h.2.2.2.2.2.1.1.1; rw [hp] at this; exact this
    have hQ := h.2.2.2.2.2.1.2 q hp
    obtain ⟨t, ht, hWp⟩ := hw.pg hp
    have hv := hw.v ht
    have l20 := hWp.1
    have l9 := hWp.2.1
    refine j_aload_n (pc := 0) dX12_beyond_0 rfl ?_
    refine j_aload_n (pc := 1) dX12_beyond_1 rfl ?_
    refine j_getIv (pc := 2) dX12_beyond_2 f_X12_289 (Or.inr rfl) hM.1 (hto) ?_
    refine j_if_eq (pc := 5) (tgt := 22) dX12_beyond_5 (by decide) (fun h5 => absurd h5 (by decide)) (fun h5 => ?_)
    refine j_iload_n (pc := 8) dX12_beyond_8 rfl ?_
    refine j_i2l (pc := 9) dX12_beyond_9 ?_
    refine j_lconst (pc := 10) (v := 0) dX12_beyond_10 (by decide) ?_
    refine j_lconst (pc := 11) (v := 1) dX12_beyond_11 (by decide) ?_
    refine j_callS (pc := 12) (n_in _ _ _) dX12_beyond_12 l_X12_159 mk_X12_in ms_X12_in (by decide) rfl rfl (Nat.le_of_ble_eq_true rfl) (Nat.le_refl _) (Nat.le_refl _) (fun r T h_1 => ?_)
    obtain ⟨rfl, rfl⟩ := h_1
    rw [show decide (¬ w.toInt64 < 0 ∧ ¬ (1 : Int64) < w.toInt64) = zcl2 2 w from zin_lit (m := 1) (by decide) w]
    refine j_if_eq (pc := 15) (tgt := 22) dX12_beyond_15 (by decide) (fun h15 => ?_) (fun h15 => ?_)
    · refine j_iconst (pc := 22) (v := 0) dX12_beyond_22 (by decide) ?_
      refine j_callS (pc := 23) (n_unlF) dX12_beyond_23 l_X12_312 mk_X12_unless ms_X12_unless (by decide) rfl rfl (Nat.le_of_ble_eq_true rfl) (Nat.le_refl _) (Nat.le_refl _) (fun r T h_1 => ?_)
      obtain ⟨rfl, rfl⟩ := h_1
      refine j_callV (pc := 26) (t := 12) (n_rf1 hM) dX12_beyond_26 l_X12_256 mk_X12_isRefused mv_X12_isRefused (by decide) rfl hM.1 (by decide) rfl rfl (Nat.le_of_ble_eq_true rfl) (Nat.le_refl _) (Nat.le_refl _) (fun r T h_1 => ?_)
      obtain ⟨rfl, rfl⟩ := h_1
      refine j_if_eq (pc := 29) (tgt := 36) dX12_beyond_29 (by decide) (fun h29 => absurd h29 (by decide)) (fun h29 => ?_)
      refine j_iconst (pc := 32) (v := (-1)) dX12_beyond_32 (by decide) ?_
      refine j_goto (pc := 33) (tgt := 42) dX12_beyond_33 (by decide) ?_
      refine j_iret (pc := 42) dX12_beyond_42 rfl ?_
      exact m_ref h (n := 1) (by decide) (by simp only [q_beyond, hp]; rw [if_neg (bnf (zbi_eq0.mp h15))])
    · refine j_iconst (pc := 18) (v := 1) dX12_beyond_18 (by decide) ?_
      refine j_goto (pc := 19) (tgt := 23) dX12_beyond_19 (by decide) ?_
      refine j_callS (pc := 23) (n_unlT) dX12_beyond_23 l_X12_312 mk_X12_unless ms_X12_unless (by decide) rfl rfl (Nat.le_of_ble_eq_true rfl) (Nat.le_refl _) (Nat.le_refl _) (fun r T h_1 => ?_)
      obtain ⟨rfl, rfl⟩ := h_1
      refine j_callV (pc := 26) (t := 12) (n_ok hM) dX12_beyond_26 l_X12_256 mk_X12_isRefused mv_X12_isRefused (by decide) rfl hM.1 (by decide) rfl rfl (Nat.le_of_ble_eq_true rfl) (Nat.le_refl _) (Nat.le_refl _) (fun r T h_1 => ?_)
      obtain ⟨rfl, rfl⟩ := h_1
      refine j_if_eq (pc := 29) (tgt := 36) dX12_beyond_29 (by decide) (fun h29 => ?_) (fun h29 => absurd rfl h29)
      rcases (show w = 0 ∨ w = 1 from by
        obtain ⟨j, hj, rfl⟩ := zcl2_t (m := 2) (by decide) (zbi_ne0 h15)
        match j, hj with
        | 0, _ => exact Or.inl rfl
        | 1, _ => exact Or.inr rfl) with rfl | rfl
      · refine j_aload_n (pc := 36) dX12_beyond_36 rfl ?_
        refine j_getPv (pc := 37) dX12_beyond_37 f_X12_93 (Or.inr ⟨_, rfl⟩) hM.1 (mp_beyonds hM) ?_
        refine j_iload_n (pc := 40) dX12_beyond_40 rfl ?_
        refine j_ialdn (i := 0) (pc := 41) dX12_beyond_41 (mk_beyonds hM) (by omega) (Nat.le_of_ble_eq_true rfl) (hQ.1.2.2.2.2.2.1) ?_
        refine j_iret (pc := 42) dX12_beyond_42 rfl ?_
        exact m_ans h (by simp only [q_beyond, hp]; rw [if_pos (by decide)]; rfl)
      · refine j_aload_n (pc := 36) dX12_beyond_36 rfl ?_
        refine j_getPv (pc := 37) dX12_beyond_37 f_X12_93 (Or.inr ⟨_, rfl⟩) hM.1 (mp_beyonds hM) ?_
        refine j_iload_n (pc := 40) dX12_beyond_40 rfl ?_
        refine j_ialdn (i := 1) (pc := 41) dX12_beyond_41 (mk_beyonds hM) (by omega) (Nat.le_of_ble_eq_true rfl) (hQ.1.2.2.2.2.2.2) ?_
        refine j_iret (pc := 42) dX12_beyond_42 rfl ?_
        exact m_ans h (by simp only [q_beyond, hp]; rw [if_pos (by decide)]; rfl)
