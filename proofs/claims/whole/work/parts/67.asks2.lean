set_option maxRecDepth 20000 in
set_option maxHeartbeats 4000000 in
theorem p_passes {E : zE} {S : zM} {s : zST} {n : Nat} (h : zCI S s) (hw : zWF n s) (x : Int32) : zSp E 3 0 0 mX11_passes cX11_passes [zR 1, zI x] S (fun r T => r = some (zI (q_passes s x).1) ∧ zCI T (q_passes s x).2 ∧ zQF S T) := by
  refine zSp.of (by decide) rfl (Nat.le_of_ble_eq_true rfl) rfl ?_
  obtain ⟨h0, hF, hG4, hi, hV, hP, hR, hT⟩ := _root_.id h
  have k1 := h0.1
  cases hz : zrow s x with
  | false =>
    have e : q_passes s x = zrf s 1 := by
      unfold q_passes
      split
      · rfl
      · rename_i t ht
        rw [zrow_s ht] at hz
        simp [hz]
    refine j_aload_n (pc := 0) dX11_passes_0 rfl ?_
    refine j_iload_n (pc := 1) dX11_passes_1 rfl ?_
    refine j_callV (pc := 2) (t := 11) (c_isRow h _) dX11_passes_2 l_X11_151 mk_X11_isRow mv_X11_isRow (by decide) rfl (by assumption) (by decide) rfl rfl (Nat.le_of_ble_eq_true rfl) (Nat.le_refl _) (Nat.le_refl _) (fun r T h_1 => ?_)
    obtain ⟨rfl, rfl⟩ := h_1
    rw [hz]
    refine j_if_ne (pc := 5) (tgt := 14) dX11_passes_5 (by decide) (fun h5 => absurd rfl h5) (fun h5 => ?_)
    refine j_aload_n (pc := 8) dX11_passes_8 rfl ?_
    refine j_iconst (pc := 9) (v := 1) dX11_passes_9 (by decide) ?_
    refine j_callV (pc := 10) (t := 11) (c_refused k1 _) dX11_passes_10 l_X11_68 mk_X11_refused mv_X11_refused (by decide) rfl (by assumption) (by decide) rfl rfl (Nat.le_of_ble_eq_true rfl) (Nat.le_refl _) (Nat.le_refl _) (fun r T h_1 => ?_)
    obtain ⟨rfl, rfl⟩ := h_1
    refine j_iret (pc := 13) dX11_passes_13 rfl ?_
    exact q_ref h zQF.rf e
  | true =>
    obtain ⟨t, j, ht, hj, rfl, hjr⟩ := zrow_t hz
    have hjt : zth (tW t).1 (nI j) = true := by rw [zth_nI _ hj]; exact hjr
    have hcl : (nI j).toNatClampNeg = j := nI_clamp (by omega)
    rw [ht] at hT
    obtain ⟨a, p5, a161, ag, hTt, hVI⟩ := hT
    obtain ⟨ka, q2, q3, q4, q5, q6, q1, i7, i8⟩ := hTt.d
    have k6 : zkd S 6 = (11, 0) := by obtain ⟨q, t0, g, h1, h2⟩ := hV.1; exact h1.1.1
    obtain ⟨so, si, sc, ol, hTA, hHi⟩ := hTt
    have hOr := hTA.2.2.1
    have hSv := hTA.2.2.2.1
    have hRo := hTA.2.2.2.2.1
    have hAc := hTA.2.2.2.2.2.1
    have kor := hOr.1.1
    have ksv := hSv.1.1
    have kro := hRo.1
    have kac := hAc.1.1
    have iv := hAc.2.2.1
    have hn : n ≤ 600 := Nat.le_of_lt hw.1
    have hwT := hw.2.2.2
    rw [ht] at hwT
    obtain ⟨hWt, hWp, hWr⟩ := hwT
    refine j_aload_n (pc := 0) dX11_passes_0 rfl ?_
    refine j_iload_n (pc := 1) dX11_passes_1 rfl ?_
    refine j_callV (pc := 2) (t := 11) (c_isRow h _) dX11_passes_2 l_X11_151 mk_X11_isRow mv_X11_isRow (by decide) rfl (by assumption) (by decide) rfl rfl (Nat.le_of_ble_eq_true rfl) (Nat.le_refl _) (Nat.le_refl _) (fun r T h_1 => ?_)
    obtain ⟨rfl, rfl⟩ := h_1
    rw [hz]
    refine j_if_ne (pc := 5) (tgt := 14) dX11_passes_5 (by decide) (fun h5 => ?_) (fun h5 => absurd h5 (by decide))
    refine j_aload_n (pc := 14) dX11_passes_14 rfl ?_
    refine j_aload_n (pc := 15) dX11_passes_15 rfl ?_
    refine j_getPv (pc := 16) dX11_passes_16 f_X11_44 (Or.inl ⟨_, rfl⟩) (by assumption) (p5) ?_
    refine j_getPv (pc := 19) dX11_passes_19 f_X11_294 (Or.inl ⟨_, rfl⟩) (by assumption) (q3) ?_
    refine j_aload_n (pc := 22) dX11_passes_22 rfl ?_
    refine j_getPv (pc := 23) dX11_passes_23 f_X11_44 (Or.inl ⟨_, rfl⟩) (by assumption) (p5) ?_
    refine j_getPv (pc := 26) dX11_passes_26 f_X11_96 (Or.inl ⟨_, rfl⟩) (by assumption) (q4) ?_
    refine j_iload_n (pc := 29) dX11_passes_29 rfl ?_
    refine j_callV (pc := 30) (t := 8) (c_lets hSv hRo hj) dX11_passes_30 l_X11_301 mk_X8_lets mv_X8_lets (by decide) rfl (by assumption) (by decide) rfl rfl (Nat.le_of_ble_eq_true rfl) (Nat.le_refl _) (Nat.le_refl _) (fun r T h_1 => ?_)
    obtain ⟨rfl, rfl⟩ := h_1
    refine j_if_eq (pc := 33) (tgt := 40) dX11_passes_33 (by decide) (fun h33 => ?_) (fun h33 => ?_)
    · refine j_iconst (pc := 40) (v := 0) dX11_passes_40 (by decide) ?_
      refine j_callV (pc := 41) (t := 11) (c_answered k1 _) dX11_passes_41 l_X11_103 mk_X11_answered mv_X11_answered (by decide) rfl (by assumption) (by decide) rfl rfl (Nat.le_of_ble_eq_true rfl) (Nat.le_refl _) (Nat.le_refl _) (fun r T h_1 => ?_)
      obtain ⟨rfl, rfl⟩ := h_1
      refine j_iret (pc := 44) dX11_passes_44 rfl ?_
      exact q_ans h zQF.rf (by simp only [q_passes, ht]; rw [if_pos hjt, zn, hcl, h33])
    · refine j_iconst (pc := 36) (v := 1) dX11_passes_36 (by decide) ?_
      refine j_goto (pc := 37) (tgt := 41) dX11_passes_37 (by decide) ?_
      refine j_callV (pc := 41) (t := 11) (c_answered k1 _) dX11_passes_41 l_X11_103 mk_X11_answered mv_X11_answered (by decide) rfl (by assumption) (by decide) rfl rfl (Nat.le_of_ble_eq_true rfl) (Nat.le_refl _) (Nat.le_refl _) (fun r T h_1 => ?_)
      obtain ⟨rfl, rfl⟩ := h_1
      refine j_iret (pc := 44) dX11_passes_44 rfl ?_
      exact q_ans h zQF.rf (by simp only [q_passes, ht]; rw [if_pos hjt, zn, hcl, zbi_ne0 h33]; rfl)
set_option maxRecDepth 20000 in
set_option maxHeartbeats 4000000 in
theorem p_condition {E : zE} {S : zM} {s : zST} {n : Nat} (h : zCI S s) (hw : zWF n s) (i w : Int32) : zSp E 1 0 0 mX11_condition cX11_condition [zR 1, zI i, zI w] S (fun r T => r = some (zI (q_condition s i w).1) ∧ zCI T (q_condition s i w).2 ∧ zQF S T) := by
  refine zSp.of (by decide) rfl (Nat.le_of_ble_eq_true rfl) rfl ?_
  obtain ⟨h0, hF, hG4, hi, hV, hP, hR, hT⟩ := _root_.id h
  have k1 := h0.1
  cases ht : sT s with
  | none =>
    rw [ht] at hT
    have p5 : zgP S 1 5 = 0 := hT
    refine j_aload_n (pc := 0) dX11_condition_0 rfl ?_
    refine j_getPv (pc := 1) dX11_condition_1 f_X11_44 (Or.inl ⟨_, rfl⟩) (by assumption) (p5) ?_
    refine j_ifnull (pc := 4) (tgt := 34) dX11_condition_4 (by decide) (fun h4 => ?_) (fun h4 => absurd rfl h4)
    refine j_aload_n (pc := 34) dX11_condition_34 rfl ?_
    refine j_iconst (pc := 35) (v := 1) dX11_condition_35 (by decide) ?_
    refine j_callV (pc := 36) (t := 11) (c_refused k1 _) dX11_condition_36 l_X11_68 mk_X11_refused mv_X11_refused (by decide) rfl (by assumption) (by decide) rfl rfl (Nat.le_of_ble_eq_true rfl) (Nat.le_refl _) (Nat.le_refl _) (fun r T h_1 => ?_)
    obtain ⟨rfl, rfl⟩ := h_1
    refine j_iret (pc := 39) dX11_condition_39 rfl ?_
    exact q_ref h zQF.rf (by rw [q_condition, ht])
  | some t =>
    rw [ht] at hT
    obtain ⟨a, p5, a161, ag, hTt, hVI⟩ := hT
    obtain ⟨ka, q2, q3, q4, q5, q6, q1, i7, i8⟩ := hTt.d
    have k6 : zkd S 6 = (11, 0) := by obtain ⟨q, t0, g, h1, h2⟩ := hV.1; exact h1.1.1
    obtain ⟨so, si, sc, ol, hTA, hHi⟩ := hTt
    have hOr := hTA.2.2.1
    have hSv := hTA.2.2.2.1
    have hRo := hTA.2.2.2.2.1
    have hAc := hTA.2.2.2.2.2.1
    have kor := hOr.1.1
    have ksv := hSv.1.1
    have kro := hRo.1
    have kac := hAc.1.1
    have iv := hAc.2.2.1
    have hn : n ≤ 600 := Nat.le_of_lt hw.1
    have hwT := hw.2.2.2
    rw [ht] at hwT
    obtain ⟨hWt, hWp, hWr⟩ := hwT
    have hV2 := hSv.2.2.2.1
    refine j_aload_n (pc := 0) dX11_condition_0 rfl ?_
    refine j_getPv (pc := 1) dX11_condition_1 f_X11_44 (Or.inl ⟨_, rfl⟩) (by assumption) (p5) ?_
    refine j_ifnull (pc := 4) (tgt := 34) dX11_condition_4 (by decide) (fun h4 => absurd h4 (by omega)) (fun h4 => ?_)
    refine j_iload_n (pc := 7) dX11_condition_7 rfl ?_
    refine j_if_lt (pc := 8) (tgt := 34) dX11_condition_8 (by decide) (fun h8 => ?_) (fun h8 => ?_)
    · refine j_aload_n (pc := 34) dX11_condition_34 rfl ?_
      refine j_iconst (pc := 35) (v := 1) dX11_condition_35 (by decide) ?_
      refine j_callV (pc := 36) (t := 11) (c_refused k1 _) dX11_condition_36 l_X11_68 mk_X11_refused mv_X11_refused (by decide) rfl (by assumption) (by decide) rfl rfl (Nat.le_of_ble_eq_true rfl) (Nat.le_refl _) (Nat.le_refl _) (fun r T h_1 => ?_)
      obtain ⟨rfl, rfl⟩ := h_1
      refine j_iret (pc := 39) dX11_condition_39 rfl ?_
      exact q_ref h zQF.rf (by simp only [q_condition, ht]; rw [if_neg (fun q => bnf (zcl2_f1 h8) q.1)])
    · refine j_iload_n (pc := 11) dX11_condition_11 rfl ?_
      refine j_aload_n (pc := 12) dX11_condition_12 rfl ?_
      refine j_getPv (pc := 13) dX11_condition_13 f_X11_44 (Or.inl ⟨_, rfl⟩) (by assumption) (p5) ?_
      refine j_getPv (pc := 16) dX11_condition_16 f_X11_294 (Or.inl ⟨_, rfl⟩) (by assumption) (q3) ?_
      refine j_getIv (pc := 19) dX11_condition_19 f_X11_298 (Or.inl rfl) (by assumption) (hSv.2.2.1) ?_
      refine j_icmp_ge (pc := 22) (tgt := 34) dX11_condition_22 (by decide) (fun h22 => ?_) (fun h22 => ?_)
      · refine j_aload_n (pc := 34) dX11_condition_34 rfl ?_
        refine j_iconst (pc := 35) (v := 1) dX11_condition_35 (by decide) ?_
        refine j_callV (pc := 36) (t := 11) (c_refused k1 _) dX11_condition_36 l_X11_68 mk_X11_refused mv_X11_refused (by decide) rfl (by assumption) (by decide) rfl rfl (Nat.le_of_ble_eq_true rfl) (Nat.le_refl _) (Nat.le_refl _) (fun r T h_1 => ?_)
        obtain ⟨rfl, rfl⟩ := h_1
        refine j_iret (pc := 39) dX11_condition_39 rfl ?_
        exact q_ref h zQF.rf (by simp only [q_condition, ht]; rw [if_neg (fun q => bnf (zcl2_f2 h22) q.1)])
      · refine j_iload_n (pc := 25) dX11_condition_25 rfl ?_
        refine j_if_lt (pc := 26) (tgt := 34) dX11_condition_26 (by decide) (fun h26 => ?_) (fun h26 => ?_)
        · refine j_aload_n (pc := 34) dX11_condition_34 rfl ?_
          refine j_iconst (pc := 35) (v := 1) dX11_condition_35 (by decide) ?_
          refine j_callV (pc := 36) (t := 11) (c_refused k1 _) dX11_condition_36 l_X11_68 mk_X11_refused mv_X11_refused (by decide) rfl (by assumption) (by decide) rfl rfl (Nat.le_of_ble_eq_true rfl) (Nat.le_refl _) (Nat.le_refl _) (fun r T h_1 => ?_)
          obtain ⟨rfl, rfl⟩ := h_1
          refine j_iret (pc := 39) dX11_condition_39 rfl ?_
          exact q_ref h zQF.rf (by simp only [q_condition, ht]; rw [if_neg (fun q => bnf (zcl2_f1 h26) q.2)])
        · refine j_iload_n (pc := 29) dX11_condition_29 rfl ?_
          refine j_iconst (pc := 30) (v := 1) dX11_condition_30 (by decide) ?_
          refine j_icmp_le (pc := 31) (tgt := 40) dX11_condition_31 (by decide) (fun h31 => ?_) (fun h31 => ?_)
          · have hi2 : zcl2 (tV t).length i = true := decide_eq_true (p := ¬ i < 0 ∧ ¬ nI (tV t).length ≤ i) ⟨h8, h22⟩
            have hw2 : zcl2 2 w = true := decide_eq_true (p := ¬ w < 0 ∧ ¬ nI 2 ≤ w) ⟨h26, Int32.not_le.mpr (Int32.lt_of_le_of_lt h31 (by decide))⟩
            obtain ⟨j, hj, rfl⟩ := zcl2_t (by omega) hi2
            have hcl : (nI j).toNatClampNeg = j := nI_clamp (by omega)
            obtain ⟨o1, o2, o3, o4, o5⟩ := hSv.2.2.2.2 j _ (gD (0, false, 0, 0) hj)
            have kc := hSv.1.2.1
            have kd := hSv.1.2.2.2.1
            refine j_aload_n (pc := 40) dX11_condition_40 rfl ?_
            refine j_iload_n (pc := 41) dX11_condition_41 rfl ?_
            refine j_if_ne (pc := 42) (tgt := 60) dX11_condition_42 (by decide) (fun h42 => ?_) (fun h42 => ?_)
            · refine j_aload_n (pc := 60) dX11_condition_60 rfl ?_
              refine j_getPv (pc := 61) dX11_condition_61 f_X11_44 (Or.inl ⟨_, rfl⟩) (by assumption) (p5) ?_
              refine j_getPv (pc := 64) dX11_condition_64 f_X11_294 (Or.inl ⟨_, rfl⟩) (by assumption) (q3) ?_
              refine j_getPv (pc := 67) dX11_condition_67 f_X11_306 (Or.inr ⟨_, rfl⟩) (by assumption) (hSv.2.1.2.2.1) ?_
              refine j_iload_n (pc := 70) dX11_condition_70 rfl ?_
              refine j_ialdn (pc := 71) dX11_condition_71 kd (by omega) (by decide) o3 ?_
              refine j_callV (pc := 72) (t := 11) (c_answered k1 _) dX11_condition_72 l_X11_103 mk_X11_answered mv_X11_answered (by decide) rfl (by assumption) (by decide) rfl rfl (Nat.le_of_ble_eq_true rfl) (Nat.le_refl _) (Nat.le_refl _) (fun r T h_1 => ?_)
              obtain ⟨rfl, rfl⟩ := h_1
              refine j_iret (pc := 75) dX11_condition_75 rfl ?_
              exact q_ans h zQF.rf (by simp only [q_condition, ht]; rw [if_pos ⟨hi2, hw2⟩, if_neg h42, zn, hcl])
            · refine j_aload_n (pc := 45) dX11_condition_45 rfl ?_
              refine j_getPv (pc := 46) dX11_condition_46 f_X11_44 (Or.inl ⟨_, rfl⟩) (by assumption) (p5) ?_
              refine j_getPv (pc := 49) dX11_condition_49 f_X11_294 (Or.inl ⟨_, rfl⟩) (by assumption) (q3) ?_
              refine j_getPv (pc := 52) dX11_condition_52 f_X11_305 (Or.inr ⟨_, rfl⟩) (by assumption) (hSv.2.1.1) ?_
              refine j_iload_n (pc := 55) dX11_condition_55 rfl ?_
              refine j_ialdn (pc := 56) dX11_condition_56 kc (by omega) (by decide) o1 ?_
              refine j_goto (pc := 57) (tgt := 72) dX11_condition_57 (by decide) ?_
              refine j_callV (pc := 72) (t := 11) (c_answered k1 _) dX11_condition_72 l_X11_103 mk_X11_answered mv_X11_answered (by decide) rfl (by assumption) (by decide) rfl rfl (Nat.le_of_ble_eq_true rfl) (Nat.le_refl _) (Nat.le_refl _) (fun r T h_1 => ?_)
              obtain ⟨rfl, rfl⟩ := h_1
              refine j_iret (pc := 75) dX11_condition_75 rfl ?_
              exact q_ans h zQF.rf (by simp only [q_condition, ht]; rw [if_pos ⟨hi2, hw2⟩, if_pos h42, zn, hcl])
          · refine j_aload_n (pc := 34) dX11_condition_34 rfl ?_
            refine j_iconst (pc := 35) (v := 1) dX11_condition_35 (by decide) ?_
            refine j_callV (pc := 36) (t := 11) (c_refused k1 _) dX11_condition_36 l_X11_68 mk_X11_refused mv_X11_refused (by decide) rfl (by assumption) (by decide) rfl rfl (Nat.le_of_ble_eq_true rfl) (Nat.le_refl _) (Nat.le_refl _) (fun r T h_1 => ?_)
            obtain ⟨rfl, rfl⟩ := h_1
            refine j_iret (pc := 39) dX11_condition_39 rfl ?_
            exact q_ref h zQF.rf (by simp only [q_condition, ht]; rw [if_neg (fun q => bnf (zcl2_f2 (m := 2) (by rcases pk_ix w (n := 2) (by decide) with g | g | ⟨k, hk, rfl⟩; exact absurd g h26; exact g; exact absurd (nI_le (b := 1) (by omega) (by decide)) h31)) q.2)])
theorem zcv_t {v : Nat} {x : Int32} (hv : v < 2 ^ 20) (h : zcv v x = true) : ∃ w, x = nI w ∧ w ≤ v ∧ v ≤ w + 40 := by
  have h2 := of_decide_eq_true h
  rcases pk_ix x (n := v + 1) (by omega) with hx | hx | ⟨j, hj, rfl⟩
  · exact absurd (Int32.lt_of_le_of_lt h2.1 hx) (nI_pos (by omega))
  · exact absurd (Int32.le_trans hx h2.2) (nI_ge (Nat.lt_succ_self v) (by omega))
  · refine ⟨j, rfl, by omega, ?_⟩
    have : v - 40 ≤ j := Nat.le_of_not_lt (fun q => nI_ge q (by omega) h2.1)
    omega

set_option maxRecDepth 20000 in
set_option maxHeartbeats 4000000 in
theorem p_was {E : zE} {S : zM} {s : zST} {n : Nat} (h : zCI S s) (hw : zWF n s) (v x c : Int32) : zSp E 5 0 0 mX11_was cX11_was [zR 1, zI v, zI x, zI c] S (fun r T => r = some (zL (q_was s v x c).1) ∧ zCI T (q_was s v x c).2 ∧ zQF S T) := by
  refine zSp.of (by decide) rfl (Nat.le_of_ble_eq_true rfl) rfl ?_
  obtain ⟨h0, hF, hG4, hi, hV, hP, hR, hT⟩ := _root_.id h
  have k1 := h0.1
  cases ht : sT s with
  | none =>
    rw [ht] at hT
    have p5 : zgP S 1 5 = 0 := hT
    refine j_aload_n (pc := 0) dX11_was_0 rfl ?_
    refine j_getPv (pc := 1) dX11_was_1 f_X11_44 (Or.inl ⟨_, rfl⟩) (by assumption) (p5) ?_
    refine j_ifnonnull (pc := 4) (tgt := 13) dX11_was_4 (by decide) (fun h4 => absurd rfl h4) (fun h4 => ?_)
    refine j_aload_n (pc := 7) dX11_was_7 rfl ?_
    refine j_iconst (pc := 8) (v := 1) dX11_was_8 (by decide) ?_
    refine j_callV (pc := 9) (t := 11) (c_refusedV k1 _) dX11_was_9 l_X11_154 mk_X11_refusedValue mv_X11_refusedValue (by decide) rfl (by assumption) (by decide) rfl rfl (Nat.le_of_ble_eq_true rfl) (Nat.le_refl _) (Nat.le_refl _) (fun r T h_1 => ?_)
    obtain ⟨rfl, rfl⟩ := h_1
    refine j_lret (pc := 12) dX11_was_12 rfl ?_
    exact q_refL h zQF.rf (by rw [q_was, ht])
  | some t =>
    rw [ht] at hT
    obtain ⟨a, p5, a161, ag, hTt, hVI⟩ := hT
    obtain ⟨ka, q2, q3, q4, q5, q6, q1, i7, i8⟩ := hTt.d
    have k6 : zkd S 6 = (11, 0) := by obtain ⟨q, t0, g, h1, h2⟩ := hV.1; exact h1.1.1
    obtain ⟨so, si, sc, ol, hTA, hHi⟩ := hTt
    have hOr := hTA.2.2.1
    have hSv := hTA.2.2.2.1
    have hRo := hTA.2.2.2.2.1
    have hAc := hTA.2.2.2.2.2.1
    have kor := hOr.1.1
    have ksv := hSv.1.1
    have kro := hRo.1
    have kac := hAc.1.1
    have iv := hAc.2.2.1
    have hn : n ≤ 600 := Nat.le_of_lt hw.1
    have hwT := hw.2.2.2
    rw [ht] at hwT
    obtain ⟨hWt, hWp, hWr⟩ := hwT
    have hv600 := hWt.2.2.2.2.2.1.1
    refine j_aload_n (pc := 0) dX11_was_0 rfl ?_
    refine j_getPv (pc := 1) dX11_was_1 f_X11_44 (Or.inl ⟨_, rfl⟩) (by assumption) (p5) ?_
    refine j_ifnonnull (pc := 4) (tgt := 13) dX11_was_4 (by decide) (fun h4 => ?_) (fun h4 => absurd h4 (by omega))
    refine j_aload_n (pc := 13) dX11_was_13 rfl ?_
    refine j_getPv (pc := 14) dX11_was_14 f_X11_44 (Or.inl ⟨_, rfl⟩) (by assumption) (p5) ?_
    refine j_getPv (pc := 17) dX11_was_17 f_X11_119 (Or.inl ⟨_, rfl⟩) (by assumption) (q5) ?_
    refine j_iload_n (pc := 20) dX11_was_20 rfl ?_
    refine j_callV (pc := 21) (t := 0) (c_canView hAc v) dX11_was_21 l_X11_166 mk_X0_canView mv_X0_canView (by decide) rfl (by assumption) (by decide) rfl rfl (Nat.le_of_ble_eq_true rfl) (Nat.le_refl _) (Nat.le_refl _) (fun r T h_1 => ?_)
    obtain ⟨rfl, rfl⟩ := h_1
    refine j_if_ne (pc := 24) (tgt := 34) dX11_was_24 (by decide) (fun h24 => ?_) (fun h24 => ?_)
    · refine j_aload_n (pc := 34) dX11_was_34 rfl ?_
      refine j_iload_n (pc := 35) dX11_was_35 rfl ?_
      refine j_callV (pc := 36) (t := 11) (c_isColumn h c) dX11_was_36 l_X11_135 mk_X11_isColumn mv_X11_isColumn (by decide) rfl (by assumption) (by decide) rfl rfl (Nat.le_of_ble_eq_true rfl) (Nat.le_refl _) (Nat.le_refl _) (fun r T h_1 => ?_)
      obtain ⟨rfl, rfl⟩ := h_1
      have hzc := zcol_s ht c
      refine j_if_ne (pc := 39) (tgt := 48) dX11_was_39 (by decide) (fun h39 => ?_) (fun h39 => ?_)
      · obtain ⟨w, rfl, hw1, hw2⟩ := zcv_t (by omega) (zbi_ne0 h24)
        obtain ⟨t2, jc, ht2, hjc, rfl, hK4⟩ := zcol_t hw (zbi_ne0 h39)
        rw [ht] at ht2
        cases ht2
        have hcw : (nI w).toNatClampNeg = w := nI_clamp (by omega)
        have hcc : (nI jc).toNatClampNeg = jc := nI_clamp (by omega)
        rw [zbi_ne0 h39] at hzc
        refine j_aload_n (pc := 48) dX11_was_48 rfl ?_
        refine j_getPv (pc := 49) dX11_was_49 f_X11_26 (Or.inl ⟨_, rfl⟩) (by assumption) (h0.2.1.2.2.1) ?_
        refine j_aload_n (pc := 52) dX11_was_52 rfl ?_
        refine j_getPv (pc := 53) dX11_was_53 f_X11_44 (Or.inl ⟨_, rfl⟩) (by assumption) (p5) ?_
        refine j_iload_n (pc := 56) dX11_was_56 rfl ?_
        refine j_callV (pc := 57) (t := 10) (c_showS h ht hWt hn p5 hw1 hw2) dX11_was_57 l_X11_169 mk_X10_show mv_X10_show (by decide) rfl (by assumption) (by decide) rfl rfl (Nat.le_of_ble_eq_true rfl) (Nat.le_refl _) (Nat.le_refl _) (fun r T h_1 => ?_)
        obtain ⟨rfl, h2, hC, -, hG⟩ := h_1
        have k11 := h2.1.1
        have k61 := hC.sh.1
        obtain ⟨pr, t', gr, eqt, hRr⟩ := hC.rows
        rw [eqt.1] at hRr
        have k7 := hRr.1
        refine j_aload_n (pc := 60) dX11_was_60 rfl ?_
        refine j_getPv (pc := 61) dX11_was_61 f_X11_26 (Or.inl ⟨_, rfl⟩) (by assumption) (h2.1.2.1.2.2.1) ?_
        refine j_getPv (pc := 64) dX11_was_64 f_X11_173 (Or.inl ⟨_, rfl⟩) (by assumption) (pr) ?_
        refine j_iload_n (pc := 67) dX11_was_67 rfl ?_
        refine j_callV (pc := 68) (t := 7) (c_has hRr x) dX11_was_68 l_X11_174 mk_X7_has mv_X7_has (by decide) rfl (by assumption) (by decide) rfl rfl (Nat.le_of_ble_eq_true rfl) (Nat.le_refl _) (Nat.le_refl _) (fun r T h_1 => ?_)
        obtain ⟨rfl, rfl⟩ := h_1
        refine j_if_ne (pc := 71) (tgt := 80) dX11_was_71 (by decide) (fun h71 => ?_) (fun h71 => ?_)
        · obtain ⟨j, hj, rfl, hjr⟩ : ∃ j, j < 64 ∧ x = nI j ∧ (tH t w).1 j = true := by
            have hx := zbi_ne0 h71
            rcases pk_ix x (n := 64) (by decide) with g | g | ⟨j, hj, rfl⟩
            · rw [zth, decide_eq_false (fun q => q.1 g)] at hx
              cases hx
            · rw [zth, decide_eq_false (fun q => q.2 g)] at hx
              cases hx
            · exact ⟨j, hj, rfl, by rwa [zth_nI _ hj] at hx⟩
          refine j_aload_n (pc := 80) dX11_was_80 rfl ?_
          refine j_aload_n (pc := 81) dX11_was_81 rfl ?_
          refine j_getPv (pc := 82) dX11_was_82 f_X11_26 (Or.inl ⟨_, rfl⟩) (by assumption) (h2.1.2.1.2.2.1) ?_
          refine j_getPv (pc := 85) dX11_was_85 f_X11_173 (Or.inl ⟨_, rfl⟩) (by assumption) (pr) ?_
          refine j_iload_n (pc := 88) dX11_was_88 rfl ?_
          refine j_iload_n (pc := 89) dX11_was_89 rfl ?_
          refine j_callV (pc := 90) (t := 7) (c_read hRr hj (show jc < 4 by omega)) dX11_was_90 l_X11_158 mk_X7_read mv_X7_read (by decide) rfl (by assumption) (by decide) rfl rfl (Nat.le_of_ble_eq_true rfl) (Nat.le_refl _) (Nat.le_refl _) (fun r T h_1 => ?_)
          obtain ⟨rfl, rfl⟩ := h_1
          refine j_callV (pc := 93) (t := 11) (c_answeredV k11 _) dX11_was_93 l_X11_162 mk_X11_answeredValue mv_X11_answeredValue (by decide) rfl (by assumption) (by decide) rfl rfl (Nat.le_of_ble_eq_true rfl) (Nat.le_refl _) (Nat.le_refl _) (fun r T h_1 => ?_)
          obtain ⟨rfl, rfl⟩ := h_1
          refine j_lret (pc := 96) dX11_was_96 rfl ?_
          exact q_ansL h2 hG.q (by simp only [q_was, ht]; rw [if_neg (fun q => absurd (zbi_eq0.mpr q) h24), zn, hcw, if_pos ⟨hzc.symm, zbi_ne0 h71⟩]; simp only [zn, hcc, nI_clamp (show j < 2 ^ 31 by omega)]; rw [eqt.2 j jc hjr])
        · refine j_aload_n (pc := 74) dX11_was_74 rfl ?_
          refine j_iconst (pc := 75) (v := 1) dX11_was_75 (by decide) ?_
          refine j_callV (pc := 76) (t := 11) (c_refusedV k11 _) dX11_was_76 l_X11_154 mk_X11_refusedValue mv_X11_refusedValue (by decide) rfl (by assumption) (by decide) rfl rfl (Nat.le_of_ble_eq_true rfl) (Nat.le_refl _) (Nat.le_refl _) (fun r T h_1 => ?_)
          obtain ⟨rfl, rfl⟩ := h_1
          refine j_lret (pc := 79) dX11_was_79 rfl ?_
          exact q_refL h2 hG.q (by simp only [q_was, ht]; rw [if_neg (fun q => absurd (zbi_eq0.mpr q) h24), zn, hcw, if_neg (fun q => bnf (zbi_eq0.mp h71) q.2)])
      · refine j_aload_n (pc := 42) dX11_was_42 rfl ?_
        refine j_iconst (pc := 43) (v := 1) dX11_was_43 (by decide) ?_
        refine j_callV (pc := 44) (t := 11) (c_refusedV k1 _) dX11_was_44 l_X11_154 mk_X11_refusedValue mv_X11_refusedValue (by decide) rfl (by assumption) (by decide) rfl rfl (Nat.le_of_ble_eq_true rfl) (Nat.le_refl _) (Nat.le_refl _) (fun r T h_1 => ?_)
        obtain ⟨rfl, rfl⟩ := h_1
        refine j_lret (pc := 47) dX11_was_47 rfl ?_
        rw [zbi_eq0.mp h39] at hzc
        exact q_refL h zQF.rf (by simp only [q_was, ht]; rw [if_neg (fun q => absurd (zbi_eq0.mpr q) h24), if_neg (fun q => bnf hzc.symm q.1)])
    · refine j_aload_n (pc := 27) dX11_was_27 rfl ?_
      refine j_bipush (pc := 28) (v := 8) dX11_was_28 (by decide) ?_
      refine j_callV (pc := 30) (t := 11) (c_refusedV k1 _) dX11_was_30 l_X11_154 mk_X11_refusedValue mv_X11_refusedValue (by decide) rfl (by assumption) (by decide) rfl rfl (Nat.le_of_ble_eq_true rfl) (Nat.le_refl _) (Nat.le_refl _) (fun r T h_1 => ?_)
      obtain ⟨rfl, rfl⟩ := h_1
      refine j_lret (pc := 33) dX11_was_33 rfl ?_
      exact q_refL h zQF.rf (by simp only [q_was, ht]; rw [if_pos (zbi_eq0.mp h24)])
set_option maxRecDepth 20000 in
set_option maxHeartbeats 4000000 in
theorem p_ranked {E : zE} {S : zM} {s : zST} {n : Nat} (h : zCI S s) (hw : zWF n s) (k : Int32) : zSp E 5 0 0 mX11_ranked cX11_ranked [zR 1, zI k] S (fun r T => r = some (zI (q_ranked s k).1) ∧ zCI T (q_ranked s k).2 ∧ zQF S T) := by
  refine zSp.of (by decide) rfl (Nat.le_of_ble_eq_true rfl) rfl ?_
  obtain ⟨h0, hF, hG4, hi, hV, hP, hR, hT⟩ := _root_.id h
  have k1 := h0.1
  cases ht : sT s with
  | none =>
    rw [ht] at hT
    have p5 : zgP S 1 5 = 0 := hT
    refine j_aload_n (pc := 0) dX11_ranked_0 rfl ?_
    refine j_getPv (pc := 1) dX11_ranked_1 f_X11_44 (Or.inl ⟨_, rfl⟩) (by assumption) (p5) ?_
    refine j_ifnull (pc := 4) (tgt := 25) dX11_ranked_4 (by decide) (fun h4 => ?_) (fun h4 => absurd rfl h4)
    refine j_aload_n (pc := 25) dX11_ranked_25 rfl ?_
    refine j_iconst (pc := 26) (v := 1) dX11_ranked_26 (by decide) ?_
    refine j_callV (pc := 27) (t := 11) (c_refused k1 _) dX11_ranked_27 l_X11_68 mk_X11_refused mv_X11_refused (by decide) rfl (by assumption) (by decide) rfl rfl (Nat.le_of_ble_eq_true rfl) (Nat.le_refl _) (Nat.le_refl _) (fun r T h_1 => ?_)
    obtain ⟨rfl, rfl⟩ := h_1
    refine j_iret (pc := 30) dX11_ranked_30 rfl ?_
    exact q_ref h zQF.rf (by rw [q_ranked, ht])
  | some t =>
    rw [ht] at hT
    obtain ⟨a, p5, a161, ag, hTt, hVI⟩ := hT
    obtain ⟨ka, q2, q3, q4, q5, q6, q1, i7, i8⟩ := hTt.d
    have k6 : zkd S 6 = (11, 0) := by obtain ⟨q, t0, g, h1, h2⟩ := hV.1; exact h1.1.1
    obtain ⟨so, si, sc, ol, hTA, hHi⟩ := hTt
    have hOr := hTA.2.2.1
    have hSv := hTA.2.2.2.1
    have hRo := hTA.2.2.2.2.1
    have hAc := hTA.2.2.2.2.2.1
    have kor := hOr.1.1
    have ksv := hSv.1.1
    have kro := hRo.1
    have kac := hAc.1.1
    have iv := hAc.2.2.1
    have hn : n ≤ 600 := Nat.le_of_lt hw.1
    have hwT := hw.2.2.2
    rw [ht] at hwT
    obtain ⟨hWt, hWp, hWr⟩ := hwT
    have h40 : fb_ct (tW t).1 64 ≤ 40 := (hWt.2.2.2.2.1.2 (tv t) (Nat.le_refl _)).2.1
    refine j_aload_n (pc := 0) dX11_ranked_0 rfl ?_
    refine j_getPv (pc := 1) dX11_ranked_1 f_X11_44 (Or.inl ⟨_, rfl⟩) (by assumption) (p5) ?_
    refine j_ifnull (pc := 4) (tgt := 25) dX11_ranked_4 (by decide) (fun h4 => absurd h4 (by omega)) (fun h4 => ?_)
    refine j_iload_n (pc := 7) dX11_ranked_7 rfl ?_
    refine j_if_lt (pc := 8) (tgt := 25) dX11_ranked_8 (by decide) (fun h8 => ?_) (fun h8 => ?_)
    · refine j_aload_n (pc := 25) dX11_ranked_25 rfl ?_
      refine j_iconst (pc := 26) (v := 1) dX11_ranked_26 (by decide) ?_
      refine j_callV (pc := 27) (t := 11) (c_refused k1 _) dX11_ranked_27 l_X11_68 mk_X11_refused mv_X11_refused (by decide) rfl (by assumption) (by decide) rfl rfl (Nat.le_of_ble_eq_true rfl) (Nat.le_refl _) (Nat.le_refl _) (fun r T h_1 => ?_)
      obtain ⟨rfl, rfl⟩ := h_1
      refine j_iret (pc := 30) dX11_ranked_30 rfl ?_
      exact q_ref h zQF.rf (by simp only [q_ranked, ht]; rw [if_neg (bnf (zcl2_f1 h8))])
    · refine j_iload_n (pc := 11) dX11_ranked_11 rfl ?_
      refine j_aload_n (pc := 12) dX11_ranked_12 rfl ?_
      refine j_getPv (pc := 13) dX11_ranked_13 f_X11_44 (Or.inl ⟨_, rfl⟩) (by assumption) (p5) ?_
      refine j_getPv (pc := 16) dX11_ranked_16 f_X11_96 (Or.inl ⟨_, rfl⟩) (by assumption) (q4) ?_
      refine j_getIv (pc := 19) dX11_ranked_19 f_X11_100 (Or.inl rfl) (by assumption) (hRo.2.2.2.2.2.2.1) ?_
      refine j_icmp_lt (pc := 22) (tgt := 31) dX11_ranked_22 (by decide) (fun h22 => ?_) (fun h22 => ?_)
      · refine j_aload_n (pc := 31) dX11_ranked_31 rfl ?_
        refine j_getPv (pc := 32) dX11_ranked_32 f_X11_26 (Or.inl ⟨_, rfl⟩) (by assumption) (h0.2.1.2.2.1) ?_
        refine j_aload_n (pc := 35) dX11_ranked_35 rfl ?_
        refine j_getPv (pc := 36) dX11_ranked_36 f_X11_44 (Or.inl ⟨_, rfl⟩) (by assumption) (p5) ?_
        refine j_aload_n (pc := 39) dX11_ranked_39 rfl ?_
        refine j_getPv (pc := 40) dX11_ranked_40 f_X11_44 (Or.inl ⟨_, rfl⟩) (by assumption) (p5) ?_
        refine j_getPv (pc := 43) dX11_ranked_43 f_X11_119 (Or.inl ⟨_, rfl⟩) (by assumption) (q5) ?_
        refine j_getIv (pc := 46) dX11_ranked_46 f_X11_123 (Or.inl rfl) (by assumption) (iv) ?_
        refine j_callV (pc := 49) (t := 10) (c_showS h ht hWt hn p5 (Nat.le_refl _) (Nat.le_add_right _ _)) dX11_ranked_49 l_X11_169 mk_X10_show mv_X10_show (by decide) rfl (by assumption) (by decide) rfl rfl (Nat.le_of_ble_eq_true rfl) (Nat.le_refl _) (Nat.le_refl _) (fun r T h_1 => ?_)
        obtain ⟨rfl, h2, hC, -, hG⟩ := h_1
        have k11 := h2.1.1
        have k61 := hC.sh.1
        have k10 := hC.sh.2.1
        have hi2 : zcl2 (fb_ct (tW t).1 64) k = true := decide_eq_true (p := ¬ k < 0 ∧ ¬ nI (fb_ct (tW t).1 64) ≤ k) ⟨h8, Int32.not_le.mpr h22⟩
        obtain ⟨j, hj, rfl⟩ := zcl2_t (by omega) hi2
        have hcl : (nI j).toNatClampNeg = j := nI_clamp (by omega)
        have hjA : j < (tA t).length := by rw [zsr_len]; exact hj
        obtain ⟨q, kf1, hV1⟩ := hC.v1
        have hq1 := (hV1.2.2 j _ (gD 0 hjA)).1
        have hq2 := hV1.2.1
        refine j_aload_n (pc := 52) dX11_ranked_52 rfl ?_
        refine j_aload_n (pc := 53) dX11_ranked_53 rfl ?_
        refine j_getPv (pc := 54) dX11_ranked_54 f_X11_26 (Or.inl ⟨_, rfl⟩) (by assumption) (h2.1.2.1.2.2.1) ?_
        refine j_getPv (pc := 57) dX11_ranked_57 f_X11_190 (Or.inr ⟨_, rfl⟩) (by assumption) (hC.sh.2.2.2.2.2.1) ?_
        refine j_iload_n (pc := 60) dX11_ranked_60 rfl ?_
        refine j_ialdn (pc := 61) dX11_ranked_61 k10 (by omega) (by decide) hq1 ?_
        refine j_callV (pc := 62) (t := 11) (c_answered k11 _) dX11_ranked_62 l_X11_103 mk_X11_answered mv_X11_answered (by decide) rfl (by assumption) (by decide) rfl rfl (Nat.le_of_ble_eq_true rfl) (Nat.le_refl _) (Nat.le_refl _) (fun r T h_1 => ?_)
        obtain ⟨rfl, rfl⟩ := h_1
        refine j_iret (pc := 65) dX11_ranked_65 rfl ?_
        exact q_ans h2 hG.q (by simp only [q_ranked, ht]; rw [if_pos hi2, zn, hcl])
      · refine j_aload_n (pc := 25) dX11_ranked_25 rfl ?_
        refine j_iconst (pc := 26) (v := 1) dX11_ranked_26 (by decide) ?_
        refine j_callV (pc := 27) (t := 11) (c_refused k1 _) dX11_ranked_27 l_X11_68 mk_X11_refused mv_X11_refused (by decide) rfl (by assumption) (by decide) rfl rfl (Nat.le_of_ble_eq_true rfl) (Nat.le_refl _) (Nat.le_refl _) (fun r T h_1 => ?_)
        obtain ⟨rfl, rfl⟩ := h_1
        refine j_iret (pc := 30) dX11_ranked_30 rfl ?_
        exact q_ref h zQF.rf (by simp only [q_ranked, ht]; rw [if_neg (bnf (zcl2_f2 (Int32.not_lt.mp h22)))])
