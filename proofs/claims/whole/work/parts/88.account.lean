theorem nI_pos2 {n : Nat} (h : 0 < nI n) : 0 < n := by
  rcases Nat.eq_zero_or_pos n with e | e
  · subst e
    exact absurd h (by decide)
  · exact e
set_option maxRecDepth 20000 in
set_option maxHeartbeats 4000000 in
theorem n_isCounted {E : zE} {S : zM} {s : zST} {t : zTB} {n j i : Nat} {y : zRDR} (h : zMO S s) (hw : zWF n s) (ht : sT s = some t) (hj : j < 4) (hy : sR s j = some y) (hi : i < 64) (w : Int32) : zSp E 3 0 0 mX12_isCounted cX12_isCounted [zR 123, zI (nI j), zI w, zI (nI i)] S (fun r T => S = T ∧ r = some (zI (zbi (zct w ((tW t).1 i) (zps (tV t) ((tW t).2 i)) (y.2.2.2.2.2.1 i) (y.2.2.2.2.2.2.1 i) (tc t i))))) := by
  refine zSp.of (by decide) rfl (Nat.le_of_ble_eq_true rfl) rfl ?_
  have hM := h.1
  have hv := hw.v ht
  have hm := h.2.2.2.2.2.2 j hj
  rw [hy] at hm
  obtain ⟨r1, r2, r3, r4, r5, r6, r7⟩ := hm
  have hWr := (hw.t ht).2.2 j y hy
  obtain ⟨ca, hca⟩ := (h.2.2.2.2.1 t ht).2.1
  obtain ⟨ca1, ca2, ca3⟩ := hca i hi
  have htw : zth (tW t).1 (nI i) = (tW t).1 i := zth_nI _ hi
  refine j_aload_n (pc := 0) dX12_isCounted_0 rfl ?_
  refine j_getPv (pc := 1) dX12_isCounted_1 f_X12_117 (Or.inr ⟨_, rfl⟩) hM.1 (mp_sawMany hM) ?_
  refine j_bipush (pc := 4) (v := 64) dX12_isCounted_4 (by decide) ?_
  refine j_iload_n (pc := 6) dX12_isCounted_6 rfl ?_
  refine j_imul (pc := 7) dX12_isCounted_7 ?_
  rw [show (64 : Int32) * nI j = nI (64 * j) from pk_mul 64 _]
  refine j_iload_n (pc := 8) dX12_isCounted_8 rfl ?_
  refine j_iadd (pc := 9) dX12_isCounted_9 ?_
  rw [nI_add]
  refine j_ialdn (pc := 10) dX12_isCounted_10 (mk_sawMany hM) (show 64 * j + i < 256 by omega) (Nat.le_of_ble_eq_true rfl) ((r7 i hi).1) ?_
  refine j_istore (pc := 11) (ls' := [_, _, _, _, _]) dX12_isCounted_11 (by decide) rfl rfl ?_
  refine j_iload_n (pc := 13) dX12_isCounted_13 rfl ?_
  refine j_swC (pc := 14) (k := 0) (tgt := 44) dX12_isCounted_14 (by decide) (by decide) rfl (by decide) (fun h14 => ?_) (fun h14_0 => ?_)
  · refine j_iload (pc := 44) dX12_isCounted_44 rfl ?_
    refine j_iconst (pc := 46) (v := 1) dX12_isCounted_46 (by decide) ?_
    refine j_icmp_ne (pc := 47) (tgt := 54) dX12_isCounted_47 (by decide) (fun h47 => ?_) (fun h47 => ?_)
    · refine j_iconst (pc := 54) (v := 0) dX12_isCounted_54 (by decide) ?_
      refine j_zret (pc := 55) dX12_isCounted_55 rfl (by first | assumption | decide) ?_
      exact ⟨rfl, by rw [h14, zct, if_pos rfl, decide_eq_false h47]; rfl⟩
    · refine j_iconst (pc := 50) (v := 1) dX12_isCounted_50 (by decide) ?_
      refine j_goto (pc := 51) (tgt := 55) dX12_isCounted_51 (by decide) ?_
      refine j_zret (pc := 55) dX12_isCounted_55 rfl (by first | assumption | decide) ?_
      exact ⟨rfl, by rw [h14, zct, if_pos rfl, decide_eq_true h47]; rfl⟩
  refine j_swC (pc := 14) (k := 1) (tgt := 56) dX12_isCounted_14 (by decide) (by decide) rfl (by decide) (fun h14 => ?_) (fun h14_1 => ?_)
  · refine j_iload (pc := 56) dX12_isCounted_56 rfl ?_
    refine j_iconst (pc := 58) (v := 1) dX12_isCounted_58 (by decide) ?_
    refine j_icmp_le (pc := 59) (tgt := 66) dX12_isCounted_59 (by decide) (fun h59 => ?_) (fun h59 => ?_)
    · refine j_iconst (pc := 66) (v := 0) dX12_isCounted_66 (by decide) ?_
      refine j_zret (pc := 67) dX12_isCounted_67 rfl (by first | assumption | decide) ?_
      exact ⟨rfl, by rw [h14, zct, if_neg (by decide), if_pos rfl, decide_eq_false (Int32.not_lt.mpr h59)]; rfl⟩
    · refine j_iconst (pc := 62) (v := 1) dX12_isCounted_62 (by decide) ?_
      refine j_goto (pc := 63) (tgt := 67) dX12_isCounted_63 (by decide) ?_
      refine j_zret (pc := 67) dX12_isCounted_67 rfl (by first | assumption | decide) ?_
      exact ⟨rfl, by rw [h14, zct, if_neg (by decide), if_pos rfl, decide_eq_true (Int32.not_le.mp h59)]; rfl⟩
  refine j_swC (pc := 14) (k := 2) (tgt := 68) dX12_isCounted_14 (by decide) (by decide) rfl (by decide) (fun h14 => ?_) (fun h14_2 => ?_)
  · refine j_iload (pc := 68) dX12_isCounted_68 rfl ?_
    refine j_if_ne (pc := 70) (tgt := 89) dX12_isCounted_70 (by decide) (fun h70 => ?_) (fun h70 => ?_)
    · refine j_iconst (pc := 89) (v := 0) dX12_isCounted_89 (by decide) ?_
      refine j_zret (pc := 90) dX12_isCounted_90 rfl (by first | assumption | decide) ?_
      exact ⟨rfl, by rw [h14, zct, if_neg (by decide), if_neg (by decide), if_pos rfl, decide_eq_false h70, Bool.false_and, Bool.and_false]; rfl⟩
    · refine j_aload_n (pc := 73) dX12_isCounted_73 rfl ?_
      refine j_aload_n (pc := 74) dX12_isCounted_74 rfl ?_
      refine j_getIv (pc := 75) dX12_isCounted_75 f_X12_277 (Or.inl rfl) hM.1 ((h.2.2.2.2.1 t ht).1.2.2.2.1.1) ?_
      refine j_iload_n (pc := 78) dX12_isCounted_78 rfl ?_
      refine j_callV (pc := 79) (t := 12) (n_doesPass h hw ht (Nat.le_refl _) (Nat.le_add_right _ _) hi) dX12_isCounted_79 l_X12_385 mk_X12_doesPass mv_X12_doesPass (by decide) rfl hM.1 (by decide) rfl rfl (Nat.le_of_ble_eq_true rfl) (Nat.le_refl _) (Nat.le_refl _) (fun r T h_1 => ?_)
      obtain ⟨rfl, rfl⟩ := h_1
      rw [htw]
      refine j_if_eq (pc := 82) (tgt := 89) dX12_isCounted_82 (by decide) (fun h82 => ?_) (fun h82 => ?_)
      · refine j_iconst (pc := 89) (v := 0) dX12_isCounted_89 (by decide) ?_
        refine j_zret (pc := 90) dX12_isCounted_90 rfl (by first | assumption | decide) ?_
        have hp := zbi_eq0.mp h82
        exact ⟨rfl, by rw [h14, zct, if_neg (by decide), if_neg (by decide), if_pos rfl, decide_eq_true h70, Bool.true_and, show ((tW t).1 i && zps (tV t) ((tW t).2 i)) = false from hp]; rfl⟩
      · refine j_iconst (pc := 85) (v := 1) dX12_isCounted_85 (by decide) ?_
        refine j_goto (pc := 86) (tgt := 90) dX12_isCounted_86 (by decide) ?_
        refine j_zret (pc := 90) dX12_isCounted_90 rfl (by first | assumption | decide) ?_
        have hp := zbi_ne0 h82
        exact ⟨rfl, by rw [h14, zct, if_neg (by decide), if_neg (by decide), if_pos rfl, decide_eq_true h70, Bool.true_and, show ((tW t).1 i && zps (tV t) ((tW t).2 i)) = true from hp]; rfl⟩
  refine j_swC (pc := 14) (k := 3) (tgt := 91) dX12_isCounted_14 (by decide) (by decide) rfl (by decide) (fun h14 => ?_) (fun h14_3 => ?_)
  · refine j_iload (pc := 91) dX12_isCounted_91 rfl ?_
    refine j_if_le (pc := 93) (tgt := 112) dX12_isCounted_93 (by decide) (fun h93 => ?_) (fun h93 => ?_)
    · refine j_iconst (pc := 112) (v := 0) dX12_isCounted_112 (by decide) ?_
      refine j_zret (pc := 113) dX12_isCounted_113 rfl (by first | assumption | decide) ?_
      exact ⟨rfl, by rw [h14, zct, if_neg (by decide), if_neg (by decide), if_neg (by decide), if_pos rfl, decide_eq_false (Int32.not_lt.mpr h93), Bool.and_false]; rfl⟩
    · refine j_aload_n (pc := 96) dX12_isCounted_96 rfl ?_
      refine j_aload_n (pc := 97) dX12_isCounted_97 rfl ?_
      refine j_getIv (pc := 98) dX12_isCounted_98 f_X12_277 (Or.inl rfl) hM.1 ((h.2.2.2.2.1 t ht).1.2.2.2.1.1) ?_
      refine j_iload_n (pc := 101) dX12_isCounted_101 rfl ?_
      refine j_callV (pc := 102) (t := 12) (n_isThen h ht (Nat.le_refl _) (Nat.le_add_right _ _) (by omega) (nI i)) dX12_isCounted_102 l_X12_305 mk_X12_isThen mv_X12_isThen (by decide) rfl hM.1 (by decide) rfl rfl (Nat.le_of_ble_eq_true rfl) (Nat.le_refl _) (Nat.le_refl _) (fun r T h_1 => ?_)
      obtain ⟨rfl, rfl⟩ := h_1
      rw [htw]
      refine j_if_ne (pc := 105) (tgt := 112) dX12_isCounted_105 (by decide) (fun h105 => ?_) (fun h105 => ?_)
      · refine j_iconst (pc := 112) (v := 0) dX12_isCounted_112 (by decide) ?_
        refine j_zret (pc := 113) dX12_isCounted_113 rfl (by first | assumption | decide) ?_
        exact ⟨rfl, by rw [h14, zct, if_neg (by decide), if_neg (by decide), if_neg (by decide), if_pos rfl, zbi_ne0 h105]; rfl⟩
      · refine j_iconst (pc := 108) (v := 1) dX12_isCounted_108 (by decide) ?_
        refine j_goto (pc := 109) (tgt := 113) dX12_isCounted_109 (by decide) ?_
        refine j_zret (pc := 113) dX12_isCounted_113 rfl (by first | assumption | decide) ?_
        exact ⟨rfl, by rw [h14, zct, if_neg (by decide), if_neg (by decide), if_neg (by decide), if_pos rfl, decide_eq_true (Int32.not_le.mp h93), zbi_eq0.mp h105]; rfl⟩
  refine j_swD (pc := 14) (n := 4) (tgt := 114) dX12_isCounted_14 rfl (fun k hk => by match k, hk with | 0, _ => exact h14_0 | 1, _ => exact h14_1 | 2, _ => exact h14_2 | 3, _ => exact h14_3) (by decide) ?_
  refine j_iload (pc := 114) dX12_isCounted_114 rfl ?_
  refine j_if_le (pc := 116) (tgt := 155) dX12_isCounted_116 (by decide) (fun h116 => ?_) (fun h116 => ?_)
  · refine j_iconst (pc := 155) (v := 0) dX12_isCounted_155 (by decide) ?_
    refine j_zret (pc := 156) dX12_isCounted_156 rfl (by first | assumption | decide) ?_
    exact ⟨rfl, by rw [zct, if_neg h14_0, if_neg h14_1, if_neg h14_2, if_neg h14_3, decide_eq_false (Int32.not_lt.mpr h116), Bool.false_and, Bool.and_false]; rfl⟩
  · refine j_aload_n (pc := 119) dX12_isCounted_119 rfl ?_
    refine j_aload_n (pc := 120) dX12_isCounted_120 rfl ?_
    refine j_getIv (pc := 121) dX12_isCounted_121 f_X12_277 (Or.inl rfl) hM.1 ((h.2.2.2.2.1 t ht).1.2.2.2.1.1) ?_
    refine j_iload_n (pc := 124) dX12_isCounted_124 rfl ?_
    refine j_callV (pc := 125) (t := 12) (n_isThen h ht (Nat.le_refl _) (Nat.le_add_right _ _) (by omega) (nI i)) dX12_isCounted_125 l_X12_305 mk_X12_isThen mv_X12_isThen (by decide) rfl hM.1 (by decide) rfl rfl (Nat.le_of_ble_eq_true rfl) (Nat.le_refl _) (Nat.le_refl _) (fun r T h_1 => ?_)
    obtain ⟨rfl, rfl⟩ := h_1
    rw [htw]
    refine j_if_eq (pc := 128) (tgt := 155) dX12_isCounted_128 (by decide) (fun h128 => ?_) (fun h128 => ?_)
    · refine j_iconst (pc := 155) (v := 0) dX12_isCounted_155 (by decide) ?_
      refine j_zret (pc := 156) dX12_isCounted_156 rfl (by first | assumption | decide) ?_
      exact ⟨rfl, by rw [zct, if_neg h14_0, if_neg h14_1, if_neg h14_2, if_neg h14_3, zbi_eq0.mp h128, Bool.false_and]; rfl⟩
    · have hsg := nI_pos2 (Int32.not_le.mp h116)
      refine j_aload_n (pc := 131) dX12_isCounted_131 rfl ?_
      refine j_getPv (pc := 132) dX12_isCounted_132 f_X12_57 (Or.inr ⟨_, rfl⟩) hM.1 (mp_changedAt hM) ?_
      refine j_iload_n (pc := 135) dX12_isCounted_135 rfl ?_
      refine j_ialdn (pc := 136) dX12_isCounted_136 (mk_changedAt hM) (by omega) (Nat.le_of_ble_eq_true rfl) (ca1) ?_
      refine j_aload_n (pc := 137) dX12_isCounted_137 rfl ?_
      refine j_getPv (pc := 138) dX12_isCounted_138 f_X12_120 (Or.inr ⟨_, rfl⟩) hM.1 (mp_sawAt hM) ?_
      refine j_bipush (pc := 141) (v := 64) dX12_isCounted_141 (by decide) ?_
      refine j_iload_n (pc := 143) dX12_isCounted_143 rfl ?_
      refine j_imul (pc := 144) dX12_isCounted_144 ?_
      rw [show (64 : Int32) * nI j = nI (64 * j) from pk_mul 64 _]
      refine j_iload_n (pc := 145) dX12_isCounted_145 rfl ?_
      refine j_iadd (pc := 146) dX12_isCounted_146 ?_
      rw [nI_add]
      refine j_ialdn (pc := 147) dX12_isCounted_147 (mk_sawAt hM) (show 64 * j + i < 256 by omega) (Nat.le_of_ble_eq_true rfl) ((r7 i hi).2 hsg) ?_
      refine j_icmp_le (pc := 148) (tgt := 155) dX12_isCounted_148 (by decide) (fun h148 => ?_) (fun h148 => ?_)
      · refine j_iconst (pc := 155) (v := 0) dX12_isCounted_155 (by decide) ?_
        refine j_zret (pc := 156) dX12_isCounted_156 rfl (by first | assumption | decide) ?_
        have hlt : decide (nI (y.2.2.2.2.2.2.1 i) < nI (tc t i)) = false := by
          refine decide_eq_false (Int32.not_lt.mpr ?_)
          rcases ca3 with e | ⟨e, -, -⟩
          · rw [← e]
            exact h148
          · rw [e]
            exact nI_le (Nat.zero_le _) (by have := hWr.2.2.2 i; omega)
        exact ⟨rfl, by rw [zct, if_neg h14_0, if_neg h14_1, if_neg h14_2, if_neg h14_3, hlt, Bool.and_false, Bool.and_false]; rfl⟩
      · refine j_iconst (pc := 151) (v := 1) dX12_isCounted_151 (by decide) ?_
        refine j_goto (pc := 152) (tgt := 156) dX12_isCounted_152 (by decide) ?_
        refine j_zret (pc := 156) dX12_isCounted_156 rfl (by first | assumption | decide) ?_
        have hlt : decide (nI (y.2.2.2.2.2.2.1 i) < nI (tc t i)) = true := by
          refine decide_eq_true ?_
          rcases ca3 with e | ⟨-, e, -⟩
          · rw [← e]
            exact Int32.not_le.mp h148
          · exact absurd (nI_le (e j y hj hy hsg) (by have := hWr.2.2.2 i; omega)) h148
        exact ⟨rfl, by rw [zct, if_neg h14_0, if_neg h14_1, if_neg h14_2, if_neg h14_3, decide_eq_true (Int32.not_le.mp h116), zbi_ne0 h128, hlt]; rfl⟩
set_option maxRecDepth 20000 in
set_option maxHeartbeats 4000000 in
theorem m_account {E : zE} {S : zM} {s : zST} {n : Nat} (h : zMO S s) (hw : zWF n s) (x w : Int32) : zSp E 4 0 0 mX12_account cX12_account [zR 123, zI x, zI w] S (fun r T => r = some (zI (q_account s x w).1) ∧ zMO T (q_account s x w).2 ∧ zF zMX S T) := by
  refine zSp.of (by decide) rfl (Nat.le_of_ble_eq_true rfl) rfl ?_
  have hM := h.1
  cases hz : zbeg s x with
  | false =>
    have e : q_account s x w = zrf s 1 := by
      rcases zbeg_f hz with g | ⟨t, g, g2 | ⟨g2, g3⟩⟩
      · simp only [q_account, g]
      · simp only [q_account, g]
        rw [if_pos g2]
      · simp only [q_account, g]
        rw [if_neg (by rw [g2]; decide), g3]
    refine j_aload_n (pc := 0) dX12_account_0 rfl ?_
    refine j_aload_n (pc := 1) dX12_account_1 rfl ?_
    refine j_iload_n (pc := 2) dX12_account_2 rfl ?_
    refine j_callV (pc := 3) (t := 12) (n_isReader h hw _) dX12_account_3 l_X12_439 mk_X12_isReader mv_X12_isReader (by decide) rfl hM.1 (by decide) rfl rfl (Nat.le_of_ble_eq_true rfl) (Nat.le_refl _) (Nat.le_refl _) (fun r T h_1 => ?_)
    obtain ⟨rfl, rfl⟩ := h_1
    rw [hz]
    refine j_if_eq (pc := 6) (tgt := 25) dX12_account_6 (by decide) (fun h6 => ?_) (fun h6 => absurd rfl h6)
    refine j_iconst (pc := 25) (v := 0) dX12_account_25 (by decide) ?_
    refine j_callS (pc := 26) (n_unlF) dX12_account_26 l_X12_312 mk_X12_unless ms_X12_unless (by decide) rfl rfl (Nat.le_of_ble_eq_true rfl) (Nat.le_refl _) (Nat.le_refl _) (fun r T h_1 => ?_)
    obtain ⟨rfl, rfl⟩ := h_1
    refine j_callV (pc := 29) (t := 12) (n_rf1 hM) dX12_account_29 l_X12_256 mk_X12_isRefused mv_X12_isRefused (by decide) rfl hM.1 (by decide) rfl rfl (Nat.le_of_ble_eq_true rfl) (Nat.le_refl _) (Nat.le_refl _) (fun r T h_1 => ?_)
    obtain ⟨rfl, rfl⟩ := h_1
    refine j_if_eq (pc := 32) (tgt := 37) dX12_account_32 (by decide) (fun h32 => absurd h32 (by decide)) (fun h32 => ?_)
    refine j_iconst (pc := 35) (v := (-1)) dX12_account_35 (by decide) ?_
    refine j_iret (pc := 36) dX12_account_36 rfl ?_
    exact m_ref h (n := 1) (by decide) e
  | true =>
    obtain ⟨t, j, y, ht, hj, rfl, hy⟩ := zbeg_t hz
    have hcl : (nI j).toNatClampNeg = j := nI_clamp (by omega)
    have hc4 : ¬ zcl2 4 (nI j) = false := by rw [zcl2_nI hj (by decide)]; decide
    have hyn : sR s (zn (nI j)) = some y := by rw [zn, hcl]; exact hy
    have hm := h.2.2.2.2.2.2 j hj
    rw [hy] at hm
    obtain ⟨r1, r2, r3, r4, r5, r6, r7⟩ := hm
    have hv := hw.v ht
    have hWr := (hw.t ht).2.2 j y hy
    refine j_aload_n (pc := 0) dX12_account_0 rfl ?_
    refine j_aload_n (pc := 1) dX12_account_1 rfl ?_
    refine j_iload_n (pc := 2) dX12_account_2 rfl ?_
    refine j_callV (pc := 3) (t := 12) (n_isReader h hw _) dX12_account_3 l_X12_439 mk_X12_isReader mv_X12_isReader (by decide) rfl hM.1 (by decide) rfl rfl (Nat.le_of_ble_eq_true rfl) (Nat.le_refl _) (Nat.le_refl _) (fun r T h_1 => ?_)
    obtain ⟨rfl, rfl⟩ := h_1
    rw [hz]
    refine j_if_eq (pc := 6) (tgt := 25) dX12_account_6 (by decide) (fun h6 => absurd h6 (by decide)) (fun h6 => ?_)
    refine j_iload_n (pc := 9) dX12_account_9 rfl ?_
    refine j_i2l (pc := 10) dX12_account_10 ?_
    refine j_lconst (pc := 11) (v := 0) dX12_account_11 (by decide) ?_
    refine j_ldcL (pc := 12) dX12_account_12 k_X12_445 ?_
    refine j_callS (pc := 15) (n_in _ _ _) dX12_account_15 l_X12_159 mk_X12_in ms_X12_in (by decide) rfl rfl (Nat.le_of_ble_eq_true rfl) (Nat.le_refl _) (Nat.le_refl _) (fun r T h_1 => ?_)
    obtain ⟨rfl, rfl⟩ := h_1
    rw [show decide (¬ w.toInt64 < 0 ∧ ¬ (6 : Int64) < w.toInt64) = zcl2 7 w from zin_lit (m := 6) (by decide) w]
    refine j_if_eq (pc := 18) (tgt := 25) dX12_account_18 (by decide) (fun h18 => ?_) (fun h18 => ?_)
    · refine j_iconst (pc := 25) (v := 0) dX12_account_25 (by decide) ?_
      refine j_callS (pc := 26) (n_unlF) dX12_account_26 l_X12_312 mk_X12_unless ms_X12_unless (by decide) rfl rfl (Nat.le_of_ble_eq_true rfl) (Nat.le_refl _) (Nat.le_refl _) (fun r T h_1 => ?_)
      obtain ⟨rfl, rfl⟩ := h_1
      refine j_callV (pc := 29) (t := 12) (n_rf1 hM) dX12_account_29 l_X12_256 mk_X12_isRefused mv_X12_isRefused (by decide) rfl hM.1 (by decide) rfl rfl (Nat.le_of_ble_eq_true rfl) (Nat.le_refl _) (Nat.le_refl _) (fun r T h_1 => ?_)
      obtain ⟨rfl, rfl⟩ := h_1
      refine j_if_eq (pc := 32) (tgt := 37) dX12_account_32 (by decide) (fun h32 => absurd h32 (by decide)) (fun h32 => ?_)
      refine j_iconst (pc := 35) (v := (-1)) dX12_account_35 (by decide) ?_
      refine j_iret (pc := 36) dX12_account_36 rfl ?_
      exact m_ref h (n := 1) (by decide) (by simp only [q_account, ht]; rw [if_neg hc4, hyn]; simp only []; rw [if_pos (zbi_eq0.mp h18)])
    · refine j_iconst (pc := 21) (v := 1) dX12_account_21 (by decide) ?_
      refine j_goto (pc := 22) (tgt := 26) dX12_account_22 (by decide) ?_
      refine j_callS (pc := 26) (n_unlT) dX12_account_26 l_X12_312 mk_X12_unless ms_X12_unless (by decide) rfl rfl (Nat.le_of_ble_eq_true rfl) (Nat.le_refl _) (Nat.le_refl _) (fun r T h_1 => ?_)
      obtain ⟨rfl, rfl⟩ := h_1
      refine j_callV (pc := 29) (t := 12) (n_ok hM) dX12_account_29 l_X12_256 mk_X12_isRefused mv_X12_isRefused (by decide) rfl hM.1 (by decide) rfl rfl (Nat.le_of_ble_eq_true rfl) (Nat.le_refl _) (Nat.le_refl _) (fun r T h_1 => ?_)
      obtain ⟨rfl, rfl⟩ := h_1
      refine j_if_eq (pc := 32) (tgt := 37) dX12_account_32 (by decide) (fun h32 => ?_) (fun h32 => absurd rfl h32)
      have hw7 := bnf2 (zbi_ne0 h18)
      obtain ⟨kw, hkw, rfl⟩ := zcl2_t (by decide) (zbi_ne0 h18)
      refine j_iload_n (pc := 37) dX12_account_37 rfl ?_
      refine j_iconst (pc := 38) (v := 4) dX12_account_38 (by decide) ?_
      refine j_icmp_le (pc := 39) (tgt := 71) dX12_account_39 (by decide) (fun h39 => ?_) (fun h39 => ?_)
      · refine j_iconst (pc := 71) (v := 0) dX12_account_71 (by decide) ?_
        refine j_istore_n (pc := 72) (ls' := [_, _, _, _, _]) dX12_account_72 (by decide) rfl rfl ?_
        refine j_iconst (pc := 73) (v := 0) dX12_account_73 (by decide) ?_
        refine j_istore (pc := 74) (ls' := [_, _, _, _, _]) dX12_account_74 (by decide) rfl rfl ?_
        have k4 : kw ≤ 4 := Nat.le_of_not_lt (fun q => nI_ge (a := 4) q (by omega) h39)
        have n5 : ¬ nI kw = 5 := fun q => by have := (nI_eq (b := 5) (by omega) (by decide)).mp q; omega
        have n6 : ¬ nI kw = 6 := fun q => by have := (nI_eq (b := 6) (by omega) (by decide)).mp q; omega
        have ew : q_account s (nI j) (nI kw) = zan s (nI (zacc t y (nI kw) (tG t))) := by
          simp only [q_account, ht]
          rw [if_neg hc4, hyn]
          simp only []
          rw [if_neg hw7, if_neg n5, if_neg n6]
        generalize nI kw = w at ew
        have lp : ∀ (m i : Nat), i + m = tG t → zJ E 4 0 0 mX12_account cX12_account 76 [some (zR 123), some (zI (nI j)), some (zI w), some (zI (nI (zacc t y w i))), some (zI (nI i))] [] (zNw S 0) (fun r T => r = some (zI (q_account s (nI j) w).1) ∧ zMO T (q_account s (nI j) w).2 ∧ zF zMX S T) := by
          intro m
          induction m with
          | zero =>
            intro i hi
            have ei : i = tG t := by omega
            subst ei
            refine j_iload (pc := 76) dX12_account_76 rfl ?_
            refine j_aload_n (pc := 78) dX12_account_78 rfl ?_
            refine j_getIv (pc := 79) dX12_account_79 f_X12_283 (Or.inl rfl) hM.1 ((h.2.2.2.2.1 t ht).1.2.2.2.1.2.2) ?_
            refine j_icmp_ge (pc := 82) (tgt := 110) dX12_account_82 (by decide) (fun h82 => ?_) (fun h82 => absurd (nI_le (Nat.le_refl _) (by omega)) h82)
            refine j_iload_n (pc := 110) dX12_account_110 rfl ?_
            refine j_iret (pc := 111) dX12_account_111 rfl ?_
            exact m_ans h ew
          | succ m ih =>
            intro i hi
            refine j_iload (pc := 76) dX12_account_76 rfl ?_
            refine j_aload_n (pc := 78) dX12_account_78 rfl ?_
            refine j_getIv (pc := 79) dX12_account_79 f_X12_283 (Or.inl rfl) hM.1 ((h.2.2.2.2.1 t ht).1.2.2.2.1.2.2) ?_
            refine j_icmp_ge (pc := 82) (tgt := 110) dX12_account_82 (by decide) (fun h82 => absurd h82 (nI_ge (by omega) (by omega))) (fun h82 => ?_)
            refine j_iload_n (pc := 85) dX12_account_85 rfl ?_
            refine j_aload_n (pc := 86) dX12_account_86 rfl ?_
            refine j_iload_n (pc := 87) dX12_account_87 rfl ?_
            refine j_iload_n (pc := 88) dX12_account_88 rfl ?_
            refine j_iload (pc := 89) dX12_account_89 rfl ?_
            refine j_callV (pc := 91) (t := 12) (n_isCounted (h.no (n := 0) (by decide)) (zWF.no hw) ht hj hy (show i < 64 by omega) w) dX12_account_91 l_X12_447 mk_X12_isCounted mv_X12_isCounted (by decide) rfl hM.1 (by decide) rfl rfl (Nat.le_of_ble_eq_true rfl) (Nat.le_refl _) (Nat.le_refl _) (fun r T h_1 => ?_)
            obtain ⟨rfl, rfl⟩ := h_1
            refine j_if_eq (pc := 94) (tgt := 101) dX12_account_94 (by decide) (fun h94 => ?_) (fun h94 => ?_)
            · refine j_iconst (pc := 101) (v := 0) dX12_account_101 (by decide) ?_
              refine j_iadd (pc := 102) dX12_account_102 ?_
              refine j_istore_n (pc := 103) (ls' := [_, _, _, _, _]) dX12_account_103 (by decide) rfl rfl ?_
              refine j_iinc (pc := 104) (v := _ + 1) (ls' := [_, _, _, _, _]) dX12_account_104 rfl rfl (by decide) rfl rfl ?_
              refine j_goto (pc := 107) (tgt := 76) dX12_account_107 (by decide) ?_
              rw [nI_1, show nI (zacc t y w i) + 0 = nI (zacc t y w i) from nI_add _ 0]
              have := ih (i + 1) (by omega)
              rwa [show zacc t y w (i + 1) = zacc t y w i by rw [zacc, fb_ct_succ, zbi_eq0.mp h94]; rfl] at this
            · refine j_iconst (pc := 97) (v := 1) dX12_account_97 (by decide) ?_
              refine j_goto (pc := 98) (tgt := 102) dX12_account_98 (by decide) ?_
              refine j_iadd (pc := 102) dX12_account_102 ?_
              refine j_istore_n (pc := 103) (ls' := [_, _, _, _, _]) dX12_account_103 (by decide) rfl rfl ?_
              refine j_iinc (pc := 104) (v := _ + 1) (ls' := [_, _, _, _, _]) dX12_account_104 rfl rfl (by decide) rfl rfl ?_
              refine j_goto (pc := 107) (tgt := 76) dX12_account_107 (by decide) ?_
              rw [nI_1, nI_1]
              have := ih (i + 1) (by omega)
              rwa [show zacc t y w (i + 1) = zacc t y w i + 1 by rw [zacc, fb_ct_succ, zbi_ne0 h94]; rfl] at this
        exact lp (tG t) 0 (by omega)
      · refine j_iload_n (pc := 42) dX12_account_42 rfl ?_
        refine j_iconst (pc := 43) (v := 5) dX12_account_43 (by decide) ?_
        refine j_icmp_ne (pc := 44) (tgt := 64) dX12_account_44 (by decide) (fun h44 => ?_) (fun h44 => ?_)
        · refine j_aload_n (pc := 64) dX12_account_64 rfl ?_
          refine j_getPv (pc := 65) dX12_account_65 f_X12_108 (Or.inr ⟨_, rfl⟩) hM.1 (mp_readerPages hM) ?_
          refine j_iload_n (pc := 68) dX12_account_68 rfl ?_
          refine j_ialdn (pc := 69) dX12_account_69 (mk_readerPages hM) (by omega) (Nat.le_of_ble_eq_true rfl) (r4) ?_
          refine j_iret (pc := 70) dX12_account_70 rfl ?_
          have e6 : nI kw = 6 := by
            have : kw = 6 := by
              have h5 : kw ≠ 5 := fun q => h44 (by rw [q]; rfl)
              have h4 : ¬ kw ≤ 4 := fun q => h39 (nI_le (b := 4) q (by decide))
              omega
            rw [this]
            rfl
          exact m_ans h (by simp only [q_account, ht]; rw [if_neg hc4, hyn]; simp only []; rw [if_neg hw7, if_neg h44, if_pos e6])
        · refine j_aload_n (pc := 47) dX12_account_47 rfl ?_
          refine j_getPv (pc := 48) dX12_account_48 f_X12_105 (Or.inr ⟨_, rfl⟩) hM.1 (mp_isEnded hM) ?_
          refine j_iload_n (pc := 51) dX12_account_51 rfl ?_
          refine j_zaldn (pc := 52) dX12_account_52 (mk_isEnded hM) (by omega) (Nat.le_of_ble_eq_true rfl) (r3) ?_
          refine j_if_eq (pc := 53) (tgt := 60) dX12_account_53 (by decide) (fun h53 => ?_) (fun h53 => ?_)
          · refine j_iconst (pc := 60) (v := 0) dX12_account_60 (by decide) ?_
            refine j_goto (pc := 61) (tgt := 70) dX12_account_61 (by decide) ?_
            refine j_iret (pc := 70) dX12_account_70 rfl ?_
            exact m_ans h (by simp only [q_account, ht]; rw [if_neg hc4, hyn]; simp only []; rw [if_neg hw7, if_pos h44, h53])
          · refine j_iconst (pc := 56) (v := 1) dX12_account_56 (by decide) ?_
            refine j_goto (pc := 57) (tgt := 70) dX12_account_57 (by decide) ?_
            refine j_iret (pc := 70) dX12_account_70 rfl ?_
            exact m_ans h (by simp only [q_account, ht]; rw [if_neg hc4, hyn]; simp only []; rw [if_neg hw7, if_pos h44, zbi_ne0 h53]; rfl)
