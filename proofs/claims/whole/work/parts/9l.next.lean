theorem zwt_n4 (t : zTB) (F : List Nat) (n : Nat) : zwt t F n ≠ 4 := by
  unfold zwt
  split
  · decide
  · split
    · decide
    · split <;> decide
set_option maxRecDepth 20000 in
set_option maxHeartbeats 4000000 in
theorem n_goesBy {E : zE} {S : zM} {s : zST} {n : Nat} (h : zMO S s) (hw : zWF n s) (x : Int32) (bk : Bool) : zSp E 5 0 0 mX12_goesBy cX12_goesBy [zR 123, zI x, zI (zbi bk)] S (fun r T => r = some (zI (q_tok s x (!bk)).1) ∧ zMO T (q_tok s x (!bk)).2 ∧ zF zMX S T) := by
  refine zSp.of (by decide) rfl (Nat.le_of_ble_eq_true rfl) rfl ?_
  have hM := h.1
  cases ht : sT s with
  | none =>
    have hto : zgI S 123 12 = 0 := by have := h.2.2.2.1.1; rw [ht] at this; exact this
    have e : q_tok s x (!bk) = zrf s 1 := by rw [q_tok, ht]
    refine j_aload_n (pc := 0) dX12_goesBy_0 rfl ?_
    refine j_aload_n (pc := 1) dX12_goesBy_1 rfl ?_
    refine j_getIv (pc := 2) dX12_goesBy_2 f_X12_296 (Or.inr rfl) hM.1 (hto) ?_
    refine j_if_ne (pc := 5) (tgt := 12) dX12_goesBy_5 (by decide) (fun h5 => absurd rfl h5) (fun h5 => ?_)
    refine j_iconst (pc := 8) (v := 1) dX12_goesBy_8 (by decide) ?_
    refine j_goto (pc := 9) (tgt := 31) dX12_goesBy_9 (by decide) ?_
    refine j_callV (pc := 31) (t := 12) (n_rf1 hM) dX12_goesBy_31 l_X12_256 mk_X12_isRefused mv_X12_isRefused (by decide) rfl hM.1 (by decide) rfl rfl (Nat.le_of_ble_eq_true rfl) (Nat.le_refl _) (Nat.le_refl _) (fun r T h_1 => ?_)
    obtain ⟨rfl, rfl⟩ := h_1
    refine j_if_eq (pc := 34) (tgt := 39) dX12_goesBy_34 (by decide) (fun h34 => absurd h34 (by decide)) (fun h34 => ?_)
    refine j_iconst (pc := 37) (v := (-1)) dX12_goesBy_37 (by decide) ?_
    refine j_iret (pc := 38) dX12_goesBy_38 rfl ?_
    exact m_ref h (n := 1) (by decide) e
  | some t =>
    have hto : zgI S 123 12 = 1 := by have := h.2.2.2.1.1; rw [ht] at this; exact this
    have hv := hw.v ht
    refine j_aload_n (pc := 0) dX12_goesBy_0 rfl ?_
    refine j_aload_n (pc := 1) dX12_goesBy_1 rfl ?_
    refine j_getIv (pc := 2) dX12_goesBy_2 f_X12_296 (Or.inr rfl) hM.1 (hto) ?_
    refine j_if_ne (pc := 5) (tgt := 12) dX12_goesBy_5 (by decide) (fun h5 => ?_) (fun h5 => absurd h5 (by decide))
    refine j_iload_n (pc := 12) dX12_goesBy_12 rfl ?_
    refine j_i2l (pc := 13) dX12_goesBy_13 ?_
    refine j_lconst (pc := 14) (v := 0) dX12_goesBy_14 (by decide) ?_
    refine j_aload_n (pc := 15) dX12_goesBy_15 rfl ?_
    refine j_getIv (pc := 16) dX12_goesBy_16 f_X12_132 (Or.inl rfl) hM.1 (h.2.1.1) ?_
    refine j_i2l (pc := 19) dX12_goesBy_19 ?_
    refine j_callS (pc := 20) (n_in _ _ _) dX12_goesBy_20 l_X12_159 mk_X12_in ms_X12_in (by decide) rfl rfl (Nat.le_of_ble_eq_true rfl) (Nat.le_refl _) (Nat.le_refl _) (fun r T h_1 => ?_)
    obtain ⟨rfl, rfl⟩ := h_1
    rw [zin_tp]
    refine j_if_eq (pc := 23) (tgt := 30) dX12_goesBy_23 (by decide) (fun h23 => ?_) (fun h23 => ?_)
    · refine j_iconst (pc := 30) (v := 2) dX12_goesBy_30 (by decide) ?_
      refine j_callV (pc := 31) (t := 12) (n_rf2 hM) dX12_goesBy_31 l_X12_256 mk_X12_isRefused mv_X12_isRefused (by decide) rfl hM.1 (by decide) rfl rfl (Nat.le_of_ble_eq_true rfl) (Nat.le_refl _) (Nat.le_refl _) (fun r T h_1 => ?_)
      obtain ⟨rfl, rfl⟩ := h_1
      refine j_if_eq (pc := 34) (tgt := 39) dX12_goesBy_34 (by decide) (fun h34 => absurd h34 (by decide)) (fun h34 => ?_)
      refine j_iconst (pc := 37) (v := (-1)) dX12_goesBy_37 (by decide) ?_
      refine j_iret (pc := 38) dX12_goesBy_38 rfl ?_
      exact m_ref h (n := 2) (by decide) (by simp only [q_tok, ht]; rw [if_pos (zbi_eq0.mp h23)])
    · refine j_iconst (pc := 26) (v := 0) dX12_goesBy_26 (by decide) ?_
      refine j_goto (pc := 27) (tgt := 31) dX12_goesBy_27 (by decide) ?_
      refine j_callV (pc := 31) (t := 12) (n_ok hM) dX12_goesBy_31 l_X12_256 mk_X12_isRefused mv_X12_isRefused (by decide) rfl hM.1 (by decide) rfl rfl (Nat.le_of_ble_eq_true rfl) (Nat.le_refl _) (Nat.le_refl _) (fun r T h_1 => ?_)
      obtain ⟨rfl, rfl⟩ := h_1
      refine j_if_eq (pc := 34) (tgt := 39) dX12_goesBy_34 (by decide) (fun h34 => ?_) (fun h34 => absurd rfl h34)
      obtain ⟨k, hk, rfl⟩ := zoT_t hw.2.1.1 (zbi_ne0 h23)
      have hS2 : zMO (zwI (zNw S 0) 123 5 0) ([], (zno s 0).2) := (h.no (n := 0) (by decide)).tape0
      have hw2 : zWF n ([], (zno s 0).2) := ⟨hw.1, ⟨Nat.zero_le _, fun b hb => absurd hb List.not_mem_nil⟩, ⟨Nat.zero_le _, hw.2.2.1.2⟩, hw.2.2.2⟩
      refine j_aload_n (pc := 39) dX12_goesBy_39 rfl ?_
      refine j_iconst (pc := 40) (v := 0) dX12_goesBy_40 (by decide) ?_
      refine j_putI (pc := 41) dX12_goesBy_41 f_X12_132 rfl hM.1 rfl ?_
      refine j_aload_n (pc := 44) dX12_goesBy_44 rfl ?_
      refine j_iload_n (pc := 45) dX12_goesBy_45 rfl ?_
      refine j_callV (pc := 46) (t := 12) (n_wrongToken (F := sF s) (t := t) (by exact hM) (by exact h.2.1.2) hw.2.1.1 hw.2.1.2 hk (by exact (h.2.2.2.2.1 t ht).1.2.2.2.1.1) (by exact (h.2.2.2.2.1 t ht).1.2.2.2.1.2.1) hv.1 hv.2.1) dX12_goesBy_46 l_X12_428 mk_X12_wrongToken mv_X12_wrongToken (by decide) rfl hM.1 (by decide) rfl rfl (Nat.le_of_ble_eq_true rfl) (Nat.le_refl _) (Nat.le_refl _) (fun r T h_1 => ?_)
      obtain ⟨rfl, rfl⟩ := h_1
      refine j_istore_n (pc := 49) (ls' := [_, _, _, _, _, _, _]) dX12_goesBy_49 (by decide) rfl rfl ?_
      refine j_iload_n (pc := 50) dX12_goesBy_50 rfl ?_
      refine j_if_eq (pc := 51) (tgt := 60) dX12_goesBy_51 (by decide) (fun h51 => ?_) (fun h51 => ?_)
      · have hwt : zwt t (sF s) k = 0 := (nI_eq (b := 0) (by have := zwt_le t (sF s) k; omega) (by decide)).mp h51
        have hk8 := (zwt_0 hwt).1
        have b3 := hw.2.1.2 _ (gD_mem (show 3 < (sF s).length by omega))
        have b4 := hw.2.1.2 _ (gD_mem (show 4 < (sF s).length by omega))
        have ez : q_tok s (nI k) (!bk) = zshow ([], s.2) (zkq t (zvr t (sF s)) (sF s) k (zbf (tO t) (tV t) (tH t (zvr t (sF s))) (zgk (sF s) k) ((sF s).getD 2 0) (!bk)) (zbe (tO t) (tV t) (tH t (zvr t (sF s))) (zgk (sF s) k) ((sF s).getD 2 0) (!bk)) ((sF s).getD 2 0) (zst (sF s))) := by
          simp only [q_tok, ht]
          rw [if_neg (by rw [zbi_ne0 h23]; decide), zn, nI_clamp (by have := hw.2.1.1; omega), if_neg (not_not_intro hwt), zkq_keep zbe_le]
        refine j_sipush (pc := 60) (v := 256) dX12_goesBy_60 (by decide) ?_
        refine j_aload_n (pc := 63) dX12_goesBy_63 rfl ?_
        refine j_getPv (pc := 64) dX12_goesBy_64 f_X12_15 (Or.inr ⟨_, rfl⟩) hM.1 (mp_tape hM) ?_
        refine j_iconst (pc := 67) (v := 3) dX12_goesBy_67 (by decide) ?_
        refine j_ialdn (pc := 68) dX12_goesBy_68 (mk_tape hM) (show 3 < 900 by decide) (Nat.le_of_ble_eq_true rfl) (h.2.1.2 3 (by omega)) ?_
        refine j_imul (pc := 69) dX12_goesBy_69 ?_
        rw [show (256 : Int32) * nI ((sF s).getD 3 0) = nI (256 * (sF s).getD 3 0) from pk_mul 256 _]
        refine j_aload_n (pc := 70) dX12_goesBy_70 rfl ?_
        refine j_getPv (pc := 71) dX12_goesBy_71 f_X12_15 (Or.inr ⟨_, rfl⟩) hM.1 (mp_tape hM) ?_
        refine j_iconst (pc := 74) (v := 4) dX12_goesBy_74 (by decide) ?_
        refine j_ialdn (pc := 75) dX12_goesBy_75 (mk_tape hM) (show 4 < 900 by decide) (Nat.le_of_ble_eq_true rfl) (h.2.1.2 4 (by omega)) ?_
        refine j_iadd (pc := 76) dX12_goesBy_76 ?_
        rw [nI_add, show 256 * (sF s).getD 3 0 + (sF s).getD 4 0 = zst (sF s) by show _ = (sF s).getD 3 0 * 256 + (sF s).getD 4 0; omega]
        refine j_istore (pc := 77) (ls' := [_, _, _, _, _, _, _]) dX12_goesBy_77 (by decide) rfl rfl ?_
        refine j_iload (pc := 79) dX12_goesBy_79 rfl ?_
        refine j_if_ne (pc := 81) (tgt := 91) dX12_goesBy_81 (by decide) (fun h81 => ?_) (fun h81 => ?_)
        · refine j_iload (pc := 91) dX12_goesBy_91 rfl ?_
          refine j_iconst (pc := 93) (v := 1) dX12_goesBy_93 (by decide) ?_
          refine j_isub (pc := 94) dX12_goesBy_94 ?_
          refine j_istore (pc := 95) (ls' := [_, _, _, _, _, _, _]) dX12_goesBy_95 (by decide) rfl rfl ?_
          have hne : zst (sF s) ≠ 0 := fun q => h81 (by rw [q]; rfl)
          have eu : zvr t (sF s) = zst (sF s) - 1 := if_neg hne
          rw [show nI (zst (sF s)) - 1 = nI (zvr t (sF s)) from by rw [eu]; exact pk_sub (b := 1) (Nat.pos_of_ne_zero hne)]
          obtain ⟨w, e1, hu1', hu2'⟩ := zcv_t (by omega) ((zwt_0 hwt).2.2.2 hne)
          have ew : zst (sF s) - 1 = w := (nI_eq (by show (sF s).getD 3 0 * 256 + (sF s).getD 4 0 - 1 < _; omega) (by omega)).mp e1
          have hu1 : zvr t (sF s) ≤ tv t := by rw [eu, ew]; exact hu1'
          have hu2 : tv t ≤ zvr t (sF s) + 40 := by rw [eu, ew]; exact hu2'
          have hsg : zst (sF s) = 0 ∨ zvr t (sF s) + 1 = zst (sF s) := Or.inr (by rw [eu]; omega)
          have hz9 := zwt_0 hwt
          have hk9 : k ≤ (sF s).length := hk
          refine (j_goes (s := ([], (zno s 0).2)) (u := zvr t (sF s)) (sg := zst (sF s)) (F := sF s) hS2 hw2 ht hu1 hu2 (by exact h.2.1.2) hw.2.1.1 hw.2.1.2 hz9.1 hk9 hz9.2.1 hz9.2.2.1 hsg (by show (sF s).getD 3 0 * 256 + (sF s).getD 4 0 < 65536; omega) bk _).post (fun r T g => ?_)
          obtain ⟨rfl, g2, g3⟩ := g
          rw [ez]
          exact ⟨rfl, g2, (zNw.f.tr (zF.wI (by decide))).tr g3⟩
        · refine j_aload_n (pc := 84) dX12_goesBy_84 rfl ?_
          refine j_getIv (pc := 85) dX12_goesBy_85 f_X12_277 (Or.inl rfl) hM.1 ((h.2.2.2.2.1 t ht).1.2.2.2.1.1) ?_
          refine j_goto (pc := 88) (tgt := 95) dX12_goesBy_88 (by decide) ?_
          refine j_istore (pc := 95) (ls' := [_, _, _, _, _, _, _]) dX12_goesBy_95 (by decide) rfl rfl ?_
          have he0 : zst (sF s) = 0 := (nI_eq (b := 0) (by show (sF s).getD 3 0 * 256 + (sF s).getD 4 0 < _; omega) (by decide)).mp h81
          have eu : zvr t (sF s) = tv t := if_pos he0
          have hu1 : zvr t (sF s) ≤ tv t := by rw [eu]; exact Nat.le_refl _
          have hu2 : tv t ≤ zvr t (sF s) + 40 := by rw [eu]; omega
          have hsg : zst (sF s) = 0 ∨ zvr t (sF s) + 1 = zst (sF s) := Or.inl he0
          rw [← eu]
          have hz9 := zwt_0 hwt
          have hk9 : k ≤ (sF s).length := hk
          refine (j_goes (s := ([], (zno s 0).2)) (u := zvr t (sF s)) (sg := zst (sF s)) (F := sF s) hS2 hw2 ht hu1 hu2 (by exact h.2.1.2) hw.2.1.1 hw.2.1.2 hz9.1 hk9 hz9.2.1 hz9.2.2.1 hsg (by show (sF s).getD 3 0 * 256 + (sF s).getD 4 0 < 65536; omega) bk _).post (fun r T g => ?_)
          obtain ⟨rfl, g2, g3⟩ := g
          rw [ez]
          exact ⟨rfl, g2, (zNw.f.tr (zF.wI (by decide))).tr g3⟩
      · refine j_aload_n (pc := 54) dX12_goesBy_54 rfl ?_
        refine j_iload_n (pc := 55) dX12_goesBy_55 rfl ?_
        refine j_callV (pc := 56) (t := 12) (n_no (by exact hM) _) dX12_goesBy_56 l_X12_265 mk_X12_no mv_X12_no (by decide) rfl hM.1 (by decide) rfl rfl (Nat.le_of_ble_eq_true rfl) (Nat.le_refl _) (Nat.le_refl _) (fun r T h_1 => ?_)
        obtain ⟨rfl, rfl⟩ := h_1
        refine j_iret (pc := 59) dX12_goesBy_59 rfl ?_
        have ez : q_tok s (nI k) (!bk) = (-1, ([], (zwt t (sF s) k, s.2.1.2), s.2.2)) := by
          simp only [q_tok, ht]
          rw [if_neg (by rw [zbi_ne0 h23]; decide), zn, nI_clamp (by have := hw.2.1.1; omega), if_pos (fun q => h51 (by rw [q]; rfl))]
        rw [ez]
        exact ⟨rfl, hS2.no1 (n := zwt t (sF s) k) (zwt_n4 _ _ _), (zNw.f.tr (zF.wI (by decide))).tr (zF.wI (by decide))⟩
set_option maxRecDepth 20000 in
set_option maxHeartbeats 4000000 in
theorem m_next {E : zE} {S : zM} {s : zST} {n : Nat} (h : zMO S s) (hw : zWF n s) (x : Int32) : zSp E 6 0 0 mX12_next cX12_next [zR 123, zI x] S (fun r T => r = some (zI (q_tok s x true).1) ∧ zMO T (q_tok s x true).2 ∧ zF zMX S T) := by
  refine zSp.of (by decide) rfl (Nat.le_of_ble_eq_true rfl) rfl ?_
  have hM := h.1
  refine j_aload_n (pc := 0) dX12_next_0 rfl ?_
  refine j_iload_n (pc := 1) dX12_next_1 rfl ?_
  refine j_iconst (pc := 2) (v := 0) dX12_next_2 (by decide) ?_
  refine j_callV (pc := 3) (t := 12) (n_goesBy h hw x false) dX12_next_3 l_X12_434 mk_X12_goesBy mv_X12_goesBy (by decide) rfl hM.1 (by decide) rfl rfl (Nat.le_of_ble_eq_true rfl) (Nat.le_refl _) (Nat.le_refl _) (fun r T h_1 => ?_)
  obtain ⟨rfl, g2, g3⟩ := h_1
  refine j_iret (pc := 6) dX12_next_6 rfl ?_
  exact ⟨rfl, g2, g3⟩
set_option maxRecDepth 20000 in
set_option maxHeartbeats 4000000 in
theorem m_previous {E : zE} {S : zM} {s : zST} {n : Nat} (h : zMO S s) (hw : zWF n s) (x : Int32) : zSp E 6 0 0 mX12_previous cX12_previous [zR 123, zI x] S (fun r T => r = some (zI (q_tok s x false).1) ∧ zMO T (q_tok s x false).2 ∧ zF zMX S T) := by
  refine zSp.of (by decide) rfl (Nat.le_of_ble_eq_true rfl) rfl ?_
  have hM := h.1
  refine j_aload_n (pc := 0) dX12_previous_0 rfl ?_
  refine j_iload_n (pc := 1) dX12_previous_1 rfl ?_
  refine j_iconst (pc := 2) (v := 1) dX12_previous_2 (by decide) ?_
  refine j_callV (pc := 3) (t := 12) (n_goesBy h hw x true) dX12_previous_3 l_X12_434 mk_X12_goesBy mv_X12_goesBy (by decide) rfl hM.1 (by decide) rfl rfl (Nat.le_of_ble_eq_true rfl) (Nat.le_refl _) (Nat.le_refl _) (fun r T h_1 => ?_)
  obtain ⟨rfl, g2, g3⟩ := h_1
  refine j_iret (pc := 6) dX12_previous_6 rfl ?_
  exact ⟨rfl, g2, g3⟩
