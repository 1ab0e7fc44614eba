theorem zget_zcl {L : List Nat} {x : Int32} (h : zcl2 L.length x = false) (hl : L.length ≤ 900) : zget L x = -1 := by
  rcases pk_ix x (n := L.length) (by omega) with g | g | ⟨j, hj, rfl⟩
  · rw [zget, if_pos (Or.inl g)]
  · rw [zget, if_pos (Or.inr g)]
  · rw [zcl2_nI hj (by omega)] at h
    cases h
theorem nI_byte {b : Nat} (h : b < 256) : nI b ≠ -1 := by
  intro e
  have := (fa_eq _ _).mp e
  rw [nI_toInt (by omega), show (-1 : Int32).toInt = -1 from rfl] at this
  omega
theorem gD_mem {L : List Nat} {i : Nat} (h : i < L.length) : L.getD i 0 ∈ L := List.mem_of_getElem? (gD 0 h)
set_option maxRecDepth 20000 in
set_option maxHeartbeats 4000000 in
theorem m_tokenByte {E : zE} {S : zM} {s : zST} {n : Nat} (h : zMO S s) (hw : zWF n s) (w i : Int32) : zSp E 1 0 0 mX12_tokenByte cX12_tokenByte [zR 123, zI w, zI i] S (fun r T => r = some (zI (q_tokenByte s w i).1) ∧ zMO T (q_tokenByte s w i).2 ∧ zF zMX S T) := by
  refine zSp.of (by decide) rfl (Nat.le_of_ble_eq_true rfl) rfl ?_
  have hM := h.1
  cases hp : sP s with
  | none =>
    have hto : zgI S 123 46 = 0 := by have := h.2.2.2.2.2.1.1.1; rw [hp] at this; exact this
    have e : q_tokenByte s w i = zrf s 1 := by rw [q_tokenByte, hp]
    refine j_aload_n (pc := 0) dX12_tokenByte_0 rfl ?_
    refine j_aload_n (pc := 1) dX12_tokenByte_1 rfl ?_
    refine j_getIv (pc := 2) dX12_tokenByte_2 f_X12_289 (Or.inr rfl) hM.1 (hto) ?_
    refine j_if_eq (pc := 5) (tgt := 40) dX12_tokenByte_5 (by decide) (fun h5 => ?_) (fun h5 => absurd rfl h5)
    refine j_iconst (pc := 40) (v := 0) dX12_tokenByte_40 (by decide) ?_
    refine j_callS (pc := 41) (n_unlF) dX12_tokenByte_41 l_X12_312 mk_X12_unless ms_X12_unless (by decide) rfl rfl (Nat.le_of_ble_eq_true rfl) (Nat.le_refl _) (Nat.le_refl _) (fun r T h_1 => ?_)
    obtain ⟨rfl, rfl⟩ := h_1
    refine j_callV (pc := 44) (t := 12) (n_rf1 hM) dX12_tokenByte_44 l_X12_256 mk_X12_isRefused mv_X12_isRefused (by decide) rfl hM.1 (by decide) rfl rfl (Nat.le_of_ble_eq_true rfl) (Nat.le_refl _) (Nat.le_refl _) (fun r T h_1 => ?_)
    obtain ⟨rfl, rfl⟩ := h_1
    refine j_if_eq (pc := 47) (tgt := 54) dX12_tokenByte_47 (by decide) (fun h47 => absurd h47 (by decide)) (fun h47 => ?_)
    refine j_iconst (pc := 50) (v := (-1)) dX12_tokenByte_50 (by decide) ?_
    refine j_goto (pc := 51) (tgt := 66) dX12_tokenByte_51 (by decide) ?_
    refine j_iret (pc := 66) dX12_tokenByte_66 rfl ?_
    exact m_ref h (n := 1) (by decide) e
  | some q =>
    have hto : zgI S 123 46 = 1 := by have := h.2.2.2.2.2.1.1.1; rw [hp] at this; exact this
    have hQ := h.2.2.2.2.2.1.2 q hp
    obtain ⟨t, ht, hWp⟩ := hw.pg hp
    have hv := hw.v ht
    have l20 := hWp.1
    have l9 := hWp.2.1
    refine j_aload_n (pc := 0) dX12_tokenByte_0 rfl ?_
    refine j_aload_n (pc := 1) dX12_tokenByte_1 rfl ?_
    refine j_getIv (pc := 2) dX12_tokenByte_2 f_X12_289 (Or.inr rfl) hM.1 (hto) ?_
    refine j_if_eq (pc := 5) (tgt := 40) dX12_tokenByte_5 (by decide) (fun h5 => absurd h5 (by decide)) (fun h5 => ?_)
    refine j_iload_n (pc := 8) dX12_tokenByte_8 rfl ?_
    refine j_i2l (pc := 9) dX12_tokenByte_9 ?_
    refine j_lconst (pc := 10) (v := 0) dX12_tokenByte_10 (by decide) ?_
    refine j_lconst (pc := 11) (v := 1) dX12_tokenByte_11 (by decide) ?_
    refine j_callS (pc := 12) (n_in _ _ _) dX12_tokenByte_12 l_X12_159 mk_X12_in ms_X12_in (by decide) rfl rfl (Nat.le_of_ble_eq_true rfl) (Nat.le_refl _) (Nat.le_refl _) (fun r T h_1 => ?_)
    obtain ⟨rfl, rfl⟩ := h_1
    rw [show decide (¬ w.toInt64 < 0 ∧ ¬ (1 : Int64) < w.toInt64) = zcl2 2 w from zin_lit (m := 1) (by decide) w]
    refine j_if_eq (pc := 15) (tgt := 40) dX12_tokenByte_15 (by decide) (fun h15 => ?_) (fun h15 => ?_)
    · refine j_iconst (pc := 40) (v := 0) dX12_tokenByte_40 (by decide) ?_
      refine j_callS (pc := 41) (n_unlF) dX12_tokenByte_41 l_X12_312 mk_X12_unless ms_X12_unless (by decide) rfl rfl (Nat.le_of_ble_eq_true rfl) (Nat.le_refl _) (Nat.le_refl _) (fun r T h_1 => ?_)
      obtain ⟨rfl, rfl⟩ := h_1
      refine j_callV (pc := 44) (t := 12) (n_rf1 hM) dX12_tokenByte_44 l_X12_256 mk_X12_isRefused mv_X12_isRefused (by decide) rfl hM.1 (by decide) rfl rfl (Nat.le_of_ble_eq_true rfl) (Nat.le_refl _) (Nat.le_refl _) (fun r T h_1 => ?_)
      obtain ⟨rfl, rfl⟩ := h_1
      refine j_if_eq (pc := 47) (tgt := 54) dX12_tokenByte_47 (by decide) (fun h47 => absurd h47 (by decide)) (fun h47 => ?_)
      refine j_iconst (pc := 50) (v := (-1)) dX12_tokenByte_50 (by decide) ?_
      refine j_goto (pc := 51) (tgt := 66) dX12_tokenByte_51 (by decide) ?_
      refine j_iret (pc := 66) dX12_tokenByte_66 rfl ?_
      exact m_ref h (n := 1) (by decide) (by simp only [q_tokenByte, hp]; rw [if_neg (bnf (zbi_eq0.mp h15))])
    · rcases (show w = 0 ∨ w = 1 from by
        obtain ⟨j, hj, rfl⟩ := zcl2_t (m := 2) (by decide) (zbi_ne0 h15)
        match j, hj with
        | 0, _ => exact Or.inl rfl
        | 1, _ => exact Or.inr rfl) with rfl | rfl
      · refine j_iload_n (pc := 18) dX12_tokenByte_18 rfl ?_
        refine j_i2l (pc := 19) dX12_tokenByte_19 ?_
        refine j_lconst (pc := 20) (v := 0) dX12_tokenByte_20 (by decide) ?_
        refine j_aload_n (pc := 21) dX12_tokenByte_21 rfl ?_
        refine j_getPv (pc := 22) dX12_tokenByte_22 f_X12_90 (Or.inr ⟨_, rfl⟩) hM.1 (mp_tokenLong hM) ?_
        refine j_iload_n (pc := 25) dX12_tokenByte_25 rfl ?_
        refine j_ialdn (i := 0) (pc := 26) dX12_tokenByte_26 (mk_tokenLong hM) (by omega) (Nat.le_of_ble_eq_true rfl) (hQ.1.2.2.1.1) ?_
        refine j_iconst (pc := 27) (v := 1) dX12_tokenByte_27 (by decide) ?_
        refine j_isub (pc := 28) dX12_tokenByte_28 ?_
        refine j_i2l (pc := 29) dX12_tokenByte_29 ?_
        refine j_callS (pc := 30) (n_in _ _ _) dX12_tokenByte_30 l_X12_159 mk_X12_in ms_X12_in (by decide) rfl rfl (Nat.le_of_ble_eq_true rfl) (Nat.le_refl _) (Nat.le_refl _) (fun r T h_1 => ?_)
        obtain ⟨rfl, rfl⟩ := h_1
        rw [zin_col (n := q.2.2.1.length) (by omega)]
        refine j_if_eq (pc := 33) (tgt := 40) dX12_tokenByte_33 (by decide) (fun h33 => ?_) (fun h33 => ?_)
        · refine j_iconst (pc := 40) (v := 0) dX12_tokenByte_40 (by decide) ?_
          refine j_callS (pc := 41) (n_unlF) dX12_tokenByte_41 l_X12_312 mk_X12_unless ms_X12_unless (by decide) rfl rfl (Nat.le_of_ble_eq_true rfl) (Nat.le_refl _) (Nat.le_refl _) (fun r T h_1 => ?_)
          obtain ⟨rfl, rfl⟩ := h_1
          refine j_callV (pc := 44) (t := 12) (n_rf1 hM) dX12_tokenByte_44 l_X12_256 mk_X12_isRefused mv_X12_isRefused (by decide) rfl hM.1 (by decide) rfl rfl (Nat.le_of_ble_eq_true rfl) (Nat.le_refl _) (Nat.le_refl _) (fun r T h_1 => ?_)
          obtain ⟨rfl, rfl⟩ := h_1
          refine j_if_eq (pc := 47) (tgt := 54) dX12_tokenByte_47 (by decide) (fun h47 => absurd h47 (by decide)) (fun h47 => ?_)
          refine j_iconst (pc := 50) (v := (-1)) dX12_tokenByte_50 (by decide) ?_
          refine j_goto (pc := 51) (tgt := 66) dX12_tokenByte_51 (by decide) ?_
          refine j_iret (pc := 66) dX12_tokenByte_66 rfl ?_
          exact m_ref h (n := 1) (by decide) (by simp only [q_tokenByte, hp]; rw [if_pos (by decide)]; rw [show zget (zto q 0) i = -1 from zget_zcl (zbi_eq0.mp h33) (by show q.2.2.1.length ≤ 900; omega), zrd, if_pos rfl])
        · refine j_iconst (pc := 36) (v := 1) dX12_tokenByte_36 (by decide) ?_
          refine j_goto (pc := 37) (tgt := 41) dX12_tokenByte_37 (by decide) ?_
          refine j_callS (pc := 41) (n_unlT) dX12_tokenByte_41 l_X12_312 mk_X12_unless ms_X12_unless (by decide) rfl rfl (Nat.le_of_ble_eq_true rfl) (Nat.le_refl _) (Nat.le_refl _) (fun r T h_1 => ?_)
          obtain ⟨rfl, rfl⟩ := h_1
          refine j_callV (pc := 44) (t := 12) (n_ok hM) dX12_tokenByte_44 l_X12_256 mk_X12_isRefused mv_X12_isRefused (by decide) rfl hM.1 (by decide) rfl rfl (Nat.le_of_ble_eq_true rfl) (Nat.le_refl _) (Nat.le_refl _) (fun r T h_1 => ?_)
          obtain ⟨rfl, rfl⟩ := h_1
          refine j_if_eq (pc := 47) (tgt := 54) dX12_tokenByte_47 (by decide) (fun h47 => ?_) (fun h47 => absurd rfl h47)
          obtain ⟨k, hk, rfl⟩ := zcl2_t (by omega) (zbi_ne0 h33)
          refine j_aload_n (pc := 54) dX12_tokenByte_54 rfl ?_
          refine j_getPv (pc := 55) dX12_tokenByte_55 f_X12_87 (Or.inr ⟨_, rfl⟩) hM.1 (mp_tokens hM) ?_
          refine j_sipush (pc := 58) (v := 900) dX12_tokenByte_58 (by decide) ?_
          refine j_iload_n (pc := 61) dX12_tokenByte_61 rfl ?_
          refine j_imul (pc := 62) dX12_tokenByte_62 ?_
          refine j_iload_n (pc := 63) dX12_tokenByte_63 rfl ?_
          refine j_iadd (pc := 64) dX12_tokenByte_64 ?_
          rw [show (900 : Int32) * 0 + nI k = nI (k) by rw [show (900 : Int32) * 0 = nI 0 from rfl, nI_add]; congr 1; omega]
          refine j_ialdn (pc := 65) dX12_tokenByte_65 (mk_tokens hM) (by omega) (Nat.le_of_ble_eq_true rfl) (hQ.1.2.2.2.1 k hk) ?_
          refine j_iret (pc := 66) dX12_tokenByte_66 rfl ?_
          have eg : zget (zto q 0) (nI k) = nI (q.2.2.1.getD k 0) := zget_in (L := q.2.2.1) hk (by omega)
          exact m_ans h (by simp only [q_tokenByte, hp]; rw [if_pos (by decide), eg, zrd, if_neg (nI_byte (hWp.2.2.1 _ (gD_mem hk)))])
      · refine j_iload_n (pc := 18) dX12_tokenByte_18 rfl ?_
        refine j_i2l (pc := 19) dX12_tokenByte_19 ?_
        refine j_lconst (pc := 20) (v := 0) dX12_tokenByte_20 (by decide) ?_
        refine j_aload_n (pc := 21) dX12_tokenByte_21 rfl ?_
        refine j_getPv (pc := 22) dX12_tokenByte_22 f_X12_90 (Or.inr ⟨_, rfl⟩) hM.1 (mp_tokenLong hM) ?_
        refine j_iload_n (pc := 25) dX12_tokenByte_25 rfl ?_
        refine j_ialdn (i := 1) (pc := 26) dX12_tokenByte_26 (mk_tokenLong hM) (by omega) (Nat.le_of_ble_eq_true rfl) (hQ.1.2.2.1.2) ?_
        refine j_iconst (pc := 27) (v := 1) dX12_tokenByte_27 (by decide) ?_
        refine j_isub (pc := 28) dX12_tokenByte_28 ?_
        refine j_i2l (pc := 29) dX12_tokenByte_29 ?_
        refine j_callS (pc := 30) (n_in _ _ _) dX12_tokenByte_30 l_X12_159 mk_X12_in ms_X12_in (by decide) rfl rfl (Nat.le_of_ble_eq_true rfl) (Nat.le_refl _) (Nat.le_refl _) (fun r T h_1 => ?_)
        obtain ⟨rfl, rfl⟩ := h_1
        rw [zin_col (n := q.2.2.2.1.length) (by omega)]
        refine j_if_eq (pc := 33) (tgt := 40) dX12_tokenByte_33 (by decide) (fun h33 => ?_) (fun h33 => ?_)
        · refine j_iconst (pc := 40) (v := 0) dX12_tokenByte_40 (by decide) ?_
          refine j_callS (pc := 41) (n_unlF) dX12_tokenByte_41 l_X12_312 mk_X12_unless ms_X12_unless (by decide) rfl rfl (Nat.le_of_ble_eq_true rfl) (Nat.le_refl _) (Nat.le_refl _) (fun r T h_1 => ?_)
          obtain ⟨rfl, rfl⟩ := h_1
          refine j_callV (pc := 44) (t := 12) (n_rf1 hM) dX12_tokenByte_44 l_X12_256 mk_X12_isRefused mv_X12_isRefused (by decide) rfl hM.1 (by decide) rfl rfl (Nat.le_of_ble_eq_true rfl) (Nat.le_refl _) (Nat.le_refl _) (fun r T h_1 => ?_)
          obtain ⟨rfl, rfl⟩ := h_1
          refine j_if_eq (pc := 47) (tgt := 54) dX12_tokenByte_47 (by decide) (fun h47 => absurd h47 (by decide)) (fun h47 => ?_)
          refine j_iconst (pc := 50) (v := (-1)) dX12_tokenByte_50 (by decide) ?_
          refine j_goto (pc := 51) (tgt := 66) dX12_tokenByte_51 (by decide) ?_
          refine j_iret (pc := 66) dX12_tokenByte_66 rfl ?_
          exact m_ref h (n := 1) (by decide) (by simp only [q_tokenByte, hp]; rw [if_pos (by decide)]; rw [show zget (zto q 1) i = -1 from zget_zcl (zbi_eq0.mp h33) (by show q.2.2.2.1.length ≤ 900; omega), zrd, if_pos rfl])
        · refine j_iconst (pc := 36) (v := 1) dX12_tokenByte_36 (by decide) ?_
          refine j_goto (pc := 37) (tgt := 41) dX12_tokenByte_37 (by decide) ?_
          refine j_callS (pc := 41) (n_unlT) dX12_tokenByte_41 l_X12_312 mk_X12_unless ms_X12_unless (by decide) rfl rfl (Nat.le_of_ble_eq_true rfl) (Nat.le_refl _) (Nat.le_refl _) (fun r T h_1 => ?_)
          obtain ⟨rfl, rfl⟩ := h_1
          refine j_callV (pc := 44) (t := 12) (n_ok hM) dX12_tokenByte_44 l_X12_256 mk_X12_isRefused mv_X12_isRefused (by decide) rfl hM.1 (by decide) rfl rfl (Nat.le_of_ble_eq_true rfl) (Nat.le_refl _) (Nat.le_refl _) (fun r T h_1 => ?_)
          obtain ⟨rfl, rfl⟩ := h_1
          refine j_if_eq (pc := 47) (tgt := 54) dX12_tokenByte_47 (by decide) (fun h47 => ?_) (fun h47 => absurd rfl h47)
          obtain ⟨k, hk, rfl⟩ := zcl2_t (by omega) (zbi_ne0 h33)
          refine j_aload_n (pc := 54) dX12_tokenByte_54 rfl ?_
          refine j_getPv (pc := 55) dX12_tokenByte_55 f_X12_87 (Or.inr ⟨_, rfl⟩) hM.1 (mp_tokens hM) ?_
          refine j_sipush (pc := 58) (v := 900) dX12_tokenByte_58 (by decide) ?_
          refine j_iload_n (pc := 61) dX12_tokenByte_61 rfl ?_
          refine j_imul (pc := 62) dX12_tokenByte_62 ?_
          refine j_iload_n (pc := 63) dX12_tokenByte_63 rfl ?_
          refine j_iadd (pc := 64) dX12_tokenByte_64 ?_
          rw [show (900 : Int32) * 1 + nI k = nI (900 + k) by rw [show (900 : Int32) * 1 = nI 900 from rfl, nI_add]]
          refine j_ialdn (pc := 65) dX12_tokenByte_65 (mk_tokens hM) (by omega) (Nat.le_of_ble_eq_true rfl) (hQ.1.2.2.2.2.1 k hk) ?_
          refine j_iret (pc := 66) dX12_tokenByte_66 rfl ?_
          have eg : zget (zto q 1) (nI k) = nI (q.2.2.2.1.getD k 0) := zget_in (L := q.2.2.2.1) hk (by omega)
          exact m_ans h (by simp only [q_tokenByte, hp]; rw [if_pos (by decide), eg, zrd, if_neg (nI_byte (hWp.2.2.2 _ (gD_mem hk)))])
theorem mr.sz {S : zM} {s : zST} {n r : Nat} (h : zMO S s) (hw : zWF n s) (hr : r < 4) : (zgI S 151 r ≤ 0 ↔ (sR s r).isSome = false) := by
  have hm := h.2.2.2.2.2.2 r hr
  cases e : sR s r with
  | none =>
    rw [e] at hm
    have : zgI S 151 r = 0 := hm
    rw [this]
    decide
  | some x =>
    rw [e] at hm
    have h1 : zgI S 151 r = nI x.2.2.1 := hm.1
    have h2 := hw.2.2.2
    cases ht : sT s with
    | none =>
      rw [ht] at h2
      rw [h2.2 r] at e
      cases e
    | some t =>
      have := ((hw.t ht).2.2 r x e).1
      rw [h1]
      exact ⟨fun q => absurd q (nI_ge (a := 0) (by omega) (by omega)), fun q => by cases q⟩
set_option maxRecDepth 20000 in
set_option maxHeartbeats 4000000 in
theorem n_readerMany {E : zE} {S : zM} {s : zST} {n : Nat} (h : zMO S s) (hw : zWF n s) : zSp E 0 0 0 mX12_readerMany cX12_readerMany [zR 123] S (fun r T => S = T ∧ r = some (zI (nI (zcR (sR s) 4)))) := by
  refine zSp.of (by decide) rfl (Nat.le_of_ble_eq_true rfl) rfl ?_
  have hM := h.1
  have lp : ∀ (m i : Nat), i + m = 4 → zJ E 0 0 0 mX12_readerMany cX12_readerMany 4 [some (zR 123), some (zI (nI (zcR (sR s) i))), some (zI (nI i))] [] S (fun r T => S = T ∧ r = some (zI (nI (zcR (sR s) 4)))) := by
    intro m
    induction m with
    | zero =>
      intro i hi
      have ei : i = 4 := by omega
      subst ei
      refine j_iload_n (pc := 4) dX12_readerMany_4 rfl ?_
      refine j_iconst (pc := 5) (v := 4) dX12_readerMany_5 (by decide) ?_
      refine j_icmp_ge (pc := 6) (tgt := 32) dX12_readerMany_6 (by decide) (fun h6 => ?_) (fun h6 => absurd (nI_le (a := 4) (Nat.le_refl _) (by decide)) h6)
      refine j_iload_n (pc := 32) dX12_readerMany_32 rfl ?_
      refine j_iret (pc := 33) dX12_readerMany_33 rfl ?_
      exact ⟨rfl, rfl⟩
    | succ m ih =>
      intro i hi
      refine j_iload_n (pc := 4) dX12_readerMany_4 rfl ?_
      refine j_iconst (pc := 5) (v := 4) dX12_readerMany_5 (by decide) ?_
      refine j_icmp_ge (pc := 6) (tgt := 32) dX12_readerMany_6 (by decide) (fun h6 => absurd h6 (nI_ge (b := 4) (by omega) (by decide))) (fun h6 => ?_)
      refine j_iload_n (pc := 9) dX12_readerMany_9 rfl ?_
      refine j_aload_n (pc := 10) dX12_readerMany_10 rfl ?_
      refine j_getPv (pc := 11) dX12_readerMany_11 f_X12_99 (Or.inr ⟨_, rfl⟩) hM.1 (mp_readerSize hM) ?_
      refine j_iload_n (pc := 14) dX12_readerMany_14 rfl ?_
      refine j_ialdn (pc := 15) dX12_readerMany_15 (mk_readerSize hM) (by omega) (Nat.le_of_ble_eq_true rfl) (rfl) ?_
      refine j_if_le (pc := 16) (tgt := 23) dX12_readerMany_16 (by decide) (fun h16 => ?_) (fun h16 => ?_)
      · refine j_iconst (pc := 23) (v := 0) dX12_readerMany_23 (by decide) ?_
        refine j_iadd (pc := 24) dX12_readerMany_24 ?_
        refine j_istore_n (pc := 25) (ls' := [_, _, _]) dX12_readerMany_25 (by decide) rfl rfl ?_
        refine j_iinc (pc := 26) (v := _ + 1) (ls' := [_, _, _]) dX12_readerMany_26 rfl rfl (by decide) rfl rfl ?_
        refine j_goto (pc := 29) (tgt := 4) dX12_readerMany_29 (by decide) ?_
        rw [nI_1, show nI (zcR (sR s) i) + 0 = nI (zcR (sR s) i) from nI_add _ 0]
        have := ih (i + 1) (by omega)
        rwa [show zcR (sR s) (i + 1) = zcR (sR s) i by rw [zcR, fb_ct_succ, (mr.sz h hw (by omega)).mp h16]; rfl] at this
      · refine j_iconst (pc := 19) (v := 1) dX12_readerMany_19 (by decide) ?_
        refine j_goto (pc := 20) (tgt := 24) dX12_readerMany_20 (by decide) ?_
        refine j_iadd (pc := 24) dX12_readerMany_24 ?_
        refine j_istore_n (pc := 25) (ls' := [_, _, _]) dX12_readerMany_25 (by decide) rfl rfl ?_
        refine j_iinc (pc := 26) (v := _ + 1) (ls' := [_, _, _]) dX12_readerMany_26 rfl rfl (by decide) rfl rfl ?_
        refine j_goto (pc := 29) (tgt := 4) dX12_readerMany_29 (by decide) ?_
        rw [nI_1, nI_1]
        have := ih (i + 1) (by omega)
        rwa [show zcR (sR s) (i + 1) = zcR (sR s) i + 1 by rw [zcR, fb_ct_succ, show (sR s i).isSome = true from by cases g : (sR s i).isSome; exact absurd ((mr.sz h hw (by omega)).mpr g) h16; rfl]; rfl] at this
  refine j_iconst (pc := 0) (v := 0) dX12_readerMany_0 (by decide) ?_
  refine j_istore_n (pc := 1) (ls' := [_, _, _]) dX12_readerMany_1 (by decide) rfl rfl ?_
  refine j_iconst (pc := 2) (v := 0) dX12_readerMany_2 (by decide) ?_
  refine j_istore_n (pc := 3) (ls' := [_, _, _]) dX12_readerMany_3 (by decide) rfl rfl ?_
  exact lp 4 0 (by omega)
set_option maxRecDepth 20000 in
set_option maxHeartbeats 4000000 in
theorem m_size {E : zE} {S : zM} {s : zST} {n : Nat} (h : zMO S s) (hw : zWF n s) (w : Int32) : zSp E 1 0 0 mX12_size cX12_size [zR 123, zI w] S (fun r T => r = some (zI (q_size s w).1) ∧ zMO T (q_size s w).2 ∧ zF zMX S T) := by
  refine zSp.of (by decide) rfl (Nat.le_of_ble_eq_true rfl) rfl ?_
  have hM := h.1
  refine j_aload_n (pc := 0) dX12_size_0 rfl ?_
  refine j_iconst (pc := 1) (v := 0) dX12_size_1 (by decide) ?_
  refine j_putI (pc := 2) dX12_size_2 f_X12_126 rfl hM.1 rfl ?_
  refine j_iload_n (pc := 5) dX12_size_5 rfl ?_
  refine j_swC (pc := 6) (k := 0) (tgt := 36) dX12_size_6 (by decide) (by decide) rfl (by decide) (fun h6 => ?_) (fun h6_0 => ?_)
  · refine j_aload_n (pc := 36) dX12_size_36 rfl ?_
    refine j_getIv (pc := 37) dX12_size_37 f_X12_132 (Or.inl rfl) hM.1 (h.2.1.1) ?_
    refine j_iret (pc := 40) dX12_size_40 rfl ?_
    exact ⟨by rw [q_size, h6]; rfl, h.th 0, zth.f⟩
  refine j_swC (pc := 6) (k := 1) (tgt := 41) dX12_size_6 (by decide) (by decide) rfl (by decide) (fun h6 => ?_) (fun h6_1 => ?_)
  · refine j_aload_n (pc := 41) dX12_size_41 rfl ?_
    refine j_getIv (pc := 42) dX12_size_42 f_X12_289 (Or.inr rfl) hM.1 (h.2.2.2.2.2.1.1.1) ?_
    refine j_if_eq (pc := 45) (tgt := 55) dX12_size_45 (by decide) (fun h45 => ?_) (fun h45 => ?_)
    · refine j_iconst (pc := 55) (v := 0) dX12_size_55 (by decide) ?_
      refine j_iret (pc := 56) dX12_size_56 rfl ?_
      exact ⟨by rw [q_size, h6, isN (zbi_eq0.mp h45)]; rfl, h.th 0, zth.f⟩
    · obtain ⟨q, hq⟩ := isS (zbi_ne0 h45)
      have hQ := h.2.2.2.2.2.1.2 q hq
      refine j_aload_n (pc := 48) dX12_size_48 rfl ?_
      refine j_getIv (pc := 49) dX12_size_49 f_X12_399 (Or.inl rfl) hM.1 (hQ.1.1) ?_
      refine j_goto (pc := 52) (tgt := 56) dX12_size_52 (by decide) ?_
      refine j_iret (pc := 56) dX12_size_56 rfl ?_
      exact ⟨by rw [q_size, h6, hq]; rfl, h.th 0, zth.f⟩
  refine j_swC (pc := 6) (k := 2) (tgt := 57) dX12_size_6 (by decide) (by decide) rfl (by decide) (fun h6 => ?_) (fun h6_2 => ?_)
  · obtain ⟨v, hvv, hv6, hve⟩ : ∃ v, zgI S 123 29 = nI v ∧ v < 600 ∧ (q_size s 2).1 = nI (v - (v - 40)) := by
      cases ht : sT s with
      | none => exact ⟨0, h.2.2.2.1.2 ht, by decide, by rw [q_size, ht]; rfl⟩
      | some t => exact ⟨tv t, (h.2.2.2.2.1 t ht).1.2.2.2.1.1, (hw.v ht).1, by rw [q_size, ht]; rfl⟩
    refine j_aload_n (pc := 57) dX12_size_57 rfl ?_
    refine j_getIv (pc := 58) dX12_size_58 f_X12_277 (Or.inl rfl) hM.1 (hvv) ?_
    refine j_bipush (pc := 61) (v := 40) dX12_size_61 (by decide) ?_
    refine j_icmp_ge (pc := 63) (tgt := 73) dX12_size_63 (by decide) (fun h63 => ?_) (fun h63 => ?_)
    · refine j_bipush (pc := 73) (v := 40) dX12_size_73 (by decide) ?_
      refine j_iret (pc := 75) dX12_size_75 rfl ?_
      have h40 : 40 ≤ v := Nat.le_of_not_lt (fun q => nI_ge (b := 40) q (by decide) h63)
      exact ⟨by rw [h6, hve, show v - (v - 40) = 40 by omega]; rfl, by rw [h6]; exact h.th 0, zth.f⟩
    · refine j_aload_n (pc := 66) dX12_size_66 rfl ?_
      refine j_getIv (pc := 67) dX12_size_67 f_X12_277 (Or.inl rfl) hM.1 (hvv) ?_
      refine j_goto (pc := 70) (tgt := 75) dX12_size_70 (by decide) ?_
      refine j_iret (pc := 75) dX12_size_75 rfl ?_
      have h40 : v < 40 := Nat.lt_of_not_le (fun q => h63 (nI_le (a := 40) q (by omega)))
      exact ⟨by rw [h6, hve, show v - (v - 40) = v by omega], by rw [h6]; exact h.th 0, zth.f⟩
  refine j_swC (pc := 6) (k := 3) (tgt := 76) dX12_size_6 (by decide) (by decide) rfl (by decide) (fun h6 => ?_) (fun h6_3 => ?_)
  · refine j_aload_n (pc := 76) dX12_size_76 rfl ?_
    refine j_callV (pc := 77) (t := 12) (n_readerMany (h.th 0) hw) dX12_size_77 l_X12_464 mk_X12_readerMany mv_X12_readerMany (by decide) rfl hM.1 (by decide) rfl rfl (Nat.le_of_ble_eq_true rfl) (Nat.le_refl _) (Nat.le_refl _) (fun r T h_1 => ?_)
    obtain ⟨rfl, rfl⟩ := h_1
    refine j_iret (pc := 80) dX12_size_80 rfl ?_
    exact ⟨by rw [q_size, h6]; rfl, h.th 0, zth.f⟩
  refine j_swD (pc := 6) (n := 4) (tgt := 81) dX12_size_6 rfl (fun k hk => by match k, hk with | 0, _ => exact h6_0 | 1, _ => exact h6_1 | 2, _ => exact h6_2 | 3, _ => exact h6_3) (by decide) ?_
  refine j_iconst (pc := 81) (v := (-1)) dX12_size_81 (by decide) ?_
  refine j_iret (pc := 82) dX12_size_82 rfl ?_
  exact ⟨by rw [q_size, if_neg h6_0, if_neg h6_1, if_neg h6_2, if_neg h6_3], h.th 0, zth.f⟩
set_option maxRecDepth 20000 in
set_option maxHeartbeats 4000000 in
theorem n_isReader {E : zE} {S : zM} {s : zST} {n : Nat} (h : zMO S s) (hw : zWF n s) (x : Int32) : zSp E 1 0 0 mX12_isReader cX12_isReader [zR 123, zI x] S (fun r T => S = T ∧ r = some (zI (zbi (zbeg s x)))) := by
  refine zSp.of (by decide) rfl (Nat.le_of_ble_eq_true rfl) rfl ?_
  have hM := h.1
  refine j_aload_n (pc := 0) dX12_isReader_0 rfl ?_
  refine j_getIv (pc := 1) dX12_isReader_1 f_X12_296 (Or.inr rfl) hM.1 (h.2.2.2.1.1) ?_
  refine j_if_eq (pc := 4) (tgt := 32) dX12_isReader_4 (by decide) (fun h4 => ?_) (fun h4 => ?_)
  · refine j_iconst (pc := 32) (v := 0) dX12_isReader_32 (by decide) ?_
    refine j_zret (pc := 33) dX12_isReader_33 rfl (by first | assumption | decide) ?_
    exact ⟨rfl, by rw [zbeg_n (isN (zbi_eq0.mp h4))]; rfl⟩
  · obtain ⟨t, ht⟩ := isS (zbi_ne0 h4)
    refine j_iload_n (pc := 7) dX12_isReader_7 rfl ?_
    refine j_i2l (pc := 8) dX12_isReader_8 ?_
    refine j_lconst (pc := 9) (v := 0) dX12_isReader_9 (by decide) ?_
    refine j_ldcL (pc := 10) dX12_isReader_10 k_X12_437 ?_
    refine j_callS (pc := 13) (n_in _ _ _) dX12_isReader_13 l_X12_159 mk_X12_in ms_X12_in (by decide) rfl rfl (Nat.le_of_ble_eq_true rfl) (Nat.le_refl _) (Nat.le_refl _) (fun r T h_1 => ?_)
    obtain ⟨rfl, rfl⟩ := h_1
    rw [show decide (¬ x.toInt64 < 0 ∧ ¬ (3 : Int64) < x.toInt64) = zcl2 4 x from zin_lit (m := 3) (by decide) x]
    refine j_if_eq (pc := 16) (tgt := 32) dX12_isReader_16 (by decide) (fun h16 => ?_) (fun h16 => ?_)
    · refine j_iconst (pc := 32) (v := 0) dX12_isReader_32 (by decide) ?_
      refine j_zret (pc := 33) dX12_isReader_33 rfl (by first | assumption | decide) ?_
      have hx5 : decide (¬ x < 0 ∧ ¬ 4 ≤ x) = false := zbi_eq0.mp h16
      exact ⟨rfl, by rw [zbeg_s ht, hx5]; rfl⟩
    · have hx4 := zbi_ne0 h16
      obtain ⟨j, hj, rfl⟩ := zcl2_t (by decide) hx4
      have hx5 : decide (¬ nI j < 0 ∧ ¬ 4 ≤ nI j) = true := hx4
      refine j_aload_n (pc := 19) dX12_isReader_19 rfl ?_
      refine j_getPv (pc := 20) dX12_isReader_20 f_X12_99 (Or.inr ⟨_, rfl⟩) hM.1 (mp_readerSize hM) ?_
      refine j_iload_n (pc := 23) dX12_isReader_23 rfl ?_
      refine j_ialdn (pc := 24) dX12_isReader_24 (mk_readerSize hM) (by omega) (Nat.le_of_ble_eq_true rfl) (rfl) ?_
      refine j_if_le (pc := 25) (tgt := 32) dX12_isReader_25 (by decide) (fun h25 => ?_) (fun h25 => ?_)
      · refine j_iconst (pc := 32) (v := 0) dX12_isReader_32 (by decide) ?_
        refine j_zret (pc := 33) dX12_isReader_33 rfl (by first | assumption | decide) ?_
        exact ⟨rfl, by rw [zbeg_s ht, hx5, nI_clamp (by omega), (mr.sz h hw hj).mp h25]; rfl⟩
      · refine j_iconst (pc := 28) (v := 1) dX12_isReader_28 (by decide) ?_
        refine j_goto (pc := 29) (tgt := 33) dX12_isReader_29 (by decide) ?_
        refine j_zret (pc := 33) dX12_isReader_33 rfl (by first | assumption | decide) ?_
        exact ⟨rfl, by rw [zbeg_s ht, hx5, nI_clamp (by omega), show (sR s j).isSome = true by cases g : (sR s j).isSome; exact absurd ((mr.sz h hw hj).mpr g) h25; rfl]; rfl⟩
set_option maxRecDepth 20000 in
set_option maxHeartbeats 4000000 in
theorem m_seen {E : zE} {S : zM} {s : zST} {n : Nat} (h : zMO S s) (hw : zWF n s) (x i : Int32) : zSp E 2 0 0 mX12_seen cX12_seen [zR 123, zI x, zI i] S (fun r T => r = some (zI (q_seen s x i).1) ∧ zMO T (q_seen s x i).2 ∧ zF zMX S T) := by
  refine zSp.of (by decide) rfl (Nat.le_of_ble_eq_true rfl) rfl ?_
  have hM := h.1
  cases hz : zbeg s x with
  | false =>
    have e : q_seen s x i = zrf s 1 := by
      rcases zbeg_f hz with g | ⟨t, g, g2 | ⟨g2, g3⟩⟩
      · simp only [q_seen, g]
      · simp only [q_seen, g]
        rw [if_pos g2]
      · simp only [q_seen, g]
        rw [if_neg (by rw [g2]; decide), g3]
    refine j_aload_n (pc := 0) dX12_seen_0 rfl ?_
    refine j_aload_n (pc := 1) dX12_seen_1 rfl ?_
    refine j_iload_n (pc := 2) dX12_seen_2 rfl ?_
    refine j_callV (pc := 3) (t := 12) (n_isReader h hw _) dX12_seen_3 l_X12_439 mk_X12_isReader mv_X12_isReader (by decide) rfl hM.1 (by decide) rfl rfl (Nat.le_of_ble_eq_true rfl) (Nat.le_refl _) (Nat.le_refl _) (fun r T h_1 => ?_)
    obtain ⟨rfl, rfl⟩ := h_1
    rw [hz]
    refine j_if_eq (pc := 6) (tgt := 29) dX12_seen_6 (by decide) (fun h6 => ?_) (fun h6 => absurd rfl h6)
    refine j_iconst (pc := 29) (v := 0) dX12_seen_29 (by decide) ?_
    refine j_callS (pc := 30) (n_unlF) dX12_seen_30 l_X12_312 mk_X12_unless ms_X12_unless (by decide) rfl rfl (Nat.le_of_ble_eq_true rfl) (Nat.le_refl _) (Nat.le_refl _) (fun r T h_1 => ?_)
    obtain ⟨rfl, rfl⟩ := h_1
    refine j_callV (pc := 33) (t := 12) (n_rf1 hM) dX12_seen_33 l_X12_256 mk_X12_isRefused mv_X12_isRefused (by decide) rfl hM.1 (by decide) rfl rfl (Nat.le_of_ble_eq_true rfl) (Nat.le_refl _) (Nat.le_refl _) (fun r T h_1 => ?_)
    obtain ⟨rfl, rfl⟩ := h_1
    refine j_if_eq (pc := 36) (tgt := 43) dX12_seen_36 (by decide) (fun h36 => absurd h36 (by decide)) (fun h36 => ?_)
    refine j_iconst (pc := 39) (v := (-1)) dX12_seen_39 (by decide) ?_
    refine j_goto (pc := 40) (tgt := 54) dX12_seen_40 (by decide) ?_
    refine j_iret (pc := 54) dX12_seen_54 rfl ?_
    exact m_ref h (n := 1) (by decide) e
  | true =>
    obtain ⟨t, j, y, ht, hj, rfl, hy⟩ := zbeg_t hz
    have hcl : (nI j).toNatClampNeg = j := nI_clamp (by omega)
    have hc4 : ¬ zcl2 4 (nI j) = false := by rw [zcl2_nI hj (by decide)]; decide
    have hyn : sR s (zn (nI j)) = some y := by rw [zn, hcl]; exact hy
    have hm := h.2.2.2.2.2.2 j hj
    rw [hy] at hm
    obtain ⟨r1, r2, r3, r4, r5, r6, r7⟩ := hm
    have hv := hw.v ht
    have hWr := (hw.t ht).2.2 j y hy
    refine j_aload_n (pc := 0) dX12_seen_0 rfl ?_
    refine j_aload_n (pc := 1) dX12_seen_1 rfl ?_
    refine j_iload_n (pc := 2) dX12_seen_2 rfl ?_
    refine j_callV (pc := 3) (t := 12) (n_isReader h hw _) dX12_seen_3 l_X12_439 mk_X12_isReader mv_X12_isReader (by decide) rfl hM.1 (by decide) rfl rfl (Nat.le_of_ble_eq_true rfl) (Nat.le_refl _) (Nat.le_refl _) (fun r T h_1 => ?_)
    obtain ⟨rfl, rfl⟩ := h_1
    rw [hz]
    refine j_if_eq (pc := 6) (tgt := 29) dX12_seen_6 (by decide) (fun h6 => absurd h6 (by decide)) (fun h6 => ?_)
    refine j_iload_n (pc := 9) dX12_seen_9 rfl ?_
    refine j_i2l (pc := 10) dX12_seen_10 ?_
    refine j_lconst (pc := 11) (v := 0) dX12_seen_11 (by decide) ?_
    refine j_aload_n (pc := 12) dX12_seen_12 rfl ?_
    refine j_getIv (pc := 13) dX12_seen_13 f_X12_283 (Or.inl rfl) hM.1 ((h.2.2.2.2.1 t ht).1.2.2.2.1.2.2) ?_
    refine j_iconst (pc := 16) (v := 1) dX12_seen_16 (by decide) ?_
    refine j_isub (pc := 17) dX12_seen_17 ?_
    refine j_i2l (pc := 18) dX12_seen_18 ?_
    refine j_callS (pc := 19) (n_in _ _ _) dX12_seen_19 l_X12_159 mk_X12_in ms_X12_in (by decide) rfl rfl (Nat.le_of_ble_eq_true rfl) (Nat.le_refl _) (Nat.le_refl _) (fun r T h_1 => ?_)
    obtain ⟨rfl, rfl⟩ := h_1
    rw [zin_col (by omega)]
    refine j_if_eq (pc := 22) (tgt := 29) dX12_seen_22 (by decide) (fun h22 => ?_) (fun h22 => ?_)
    · refine j_iconst (pc := 29) (v := 0) dX12_seen_29 (by decide) ?_
      refine j_callS (pc := 30) (n_unlF) dX12_seen_30 l_X12_312 mk_X12_unless ms_X12_unless (by decide) rfl rfl (Nat.le_of_ble_eq_true rfl) (Nat.le_refl _) (Nat.le_refl _) (fun r T h_1 => ?_)
      obtain ⟨rfl, rfl⟩ := h_1
      refine j_callV (pc := 33) (t := 12) (n_rf1 hM) dX12_seen_33 l_X12_256 mk_X12_isRefused mv_X12_isRefused (by decide) rfl hM.1 (by decide) rfl rfl (Nat.le_of_ble_eq_true rfl) (Nat.le_refl _) (Nat.le_refl _) (fun r T h_1 => ?_)
      obtain ⟨rfl, rfl⟩ := h_1
      refine j_if_eq (pc := 36) (tgt := 43) dX12_seen_36 (by decide) (fun h36 => absurd h36 (by decide)) (fun h36 => ?_)
      refine j_iconst (pc := 39) (v := (-1)) dX12_seen_39 (by decide) ?_
      refine j_goto (pc := 40) (tgt := 54) dX12_seen_40 (by decide) ?_
      refine j_iret (pc := 54) dX12_seen_54 rfl ?_
      exact m_ref h (n := 1) (by decide) (by simp only [q_seen, ht]; rw [if_neg hc4, hyn]; simp only []; rw [if_neg (bnf (zbi_eq0.mp h22))])
    · refine j_iconst (pc := 25) (v := 1) dX12_seen_25 (by decide) ?_
      refine j_goto (pc := 26) (tgt := 30) dX12_seen_26 (by decide) ?_
      refine j_callS (pc := 30) (n_unlT) dX12_seen_30 l_X12_312 mk_X12_unless ms_X12_unless (by decide) rfl rfl (Nat.le_of_ble_eq_true rfl) (Nat.le_refl _) (Nat.le_refl _) (fun r T h_1 => ?_)
      obtain ⟨rfl, rfl⟩ := h_1
      refine j_callV (pc := 33) (t := 12) (n_ok hM) dX12_seen_33 l_X12_256 mk_X12_isRefused mv_X12_isRefused (by decide) rfl hM.1 (by decide) rfl rfl (Nat.le_of_ble_eq_true rfl) (Nat.le_refl _) (Nat.le_refl _) (fun r T h_1 => ?_)
      obtain ⟨rfl, rfl⟩ := h_1
      refine j_if_eq (pc := 36) (tgt := 43) dX12_seen_36 (by decide) (fun h36 => ?_) (fun h36 => absurd rfl h36)
      obtain ⟨k, hk, rfl⟩ := zcl2_t (by omega) (zbi_ne0 h22)
      refine j_aload_n (pc := 43) dX12_seen_43 rfl ?_
      refine j_getPv (pc := 44) dX12_seen_44 f_X12_117 (Or.inr ⟨_, rfl⟩) hM.1 (mp_sawMany hM) ?_
      refine j_bipush (pc := 47) (v := 64) dX12_seen_47 (by decide) ?_
      refine j_iload_n (pc := 49) dX12_seen_49 rfl ?_
      refine j_imul (pc := 50) dX12_seen_50 ?_
      rw [show (64 : Int32) * nI j = nI (64 * j) from pk_mul 64 _]
      refine j_iload_n (pc := 51) dX12_seen_51 rfl ?_
      refine j_iadd (pc := 52) dX12_seen_52 ?_
      rw [nI_add]
      refine j_ialdn (pc := 53) dX12_seen_53 (mk_sawMany hM) (by omega) (Nat.le_of_ble_eq_true rfl) ((r7 k (by omega)).1) ?_
      refine j_iret (pc := 54) dX12_seen_54 rfl ?_
      exact m_ans h (by simp only [q_seen, ht]; rw [if_neg hc4, hyn]; simp only []; rw [if_pos (zbi_ne0 h22), zn, nI_clamp (show k < 2 ^ 31 by omega)])
