theorem zCP.n {S : zM} {P : Option zPGE} (h : zCP S P) : ∃ ids vs kb ka kk ah be, zPg S P.isSome ids vs kb ka kk ah be ∧ ∀ q, P = some q → ids = q.1 := by
  cases P with
  | none =>
    obtain ⟨ids, vs, kb, ka, kk, ah, be, h⟩ := h
    exact ⟨ids, vs, kb, ka, kk, ah, be, h, fun q e => by cases e⟩
  | some q =>
    obtain ⟨kb, ka, kk, h, h2⟩ := h
    exact ⟨_, _, kb, ka, kk, _, _, h, fun q e => by cases e; rfl⟩
theorem n4 (i j : Nat) : nI i * 4 + nI j = nI (i * 4 + j) := by rw [show (4 : Int32) = nI 4 from rfl, pk_mul, nI_add]
theorem zle1 {w : Int32} (h0 : ¬ w < 0) (h1 : w ≤ 1) : zcl2 2 w = true := decide_eq_true (p := ¬ w < 0 ∧ ¬ nI 2 ≤ w) ⟨h0, Int32.not_le.mpr (Int32.lt_of_le_of_lt h1 (by decide))⟩
theorem zgt1 {w : Int32} (h0 : ¬ w < 0) (h1 : ¬ w ≤ 1) : zcl2 2 w = false := zcl2_f2 (m := 2) (by
  rcases pk_ix w (n := 2) (by decide) with g | g | ⟨k, hk, rfl⟩
  · exact absurd g h0
  · exact g
  · exact absurd (nI_le (b := 1) (by omega) (by decide)) h1)
set_option maxRecDepth 20000 in
set_option maxHeartbeats 4000000 in
theorem p_at {E : zE} {S : zM} {s : zST} {n : Nat} (h : zCI S s) (hw : zWF n s) (i : Int32) : zSp E 1 0 0 mX11_at cX11_at [zR 1, zI i] S (fun r T => r = some (zI (q_at s i).1) ∧ zCI T (q_at s i).2 ∧ zQF S T) := by
  refine zSp.of (by decide) rfl (Nat.le_of_ble_eq_true rfl) rfl ?_
  obtain ⟨h0, hF, hG4, hi, hV, hP, hR, hT⟩ := _root_.id h
  have k1 := h0.1
  cases hp : sP s with
  | none =>
    rw [hp] at hP
    obtain ⟨ids, vs, kb, ka, kk, ah, be, hPg⟩ := hP
    have k93 := hPg.1.1
    have e : q_at s i = zrf s 1 := by rw [q_at, hp]
    refine j_aload_n (pc := 0) dX11_at_0 rfl ?_
    refine j_getPv (pc := 1) dX11_at_1 f_X11_33 (Or.inl ⟨_, rfl⟩) (by assumption) (h0.2.1.2.2.2.1) ?_
    refine j_iload_n (pc := 4) dX11_at_4 rfl ?_
    refine j_callV (pc := 5) (t := 4) (c_phas hPg _) dX11_at_5 l_X11_221 mk_X4_has mv_X4_has (by decide) rfl (by assumption) (by decide) rfl rfl (Nat.le_of_ble_eq_true rfl) (Nat.le_refl _) (Nat.le_refl _) (fun r T h_1 => ?_)
    obtain ⟨rfl, rfl⟩ := h_1
    rw [Bool.false_and]
    refine j_if_ne (pc := 8) (tgt := 17) dX11_at_8 (by decide) (fun h8 => absurd rfl h8) (fun h8 => ?_)
    refine j_aload_n (pc := 11) dX11_at_11 rfl ?_
    refine j_iconst (pc := 12) (v := 1) dX11_at_12 (by decide) ?_
    refine j_callV (pc := 13) (t := 11) (c_refused k1 _) dX11_at_13 l_X11_68 mk_X11_refused mv_X11_refused (by decide) rfl (by assumption) (by decide) rfl rfl (Nat.le_of_ble_eq_true rfl) (Nat.le_refl _) (Nat.le_refl _) (fun r T h_1 => ?_)
    obtain ⟨rfl, rfl⟩ := h_1
    refine j_iret (pc := 16) dX11_at_16 rfl ?_
    exact q_ref h zQF.rf e
  | some q =>
    rw [hp] at hP
    obtain ⟨kb, ka, kk, hPg, e0, e1⟩ := hP
    have k93 := hPg.1.1
    have l20 := hPg.2.2.2.1
    refine j_aload_n (pc := 0) dX11_at_0 rfl ?_
    refine j_getPv (pc := 1) dX11_at_1 f_X11_33 (Or.inl ⟨_, rfl⟩) (by assumption) (h0.2.1.2.2.2.1) ?_
    refine j_iload_n (pc := 4) dX11_at_4 rfl ?_
    refine j_callV (pc := 5) (t := 4) (c_phas hPg _) dX11_at_5 l_X11_221 mk_X4_has mv_X4_has (by decide) rfl (by assumption) (by decide) rfl rfl (Nat.le_of_ble_eq_true rfl) (Nat.le_refl _) (Nat.le_refl _) (fun r T h_1 => ?_)
    obtain ⟨rfl, rfl⟩ := h_1
    rw [Bool.true_and]
    refine j_if_ne (pc := 8) (tgt := 17) dX11_at_8 (by decide) (fun h8 => ?_) (fun h8 => ?_)
    · have hi2 := zbi_ne0 h8
      obtain ⟨j, hj, rfl⟩ := zcl2_t (by omega) hi2
      have k94 := hPg.1.2.1
      have hv := hPg.2.2.2.2.2.2.1 j _ (gD 0 hj)
      refine j_aload_n (pc := 17) dX11_at_17 rfl ?_
      refine j_aload_n (pc := 18) dX11_at_18 rfl ?_
      refine j_getPv (pc := 19) dX11_at_19 f_X11_33 (Or.inl ⟨_, rfl⟩) (by assumption) (h0.2.1.2.2.2.1) ?_
      refine j_getPv (pc := 22) dX11_at_22 f_X11_222 (Or.inr ⟨_, rfl⟩) (by assumption) (hPg.1.2.2.2.1) ?_
      refine j_iload_n (pc := 25) dX11_at_25 rfl ?_
      refine j_ialdn (pc := 26) dX11_at_26 k94 (by omega) (by decide) hv ?_
      refine j_callV (pc := 27) (t := 11) (c_answered k1 _) dX11_at_27 l_X11_103 mk_X11_answered mv_X11_answered (by decide) rfl (by assumption) (by decide) rfl rfl (Nat.le_of_ble_eq_true rfl) (Nat.le_refl _) (Nat.le_refl _) (fun r T h_1 => ?_)
      obtain ⟨rfl, rfl⟩ := h_1
      refine j_iret (pc := 30) dX11_at_30 rfl ?_
      exact q_ans h zQF.rf (by simp only [q_at, hp]; rw [if_pos hi2, zn, nI_clamp (by omega)])
    · refine j_aload_n (pc := 11) dX11_at_11 rfl ?_
      refine j_iconst (pc := 12) (v := 1) dX11_at_12 (by decide) ?_
      refine j_callV (pc := 13) (t := 11) (c_refused k1 _) dX11_at_13 l_X11_68 mk_X11_refused mv_X11_refused (by decide) rfl (by assumption) (by decide) rfl rfl (Nat.le_of_ble_eq_true rfl) (Nat.le_refl _) (Nat.le_refl _) (fun r T h_1 => ?_)
      obtain ⟨rfl, rfl⟩ := h_1
      refine j_iret (pc := 16) dX11_at_16 rfl ?_
      exact q_ref h zQF.rf (by simp only [q_at, hp]; rw [if_neg (bnf (zbi_eq0.mp h8))])
set_option maxRecDepth 20000 in
set_option maxHeartbeats 4000000 in
theorem p_cell {E : zE} {S : zM} {s : zST} {n : Nat} (h : zCI S s) (hw : zWF n s) (i c : Int32) : zSp E 1 0 0 mX11_cell cX11_cell [zR 1, zI i, zI c] S (fun r T => r = some (zL (q_cell s i c).1) ∧ zCI T (q_cell s i c).2 ∧ zQF S T) := by
  refine zSp.of (by decide) rfl (Nat.le_of_ble_eq_true rfl) rfl ?_
  obtain ⟨h0, hF, hG4, hi, hV, hP, hR, hT⟩ := _root_.id h
  have k1 := h0.1
  cases hp : sP s with
  | none =>
    rw [hp] at hP
    obtain ⟨ids, vs, kb, ka, kk, ah, be, hPg⟩ := hP
    have k93 := hPg.1.1
    have e : q_cell s i c = zrfL s 1 := by rw [q_cell, hp]
    refine j_aload_n (pc := 0) dX11_cell_0 rfl ?_
    refine j_getPv (pc := 1) dX11_cell_1 f_X11_33 (Or.inl ⟨_, rfl⟩) (by assumption) (h0.2.1.2.2.2.1) ?_
    refine j_iload_n (pc := 4) dX11_cell_4 rfl ?_
    refine j_callV (pc := 5) (t := 4) (c_phas hPg _) dX11_cell_5 l_X11_221 mk_X4_has mv_X4_has (by decide) rfl (by assumption) (by decide) rfl rfl (Nat.le_of_ble_eq_true rfl) (Nat.le_refl _) (Nat.le_refl _) (fun r T h_1 => ?_)
    obtain ⟨rfl, rfl⟩ := h_1
    rw [Bool.false_and]
    refine j_if_eq (pc := 8) (tgt := 19) dX11_cell_8 (by decide) (fun h8 => ?_) (fun h8 => absurd rfl h8)
    refine j_aload_n (pc := 19) dX11_cell_19 rfl ?_
    refine j_iconst (pc := 20) (v := 1) dX11_cell_20 (by decide) ?_
    refine j_callV (pc := 21) (t := 11) (c_refusedV k1 _) dX11_cell_21 l_X11_154 mk_X11_refusedValue mv_X11_refusedValue (by decide) rfl (by assumption) (by decide) rfl rfl (Nat.le_of_ble_eq_true rfl) (Nat.le_refl _) (Nat.le_refl _) (fun r T h_1 => ?_)
    obtain ⟨rfl, rfl⟩ := h_1
    refine j_lret (pc := 24) dX11_cell_24 rfl ?_
    exact q_refL h zQF.rf e
  | some q =>
    rw [hp] at hP
    obtain ⟨kb, ka, kk, hPg, e0, e1⟩ := hP
    have k93 := hPg.1.1
    have l20 := hPg.2.2.2.1
    refine j_aload_n (pc := 0) dX11_cell_0 rfl ?_
    refine j_getPv (pc := 1) dX11_cell_1 f_X11_33 (Or.inl ⟨_, rfl⟩) (by assumption) (h0.2.1.2.2.2.1) ?_
    refine j_iload_n (pc := 4) dX11_cell_4 rfl ?_
    refine j_callV (pc := 5) (t := 4) (c_phas hPg _) dX11_cell_5 l_X11_221 mk_X4_has mv_X4_has (by decide) rfl (by assumption) (by decide) rfl rfl (Nat.le_of_ble_eq_true rfl) (Nat.le_refl _) (Nat.le_refl _) (fun r T h_1 => ?_)
    obtain ⟨rfl, rfl⟩ := h_1
    rw [Bool.true_and]
    refine j_if_eq (pc := 8) (tgt := 19) dX11_cell_8 (by decide) (fun h8 => ?_) (fun h8 => ?_)
    · refine j_aload_n (pc := 19) dX11_cell_19 rfl ?_
      refine j_iconst (pc := 20) (v := 1) dX11_cell_20 (by decide) ?_
      refine j_callV (pc := 21) (t := 11) (c_refusedV k1 _) dX11_cell_21 l_X11_154 mk_X11_refusedValue mv_X11_refusedValue (by decide) rfl (by assumption) (by decide) rfl rfl (Nat.le_of_ble_eq_true rfl) (Nat.le_refl _) (Nat.le_refl _) (fun r T h_1 => ?_)
      obtain ⟨rfl, rfl⟩ := h_1
      refine j_lret (pc := 24) dX11_cell_24 rfl ?_
      exact q_refL h zQF.rf (by simp only [q_cell, hp]; rw [if_neg (fun g => bnf (zbi_eq0.mp h8) g.1)])
    · refine j_aload_n (pc := 11) dX11_cell_11 rfl ?_
      refine j_iload_n (pc := 12) dX11_cell_12 rfl ?_
      refine j_callV (pc := 13) (t := 11) (c_isColumn h c) dX11_cell_13 l_X11_135 mk_X11_isColumn mv_X11_isColumn (by decide) rfl (by assumption) (by decide) rfl rfl (Nat.le_of_ble_eq_true rfl) (Nat.le_refl _) (Nat.le_refl _) (fun r T h_1 => ?_)
      obtain ⟨rfl, rfl⟩ := h_1
      refine j_if_ne (pc := 16) (tgt := 25) dX11_cell_16 (by decide) (fun h16 => ?_) (fun h16 => ?_)
      · have hi2 := zbi_ne0 h8
        obtain ⟨j, hj, rfl⟩ := zcl2_t (by omega) hi2
        obtain ⟨t, jc, ht, hjc, rfl, hK4⟩ := zcol_t hw (zbi_ne0 h16)
        have k95 := hPg.1.2.2.1
        have hv := hPg.2.2.2.2.2.2.2.1 j jc hj (by omega)
        refine j_aload_n (pc := 25) dX11_cell_25 rfl ?_
        refine j_aload_n (pc := 26) dX11_cell_26 rfl ?_
        refine j_getPv (pc := 27) dX11_cell_27 f_X11_33 (Or.inl ⟨_, rfl⟩) (by assumption) (h0.2.1.2.2.2.1) ?_
        refine j_getPv (pc := 30) dX11_cell_30 f_X11_223 (Or.inr ⟨_, rfl⟩) (by assumption) (hPg.1.2.2.2.2.1) ?_
        refine j_iload_n (pc := 33) dX11_cell_33 rfl ?_
        refine j_iconst (pc := 34) (v := 4) dX11_cell_34 (by decide) ?_
        refine j_imul (pc := 35) dX11_cell_35 ?_
        refine j_iload_n (pc := 36) dX11_cell_36 rfl ?_
        refine j_iadd (pc := 37) dX11_cell_37 ?_
        rw [n4]
        refine j_laldn (pc := 38) dX11_cell_38 k95 (by omega) (by decide) hv ?_
        refine j_callV (pc := 39) (t := 11) (c_answeredV k1 _) dX11_cell_39 l_X11_162 mk_X11_answeredValue mv_X11_answeredValue (by decide) rfl (by assumption) (by decide) rfl rfl (Nat.le_of_ble_eq_true rfl) (Nat.le_refl _) (Nat.le_refl _) (fun r T h_1 => ?_)
        obtain ⟨rfl, rfl⟩ := h_1
        refine j_lret (pc := 42) dX11_cell_42 rfl ?_
        exact q_ansL h zQF.rf (by simp only [q_cell, hp]; rw [if_pos ⟨hi2, zbi_ne0 h16⟩]; simp only [zn, nI_clamp (show j < 2 ^ 31 by omega), nI_clamp (show jc < 2 ^ 31 by omega)])
      · refine j_aload_n (pc := 19) dX11_cell_19 rfl ?_
        refine j_iconst (pc := 20) (v := 1) dX11_cell_20 (by decide) ?_
        refine j_callV (pc := 21) (t := 11) (c_refusedV k1 _) dX11_cell_21 l_X11_154 mk_X11_refusedValue mv_X11_refusedValue (by decide) rfl (by assumption) (by decide) rfl rfl (Nat.le_of_ble_eq_true rfl) (Nat.le_refl _) (Nat.le_refl _) (fun r T h_1 => ?_)
        obtain ⟨rfl, rfl⟩ := h_1
        refine j_lret (pc := 24) dX11_cell_24 rfl ?_
        exact q_refL h zQF.rf (by simp only [q_cell, hp]; rw [if_neg (fun g => bnf (zbi_eq0.mp h16) g.2)])
set_option maxRecDepth 20000 in
set_option maxHeartbeats 4000000 in
theorem p_tokenSize {E : zE} {S : zM} {s : zST} {n : Nat} (h : zCI S s) (hw : zWF n s) (w : Int32) : zSp E 1 0 0 mX11_tokenSize cX11_tokenSize [zR 1, zI w] S (fun r T => r = some (zI (q_tokenSize s w).1) ∧ zCI T (q_tokenSize s w).2 ∧ zQF S T) := by
  refine zSp.of (by decide) rfl (Nat.le_of_ble_eq_true rfl) rfl ?_
  obtain ⟨h0, hF, hG4, hi, hV, hP, hR, hT⟩ := _root_.id h
  have k1 := h0.1
  cases hp : sP s with
  | none =>
    rw [hp] at hP
    obtain ⟨ids, vs, kb, ka, kk, ah, be, hPg⟩ := hP
    have k93 := hPg.1.1
    have e : q_tokenSize s w = zrf s 1 := by rw [q_tokenSize, hp]
    refine j_aload_n (pc := 0) dX11_tokenSize_0 rfl ?_
    refine j_getPv (pc := 1) dX11_tokenSize_1 f_X11_33 (Or.inl ⟨_, rfl⟩) (by assumption) (h0.2.1.2.2.2.1) ?_
    refine j_getIv (pc := 4) dX11_tokenSize_4 f_X11_89 (Or.inr rfl) (by assumption) (hPg.2.1) ?_
    refine j_if_eq (pc := 7) (tgt := 19) dX11_tokenSize_7 (by decide) (fun h7 => ?_) (fun h7 => absurd rfl h7)
    refine j_aload_n (pc := 19) dX11_tokenSize_19 rfl ?_
    refine j_iconst (pc := 20) (v := 1) dX11_tokenSize_20 (by decide) ?_
    refine j_callV (pc := 21) (t := 11) (c_refused k1 _) dX11_tokenSize_21 l_X11_68 mk_X11_refused mv_X11_refused (by decide) rfl (by assumption) (by decide) rfl rfl (Nat.le_of_ble_eq_true rfl) (Nat.le_refl _) (Nat.le_refl _) (fun r T h_1 => ?_)
    obtain ⟨rfl, rfl⟩ := h_1
    refine j_iret (pc := 24) dX11_tokenSize_24 rfl ?_
    exact q_ref h zQF.rf e
  | some q =>
    rw [hp] at hP
    obtain ⟨kb, ka, kk, hPg, e0, e1⟩ := hP
    have k93 := hPg.1.1
    have l20 := hPg.2.2.2.1
    refine j_aload_n (pc := 0) dX11_tokenSize_0 rfl ?_
    refine j_getPv (pc := 1) dX11_tokenSize_1 f_X11_33 (Or.inl ⟨_, rfl⟩) (by assumption) (h0.2.1.2.2.2.1) ?_
    refine j_getIv (pc := 4) dX11_tokenSize_4 f_X11_89 (Or.inr rfl) (by assumption) (hPg.2.1) ?_
    refine j_if_eq (pc := 7) (tgt := 19) dX11_tokenSize_7 (by decide) (fun h7 => absurd h7 (by decide)) (fun h7 => ?_)
    refine j_iload_n (pc := 10) dX11_tokenSize_10 rfl ?_
    refine j_if_lt (pc := 11) (tgt := 19) dX11_tokenSize_11 (by decide) (fun h11 => ?_) (fun h11 => ?_)
    · refine j_aload_n (pc := 19) dX11_tokenSize_19 rfl ?_
      refine j_iconst (pc := 20) (v := 1) dX11_tokenSize_20 (by decide) ?_
      refine j_callV (pc := 21) (t := 11) (c_refused k1 _) dX11_tokenSize_21 l_X11_68 mk_X11_refused mv_X11_refused (by decide) rfl (by assumption) (by decide) rfl rfl (Nat.le_of_ble_eq_true rfl) (Nat.le_refl _) (Nat.le_refl _) (fun r T h_1 => ?_)
      obtain ⟨rfl, rfl⟩ := h_1
      refine j_iret (pc := 24) dX11_tokenSize_24 rfl ?_
      exact q_ref h zQF.rf (by simp only [q_tokenSize, hp]; rw [if_neg (bnf (zcl2_f1 h11))])
    · refine j_iload_n (pc := 14) dX11_tokenSize_14 rfl ?_
      refine j_iconst (pc := 15) (v := 1) dX11_tokenSize_15 (by decide) ?_
      refine j_icmp_le (pc := 16) (tgt := 25) dX11_tokenSize_16 (by decide) (fun h16 => ?_) (fun h16 => ?_)
      · have hw2 := zle1 h11 h16
        refine j_aload_n (pc := 25) dX11_tokenSize_25 rfl ?_
        refine j_aload_n (pc := 26) dX11_tokenSize_26 rfl ?_
        refine j_getPv (pc := 27) dX11_tokenSize_27 f_X11_33 (Or.inl ⟨_, rfl⟩) (by assumption) (h0.2.1.2.2.2.1) ?_
        refine j_iload_n (pc := 30) dX11_tokenSize_30 rfl ?_
        refine j_callV (pc := 31) (t := 4) (c_tokenOf hPg w) dX11_tokenSize_31 l_X11_227 mk_X4_tokenOf mv_X4_tokenOf (by decide) rfl (by assumption) (by decide) rfl rfl (Nat.le_of_ble_eq_true rfl) (Nat.le_refl _) (Nat.le_refl _) (fun r T h_1 => ?_)
        obtain ⟨rfl, c, cap, rfl, hB⟩ := h_1
        have kc := hB.1
        have et : (if q.1.length = 0 then kk else if w = 0 then kb else ka) = zto q w := by
          rw [zto, e0, e1]
          by_cases g1 : q.1.length = 0
          · rw [if_pos g1, if_pos g1, if_pos g1]
            split <;> rfl
          · rw [if_neg g1, if_neg g1, if_neg g1]
        rw [et] at hB
        refine j_getIv (pc := 34) dX11_tokenSize_34 f_X11_58 (Or.inl rfl) (by assumption) (hB.2.2.2.2.1) ?_
        refine j_callV (pc := 37) (t := 11) (c_answered k1 _) dX11_tokenSize_37 l_X11_103 mk_X11_answered mv_X11_answered (by decide) rfl (by assumption) (by decide) rfl rfl (Nat.le_of_ble_eq_true rfl) (Nat.le_refl _) (Nat.le_refl _) (fun r T h_1 => ?_)
        obtain ⟨rfl, rfl⟩ := h_1
        refine j_iret (pc := 40) dX11_tokenSize_40 rfl ?_
        exact q_ans h zQF.rf (by simp only [q_tokenSize, hp]; rw [if_pos hw2])
      · refine j_aload_n (pc := 19) dX11_tokenSize_19 rfl ?_
        refine j_iconst (pc := 20) (v := 1) dX11_tokenSize_20 (by decide) ?_
        refine j_callV (pc := 21) (t := 11) (c_refused k1 _) dX11_tokenSize_21 l_X11_68 mk_X11_refused mv_X11_refused (by decide) rfl (by assumption) (by decide) rfl rfl (Nat.le_of_ble_eq_true rfl) (Nat.le_refl _) (Nat.le_refl _) (fun r T h_1 => ?_)
        obtain ⟨rfl, rfl⟩ := h_1
        refine j_iret (pc := 24) dX11_tokenSize_24 rfl ?_
        exact q_ref h zQF.rf (by simp only [q_tokenSize, hp]; rw [if_neg (bnf (zgt1 h11 h16))])
set_option maxRecDepth 20000 in
set_option maxHeartbeats 4000000 in
theorem p_tokenByte {E : zE} {S : zM} {s : zST} {n : Nat} (h : zCI S s) (hw : zWF n s) (w i : Int32) : zSp E 2 0 0 mX11_tokenByte cX11_tokenByte [zR 1, zI w, zI i] S (fun r T => r = some (zI (q_tokenByte s w i).1) ∧ zCI T (q_tokenByte s w i).2 ∧ zQF S T) := by
  refine zSp.of (by decide) rfl (Nat.le_of_ble_eq_true rfl) rfl ?_
  obtain ⟨h0, hF, hG4, hi, hV, hP, hR, hT⟩ := _root_.id h
  have k1 := h0.1
  cases hp : sP s with
  | none =>
    rw [hp] at hP
    obtain ⟨ids, vs, kb, ka, kk, ah, be, hPg⟩ := hP
    have k93 := hPg.1.1
    have e : q_tokenByte s w i = zrf s 1 := by rw [q_tokenByte, hp]
    refine j_aload_n (pc := 0) dX11_tokenByte_0 rfl ?_
    refine j_getPv (pc := 1) dX11_tokenByte_1 f_X11_33 (Or.inl ⟨_, rfl⟩) (by assumption) (h0.2.1.2.2.2.1) ?_
    refine j_getIv (pc := 4) dX11_tokenByte_4 f_X11_89 (Or.inr rfl) (by assumption) (hPg.2.1) ?_
    refine j_if_eq (pc := 7) (tgt := 19) dX11_tokenByte_7 (by decide) (fun h7 => ?_) (fun h7 => absurd rfl h7)
    refine j_aload_n (pc := 19) dX11_tokenByte_19 rfl ?_
    refine j_iconst (pc := 20) (v := 1) dX11_tokenByte_20 (by decide) ?_
    refine j_callV (pc := 21) (t := 11) (c_refused k1 _) dX11_tokenByte_21 l_X11_68 mk_X11_refused mv_X11_refused (by decide) rfl (by assumption) (by decide) rfl rfl (Nat.le_of_ble_eq_true rfl) (Nat.le_refl _) (Nat.le_refl _) (fun r T h_1 => ?_)
    obtain ⟨rfl, rfl⟩ := h_1
    refine j_iret (pc := 24) dX11_tokenByte_24 rfl ?_
    exact q_ref h zQF.rf e
  | some q =>
    rw [hp] at hP
    obtain ⟨kb, ka, kk, hPg, e0, e1⟩ := hP
    have k93 := hPg.1.1
    have l20 := hPg.2.2.2.1
    refine j_aload_n (pc := 0) dX11_tokenByte_0 rfl ?_
    refine j_getPv (pc := 1) dX11_tokenByte_1 f_X11_33 (Or.inl ⟨_, rfl⟩) (by assumption) (h0.2.1.2.2.2.1) ?_
    refine j_getIv (pc := 4) dX11_tokenByte_4 f_X11_89 (Or.inr rfl) (by assumption) (hPg.2.1) ?_
    refine j_if_eq (pc := 7) (tgt := 19) dX11_tokenByte_7 (by decide) (fun h7 => absurd h7 (by decide)) (fun h7 => ?_)
    refine j_iload_n (pc := 10) dX11_tokenByte_10 rfl ?_
    refine j_if_lt (pc := 11) (tgt := 19) dX11_tokenByte_11 (by decide) (fun h11 => ?_) (fun h11 => ?_)
    · refine j_aload_n (pc := 19) dX11_tokenByte_19 rfl ?_
      refine j_iconst (pc := 20) (v := 1) dX11_tokenByte_20 (by decide) ?_
      refine j_callV (pc := 21) (t := 11) (c_refused k1 _) dX11_tokenByte_21 l_X11_68 mk_X11_refused mv_X11_refused (by decide) rfl (by assumption) (by decide) rfl rfl (Nat.le_of_ble_eq_true rfl) (Nat.le_refl _) (Nat.le_refl _) (fun r T h_1 => ?_)
      obtain ⟨rfl, rfl⟩ := h_1
      refine j_iret (pc := 24) dX11_tokenByte_24 rfl ?_
      exact q_ref h zQF.rf (by simp only [q_tokenByte, hp]; rw [if_neg (bnf (zcl2_f1 h11))])
    · refine j_iload_n (pc := 14) dX11_tokenByte_14 rfl ?_
      refine j_iconst (pc := 15) (v := 1) dX11_tokenByte_15 (by decide) ?_
      refine j_icmp_le (pc := 16) (tgt := 25) dX11_tokenByte_16 (by decide) (fun h16 => ?_) (fun h16 => ?_)
      · have hw2 := zle1 h11 h16
        refine j_aload_n (pc := 25) dX11_tokenByte_25 rfl ?_
        refine j_aload_n (pc := 26) dX11_tokenByte_26 rfl ?_
        refine j_getPv (pc := 27) dX11_tokenByte_27 f_X11_33 (Or.inl ⟨_, rfl⟩) (by assumption) (h0.2.1.2.2.2.1) ?_
        refine j_iload_n (pc := 30) dX11_tokenByte_30 rfl ?_
        refine j_callV (pc := 31) (t := 4) (c_tokenOf hPg w) dX11_tokenByte_31 l_X11_227 mk_X4_tokenOf mv_X4_tokenOf (by decide) rfl (by assumption) (by decide) rfl rfl (Nat.le_of_ble_eq_true rfl) (Nat.le_refl _) (Nat.le_refl _) (fun r T h_1 => ?_)
        obtain ⟨rfl, c, cap, rfl, hB⟩ := h_1
        have kc := hB.1
        have et : (if q.1.length = 0 then kk else if w = 0 then kb else ka) = zto q w := by
          rw [zto, e0, e1]
          by_cases g1 : q.1.length = 0
          · rw [if_pos g1, if_pos g1, if_pos g1]
            split <;> rfl
          · rw [if_neg g1, if_neg g1, if_neg g1]
        rw [et] at hB
        refine j_iload_n (pc := 34) dX11_tokenByte_34 rfl ?_
        refine j_callV (pc := 35) (t := 1) (c_get hB i) dX11_tokenByte_35 l_X11_181 mk_X1_get mv_X1_get (by decide) rfl (by assumption) (by decide) rfl rfl (Nat.le_of_ble_eq_true rfl) (Nat.le_refl _) (Nat.le_refl _) (fun r T h_1 => ?_)
        obtain ⟨rfl, rfl⟩ := h_1
        refine j_callV (pc := 38) (t := 11) (c_ansOrNone k1 _) dX11_tokenByte_38 l_X11_184 mk_X11_answeredOrNone mv_X11_answeredOrNone (by decide) rfl (by assumption) (by decide) rfl rfl (Nat.le_of_ble_eq_true rfl) (Nat.le_refl _) (Nat.le_refl _) (fun r T h_1 => ?_)
        obtain ⟨rfl, rfl⟩ := h_1
        refine j_iret (pc := 41) dX11_tokenByte_41 rfl ?_
        exact q_rd h zQF.rf (by simp only [q_tokenByte, hp]; rw [if_pos hw2])
      · refine j_aload_n (pc := 19) dX11_tokenByte_19 rfl ?_
        refine j_iconst (pc := 20) (v := 1) dX11_tokenByte_20 (by decide) ?_
        refine j_callV (pc := 21) (t := 11) (c_refused k1 _) dX11_tokenByte_21 l_X11_68 mk_X11_refused mv_X11_refused (by decide) rfl (by assumption) (by decide) rfl rfl (Nat.le_of_ble_eq_true rfl) (Nat.le_refl _) (Nat.le_refl _) (fun r T h_1 => ?_)
        obtain ⟨rfl, rfl⟩ := h_1
        refine j_iret (pc := 24) dX11_tokenByte_24 rfl ?_
        exact q_ref h zQF.rf (by simp only [q_tokenByte, hp]; rw [if_neg (bnf (zgt1 h11 h16))])
set_option maxRecDepth 20000 in
set_option maxHeartbeats 4000000 in
theorem p_beyond {E : zE} {S : zM} {s : zST} {n : Nat} (h : zCI S s) (hw : zWF n s) (w : Int32) : zSp E 1 0 0 mX11_beyond cX11_beyond [zR 1, zI w] S (fun r T => r = some (zI (q_beyond s w).1) ∧ zCI T (q_beyond s w).2 ∧ zQF S T) := by
  refine zSp.of (by decide) rfl (Nat.le_of_ble_eq_true rfl) rfl ?_
  obtain ⟨h0, hF, hG4, hi, hV, hP, hR, hT⟩ := _root_.id h
  have k1 := h0.1
  cases hp : sP s with
  | none =>
    rw [hp] at hP
    obtain ⟨ids, vs, kb, ka, kk, ah, be, hPg⟩ := hP
    have k93 := hPg.1.1
    have e : q_beyond s w = zrf s 1 := by rw [q_beyond, hp]
    refine j_aload_n (pc := 0) dX11_beyond_0 rfl ?_
    refine j_getPv (pc := 1) dX11_beyond_1 f_X11_33 (Or.inl ⟨_, rfl⟩) (by assumption) (h0.2.1.2.2.2.1) ?_
    refine j_getIv (pc := 4) dX11_beyond_4 f_X11_89 (Or.inr rfl) (by assumption) (hPg.2.1) ?_
    refine j_if_eq (pc := 7) (tgt := 19) dX11_beyond_7 (by decide) (fun h7 => ?_) (fun h7 => absurd rfl h7)
    refine j_aload_n (pc := 19) dX11_beyond_19 rfl ?_
    refine j_iconst (pc := 20) (v := 1) dX11_beyond_20 (by decide) ?_
    refine j_callV (pc := 21) (t := 11) (c_refused k1 _) dX11_beyond_21 l_X11_68 mk_X11_refused mv_X11_refused (by decide) rfl (by assumption) (by decide) rfl rfl (Nat.le_of_ble_eq_true rfl) (Nat.le_refl _) (Nat.le_refl _) (fun r T h_1 => ?_)
    obtain ⟨rfl, rfl⟩ := h_1
    refine j_iret (pc := 24) dX11_beyond_24 rfl ?_
    exact q_ref h zQF.rf e
  | some q =>
    rw [hp] at hP
    obtain ⟨kb, ka, kk, hPg, e0, e1⟩ := hP
    have k93 := hPg.1.1
    have l20 := hPg.2.2.2.1
    refine j_aload_n (pc := 0) dX11_beyond_0 rfl ?_
    refine j_getPv (pc := 1) dX11_beyond_1 f_X11_33 (Or.inl ⟨_, rfl⟩) (by assumption) (h0.2.1.2.2.2.1) ?_
    refine j_getIv (pc := 4) dX11_beyond_4 f_X11_89 (Or.inr rfl) (by assumption) (hPg.2.1) ?_
    refine j_if_eq (pc := 7) (tgt := 19) dX11_beyond_7 (by decide) (fun h7 => absurd h7 (by decide)) (fun h7 => ?_)
    refine j_iload_n (pc := 10) dX11_beyond_10 rfl ?_
    refine j_if_lt (pc := 11) (tgt := 19) dX11_beyond_11 (by decide) (fun h11 => ?_) (fun h11 => ?_)
    · refine j_aload_n (pc := 19) dX11_beyond_19 rfl ?_
      refine j_iconst (pc := 20) (v := 1) dX11_beyond_20 (by decide) ?_
      refine j_callV (pc := 21) (t := 11) (c_refused k1 _) dX11_beyond_21 l_X11_68 mk_X11_refused mv_X11_refused (by decide) rfl (by assumption) (by decide) rfl rfl (Nat.le_of_ble_eq_true rfl) (Nat.le_refl _) (Nat.le_refl _) (fun r T h_1 => ?_)
      obtain ⟨rfl, rfl⟩ := h_1
      refine j_iret (pc := 24) dX11_beyond_24 rfl ?_
      exact q_ref h zQF.rf (by simp only [q_beyond, hp]; rw [if_neg (bnf (zcl2_f1 h11))])
    · refine j_iload_n (pc := 14) dX11_beyond_14 rfl ?_
      refine j_iconst (pc := 15) (v := 1) dX11_beyond_15 (by decide) ?_
      refine j_icmp_le (pc := 16) (tgt := 25) dX11_beyond_16 (by decide) (fun h16 => ?_) (fun h16 => ?_)
      · have hw2 := zle1 h11 h16
        refine j_aload_n (pc := 25) dX11_beyond_25 rfl ?_
        refine j_iload_n (pc := 26) dX11_beyond_26 rfl ?_
        refine j_if_ne (pc := 27) (tgt := 40) dX11_beyond_27 (by decide) (fun h27 => ?_) (fun h27 => ?_)
        · refine j_aload_n (pc := 40) dX11_beyond_40 rfl ?_
          refine j_getPv (pc := 41) dX11_beyond_41 f_X11_33 (Or.inl ⟨_, rfl⟩) (by assumption) (h0.2.1.2.2.2.1) ?_
          refine j_getIv (pc := 44) dX11_beyond_44 f_X11_233 (Or.inl rfl) (by assumption) (hPg.2.2.2.2.2.1) ?_
          refine j_callV (pc := 47) (t := 11) (c_answered k1 _) dX11_beyond_47 l_X11_103 mk_X11_answered mv_X11_answered (by decide) rfl (by assumption) (by decide) rfl rfl (Nat.le_of_ble_eq_true rfl) (Nat.le_refl _) (Nat.le_refl _) (fun r T h_1 => ?_)
          obtain ⟨rfl, rfl⟩ := h_1
          refine j_iret (pc := 50) dX11_beyond_50 rfl ?_
          exact q_ans h zQF.rf (by simp only [q_beyond, hp]; rw [if_pos hw2, if_neg h27])
        · refine j_aload_n (pc := 30) dX11_beyond_30 rfl ?_
          refine j_getPv (pc := 31) dX11_beyond_31 f_X11_33 (Or.inl ⟨_, rfl⟩) (by assumption) (h0.2.1.2.2.2.1) ?_
          refine j_getIv (pc := 34) dX11_beyond_34 f_X11_230 (Or.inl rfl) (by assumption) (hPg.2.2.2.2.1) ?_
          refine j_goto (pc := 37) (tgt := 47) dX11_beyond_37 (by decide) ?_
          refine j_callV (pc := 47) (t := 11) (c_answered k1 _) dX11_beyond_47 l_X11_103 mk_X11_answered mv_X11_answered (by decide) rfl (by assumption) (by decide) rfl rfl (Nat.le_of_ble_eq_true rfl) (Nat.le_refl _) (Nat.le_refl _) (fun r T h_1 => ?_)
          obtain ⟨rfl, rfl⟩ := h_1
          refine j_iret (pc := 50) dX11_beyond_50 rfl ?_
          exact q_ans h zQF.rf (by simp only [q_beyond, hp]; rw [if_pos hw2, if_pos h27])
      · refine j_aload_n (pc := 19) dX11_beyond_19 rfl ?_
        refine j_iconst (pc := 20) (v := 1) dX11_beyond_20 (by decide) ?_
        refine j_callV (pc := 21) (t := 11) (c_refused k1 _) dX11_beyond_21 l_X11_68 mk_X11_refused mv_X11_refused (by decide) rfl (by assumption) (by decide) rfl rfl (Nat.le_of_ble_eq_true rfl) (Nat.le_refl _) (Nat.le_refl _) (fun r T h_1 => ?_)
        obtain ⟨rfl, rfl⟩ := h_1
        refine j_iret (pc := 24) dX11_beyond_24 rfl ?_
        exact q_ref h zQF.rf (by simp only [q_beyond, hp]; rw [if_neg (bnf (zgt1 h11 h16))])
set_option maxRecDepth 20000 in
set_option maxHeartbeats 4000000 in
theorem p_size {E : zE} {S : zM} {s : zST} {n : Nat} (h : zCI S s) (hw : zWF n s) (w : Int32) : zSp E 2 0 0 mX11_size cX11_size [zR 1, zI w] S (fun r T => r = some (zI (q_size s w).1) ∧ zCI T (q_size s w).2 ∧ zQF S T) := by
  refine zSp.of (by decide) rfl (Nat.le_of_ble_eq_true rfl) rfl ?_
  obtain ⟨h0, hF, hG4, hi, hV, hP, hR, hT⟩ := _root_.id h
  have k1 := h0.1
  cases ht : sT s with
  | none =>
    rw [ht] at hT
    have p5 : zgP S 1 5 = 0 := hT
    obtain ⟨ids, vs, kb, ka, kk, ah, be, hPg, hid⟩ := hP.n
    have k93 := hPg.1.1
    have k2 := hF.1
    refine j_iload_n (pc := 0) dX11_size_0 rfl ?_
    refine j_swC (pc := 1) (k := 0) (tgt := 32) dX11_size_1 (by decide) (by decide) rfl (by decide) (fun h1 => ?_) (fun h1_0 => ?_)
    · refine j_aload_n (pc := 32) dX11_size_32 rfl ?_
      refine j_getPv (pc := 33) dX11_size_33 f_X11_16 (Or.inl ⟨_, rfl⟩) (by assumption) (h0.2.1.1) ?_
      refine j_getIv (pc := 36) dX11_size_36 f_X11_58 (Or.inl rfl) (by assumption) (hF.2.2.2.2.1) ?_
      refine j_iret (pc := 39) dX11_size_39 rfl ?_
      exact ⟨by rw [q_size, h1]; rfl, h, zQF.rf⟩
    refine j_swC (pc := 1) (k := 1) (tgt := 40) dX11_size_1 (by decide) (by decide) rfl (by decide) (fun h1 => ?_) (fun h1_1 => ?_)
    · refine j_aload_n (pc := 40) dX11_size_40 rfl ?_
      refine j_getPv (pc := 41) dX11_size_41 f_X11_33 (Or.inl ⟨_, rfl⟩) (by assumption) (h0.2.1.2.2.2.1) ?_
      refine j_getIv (pc := 44) dX11_size_44 f_X11_89 (Or.inr rfl) (by assumption) (hPg.2.1) ?_
      refine j_if_eq (pc := 47) (tgt := 60) dX11_size_47 (by decide) (fun h47 => ?_) (fun h47 => ?_)
      · refine j_iconst (pc := 60) (v := 0) dX11_size_60 (by decide) ?_
        refine j_iret (pc := 61) dX11_size_61 rfl ?_
        have hpn : sP s = none := by have := zbi_eq0.mp h47; cases g : sP s; rfl; rw [g] at this; cases this
        exact ⟨by rw [q_size, h1, hpn]; rfl, h, zQF.rf⟩
      · refine j_aload_n (pc := 50) dX11_size_50 rfl ?_
        refine j_getPv (pc := 51) dX11_size_51 f_X11_33 (Or.inl ⟨_, rfl⟩) (by assumption) (h0.2.1.2.2.2.1) ?_
        refine j_getIv (pc := 54) dX11_size_54 f_X11_204 (Or.inl rfl) (by assumption) (hPg.2.2.1) ?_
        refine j_goto (pc := 57) (tgt := 61) dX11_size_57 (by decide) ?_
        refine j_iret (pc := 61) dX11_size_61 rfl ?_
        obtain ⟨q, hq⟩ := Option.isSome_iff_exists.mp (zbi_ne0 h47)
        exact ⟨by rw [q_size, h1, hq, hid q hq]; rfl, h, zQF.rf⟩
    refine j_swC (pc := 1) (k := 2) (tgt := 62) dX11_size_1 (by decide) (by decide) rfl (by decide) (fun h1 => ?_) (fun h1_2 => ?_)
    · refine j_aload_n (pc := 62) dX11_size_62 rfl ?_
      refine j_getPv (pc := 63) dX11_size_63 f_X11_44 (Or.inl ⟨_, rfl⟩) (by assumption) (p5) ?_
      refine j_ifnonnull (pc := 66) (tgt := 73) dX11_size_66 (by decide) (fun h66 => absurd rfl h66) (fun h66 => ?_)
      refine j_iconst (pc := 69) (v := 0) dX11_size_69 (by decide) ?_
      refine j_goto (pc := 70) (tgt := 94) dX11_size_70 (by decide) ?_
      refine j_iret (pc := 94) dX11_size_94 rfl ?_
      exact ⟨by rw [q_size, h1, ht]; rfl, h, zQF.rf⟩
    refine j_swC (pc := 1) (k := 3) (tgt := 95) dX11_size_1 (by decide) (by decide) rfl (by decide) (fun h1 => ?_) (fun h1_3 => ?_)
    · refine j_aload_n (pc := 95) dX11_size_95 rfl ?_
      refine j_callV (pc := 96) (t := 11) (c_countReaders h0 hR) dX11_size_96 l_X11_319 mk_X11_countReaders mv_X11_countReaders (by decide) rfl (by assumption) (by decide) rfl rfl (Nat.le_of_ble_eq_true rfl) (Nat.le_refl _) (Nat.le_refl _) (fun r T h_1 => ?_)
      obtain ⟨rfl, rfl⟩ := h_1
      refine j_iret (pc := 99) dX11_size_99 rfl ?_
      exact ⟨by rw [q_size, h1]; rfl, h, zQF.rf⟩
    refine j_swD (pc := 1) (n := 4) (tgt := 100) dX11_size_1 rfl (fun k hk => by match k, hk with | 0, _ => exact h1_0 | 1, _ => exact h1_1 | 2, _ => exact h1_2 | 3, _ => exact h1_3) (by decide) ?_
    refine j_iconst (pc := 100) (v := (-1)) dX11_size_100 (by decide) ?_
    refine j_iret (pc := 101) dX11_size_101 rfl ?_
    exact ⟨by rw [q_size, if_neg h1_0, if_neg h1_1, if_neg h1_2, if_neg h1_3], h, zQF.rf⟩
  | some t =>
    rw [ht] at hT
    obtain ⟨a, p5, a161, ag, hTt, hVI⟩ := hT
    obtain ⟨ka, q2, q3, q4, q5, q6, q1, i7, i8⟩ := hTt.d
    have k6 : zkd S 6 = (11, 0) := by obtain ⟨q, t0, g, h1, h2⟩ := hV.1; exact h1.1.1
    obtain ⟨so, si, sc, ol, hTA, hHi⟩ := hTt
    have hOr := hTA.2.2.1
    have hSv := hTA.2.2.2.1
    have hRo := hTA.2.2.2.2.1
    have hAc := hTA.2.2.2.2.2.1
    have kor := hOr.1.1
    have ksv := hSv.1.1
    have kro := hRo.1
    have kac := hAc.1.1
    have iv := hAc.2.2.1
    have hn : n ≤ 600 := Nat.le_of_lt hw.1
    have hwT := hw.2.2.2
    rw [ht] at hwT
    obtain ⟨hWt, hWp, hWr⟩ := hwT
    obtain ⟨ids, vs, kb, ka, kk, ah, be, hPg, hid⟩ := hP.n
    have k93 := hPg.1.1
    have k2 := hF.1
    refine j_iload_n (pc := 0) dX11_size_0 rfl ?_
    refine j_swC (pc := 1) (k := 0) (tgt := 32) dX11_size_1 (by decide) (by decide) rfl (by decide) (fun h1 => ?_) (fun h1_0 => ?_)
    · refine j_aload_n (pc := 32) dX11_size_32 rfl ?_
      refine j_getPv (pc := 33) dX11_size_33 f_X11_16 (Or.inl ⟨_, rfl⟩) (by assumption) (h0.2.1.1) ?_
      refine j_getIv (pc := 36) dX11_size_36 f_X11_58 (Or.inl rfl) (by assumption) (hF.2.2.2.2.1) ?_
      refine j_iret (pc := 39) dX11_size_39 rfl ?_
      exact ⟨by rw [q_size, h1]; rfl, h, zQF.rf⟩
    refine j_swC (pc := 1) (k := 1) (tgt := 40) dX11_size_1 (by decide) (by decide) rfl (by decide) (fun h1 => ?_) (fun h1_1 => ?_)
    · refine j_aload_n (pc := 40) dX11_size_40 rfl ?_
      refine j_getPv (pc := 41) dX11_size_41 f_X11_33 (Or.inl ⟨_, rfl⟩) (by assumption) (h0.2.1.2.2.2.1) ?_
      refine j_getIv (pc := 44) dX11_size_44 f_X11_89 (Or.inr rfl) (by assumption) (hPg.2.1) ?_
      refine j_if_eq (pc := 47) (tgt := 60) dX11_size_47 (by decide) (fun h47 => ?_) (fun h47 => ?_)
      · refine j_iconst (pc := 60) (v := 0) dX11_size_60 (by decide) ?_
        refine j_iret (pc := 61) dX11_size_61 rfl ?_
        have hpn : sP s = none := by have := zbi_eq0.mp h47; cases g : sP s; rfl; rw [g] at this; cases this
        exact ⟨by rw [q_size, h1, hpn]; rfl, h, zQF.rf⟩
      · refine j_aload_n (pc := 50) dX11_size_50 rfl ?_
        refine j_getPv (pc := 51) dX11_size_51 f_X11_33 (Or.inl ⟨_, rfl⟩) (by assumption) (h0.2.1.2.2.2.1) ?_
        refine j_getIv (pc := 54) dX11_size_54 f_X11_204 (Or.inl rfl) (by assumption) (hPg.2.2.1) ?_
        refine j_goto (pc := 57) (tgt := 61) dX11_size_57 (by decide) ?_
        refine j_iret (pc := 61) dX11_size_61 rfl ?_
        obtain ⟨q, hq⟩ := Option.isSome_iff_exists.mp (zbi_ne0 h47)
        exact ⟨by rw [q_size, h1, hq, hid q hq]; rfl, h, zQF.rf⟩
    refine j_swC (pc := 1) (k := 2) (tgt := 62) dX11_size_1 (by decide) (by decide) rfl (by decide) (fun h1 => ?_) (fun h1_2 => ?_)
    · refine j_aload_n (pc := 62) dX11_size_62 rfl ?_
      refine j_getPv (pc := 63) dX11_size_63 f_X11_44 (Or.inl ⟨_, rfl⟩) (by assumption) (p5) ?_
      refine j_ifnonnull (pc := 66) (tgt := 73) dX11_size_66 (by decide) (fun h66 => ?_) (fun h66 => absurd h66 (by omega))
      refine j_aload_n (pc := 73) dX11_size_73 rfl ?_
      refine j_getPv (pc := 74) dX11_size_74 f_X11_44 (Or.inl ⟨_, rfl⟩) (by assumption) (p5) ?_
      refine j_getPv (pc := 77) dX11_size_77 f_X11_119 (Or.inl ⟨_, rfl⟩) (by assumption) (q5) ?_
      refine j_getIv (pc := 80) dX11_size_80 f_X11_123 (Or.inl rfl) (by assumption) (iv) ?_
      refine j_aload_n (pc := 83) dX11_size_83 rfl ?_
      refine j_getPv (pc := 84) dX11_size_84 f_X11_44 (Or.inl ⟨_, rfl⟩) (by assumption) (p5) ?_
      refine j_getPv (pc := 87) dX11_size_87 f_X11_119 (Or.inl ⟨_, rfl⟩) (by assumption) (q5) ?_
      refine j_callV (pc := 90) (t := 0) (c_earliest hAc) dX11_size_90 l_X11_131 mk_X0_earliest mv_X0_earliest (by decide) rfl (by assumption) (by decide) rfl rfl (Nat.le_of_ble_eq_true rfl) (Nat.le_refl _) (Nat.le_refl _) (fun r T h_1 => ?_)
      obtain ⟨rfl, rfl⟩ := h_1
      refine j_isub (pc := 93) dX11_size_93 ?_
      refine j_iret (pc := 94) dX11_size_94 rfl ?_
      exact ⟨by rw [q_size, h1, ht, pk_sub (by omega)]; rfl, h, zQF.rf⟩
    refine j_swC (pc := 1) (k := 3) (tgt := 95) dX11_size_1 (by decide) (by decide) rfl (by decide) (fun h1 => ?_) (fun h1_3 => ?_)
    · refine j_aload_n (pc := 95) dX11_size_95 rfl ?_
      refine j_callV (pc := 96) (t := 11) (c_countReaders h0 hR) dX11_size_96 l_X11_319 mk_X11_countReaders mv_X11_countReaders (by decide) rfl (by assumption) (by decide) rfl rfl (Nat.le_of_ble_eq_true rfl) (Nat.le_refl _) (Nat.le_refl _) (fun r T h_1 => ?_)
      obtain ⟨rfl, rfl⟩ := h_1
      refine j_iret (pc := 99) dX11_size_99 rfl ?_
      exact ⟨by rw [q_size, h1]; rfl, h, zQF.rf⟩
    refine j_swD (pc := 1) (n := 4) (tgt := 100) dX11_size_1 rfl (fun k hk => by match k, hk with | 0, _ => exact h1_0 | 1, _ => exact h1_1 | 2, _ => exact h1_2 | 3, _ => exact h1_3) (by decide) ?_
    refine j_iconst (pc := 100) (v := (-1)) dX11_size_100 (by decide) ?_
    refine j_iret (pc := 101) dX11_size_101 rfl ?_
    exact ⟨by rw [q_size, if_neg h1_0, if_neg h1_1, if_neg h1_2, if_neg h1_3], h, zQF.rf⟩
theorem zbeg_t {s : zST} {x : Int32} (h : zbeg s x = true) : ∃ t j y, sT s = some t ∧ j < 4 ∧ x = nI j ∧ sR s j = some y := by
  cases ht : sT s with
  | none =>
    rw [zbeg_n ht] at h
    cases h
  | some t =>
    rw [zbeg_s ht] at h
    rcases pk_ix x (n := 4) (by decide) with hx | hx | ⟨j, hj, rfl⟩
    · rw [decide_eq_false (fun q => q.1 hx)] at h
      cases h
    · rw [decide_eq_false (fun q => q.2 hx)] at h
      cases h
    · rw [nI_clamp (by omega)] at h
      obtain ⟨y, hy⟩ := Option.isSome_iff_exists.mp (Bool.and_eq_true _ _ ▸ h).2
      exact ⟨t, j, y, rfl, hj, rfl, hy⟩
theorem zbeg_f {s : zST} {x : Int32} (h : zbeg s x = false) : sT s = none ∨ ∃ t, sT s = some t ∧ (zcl2 4 x = false ∨ (zcl2 4 x = true ∧ sR s (zn x) = none)) := by
  cases ht : sT s with
  | none => exact Or.inl rfl
  | some t =>
    refine Or.inr ⟨t, rfl, ?_⟩
    rw [zbeg_s ht] at h
    cases hc : zcl2 4 x with
    | false => exact Or.inl rfl
    | true =>
      have : decide (¬ x < 0 ∧ ¬ 4 ≤ x) = true := hc
      rw [this, Bool.true_and] at h
      exact Or.inr ⟨rfl, by cases g : sR s (zn x); rfl; rw [zn] at g; rw [g] at h; cases h⟩
set_option maxRecDepth 20000 in
set_option maxHeartbeats 4000000 in
theorem p_seen {E : zE} {S : zM} {s : zST} {n : Nat} (h : zCI S s) (hw : zWF n s) (x i : Int32) : zSp E 1 0 0 mX11_seen cX11_seen [zR 1, zI x, zI i] S (fun r T => r = some (zI (q_seen s x i).1) ∧ zCI T (q_seen s x i).2 ∧ zQF S T) := by
  refine zSp.of (by decide) rfl (Nat.le_of_ble_eq_true rfl) rfl ?_
  obtain ⟨h0, hF, hG4, hi, hV, hP, hR, hT⟩ := _root_.id h
  have k1 := h0.1
  cases hz : zbeg s x with
  | false =>
    have e : q_seen s x i = zrf s 1 := by
      rcases zbeg_f hz with g | ⟨t, g, g2 | ⟨g2, g3⟩⟩
      · simp only [q_seen, g]
      · simp only [q_seen, g]
        rw [if_pos g2]
      · simp only [q_seen, g]
        rw [if_neg (by rw [g2]; decide), g3]
    refine j_aload_n (pc := 0) dX11_seen_0 rfl ?_
    refine j_iload_n (pc := 1) dX11_seen_1 rfl ?_
    refine j_callV (pc := 2) (t := 11) (c_hasBegun h _) dX11_seen_2 l_X11_246 mk_X11_hasBegun mv_X11_hasBegun (by decide) rfl (by assumption) (by decide) rfl rfl (Nat.le_of_ble_eq_true rfl) (Nat.le_refl _) (Nat.le_refl _) (fun r T h_1 => ?_)
    obtain ⟨rfl, rfl⟩ := h_1
    rw [hz]
    refine j_if_eq (pc := 5) (tgt := 32) dX11_seen_5 (by decide) (fun h5 => ?_) (fun h5 => absurd rfl h5)
    refine j_aload_n (pc := 32) dX11_seen_32 rfl ?_
    refine j_iconst (pc := 33) (v := 1) dX11_seen_33 (by decide) ?_
    refine j_callV (pc := 34) (t := 11) (c_refused k1 _) dX11_seen_34 l_X11_68 mk_X11_refused mv_X11_refused (by decide) rfl (by assumption) (by decide) rfl rfl (Nat.le_of_ble_eq_true rfl) (Nat.le_refl _) (Nat.le_refl _) (fun r T h_1 => ?_)
    obtain ⟨rfl, rfl⟩ := h_1
    refine j_iret (pc := 37) dX11_seen_37 rfl ?_
    exact q_ref h zQF.rf e
  | true =>
    obtain ⟨t, j, y, ht, hj, rfl, hy⟩ := zbeg_t hz
    have hcl : (nI j).toNatClampNeg = j := nI_clamp (by omega)
    have hc4 : ¬ zcl2 4 (nI j) = false := by rw [zcl2_nI hj (by decide)]; decide
    have hyn : sR s (zn (nI j)) = some y := by rw [zn, hcl]; exact hy
    have hRj := hR j hj
    rw [hy] at hRj
    have hRd : zRd S (103 + 5 * j) true y.1 y.2.1 y.2.2.1 y.2.2.2.1 y.2.2.2.2.1 y.2.2.2.2.2.1 y.2.2.2.2.2.2.1 y.2.2.2.2.2.2.2 := hRj
    have krd := hRd.1.1
    have k102 : zkd S 102 = (14 + 4, 4) := h0.2.2.1
    have pr := h0.2.2.2.1 j hj
    rw [ht] at hT
    obtain ⟨a, p5, a161, ag, hTt, hVI⟩ := hT
    obtain ⟨ka, q2, q3, q4, q5, q6, q1, i7, i8⟩ := hTt.d
    have k6 : zkd S 6 = (11, 0) := by obtain ⟨q, t0, g, h1, h2⟩ := hV.1; exact h1.1.1
    obtain ⟨so, si, sc, ol, hTA, hHi⟩ := hTt
    have hOr := hTA.2.2.1
    have hSv := hTA.2.2.2.1
    have hRo := hTA.2.2.2.2.1
    have hAc := hTA.2.2.2.2.2.1
    have kor := hOr.1.1
    have ksv := hSv.1.1
    have kro := hRo.1
    have kac := hAc.1.1
    have iv := hAc.2.2.1
    have hn : n ≤ 600 := Nat.le_of_lt hw.1
    have hwT := hw.2.2.2
    rw [ht] at hwT
    obtain ⟨hWt, hWp, hWr⟩ := hwT
    have g64 := hRo.2.2.2.2.2.2.2.2.2
    refine j_aload_n (pc := 0) dX11_seen_0 rfl ?_
    refine j_iload_n (pc := 1) dX11_seen_1 rfl ?_
    refine j_callV (pc := 2) (t := 11) (c_hasBegun h _) dX11_seen_2 l_X11_246 mk_X11_hasBegun mv_X11_hasBegun (by decide) rfl (by assumption) (by decide) rfl rfl (Nat.le_of_ble_eq_true rfl) (Nat.le_refl _) (Nat.le_refl _) (fun r T h_1 => ?_)
    obtain ⟨rfl, rfl⟩ := h_1
    rw [hz]
    refine j_if_eq (pc := 5) (tgt := 32) dX11_seen_5 (by decide) (fun h5 => absurd h5 (by decide)) (fun h5 => ?_)
    refine j_iload_n (pc := 8) dX11_seen_8 rfl ?_
    refine j_if_lt (pc := 9) (tgt := 32) dX11_seen_9 (by decide) (fun h9 => ?_) (fun h9 => ?_)
    · refine j_aload_n (pc := 32) dX11_seen_32 rfl ?_
      refine j_iconst (pc := 33) (v := 1) dX11_seen_33 (by decide) ?_
      refine j_callV (pc := 34) (t := 11) (c_refused k1 _) dX11_seen_34 l_X11_68 mk_X11_refused mv_X11_refused (by decide) rfl (by assumption) (by decide) rfl rfl (Nat.le_of_ble_eq_true rfl) (Nat.le_refl _) (Nat.le_refl _) (fun r T h_1 => ?_)
      obtain ⟨rfl, rfl⟩ := h_1
      refine j_iret (pc := 37) dX11_seen_37 rfl ?_
      exact q_ref h zQF.rf (by simp only [q_seen, ht]; rw [if_neg hc4, hyn]; simp only []; rw [if_neg (bnf (zcl2_f1 h9))])
    · refine j_iload_n (pc := 12) dX11_seen_12 rfl ?_
      refine j_bipush (pc := 13) (v := 64) dX11_seen_13 (by decide) ?_
      refine j_icmp_ge (pc := 15) (tgt := 32) dX11_seen_15 (by decide) (fun h15 => ?_) (fun h15 => ?_)
      · refine j_aload_n (pc := 32) dX11_seen_32 rfl ?_
        refine j_iconst (pc := 33) (v := 1) dX11_seen_33 (by decide) ?_
        refine j_callV (pc := 34) (t := 11) (c_refused k1 _) dX11_seen_34 l_X11_68 mk_X11_refused mv_X11_refused (by decide) rfl (by assumption) (by decide) rfl rfl (Nat.le_of_ble_eq_true rfl) (Nat.le_refl _) (Nat.le_refl _) (fun r T h_1 => ?_)
        obtain ⟨rfl, rfl⟩ := h_1
        refine j_iret (pc := 37) dX11_seen_37 rfl ?_
        exact q_ref h zQF.rf (by simp only [q_seen, ht]; rw [if_neg hc4, hyn]; simp only []; rw [if_neg (bnf (zcl2_f2 (Int32.le_trans (nI_le (b := 64) g64 (by decide)) h15)))])
      · refine j_iload_n (pc := 18) dX11_seen_18 rfl ?_
        refine j_aload_n (pc := 19) dX11_seen_19 rfl ?_
        refine j_getPv (pc := 20) dX11_seen_20 f_X11_44 (Or.inl ⟨_, rfl⟩) (by assumption) (p5) ?_
        refine j_getPv (pc := 23) dX11_seen_23 f_X11_96 (Or.inl ⟨_, rfl⟩) (by assumption) (q4) ?_
        refine j_getIv (pc := 26) dX11_seen_26 f_X11_116 (Or.inl rfl) (by assumption) (hRo.2.2.2.2.2.1) ?_
        refine j_icmp_lt (pc := 29) (tgt := 38) dX11_seen_29 (by decide) (fun h29 => ?_) (fun h29 => ?_)
        · have hi2 : zcl2 (tG t) i = true := decide_eq_true (p := ¬ i < 0 ∧ ¬ nI (tG t) ≤ i) ⟨h9, Int32.not_le.mpr h29⟩
          obtain ⟨k, hk, rfl⟩ := zcl2_t (by omega) hi2
          have ks := hRd.1.2.1
          have hv := (hRd.2.2.2 k (by omega)).1
          refine j_aload_n (pc := 38) dX11_seen_38 rfl ?_
          refine j_aload_n (pc := 39) dX11_seen_39 rfl ?_
          refine j_getPv (pc := 40) dX11_seen_40 f_X11_39 (Or.inr ⟨_, rfl⟩) (by assumption) (h0.2.1.2.2.2.2) ?_
          refine j_iload_n (pc := 43) dX11_seen_43 rfl ?_
          refine j_aaldn (pc := 44) (j := 4) dX11_seen_44 k102 (by decide) hj (by decide) pr ?_
          refine j_getPv (pc := 45) dX11_seen_45 f_X11_259 (Or.inr ⟨_, rfl⟩) (by assumption) (hRd.1.2.2.2.1) ?_
          refine j_iload_n (pc := 48) dX11_seen_48 rfl ?_
          refine j_ialdn (pc := 49) dX11_seen_49 ks (by omega) (by decide) hv ?_
          refine j_callV (pc := 50) (t := 11) (c_answered k1 _) dX11_seen_50 l_X11_103 mk_X11_answered mv_X11_answered (by decide) rfl (by assumption) (by decide) rfl rfl (Nat.le_of_ble_eq_true rfl) (Nat.le_refl _) (Nat.le_refl _) (fun r T h_1 => ?_)
          obtain ⟨rfl, rfl⟩ := h_1
          refine j_iret (pc := 53) dX11_seen_53 rfl ?_
          exact q_ans h zQF.rf (by simp only [q_seen, ht]; rw [if_neg hc4, hyn]; simp only []; rw [if_pos hi2, zn, nI_clamp (by omega)])
        · refine j_aload_n (pc := 32) dX11_seen_32 rfl ?_
          refine j_iconst (pc := 33) (v := 1) dX11_seen_33 (by decide) ?_
          refine j_callV (pc := 34) (t := 11) (c_refused k1 _) dX11_seen_34 l_X11_68 mk_X11_refused mv_X11_refused (by decide) rfl (by assumption) (by decide) rfl rfl (Nat.le_of_ble_eq_true rfl) (Nat.le_refl _) (Nat.le_refl _) (fun r T h_1 => ?_)
          obtain ⟨rfl, rfl⟩ := h_1
          refine j_iret (pc := 37) dX11_seen_37 rfl ?_
          exact q_ref h zQF.rf (by simp only [q_seen, ht]; rw [if_neg hc4, hyn]; simp only []; rw [if_neg (bnf (zcl2_f2 (Int32.not_lt.mp h29)))])
