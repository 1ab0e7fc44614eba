set_option maxRecDepth 20000 in
set_option maxHeartbeats 4000000 in
theorem n_unlT {E : zE} {S : zM}   : zSp E 0 0 0 mX12_unless cX12_unless [zI 1] S (fun r T => S = T ∧ r = some (zI 0)) := by
  refine zSp.of (by decide) rfl (Nat.le_of_ble_eq_true rfl) rfl ?_
  refine j_iload_n (pc := 0) dX12_unless_0 rfl ?_
  refine j_if_eq (pc := 1) (tgt := 8) dX12_unless_1 (by decide) (fun h1 => absurd h1 (by decide)) (fun h1 => ?_)
  refine j_iconst (pc := 4) (v := 0) dX12_unless_4 (by decide) ?_
  refine j_goto (pc := 5) (tgt := 9) dX12_unless_5 (by decide) ?_
  refine j_iret (pc := 9) dX12_unless_9 rfl ?_
  exact ⟨rfl, rfl⟩
set_option maxRecDepth 20000 in
set_option maxHeartbeats 4000000 in
theorem n_unlF {E : zE} {S : zM}   : zSp E 0 0 0 mX12_unless cX12_unless [zI 0] S (fun r T => S = T ∧ r = some (zI 1)) := by
  refine zSp.of (by decide) rfl (Nat.le_of_ble_eq_true rfl) rfl ?_
  refine j_iload_n (pc := 0) dX12_unless_0 rfl ?_
  refine j_if_eq (pc := 1) (tgt := 8) dX12_unless_1 (by decide) (fun h1 => ?_) (fun h1 => absurd rfl h1)
  refine j_iconst (pc := 8) (v := 1) dX12_unless_8 (by decide) ?_
  refine j_iret (pc := 9) dX12_unless_9 rfl ?_
  exact ⟨rfl, rfl⟩
set_option maxRecDepth 20000 in
set_option maxHeartbeats 4000000 in
theorem n_rf1 {E : zE} {S : zM}  (hM : zMs S) : zSp E 0 0 0 mX12_isRefused cX12_isRefused [zR 123, zI 1] S (fun r T => T = zNw S 1 ∧ r = some (zI 1)) := by
  refine zSp.of (by decide) rfl (Nat.le_of_ble_eq_true rfl) rfl ?_
  refine j_aload_n (pc := 0) dX12_isRefused_0 rfl ?_
  refine j_iconst (pc := 1) (v := 0) dX12_isRefused_1 (by decide) ?_
  refine j_putI (pc := 2) dX12_isRefused_2 f_X12_126 rfl hM.1 rfl ?_
  refine j_aload_n (pc := 5) dX12_isRefused_5 rfl ?_
  refine j_iconst (pc := 6) (v := (-1)) dX12_isRefused_6 (by decide) ?_
  refine j_putI (pc := 7) dX12_isRefused_7 f_X12_11 rfl hM.1 rfl ?_
  refine j_aload_n (pc := 10) dX12_isRefused_10 rfl ?_
  refine j_iload_n (pc := 11) dX12_isRefused_11 rfl ?_
  refine j_putI (pc := 12) dX12_isRefused_12 f_X12_129 rfl hM.1 rfl ?_
  refine j_iload_n (pc := 15) dX12_isRefused_15 rfl ?_
  refine j_if_eq (pc := 16) (tgt := 23) dX12_isRefused_16 (by decide) (fun h16 => absurd h16 (by decide)) (fun h16 => ?_)
  refine j_iconst (pc := 19) (v := 1) dX12_isRefused_19 (by decide) ?_
  refine j_goto (pc := 20) (tgt := 24) dX12_isRefused_20 (by decide) ?_
  refine j_zret (pc := 24) dX12_isRefused_24 rfl (by first | assumption | decide) ?_
  exact ⟨rfl, rfl⟩
set_option maxRecDepth 20000 in
set_option maxHeartbeats 4000000 in
theorem n_rf2 {E : zE} {S : zM}  (hM : zMs S) : zSp E 0 0 0 mX12_isRefused cX12_isRefused [zR 123, zI 2] S (fun r T => T = zNw S 2 ∧ r = some (zI 1)) := by
  refine zSp.of (by decide) rfl (Nat.le_of_ble_eq_true rfl) rfl ?_
  refine j_aload_n (pc := 0) dX12_isRefused_0 rfl ?_
  refine j_iconst (pc := 1) (v := 0) dX12_isRefused_1 (by decide) ?_
  refine j_putI (pc := 2) dX12_isRefused_2 f_X12_126 rfl hM.1 rfl ?_
  refine j_aload_n (pc := 5) dX12_isRefused_5 rfl ?_
  refine j_iconst (pc := 6) (v := (-1)) dX12_isRefused_6 (by decide) ?_
  refine j_putI (pc := 7) dX12_isRefused_7 f_X12_11 rfl hM.1 rfl ?_
  refine j_aload_n (pc := 10) dX12_isRefused_10 rfl ?_
  refine j_iload_n (pc := 11) dX12_isRefused_11 rfl ?_
  refine j_putI (pc := 12) dX12_isRefused_12 f_X12_129 rfl hM.1 rfl ?_
  refine j_iload_n (pc := 15) dX12_isRefused_15 rfl ?_
  refine j_if_eq (pc := 16) (tgt := 23) dX12_isRefused_16 (by decide) (fun h16 => absurd h16 (by decide)) (fun h16 => ?_)
  refine j_iconst (pc := 19) (v := 1) dX12_isRefused_19 (by decide) ?_
  refine j_goto (pc := 20) (tgt := 24) dX12_isRefused_20 (by decide) ?_
  refine j_zret (pc := 24) dX12_isRefused_24 rfl (by first | assumption | decide) ?_
  exact ⟨rfl, rfl⟩
set_option maxRecDepth 20000 in
set_option maxHeartbeats 4000000 in
theorem n_rf8 {E : zE} {S : zM}  (hM : zMs S) : zSp E 0 0 0 mX12_isRefused cX12_isRefused [zR 123, zI 8] S (fun r T => T = zNw S 8 ∧ r = some (zI 1)) := by
  refine zSp.of (by decide) rfl (Nat.le_of_ble_eq_true rfl) rfl ?_
  refine j_aload_n (pc := 0) dX12_isRefused_0 rfl ?_
  refine j_iconst (pc := 1) (v := 0) dX12_isRefused_1 (by decide) ?_
  refine j_putI (pc := 2) dX12_isRefused_2 f_X12_126 rfl hM.1 rfl ?_
  refine j_aload_n (pc := 5) dX12_isRefused_5 rfl ?_
  refine j_iconst (pc := 6) (v := (-1)) dX12_isRefused_6 (by decide) ?_
  refine j_putI (pc := 7) dX12_isRefused_7 f_X12_11 rfl hM.1 rfl ?_
  refine j_aload_n (pc := 10) dX12_isRefused_10 rfl ?_
  refine j_iload_n (pc := 11) dX12_isRefused_11 rfl ?_
  refine j_putI (pc := 12) dX12_isRefused_12 f_X12_129 rfl hM.1 rfl ?_
  refine j_iload_n (pc := 15) dX12_isRefused_15 rfl ?_
  refine j_if_eq (pc := 16) (tgt := 23) dX12_isRefused_16 (by decide) (fun h16 => absurd h16 (by decide)) (fun h16 => ?_)
  refine j_iconst (pc := 19) (v := 1) dX12_isRefused_19 (by decide) ?_
  refine j_goto (pc := 20) (tgt := 24) dX12_isRefused_20 (by decide) ?_
  refine j_zret (pc := 24) dX12_isRefused_24 rfl (by first | assumption | decide) ?_
  exact ⟨rfl, rfl⟩
set_option maxRecDepth 20000 in
set_option maxHeartbeats 4000000 in
theorem n_ok {E : zE} {S : zM}  (hM : zMs S) : zSp E 0 0 0 mX12_isRefused cX12_isRefused [zR 123, zI 0] S (fun r T => T = zNw S 0 ∧ r = some (zI 0)) := by
  refine zSp.of (by decide) rfl (Nat.le_of_ble_eq_true rfl) rfl ?_
  refine j_aload_n (pc := 0) dX12_isRefused_0 rfl ?_
  refine j_iconst (pc := 1) (v := 0) dX12_isRefused_1 (by decide) ?_
  refine j_putI (pc := 2) dX12_isRefused_2 f_X12_126 rfl hM.1 rfl ?_
  refine j_aload_n (pc := 5) dX12_isRefused_5 rfl ?_
  refine j_iconst (pc := 6) (v := (-1)) dX12_isRefused_6 (by decide) ?_
  refine j_putI (pc := 7) dX12_isRefused_7 f_X12_11 rfl hM.1 rfl ?_
  refine j_aload_n (pc := 10) dX12_isRefused_10 rfl ?_
  refine j_iload_n (pc := 11) dX12_isRefused_11 rfl ?_
  refine j_putI (pc := 12) dX12_isRefused_12 f_X12_129 rfl hM.1 rfl ?_
  refine j_iload_n (pc := 15) dX12_isRefused_15 rfl ?_
  refine j_if_eq (pc := 16) (tgt := 23) dX12_isRefused_16 (by decide) (fun h16 => ?_) (fun h16 => absurd rfl h16)
  refine j_iconst (pc := 23) (v := 0) dX12_isRefused_23 (by decide) ?_
  refine j_zret (pc := 24) dX12_isRefused_24 rfl (by first | assumption | decide) ?_
  exact ⟨rfl, rfl⟩
theorem m_ref {S : zM} {s : zST} {n : Nat} {q : Int32 × zST} (h : zMO S s) (hn : n ≠ 4) (e : q = zrf s n) : some (zI (-1)) = some (zI q.1) ∧ zMO (zNw S (nI n)) q.2 ∧ zF zMX S (zNw S (nI n)) := by
  subst e
  exact ⟨rfl, h.no hn, zNw.f⟩
theorem m_ans {S : zM} {s : zST} {x : Int32} {q : Int32 × zST} (h : zMO S s) (e : q = zan s x) : some (zI x) = some (zI q.1) ∧ zMO (zNw S 0) q.2 ∧ zF zMX S (zNw S 0) := by
  subst e
  exact ⟨rfl, h.no (n := 0) (by decide), zNw.f⟩
theorem m_refL {S : zM} {s : zST} {n : Nat} {q : Int64 × zST} (h : zMO S s) (hn : n ≠ 4) (e : q = zrfL s n) : some (zL zMiss) = some (zL q.1) ∧ zMO (zNw S (nI n)) q.2 ∧ zF zMX S (zNw S (nI n)) := by
  subst e
  exact ⟨rfl, h.no hn, zNw.f⟩
theorem m_ansL {S : zM} {s : zST} {x : Int64} {q : Int64 × zST} (h : zMO S s) (e : q = zanL s x) : some (zL x) = some (zL q.1) ∧ zMO (zNw S 0) q.2 ∧ zF zMX S (zNw S 0) := by
  subst e
  exact ⟨rfl, h.no (n := 0) (by decide), zNw.f⟩
theorem zMO.th {S : zM} {s : zST} (h : zMO S s) (x : Int32) : zMO (zwI S 123 0 x) s := h.scr (zK.wI (X := fun c k => c = 123 ∧ k = 0) ⟨rfl, rfl⟩) (fun c k z => by unfold zXs; omega)
theorem zth.f {S : zM} {x : Int32} : zF zMX S (zwI S 123 0 x) := zF.wI (by decide)
theorem zWF.pg {n : Nat} {s : zST} {q : zPGE} (h : zWF n s) (hq : sP s = some q) : ∃ t, sT s = some t ∧ zWp q := by
  have h2 := h.2.2.2
  cases ht : sT s with
  | none =>
    rw [ht] at h2
    rw [h2.1] at hq
    cases hq
  | some t =>
    rw [ht] at h2
    exact ⟨t, rfl, h2.2.1 q hq⟩
set_option maxRecDepth 20000 in
set_option maxHeartbeats 4000000 in
theorem m_fault {E : zE} {S : zM} {s : zST} {n : Nat} (h : zMO S s) (hw : zWF n s) : zSp E 0 0 0 mX12_fault cX12_fault [zR 123] S (fun r T => r = some (zI (q_fault s).1) ∧ zMO T (q_fault s).2 ∧ zF zMX S T) := by
  refine zSp.of (by decide) rfl (Nat.le_of_ble_eq_true rfl) rfl ?_
  have hM := h.1
  refine j_aload_n (pc := 0) dX12_fault_0 rfl ?_
  refine j_iconst (pc := 1) (v := 0) dX12_fault_1 (by decide) ?_
  refine j_putI (pc := 2) dX12_fault_2 f_X12_126 rfl hM.1 rfl ?_
  refine j_aload_n (pc := 5) dX12_fault_5 rfl ?_
  refine j_getIv (pc := 6) dX12_fault_6 f_X12_259 (Or.inl rfl) hM.1 (h.2.2.1.2.1) ?_
  refine j_iret (pc := 9) dX12_fault_9 rfl ?_
  exact ⟨rfl, h.th 0, zth.f⟩
set_option maxRecDepth 20000 in
set_option maxHeartbeats 4000000 in
theorem m_trouble {E : zE} {S : zM} {s : zST} {n : Nat} (h : zMO S s) (hw : zWF n s) : zSp E 0 0 0 mX12_trouble cX12_trouble [zR 123] S (fun r T => r = some (zI (q_trouble s).1) ∧ zMO T (q_trouble s).2 ∧ zF zMX S T) := by
  refine zSp.of (by decide) rfl (Nat.le_of_ble_eq_true rfl) rfl ?_
  have hM := h.1
  refine j_aload_n (pc := 0) dX12_trouble_0 rfl ?_
  refine j_iconst (pc := 1) (v := 0) dX12_trouble_1 (by decide) ?_
  refine j_putI (pc := 2) dX12_trouble_2 f_X12_126 rfl hM.1 rfl ?_
  refine j_aload_n (pc := 5) dX12_trouble_5 rfl ?_
  refine j_getIv (pc := 6) dX12_trouble_6 f_X12_129 (Or.inl rfl) hM.1 (h.2.2.1.1) ?_
  refine j_iret (pc := 9) dX12_trouble_9 rfl ?_
  exact ⟨rfl, h.th 0, zth.f⟩
set_option maxRecDepth 20000 in
set_option maxHeartbeats 4000000 in
theorem m_where {E : zE} {S : zM} {s : zST} {n : Nat} (h : zMO S s) (hw : zWF n s) : zSp E 0 0 0 mX12_where cX12_where [zR 123] S (fun r T => r = some (zI (q_where s).1) ∧ zMO T (q_where s).2 ∧ zF zMX S T) := by
  refine zSp.of (by decide) rfl (Nat.le_of_ble_eq_true rfl) rfl ?_
  have hM := h.1
  have htr := hw.2.2.1.1
  refine j_aload_n (pc := 0) dX12_where_0 rfl ?_
  refine j_iconst (pc := 1) (v := 0) dX12_where_1 (by decide) ?_
  refine j_putI (pc := 2) dX12_where_2 f_X12_126 rfl hM.1 rfl ?_
  refine j_aload_n (pc := 5) dX12_where_5 rfl ?_
  refine j_getIv (pc := 6) dX12_where_6 f_X12_129 (Or.inl rfl) hM.1 (h.2.2.1.1) ?_
  refine j_iconst (pc := 9) (v := 4) dX12_where_9 (by decide) ?_
  refine j_icmp_ne (pc := 10) (tgt := 20) dX12_where_10 (by decide) (fun h10 => ?_) (fun h10 => ?_)
  · refine j_iconst (pc := 20) (v := (-1)) dX12_where_20 (by decide) ?_
    refine j_iret (pc := 21) dX12_where_21 rfl ?_
    exact ⟨by rw [q_where, if_neg (fun q => h10 (by rw [q]; rfl))], h.th 0, zth.f⟩
  · have e4 : sTr s = 4 := (nI_eq (b := 4) (by omega) (by decide)).mp h10
    refine j_aload_n (pc := 13) dX12_where_13 rfl ?_
    refine j_getIv (pc := 14) dX12_where_14 f_X12_11 (Or.inl rfl) hM.1 (h.2.2.1.2.2 e4) ?_
    refine j_goto (pc := 17) (tgt := 21) dX12_where_17 (by decide) ?_
    refine j_iret (pc := 21) dX12_where_21 rfl ?_
    exact ⟨by rw [q_where, if_pos e4], h.th 0, zth.f⟩
set_option maxRecDepth 20000 in
set_option maxHeartbeats 4000000 in
theorem m_kind {E : zE} {S : zM} {s : zST} {n : Nat} (h : zMO S s) (hw : zWF n s) (x : Int32) : zSp E 2 0 0 mX12_kind cX12_kind [zR 123, zI x] S (fun r T => r = some (zI (q_kind s x).1) ∧ zMO T (q_kind s x).2 ∧ zF zMX S T) := by
  refine zSp.of (by decide) rfl (Nat.le_of_ble_eq_true rfl) rfl ?_
  have hM := h.1
  cases hz : zcol s x with
  | false =>
    have e : q_kind s x = zrf s 1 := by
      unfold q_kind
      split
      · rfl
      · rename_i t ht
        rw [zcol_s ht] at hz
        simp [hz]
    refine j_aload_n (pc := 0) dX12_kind_0 rfl ?_
    refine j_aload_n (pc := 1) dX12_kind_1 rfl ?_
    refine j_iload_n (pc := 2) dX12_kind_2 rfl ?_
    refine j_callV (pc := 3) (t := 12) (n_isColumn h hw _) dX12_kind_3 l_X12_319 mk_X12_isColumn mv_X12_isColumn (by decide) rfl hM.1 (by decide) rfl rfl (Nat.le_of_ble_eq_true rfl) (Nat.le_refl _) (Nat.le_refl _) (fun r T h_1 => ?_)
    obtain ⟨rfl, rfl⟩ := h_1
    rw [hz]
    refine j_callS (pc := 6) (n_unlF) dX12_kind_6 l_X12_312 mk_X12_unless ms_X12_unless (by decide) rfl rfl (Nat.le_of_ble_eq_true rfl) (Nat.le_refl _) (Nat.le_refl _) (fun r T h_1 => ?_)
    obtain ⟨rfl, rfl⟩ := h_1
    refine j_callV (pc := 9) (t := 12) (n_rf1 hM) dX12_kind_9 l_X12_256 mk_X12_isRefused mv_X12_isRefused (by decide) rfl hM.1 (by decide) rfl rfl (Nat.le_of_ble_eq_true rfl) (Nat.le_refl _) (Nat.le_refl _) (fun r T h_1 => ?_)
    obtain ⟨rfl, rfl⟩ := h_1
    refine j_if_eq (pc := 12) (tgt := 19) dX12_kind_12 (by decide) (fun h12 => absurd h12 (by decide)) (fun h12 => ?_)
    refine j_iconst (pc := 15) (v := (-1)) dX12_kind_15 (by decide) ?_
    refine j_goto (pc := 16) (tgt := 33) dX12_kind_16 (by decide) ?_
    refine j_iret (pc := 33) dX12_kind_33 rfl ?_
    exact m_ref h (n := 1) (by decide) e
  | true =>
    obtain ⟨t, j, ht, hj, rfl, hK4⟩ := zcol_t hw hz
    have hv := hw.v ht
    have hcl : (nI j).toNatClampNeg = j := nI_clamp (by omega)
    refine j_aload_n (pc := 0) dX12_kind_0 rfl ?_
    refine j_aload_n (pc := 1) dX12_kind_1 rfl ?_
    refine j_iload_n (pc := 2) dX12_kind_2 rfl ?_
    refine j_callV (pc := 3) (t := 12) (n_isColumn h hw _) dX12_kind_3 l_X12_319 mk_X12_isColumn mv_X12_isColumn (by decide) rfl hM.1 (by decide) rfl rfl (Nat.le_of_ble_eq_true rfl) (Nat.le_refl _) (Nat.le_refl _) (fun r T h_1 => ?_)
    obtain ⟨rfl, rfl⟩ := h_1
    rw [hz]
    refine j_callS (pc := 6) (n_unlT) dX12_kind_6 l_X12_312 mk_X12_unless ms_X12_unless (by decide) rfl rfl (Nat.le_of_ble_eq_true rfl) (Nat.le_refl _) (Nat.le_refl _) (fun r T h_1 => ?_)
    obtain ⟨rfl, rfl⟩ := h_1
    refine j_callV (pc := 9) (t := 12) (n_ok hM) dX12_kind_9 l_X12_256 mk_X12_isRefused mv_X12_isRefused (by decide) rfl hM.1 (by decide) rfl rfl (Nat.le_of_ble_eq_true rfl) (Nat.le_refl _) (Nat.le_refl _) (fun r T h_1 => ?_)
    obtain ⟨rfl, rfl⟩ := h_1
    refine j_if_eq (pc := 12) (tgt := 19) dX12_kind_12 (by decide) (fun h12 => ?_) (fun h12 => absurd rfl h12)
    refine j_aload_n (pc := 19) dX12_kind_19 rfl ?_
    refine j_getPv (pc := 20) dX12_kind_20 f_X12_19 (Or.inr ⟨_, rfl⟩) hM.1 (mp_isText hM) ?_
    refine j_iload_n (pc := 23) dX12_kind_23 rfl ?_
    refine j_zaldn (pc := 24) dX12_kind_24 (mk_isText hM) (by omega) (Nat.le_of_ble_eq_true rfl) ((h.2.2.2.2.1 t ht).1.1.2 j _ (gD false hj)) ?_
    refine j_if_eq (pc := 25) (tgt := 32) dX12_kind_25 (by decide) (fun h25 => ?_) (fun h25 => ?_)
    · refine j_iconst (pc := 32) (v := 0) dX12_kind_32 (by decide) ?_
      refine j_iret (pc := 33) dX12_kind_33 rfl ?_
      exact m_ans h (by rw [zcol_s ht] at hz; simp only [q_kind, ht]; rw [if_pos hz, zn, hcl, h25])
    · refine j_iconst (pc := 28) (v := 1) dX12_kind_28 (by decide) ?_
      refine j_goto (pc := 29) (tgt := 33) dX12_kind_29 (by decide) ?_
      refine j_iret (pc := 33) dX12_kind_33 rfl ?_
      exact m_ans h (by rw [zcol_s ht] at hz; simp only [q_kind, ht]; rw [if_pos hz, zn, hcl, zbi_ne0 h25]; rfl)
set_option maxRecDepth 20000 in
set_option maxHeartbeats 4000000 in
theorem n_thereMany0 {E : zE} {S : zM}  (hM : zMs S) : zSp E 0 0 0 mX12_thrown cX12_thrown [zR 123] S (fun r T => S = T ∧ r = some (zI (zgI S 123 0))) := by
  refine zSp.of (by decide) rfl (Nat.le_of_ble_eq_true rfl) rfl ?_
  refine j_aload_n (pc := 0) dX12_thrown_0 rfl ?_
  refine j_getIv (pc := 1) dX12_thrown_1 f_X12_126 (Or.inl rfl) hM.1 (rfl) ?_
  refine j_iret (pc := 4) dX12_thrown_4 rfl ?_
  exact ⟨rfl, rfl⟩
set_option maxRecDepth 20000 in
set_option maxHeartbeats 4000000 in
theorem n_thereMany {E : zE} {S : zM} {s : zST} {t : zTB} {n : Nat} (h : zMO S s) (hw : zWF n s) (ht : sT s = some t) : zSp E 2 0 0 mX12_thereMany cX12_thereMany [zR 123] S (fun r T => S = T ∧ r = some (zI (nI (fb_ct (tW t).1 64)))) := by
  refine zSp.of (by decide) rfl (Nat.le_of_ble_eq_true rfl) rfl ?_
  have hM := h.1
  have hv := hw.v ht
  have lp : ∀ (m i : Nat), i + m = 64 → zJ E 2 0 0 mX12_thereMany cX12_thereMany 4 [some (zR 123), some (zI (nI (fb_ct (tW t).1 i))), some (zI (nI i))] [] S (fun r T => S = T ∧ r = some (zI (nI (fb_ct (tW t).1 64)))) := by
    intro m
    induction m with
    | zero =>
      intro i hi
      have ei : i = 64 := by omega
      subst ei
      refine j_iload_n (pc := 4) dX12_thereMany_4 rfl ?_
      refine j_bipush (pc := 5) (v := 64) dX12_thereMany_5 (by decide) ?_
      refine j_icmp_ge (pc := 7) (tgt := 36) dX12_thereMany_7 (by decide) (fun h7 => ?_) (fun h7 => absurd (nI_le (a := 64) (Nat.le_refl _) (by decide)) h7)
      refine j_iload_n (pc := 36) dX12_thereMany_36 rfl ?_
      refine j_iret (pc := 37) dX12_thereMany_37 rfl ?_
      exact ⟨rfl, rfl⟩
    | succ m ih =>
      intro i hi
      refine j_iload_n (pc := 4) dX12_thereMany_4 rfl ?_
      refine j_bipush (pc := 5) (v := 64) dX12_thereMany_5 (by decide) ?_
      refine j_icmp_ge (pc := 7) (tgt := 36) dX12_thereMany_7 (by decide) (fun h7 => absurd h7 (nI_ge (b := 64) (by omega) (by decide))) (fun h7 => ?_)
      refine j_iload_n (pc := 10) dX12_thereMany_10 rfl ?_
      refine j_aload_n (pc := 11) dX12_thereMany_11 rfl ?_
      refine j_aload_n (pc := 12) dX12_thereMany_12 rfl ?_
      refine j_getIv (pc := 13) dX12_thereMany_13 f_X12_277 (Or.inl rfl) hM.1 ((h.2.2.2.2.1 t ht).1.2.2.2.1.1) ?_
      refine j_iload_n (pc := 16) dX12_thereMany_16 rfl ?_
      refine j_callV (pc := 17) (t := 12) (n_isThen h ht (Nat.le_refl _) (Nat.le_add_right _ _) (by omega) (nI i)) dX12_thereMany_17 l_X12_305 mk_X12_isThen mv_X12_isThen (by decide) rfl hM.1 (by decide) rfl rfl (Nat.le_of_ble_eq_true rfl) (Nat.le_refl _) (Nat.le_refl _) (fun r T h_1 => ?_)
      obtain ⟨rfl, rfl⟩ := h_1
      rw [zth_nI _ (by omega)]
      refine j_if_eq (pc := 20) (tgt := 27) dX12_thereMany_20 (by decide) (fun h20 => ?_) (fun h20 => ?_)
      · refine j_iconst (pc := 27) (v := 0) dX12_thereMany_27 (by decide) ?_
        refine j_iadd (pc := 28) dX12_thereMany_28 ?_
        refine j_istore_n (pc := 29) (ls' := [_, _, _]) dX12_thereMany_29 (by decide) rfl rfl ?_
        refine j_iinc (pc := 30) (v := _ + 1) (ls' := [_, _, _]) dX12_thereMany_30 rfl rfl (by decide) rfl rfl ?_
        refine j_goto (pc := 33) (tgt := 4) dX12_thereMany_33 (by decide) ?_
        rw [nI_1, show nI (fb_ct (tW t).1 i) + 0 = nI (fb_ct (tW t).1 i) from nI_add _ 0]
        have := ih (i + 1) (by omega)
        rwa [fb_ct_succ, zbi_eq0.mp h20] at this
      · refine j_iconst (pc := 23) (v := 1) dX12_thereMany_23 (by decide) ?_
        refine j_goto (pc := 24) (tgt := 28) dX12_thereMany_24 (by decide) ?_
        refine j_iadd (pc := 28) dX12_thereMany_28 ?_
        refine j_istore_n (pc := 29) (ls' := [_, _, _]) dX12_thereMany_29 (by decide) rfl rfl ?_
        refine j_iinc (pc := 30) (v := _ + 1) (ls' := [_, _, _]) dX12_thereMany_30 rfl rfl (by decide) rfl rfl ?_
        refine j_goto (pc := 33) (tgt := 4) dX12_thereMany_33 (by decide) ?_
        rw [nI_1, nI_1]
        have := ih (i + 1) (by omega)
        rwa [fb_ct_succ, zbi_ne0 h20] at this
  refine j_iconst (pc := 0) (v := 0) dX12_thereMany_0 (by decide) ?_
  refine j_istore_n (pc := 1) (ls' := [_, _, _]) dX12_thereMany_1 (by decide) rfl rfl ?_
  refine j_iconst (pc := 2) (v := 0) dX12_thereMany_2 (by decide) ?_
  refine j_istore_n (pc := 3) (ls' := [_, _, _]) dX12_thereMany_3 (by decide) rfl rfl ?_
  exact lp 64 0 (by omega)
theorem zWF.no {n : Nat} {s : zST} {k : Nat} (h : zWF n s) (hk : k ≤ 8 := by decide) : zWF n (zno s k) := ⟨h.1, h.2.1, ⟨hk, h.2.2.1.2⟩, h.2.2.2⟩
set_option maxRecDepth 20000 in
set_option maxHeartbeats 4000000 in
theorem m_about {E : zE} {S : zM} {s : zST} {n : Nat} (h : zMO S s) (hw : zWF n s) (x : Int32) : zSp E 3 0 0 mX12_about cX12_about [zR 123, zI x] S (fun r T => r = some (zI (q_about s x).1) ∧ zMO T (q_about s x).2 ∧ zF zMX S T) := by
  refine zSp.of (by decide) rfl (Nat.le_of_ble_eq_true rfl) rfl ?_
  have hM := h.1
  cases ht : sT s with
  | none =>
    have hto : zgI S 123 12 = 0 := by have := h.2.2.2.1.1; rw [ht] at this; exact this
    have e : q_about s x = zrf s 1 := by rw [q_about, ht]
    refine j_aload_n (pc := 0) dX12_about_0 rfl ?_
    refine j_aload_n (pc := 1) dX12_about_1 rfl ?_
    refine j_getIv (pc := 2) dX12_about_2 f_X12_296 (Or.inr rfl) hM.1 (hto) ?_
    refine j_callS (pc := 5) (n_unlF) dX12_about_5 l_X12_312 mk_X12_unless ms_X12_unless (by decide) rfl rfl (Nat.le_of_ble_eq_true rfl) (Nat.le_refl _) (Nat.le_refl _) (fun r T h_1 => ?_)
    obtain ⟨rfl, rfl⟩ := h_1
    refine j_callV (pc := 8) (t := 12) (n_rf1 hM) dX12_about_8 l_X12_256 mk_X12_isRefused mv_X12_isRefused (by decide) rfl hM.1 (by decide) rfl rfl (Nat.le_of_ble_eq_true rfl) (Nat.le_refl _) (Nat.le_refl _) (fun r T h_1 => ?_)
    obtain ⟨rfl, rfl⟩ := h_1
    refine j_if_eq (pc := 11) (tgt := 16) dX12_about_11 (by decide) (fun h11 => absurd h11 (by decide)) (fun h11 => ?_)
    refine j_iconst (pc := 14) (v := (-1)) dX12_about_14 (by decide) ?_
    refine j_iret (pc := 15) dX12_about_15 rfl ?_
    exact m_ref h (n := 1) (by decide) e
  | some t =>
    have hto : zgI S 123 12 = 1 := by have := h.2.2.2.1.1; rw [ht] at this; exact this
    have hv := hw.v ht
    refine j_aload_n (pc := 0) dX12_about_0 rfl ?_
    refine j_aload_n (pc := 1) dX12_about_1 rfl ?_
    refine j_getIv (pc := 2) dX12_about_2 f_X12_296 (Or.inr rfl) hM.1 (hto) ?_
    refine j_callS (pc := 5) (n_unlT) dX12_about_5 l_X12_312 mk_X12_unless ms_X12_unless (by decide) rfl rfl (Nat.le_of_ble_eq_true rfl) (Nat.le_refl _) (Nat.le_refl _) (fun r T h_1 => ?_)
    obtain ⟨rfl, rfl⟩ := h_1
    refine j_callV (pc := 8) (t := 12) (n_ok hM) dX12_about_8 l_X12_256 mk_X12_isRefused mv_X12_isRefused (by decide) rfl hM.1 (by decide) rfl rfl (Nat.le_of_ble_eq_true rfl) (Nat.le_refl _) (Nat.le_refl _) (fun r T h_1 => ?_)
    obtain ⟨rfl, rfl⟩ := h_1
    refine j_if_eq (pc := 11) (tgt := 16) dX12_about_11 (by decide) (fun h11 => ?_) (fun h11 => absurd rfl h11)
    refine j_iload_n (pc := 16) dX12_about_16 rfl ?_
    refine j_swC (pc := 17) (k := 0) (tgt := 60) dX12_about_17 (by decide) (by decide) rfl (by decide) (fun h17 => ?_) (fun h17_0 => ?_)
    · refine j_aload_n (pc := 60) dX12_about_60 rfl ?_
      refine j_getIv (pc := 61) dX12_about_61 f_X12_271 (Or.inl rfl) hM.1 ((h.2.2.2.2.1 t ht).1.1.1) ?_
      refine j_iret (pc := 64) dX12_about_64 rfl ?_
      exact m_ans h (by rw [q_about, ht, h17]; rfl)
    refine j_swC (pc := 17) (k := 1) (tgt := 65) dX12_about_17 (by decide) (by decide) rfl (by decide) (fun h17 => ?_) (fun h17_1 => ?_)
    · refine j_aload_n (pc := 65) dX12_about_65 rfl ?_
      refine j_getIv (pc := 66) dX12_about_66 f_X12_274 (Or.inl rfl) hM.1 ((h.2.2.2.2.1 t ht).1.2.1.1) ?_
      refine j_iret (pc := 69) dX12_about_69 rfl ?_
      exact m_ans h (by rw [q_about, ht, h17]; rfl)
    refine j_swC (pc := 17) (k := 2) (tgt := 70) dX12_about_17 (by decide) (by decide) rfl (by decide) (fun h17 => ?_) (fun h17_2 => ?_)
    · refine j_aload_n (pc := 70) dX12_about_70 rfl ?_
      refine j_callV (pc := 71) (t := 12) (n_thereMany (h.no (n := 0) (by decide)) (zWF.no hw) ht) dX12_about_71 l_X12_316 mk_X12_thereMany mv_X12_thereMany (by decide) rfl hM.1 (by decide) rfl rfl (Nat.le_of_ble_eq_true rfl) (Nat.le_refl _) (Nat.le_refl _) (fun r T h_1 => ?_)
      obtain ⟨rfl, rfl⟩ := h_1
      refine j_iret (pc := 74) dX12_about_74 rfl ?_
      exact m_ans h (by rw [q_about, ht, h17]; rfl)
    refine j_swC (pc := 17) (k := 3) (tgt := 75) dX12_about_17 (by decide) (by decide) rfl (by decide) (fun h17 => ?_) (fun h17_3 => ?_)
    · refine j_aload_n (pc := 75) dX12_about_75 rfl ?_
      refine j_getIv (pc := 76) dX12_about_76 f_X12_283 (Or.inl rfl) hM.1 ((h.2.2.2.2.1 t ht).1.2.2.2.1.2.2) ?_
      refine j_iret (pc := 79) dX12_about_79 rfl ?_
      exact m_ans h (by rw [q_about, ht, h17]; rfl)
    refine j_swC (pc := 17) (k := 4) (tgt := 80) dX12_about_17 (by decide) (by decide) rfl (by decide) (fun h17 => ?_) (fun h17_4 => ?_)
    · refine j_aload_n (pc := 80) dX12_about_80 rfl ?_
      refine j_getIv (pc := 81) dX12_about_81 f_X12_277 (Or.inl rfl) hM.1 ((h.2.2.2.2.1 t ht).1.2.2.2.1.1) ?_
      refine j_iret (pc := 84) dX12_about_84 rfl ?_
      exact m_ans h (by rw [q_about, ht, h17]; rfl)
    refine j_swC (pc := 17) (k := 5) (tgt := 85) dX12_about_17 (by decide) (by decide) rfl (by decide) (fun h17 => ?_) (fun h17_5 => ?_)
    · refine j_aload_n (pc := 85) dX12_about_85 rfl ?_
      refine j_getIv (pc := 86) dX12_about_86 f_X12_280 (Or.inl rfl) hM.1 ((h.2.2.2.2.1 t ht).1.2.2.2.1.2.1) ?_
      refine j_sipush (pc := 89) (v := 256) dX12_about_89 (by decide) ?_
      refine j_irem (pc := 92) dX12_about_92 (by decide) ?_
      rw [show nI (tn t) - nI (tn t) / 256 * 256 = nI (tn t % 256) from pk_rem (d := 256) (by omega) (by decide) (by decide)]
      refine j_iret (pc := 93) dX12_about_93 rfl ?_
      exact m_ans h (by rw [q_about, ht, h17]; rfl)
    refine j_swC (pc := 17) (k := 6) (tgt := 94) dX12_about_17 (by decide) (by decide) rfl (by decide) (fun h17 => ?_) (fun h17_6 => ?_)
    · refine j_aload_n (pc := 94) dX12_about_94 rfl ?_
      refine j_callV (pc := 95) (t := 12) (n_earliest hM (h.2.2.2.2.1 t ht).1.2.2.2.1.1 (by omega)) dX12_about_95 l_X12_309 mk_X12_earliest mv_X12_earliest (by decide) rfl hM.1 (by decide) rfl rfl (Nat.le_of_ble_eq_true rfl) (Nat.le_refl _) (Nat.le_refl _) (fun r T h_1 => ?_)
      obtain ⟨rfl, rfl⟩ := h_1
      refine j_iret (pc := 98) dX12_about_98 rfl ?_
      exact m_ans h (by rw [q_about, ht, h17]; rfl)
    refine j_swD (pc := 17) (n := 7) (tgt := 99) dX12_about_17 rfl (fun k hk => by match k, hk with | 0, _ => exact h17_0 | 1, _ => exact h17_1 | 2, _ => exact h17_2 | 3, _ => exact h17_3 | 4, _ => exact h17_4 | 5, _ => exact h17_5 | 6, _ => exact h17_6) (by decide) ?_
    refine j_aload_n (pc := 99) dX12_about_99 rfl ?_
    refine j_iconst (pc := 100) (v := 1) dX12_about_100 (by decide) ?_
    refine j_callV (pc := 101) (t := 12) (n_no (by exact hM) _) dX12_about_101 l_X12_265 mk_X12_no mv_X12_no (by decide) rfl hM.1 (by decide) rfl rfl (Nat.le_of_ble_eq_true rfl) (Nat.le_refl _) (Nat.le_refl _) (fun r T h_1 => ?_)
    obtain ⟨rfl, rfl⟩ := h_1
    refine j_iret (pc := 104) dX12_about_104 rfl ?_
    have e : q_about s x = zrf s 1 := q_about_out ht (fun k hk => by match k, hk with | 0, _ => exact h17_0 | 1, _ => exact h17_1 | 2, _ => exact h17_2 | 3, _ => exact h17_3 | 4, _ => exact h17_4 | 5, _ => exact h17_5 | 6, _ => exact h17_6)
    rw [e]
    exact ⟨rfl, (h.no (n := 0) (by decide)).no1 (n := 1) (by decide), zNw.f.tr (zF.wI (by decide))⟩
