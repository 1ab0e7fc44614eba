set_option maxRecDepth 20000 in
set_option maxHeartbeats 4000000 in
theorem n_nobody {E : zE} {S : zM}  (hM : zMs S) : zSp E 0 0 0 mX12_nobodyReads cX12_nobodyReads [zR 123] S (fun r T => r = none ∧ zK (fun c k => c = 151) S T ∧ ∀ r, r < 4 → zgI T 151 r = 0) := by
  refine zSp.of (by decide) rfl (Nat.le_of_ble_eq_true rfl) rfl ?_
  have lp : ∀ (m i : Nat) (T : zM), i + m = 4 → zK (fun c k => c = 151) S T → (∀ r, r < i → zgI T 151 r = 0) → zJ E 0 0 0 mX12_nobodyReads cX12_nobodyReads 2 [some (zR 123), some (zI (nI i))] [] T (fun r T => r = none ∧ zK (fun c k => c = 151) S T ∧ ∀ r, r < 4 → zgI T 151 r = 0) := by
    intro m
    induction m with
    | zero =>
      intro i T hi hk hz
      have ei : i = 4 := by omega
      subst ei
      refine j_iload_n (pc := 2) dX12_nobodyReads_2 rfl ?_
      refine j_iconst (pc := 3) (v := 4) dX12_nobodyReads_3 (by decide) ?_
      refine j_icmp_ge (pc := 4) (tgt := 20) dX12_nobodyReads_4 (by decide) (fun h4 => ?_) (fun h4 => absurd (nI_le (a := 4) (Nat.le_refl _) (by decide)) h4)
      refine j_vret (pc := 20) dX12_nobodyReads_20 rfl ?_
      exact ⟨rfl, hk, hz⟩
    | succ m ih =>
      intro i T hi hk hz
      refine j_iload_n (pc := 2) dX12_nobodyReads_2 rfl ?_
      refine j_iconst (pc := 3) (v := 4) dX12_nobodyReads_3 (by decide) ?_
      refine j_icmp_ge (pc := 4) (tgt := 20) dX12_nobodyReads_4 (by decide) (fun h4 => absurd h4 (nI_ge (b := 4) (by omega) (by decide))) (fun h4 => ?_)
      refine j_aload_n (pc := 7) dX12_nobodyReads_7 rfl ?_
      refine j_getPv (pc := 8) dX12_nobodyReads_8 f_X12_99 (Or.inr ⟨_, rfl⟩) (hk.ms hM).1 (mp_readerSize (hk.ms hM)) ?_
      refine j_iload_n (pc := 11) dX12_nobodyReads_11 rfl ?_
      refine j_iconst (pc := 12) (v := 0) dX12_nobodyReads_12 (by decide) ?_
      refine j_iastn (pc := 13) dX12_nobodyReads_13 (mk_readerSize (hk.ms hM)) (by omega) (Nat.le_of_ble_eq_true rfl) ?_
      refine j_iinc (pc := 14) (v := _ + 1) (ls' := [_, _]) dX12_nobodyReads_14 rfl rfl (by decide) rfl rfl ?_
      refine j_goto (pc := 17) (tgt := 2) dX12_nobodyReads_17 (by decide) ?_
      rw [nI_1]
      refine ih (i + 1) _ (by omega) (hk.tr (zK.wI rfl)) (fun r hr => ?_)
      rw [zgI_wI]
      by_cases e : r = i
      · rw [if_pos ⟨rfl, e⟩]
      · rw [if_neg (fun z => e z.2)]
        exact hz r (by omega)
  refine j_iconst (pc := 0) (v := 0) dX12_nobodyReads_0 (by decide) ?_
  refine j_istore_n (pc := 1) (ls' := [_, _]) dX12_nobodyReads_1 (by decide) rfl rfl ?_
  exact lp 4 0 S (by omega) zK.rf (fun r hr => absurd hr (Nat.not_lt_zero r))
set_option maxRecDepth 20000 in
set_option maxHeartbeats 4000000 in
theorem n_turned {E : zE} {S : zM} {u : Nat} (hM : zMs S) (hu : zgI S 123 30 = nI u) : zSp E 1 0 0 mX12_turned cX12_turned [zR 123] S (fun r T => r = none ∧ zK (fun c k => c = 151 ∨ (c = 123 ∧ k = 30)) S T ∧ zgI T 123 30 = nI (u + 1) ∧ ∀ r, r < 4 → zgI T 151 r = 0) := by
  refine zSp.of (by decide) rfl (Nat.le_of_ble_eq_true rfl) rfl ?_
  refine j_aload_n (pc := 0) dX12_turned_0 rfl ?_
  refine j_dup (pc := 1) dX12_turned_1 rfl ?_
  refine j_getIv (pc := 2) dX12_turned_2 f_X12_280 (Or.inl rfl) hM.1 (hu) ?_
  refine j_iconst (pc := 5) (v := 1) dX12_turned_5 (by decide) ?_
  refine j_iadd (pc := 6) dX12_turned_6 ?_
  rw [nI_1]
  refine j_putI (pc := 7) dX12_turned_7 f_X12_280 rfl hM.1 rfl ?_
  refine j_aload_n (pc := 10) dX12_turned_10 rfl ?_
  refine j_callV (pc := 11) (t := 12) (n_nobody (by exact hM)) dX12_turned_11 l_X12_293 mk_X12_nobodyReads mv_X12_nobodyReads (by decide) rfl hM.1 (by decide) rfl rfl (Nat.le_of_ble_eq_true rfl) (Nat.le_refl _) (Nat.le_refl _) (fun r T h_1 => ?_)
  obtain ⟨rfl, f1, z1⟩ := h_1
  refine j_vret (pc := 14) dX12_turned_14 rfl ?_
  exact ⟨rfl, (zK.wI (Or.inr ⟨rfl, rfl⟩)).tr (f1.mo (fun c k z => Or.inl z)), (f1.2.2.2.1 _ _ (by omega)).trans zgI_self, z1⟩
/-- the order or the sieve is another -/
theorem zMO.turn {S T : zM} {s : zST} {t : zTB} {X : Nat → Nat → Prop} {O : List zOe} {V : List zSe} (h : zMO S s) (ht : sT s = some t) (f : zK X S T) (hx : ∀ c k, X c k → zXs c k ∨ (126 ≤ c ∧ c ≤ 128) ∨ (140 ≤ c ∧ c ≤ 142) ∨ c = 151 ∨ (c = 123 ∧ (k = 1 ∨ k = 3 ∨ k = 8 ∨ k = 30 ∨ k = 39))) (h1 : zgI T 123 1 = 0) (hO : mO T O) (hV : mV T V) (h30 : zgI T 123 30 = nI (tn t + 1)) (hr : ∀ r, r < 4 → zgI T 151 r = 0) : zMO T (zturn s t O V) := by
  obtain ⟨h0, hA, hB, h12, hT, hP, hR⟩ := h
  have g : ∀ c k, ¬ (zXs c k ∨ (126 ≤ c ∧ c ≤ 128) ∨ (140 ≤ c ∧ c ≤ 142) ∨ c = 151 ∨ (c = 123 ∧ (k = 1 ∨ k = 3 ∨ k = 8 ∨ k = 30 ∨ k = 39))) → ¬ X c k := fun c k q z => q (hx c k z)
  have gi : ∀ k, ¬ (zXs 123 k ∨ k = 1 ∨ k = 3 ∨ k = 8 ∨ k = 30 ∨ k = 39) → zgI T 123 k = zgI S 123 k := fun k q => f.2.2.2.1 _ _ (g _ _ (fun z => q (z.elim Or.inl (fun z => Or.inr (by omega)))))
  obtain ⟨⟨a1, a2, a3, ⟨a4, a5, a6⟩, a7⟩, aC⟩ := hT t ht
  have et : (sT s).isSome = true := by rw [ht]; rfl
  refine ⟨f.ms h0, hA.k f (g _ _ (by unfold zXs; omega)) (fun k => g _ _ (by unfold zXs; omega)), ⟨h1, (gi 2 (by unfold zXs; omega)).trans hB.2.1, fun q => by cases q⟩, ⟨(gi 12 (by unfold zXs; omega)).trans (h12.1.trans (by rw [et]; rfl)), fun q => by cases q⟩, fun t' ht' => ?_, ?_, fun r hr' => hr r hr'⟩
  · cases ht'
    refine ⟨⟨a1.k f (g _ _ (by unfold zXs; omega)) (fun k => g _ _ (by unfold zXs; omega)), hO, hV, ⟨(gi 29 (by unfold zXs; omega)).trans a4, h30, (gi 31 (by unfold zXs; omega)).trans a6⟩, a7.k f (fun c k _ _ => g _ _ (by unfold zXs; omega))⟩, ?_⟩
    obtain ⟨⟨ca, hca⟩, hz⟩ := aC.k f (fun k => g _ _ (by unfold zXs; omega))
    refine ⟨⟨ca, fun i hi => ⟨(hca i hi).1, (hca i hi).2.1, ?_⟩⟩, hz.1, fun r x _ hx => by cases hx⟩
    rcases (hca i hi).2.2 with e | ⟨e1, e2, e3⟩
    · exact Or.inl e
    · exact Or.inr ⟨e1, fun r x _ hx => (by cases hx), e3⟩
  · have := hP.k f ⟨g _ _ (by unfold zXs; omega), g _ _ (by unfold zXs; omega)⟩ (fun c k _ _ => g _ _ (by unfold zXs; omega))
    rw [sk_s ht] at this
    exact this
set_option maxRecDepth 20000 in
set_option maxHeartbeats 4000000 in
theorem m_clear {E : zE} {S : zM} {s : zST} {n : Nat} (h : zMO S s) (hw : zWF n s)  : zSp E 2 0 0 mX12_clear cX12_clear [zR 123] S (fun r T => r = some (zI (q_clear s).1) ∧ zMO T (q_clear s).2 ∧ zF zMX S T) := by
  refine zSp.of (by decide) rfl (Nat.le_of_ble_eq_true rfl) rfl ?_
  have hM := h.1
  cases ht : sT s with
  | none =>
    have hto : zgI S 123 12 = 0 := by have := h.2.2.2.1.1; rw [ht] at this; exact this
    have e : q_clear s = zrf s 1 := by rw [q_clear, ht]
    refine j_aload_n (pc := 0) dX12_clear_0 rfl ?_
    refine j_aload_n (pc := 1) dX12_clear_1 rfl ?_
    refine j_getIv (pc := 2) dX12_clear_2 f_X12_296 (Or.inr rfl) hM.1 (hto) ?_
    refine j_callS (pc := 5) (n_unlF) dX12_clear_5 l_X12_312 mk_X12_unless ms_X12_unless (by decide) rfl rfl (Nat.le_of_ble_eq_true rfl) (Nat.le_refl _) (Nat.le_refl _) (fun r T h_1 => ?_)
    obtain ⟨rfl, rfl⟩ := h_1
    refine j_callV (pc := 8) (t := 12) (n_rf1 hM) dX12_clear_8 l_X12_256 mk_X12_isRefused mv_X12_isRefused (by decide) rfl hM.1 (by decide) rfl rfl (Nat.le_of_ble_eq_true rfl) (Nat.le_refl _) (Nat.le_refl _) (fun r T h_1 => ?_)
    obtain ⟨rfl, rfl⟩ := h_1
    refine j_if_eq (pc := 11) (tgt := 16) dX12_clear_11 (by decide) (fun h11 => absurd h11 (by decide)) (fun h11 => ?_)
    refine j_iconst (pc := 14) (v := (-1)) dX12_clear_14 (by decide) ?_
    refine j_iret (pc := 15) dX12_clear_15 rfl ?_
    exact m_ref h (n := 1) (by decide) e
  | some t =>
    have hto : zgI S 123 12 = 1 := by have := h.2.2.2.1.1; rw [ht] at this; exact this
    have hv := hw.v ht
    refine j_aload_n (pc := 0) dX12_clear_0 rfl ?_
    refine j_aload_n (pc := 1) dX12_clear_1 rfl ?_
    refine j_getIv (pc := 2) dX12_clear_2 f_X12_296 (Or.inr rfl) hM.1 (hto) ?_
    refine j_callS (pc := 5) (n_unlT) dX12_clear_5 l_X12_312 mk_X12_unless ms_X12_unless (by decide) rfl rfl (Nat.le_of_ble_eq_true rfl) (Nat.le_refl _) (Nat.le_refl _) (fun r T h_1 => ?_)
    obtain ⟨rfl, rfl⟩ := h_1
    refine j_callV (pc := 8) (t := 12) (n_ok hM) dX12_clear_8 l_X12_256 mk_X12_isRefused mv_X12_isRefused (by decide) rfl hM.1 (by decide) rfl rfl (Nat.le_of_ble_eq_true rfl) (Nat.le_refl _) (Nat.le_refl _) (fun r T h_1 => ?_)
    obtain ⟨rfl, rfl⟩ := h_1
    refine j_if_eq (pc := 11) (tgt := 16) dX12_clear_11 (by decide) (fun h11 => ?_) (fun h11 => absurd rfl h11)
    refine j_aload_n (pc := 16) dX12_clear_16 rfl ?_
    refine j_getIv (pc := 17) dX12_clear_17 f_X12_286 (Or.inl rfl) hM.1 ((h.2.2.2.2.1 t ht).1.2.2.1.1) ?_
    refine j_istore_n (pc := 20) (ls' := [_, _]) dX12_clear_20 (by decide) rfl rfl ?_
    refine j_aload_n (pc := 21) dX12_clear_21 rfl ?_
    refine j_iconst (pc := 22) (v := 0) dX12_clear_22 (by decide) ?_
    refine j_putI (pc := 23) dX12_clear_23 f_X12_286 rfl hM.1 rfl ?_
    refine j_aload_n (pc := 26) dX12_clear_26 rfl ?_
    refine j_callV (pc := 27) (t := 12) (n_turned (S := zwI (zNw S 0) 123 39 0) (u := tn t) (by exact hM) (by exact (h.2.2.2.2.1 t ht).1.2.2.2.1.2.1)) dX12_clear_27 l_X12_382 mk_X12_turned mv_X12_turned (by decide) rfl hM.1 (by decide) rfl rfl (Nat.le_of_ble_eq_true rfl) (Nat.le_refl _) (Nat.le_refl _) (fun r Tz h_1 => ?_)
    obtain ⟨rfl, f1, g1, z1⟩ := h_1
    refine j_iload_n (pc := 30) dX12_clear_30 rfl ?_
    refine j_iret (pc := 31) dX12_clear_31 rfl ?_
    have f2 : zK (fun c k => c = 151 ∨ (c = 123 ∧ (k = 0 ∨ k = 1 ∨ k = 3 ∨ k = 30 ∨ k = 39))) S Tz := ((((zK.wI (by omega)).tr (zK.wI (by omega))).tr (zK.wI (by omega))).tr (zK.wI (by omega))).tr (f1.mo (fun c k z => by omega))
    have ez : q_clear s = (nI (tV t).length, zturn s t (tO t) []) := by simp only [q_clear, ht]
    rw [ez]
    refine ⟨rfl, h.turn ht f2 (fun c k z => by unfold zXs; omega) (f1.2.2.2.1 123 1 (by omega)) ((h.2.2.2.2.1 t ht).1.2.1.k f2 (by omega) (fun c k _ _ => by omega)) ⟨f1.2.2.2.1 123 39 (by omega), fun i c hc => absurd hc (by simp)⟩ g1 z1, f2.f (fun c k z => by unfold zMX; omega)⟩
set_option maxRecDepth 20000 in
set_option maxHeartbeats 4000000 in
theorem m_sieve {E : zE} {S : zM} {s : zST} {n : Nat} (h : zMO S s) (hw : zWF n s) (x w : Int32) (v : Int64) : zSp E 2 0 0 mX12_sieve cX12_sieve [zR 123, zI x, zI w, zL v] S (fun r T => r = some (zI (q_sieve s x w v).1) ∧ zMO T (q_sieve s x w v).2 ∧ zF zMX S T) := by
  refine zSp.of (by decide) rfl (Nat.le_of_ble_eq_true rfl) rfl ?_
  have hM := h.1
  cases hz : zcol s x with
  | false =>
    have e : q_sieve s x w v = zrf s 1 := by
      unfold q_sieve
      split
      · rfl
      · rename_i t ht
        rw [zcol_s ht] at hz
        rw [if_pos hz]
    refine j_aload_n (pc := 0) dX12_sieve_0 rfl ?_
    refine j_aload_n (pc := 1) dX12_sieve_1 rfl ?_
    refine j_iload_n (pc := 2) dX12_sieve_2 rfl ?_
    refine j_callV (pc := 3) (t := 12) (n_isColumn h hw _) dX12_sieve_3 l_X12_319 mk_X12_isColumn mv_X12_isColumn (by decide) rfl hM.1 (by decide) rfl rfl (Nat.le_of_ble_eq_true rfl) (Nat.le_refl _) (Nat.le_refl _) (fun r T h_1 => ?_)
    obtain ⟨rfl, rfl⟩ := h_1
    rw [hz]
    refine j_callS (pc := 6) (n_unlF) dX12_sieve_6 l_X12_312 mk_X12_unless ms_X12_unless (by decide) rfl rfl (Nat.le_of_ble_eq_true rfl) (Nat.le_refl _) (Nat.le_refl _) (fun r T h_1 => ?_)
    obtain ⟨rfl, rfl⟩ := h_1
    refine j_callV (pc := 9) (t := 12) (n_rf1 hM) dX12_sieve_9 l_X12_256 mk_X12_isRefused mv_X12_isRefused (by decide) rfl hM.1 (by decide) rfl rfl (Nat.le_of_ble_eq_true rfl) (Nat.le_refl _) (Nat.le_refl _) (fun r T h_1 => ?_)
    obtain ⟨rfl, rfl⟩ := h_1
    refine j_if_eq (pc := 12) (tgt := 17) dX12_sieve_12 (by decide) (fun h12 => absurd h12 (by decide)) (fun h12 => ?_)
    refine j_iconst (pc := 15) (v := (-1)) dX12_sieve_15 (by decide) ?_
    refine j_iret (pc := 16) dX12_sieve_16 rfl ?_
    exact m_ref h (n := 1) (by decide) e
  | true =>
    obtain ⟨t, j, ht, hj, rfl, hK4⟩ := zcol_t hw hz
    have hv := hw.v ht
    have hcl : (nI j).toNatClampNeg = j := nI_clamp (by omega)
    have hKb := gD false hj
    have hzc := zcol_s ht (nI j)
    rw [hz] at hzc
    refine j_aload_n (pc := 0) dX12_sieve_0 rfl ?_
    refine j_aload_n (pc := 1) dX12_sieve_1 rfl ?_
    refine j_iload_n (pc := 2) dX12_sieve_2 rfl ?_
    refine j_callV (pc := 3) (t := 12) (n_isColumn h hw _) dX12_sieve_3 l_X12_319 mk_X12_isColumn mv_X12_isColumn (by decide) rfl hM.1 (by decide) rfl rfl (Nat.le_of_ble_eq_true rfl) (Nat.le_refl _) (Nat.le_refl _) (fun r T h_1 => ?_)
    obtain ⟨rfl, rfl⟩ := h_1
    rw [hz]
    refine j_callS (pc := 6) (n_unlT) dX12_sieve_6 l_X12_312 mk_X12_unless ms_X12_unless (by decide) rfl rfl (Nat.le_of_ble_eq_true rfl) (Nat.le_refl _) (Nat.le_refl _) (fun r T h_1 => ?_)
    obtain ⟨rfl, rfl⟩ := h_1
    refine j_callV (pc := 9) (t := 12) (n_ok hM) dX12_sieve_9 l_X12_256 mk_X12_isRefused mv_X12_isRefused (by decide) rfl hM.1 (by decide) rfl rfl (Nat.le_of_ble_eq_true rfl) (Nat.le_refl _) (Nat.le_refl _) (fun r T h_1 => ?_)
    obtain ⟨rfl, rfl⟩ := h_1
    refine j_if_eq (pc := 12) (tgt := 17) dX12_sieve_12 (by decide) (fun h12 => ?_) (fun h12 => absurd rfl h12)
    refine j_iload_n (pc := 17) dX12_sieve_17 rfl ?_
    refine j_i2l (pc := 18) dX12_sieve_18 ?_
    refine j_lconst (pc := 19) (v := 0) dX12_sieve_19 (by decide) ?_
    refine j_ldcL (pc := 20) dX12_sieve_20 k_X12_376 ?_
    refine j_callS (pc := 23) (n_in _ _ _) dX12_sieve_23 l_X12_159 mk_X12_in ms_X12_in (by decide) rfl rfl (Nat.le_of_ble_eq_true rfl) (Nat.le_refl _) (Nat.le_refl _) (fun r T h_1 => ?_)
    obtain ⟨rfl, rfl⟩ := h_1
    rw [show decide (¬ w.toInt64 < 0 ∧ ¬ (4 : Int64) < w.toInt64) = zcl2 5 w from zin_lit (m := 4) (by decide) w]
    refine j_if_eq (pc := 26) (tgt := 44) dX12_sieve_26 (by decide) (fun h26 => ?_) (fun h26 => ?_)
    · refine j_aload_n (pc := 44) dX12_sieve_44 rfl ?_
      refine j_iconst (pc := 45) (v := 2) dX12_sieve_45 (by decide) ?_
      refine j_callV (pc := 46) (t := 12) (n_no (by exact hM) _) dX12_sieve_46 l_X12_265 mk_X12_no mv_X12_no (by decide) rfl hM.1 (by decide) rfl rfl (Nat.le_of_ble_eq_true rfl) (Nat.le_refl _) (Nat.le_refl _) (fun r T h_1 => ?_)
      obtain ⟨rfl, rfl⟩ := h_1
      refine j_iret (pc := 49) dX12_sieve_49 rfl ?_
      have e : q_sieve s (nI j) w v = zrf s 2 := by simp only [q_sieve, ht]; rw [if_neg (bnf2 hzc.symm), if_pos (Or.inl (zbi_eq0.mp h26))]
      rw [e]
      exact ⟨rfl, (h.no (n := 0) (by decide)).no1 (n := 2) (by decide), zNw.f.tr (zF.wI (by decide))⟩
    · have hh5 := zbi_ne0 h26
      obtain ⟨kh, hk5, rfl⟩ := zcl2_t (by decide) hh5
      have hch : (nI kh).toNatClampNeg = kh := nI_clamp (by omega)
      refine j_iload_n (pc := 29) dX12_sieve_29 rfl ?_
      refine j_iconst (pc := 30) (v := 3) dX12_sieve_30 (by decide) ?_
      refine j_icmp_ge (pc := 31) (tgt := 50) dX12_sieve_31 (by decide) (fun h31 => ?_) (fun h31 => ?_)
      · have hgo : ¬ (zcl2 5 (nI kh) = false ∨ (nI kh < 3 ∧ (v = zMiss ∨ zch ((tK t).getD (zn (nI j)) false) v = false))) := fun g => g.elim (bnf2 hh5) (fun g => absurd g.1 (Int32.not_lt.mpr h31))
        refine j_aload_n (pc := 50) dX12_sieve_50 rfl ?_
        refine j_getIv (pc := 51) dX12_sieve_51 f_X12_286 (Or.inl rfl) hM.1 ((h.2.2.2.2.1 t ht).1.2.2.1.1) ?_
        refine j_iconst (pc := 54) (v := 2) dX12_sieve_54 (by decide) ?_
        refine j_icmp_ne (pc := 55) (tgt := 64) dX12_sieve_55 (by decide) (fun h55 => ?_) (fun h55 => ?_)
        · have hV2 : (tV t).length < 2 := by have h2 : (tV t).length ≠ 2 := fun q => h55 (by rw [q]; rfl); omega
          refine j_aload_n (pc := 64) dX12_sieve_64 rfl ?_
          refine j_getPv (pc := 65) dX12_sieve_65 f_X12_66 (Or.inr ⟨_, rfl⟩) hM.1 (mp_sieveColumn hM) ?_
          refine j_aload_n (pc := 68) dX12_sieve_68 rfl ?_
          refine j_getIv (pc := 69) dX12_sieve_69 f_X12_286 (Or.inl rfl) hM.1 ((h.2.2.2.2.1 t ht).1.2.2.1.1) ?_
          refine j_iload_n (pc := 72) dX12_sieve_72 rfl ?_
          refine j_iastn (pc := 73) dX12_sieve_73 (mk_sieveColumn hM) (by omega) (Nat.le_of_ble_eq_true rfl) ?_
          refine j_aload_n (pc := 74) dX12_sieve_74 rfl ?_
          refine j_getPv (pc := 75) dX12_sieve_75 f_X12_69 (Or.inr ⟨_, rfl⟩) hM.1 (mp_sieveHow hM) ?_
          refine j_aload_n (pc := 78) dX12_sieve_78 rfl ?_
          refine j_getIv (pc := 79) dX12_sieve_79 f_X12_286 (Or.inl rfl) hM.1 ((h.2.2.2.2.1 t ht).1.2.2.1.1) ?_
          refine j_iload_n (pc := 82) dX12_sieve_82 rfl ?_
          refine j_iastn (pc := 83) dX12_sieve_83 (mk_sieveHow hM) (by omega) (Nat.le_of_ble_eq_true rfl) ?_
          refine j_aload_n (pc := 84) dX12_sieve_84 rfl ?_
          refine j_getPv (pc := 85) dX12_sieve_85 f_X12_72 (Or.inr ⟨_, rfl⟩) hM.1 (mp_sieveValue hM) ?_
          refine j_aload_n (pc := 88) dX12_sieve_88 rfl ?_
          refine j_getIv (pc := 89) dX12_sieve_89 f_X12_286 (Or.inl rfl) hM.1 ((h.2.2.2.2.1 t ht).1.2.2.1.1) ?_
          refine j_lload_n (pc := 92) dX12_sieve_92 rfl ?_
          refine j_lastn (pc := 93) dX12_sieve_93 (mk_sieveValue hM) (by omega) (Nat.le_of_ble_eq_true rfl) ?_
          refine j_aload_n (pc := 94) dX12_sieve_94 rfl ?_
          refine j_dup (pc := 95) dX12_sieve_95 rfl ?_
          refine j_getIv (pc := 96) dX12_sieve_96 f_X12_286 (Or.inl rfl) hM.1 ((h.2.2.2.2.1 t ht).1.2.2.1.1) ?_
          refine j_iconst (pc := 99) (v := 1) dX12_sieve_99 (by decide) ?_
          
          refine j_iadd (pc := 100) dX12_sieve_100 ?_
          rw [nI_1]
          refine j_putI (pc := 101) dX12_sieve_101 f_X12_286 rfl hM.1 rfl ?_
          refine j_aload_n (pc := 104) dX12_sieve_104 rfl ?_
          refine j_callV (pc := 105) (t := 12) (n_turned (u := tn t) (by exact hM) (by exact (h.2.2.2.2.1 t ht).1.2.2.2.1.2.1)) dX12_sieve_105 l_X12_382 mk_X12_turned mv_X12_turned (by decide) rfl hM.1 (by decide) rfl rfl (Nat.le_of_ble_eq_true rfl) (Nat.le_refl _) (Nat.le_refl _) (fun r Tz h_1 => ?_)
          obtain ⟨rfl, f1, g1, z1⟩ := h_1
          have hM9 : zMs Tz := f1.ms (by exact hM)
          refine j_aload_n (pc := 108) dX12_sieve_108 rfl ?_
          refine j_getIv (pc := 109) dX12_sieve_109 f_X12_286 (Or.inl rfl) hM9.1 ((f1.2.2.2.1 123 39 (by omega)).trans zgI_self) ?_
          refine j_iret (pc := 112) dX12_sieve_112 rfl ?_
          have ez : q_sieve s (nI j) (nI kh) v = (nI ((tV t).length + 1), zturn s t (tO t) (tV t ++ [(j, (tK t).getD j false, kh, v)])) := by
            simp only [q_sieve, ht]
            rw [if_neg (bnf2 hzc.symm), if_neg hgo, if_neg (by omega)]
            simp only [zn, hcl, hch]
          rw [ez]
          have f3 : zK (fun c k => (140 ≤ c ∧ c ≤ 142) ∨ (c = 123 ∧ (k = 0 ∨ k = 1 ∨ k = 3 ∨ k = 39))) S (zwI (zwL (zwI (zwI (zNw S 0) 140 (tV t).length (nI j)) 141 (tV t).length (nI kh)) 142 (tV t).length v) 123 39 (nI ((tV t).length + 1))) := ((((((zK.wI (by omega)).tr (zK.wI (by omega))).tr (zK.wI (by omega))).tr (zK.wI (by omega))).tr (zK.wI (by omega))).tr (zK.wL (by omega))).tr (zK.wI (by omega))
          have f2 : zK (fun c k => (140 ≤ c ∧ c ≤ 142) ∨ c = 151 ∨ (c = 123 ∧ (k = 0 ∨ k = 1 ∨ k = 3 ∨ k = 30 ∨ k = 39))) S Tz := (f3.mo (fun c k z => by omega)).tr (f1.mo (fun c k z => by omega))
          have hV3 : mV (zwI (zwL (zwI (zwI (zNw S 0) 140 (tV t).length (nI j)) 141 (tV t).length (nI kh)) 142 (tV t).length v) 123 39 (nI ((tV t).length + 1))) (tV t ++ [(j, (tK t).getD j false, kh, v)]) := by
            refine ⟨by rw [List.length_append]; exact zgI_self, fun i c hc => ?_⟩
            by_cases q : i = (tV t).length
            · subst q
              rw [List.getElem?_concat_length] at hc
              cases hc
              exact ⟨(zgI_ne (by decide)).trans ((show zgI (zwI (zwI (zNw S 0) 140 (tV t).length (nI j)) 141 (tV t).length (nI kh)) 140 (tV t).length = _ from zgI_ne (by decide)).trans zgI_self), (zgI_ne (by decide)).trans (zgI_self (S := zwI (zNw S 0) 140 (tV t).length (nI j))), zgL_self (S := zwI (zwI (zNw S 0) 140 (tV t).length (nI j)) 141 (tV t).length (nI kh))⟩
            · have hi : i < (tV t ++ [(j, (tK t).getD j false, kh, v)]).length := (List.getElem?_eq_some_iff.mp hc).1
              simp only [List.length_append, List.length_cons, List.length_nil] at hi
              rw [List.getElem?_append_left (by omega)] at hc
              obtain ⟨b1, b2, b3⟩ := (h.2.2.2.2.1 t ht).1.2.2.1.2 i c hc
              refine ⟨?_, ?_, ?_⟩
              · refine (zgI_ne (by decide)).trans ((show zgI (zwI (zwI (zNw S 0) 140 (tV t).length (nI j)) 141 (tV t).length (nI kh)) 140 i = _ from zgI_ne (by decide)).trans ((zgI_nk q).trans b1))
              · exact (zgI_ne (by decide)).trans ((show zgI (zwI (zwI (zNw S 0) 140 (tV t).length (nI j)) 141 (tV t).length (nI kh)) 141 i = _ from zgI_nk q).trans ((zgI_ne (by decide)).trans b2))
              · exact (show zgL (zwL (zwI (zwI (zNw S 0) 140 (tV t).length (nI j)) 141 (tV t).length (nI kh)) 142 (tV t).length v) 142 i = _ from zgL_nk q).trans b3
          exact ⟨rfl, h.turn ht f2 (fun c k z => by unfold zXs; omega) (f1.2.2.2.1 123 1 (by omega)) ((h.2.2.2.2.1 t ht).1.2.1.k f2 (by omega) (fun c k _ _ => by omega)) (hV3.k f1 (by omega) (fun c k _ _ => by omega)) g1 z1, f2.f (fun c k z => by unfold zMX; omega)⟩
        · refine j_aload_n (pc := 58) dX12_sieve_58 rfl ?_
          refine j_iconst (pc := 59) (v := 3) dX12_sieve_59 (by decide) ?_
          refine j_callV (pc := 60) (t := 12) (n_no (by exact hM) _) dX12_sieve_60 l_X12_265 mk_X12_no mv_X12_no (by decide) rfl hM.1 (by decide) rfl rfl (Nat.le_of_ble_eq_true rfl) (Nat.le_refl _) (Nat.le_refl _) (fun r T h_1 => ?_)
          obtain ⟨rfl, rfl⟩ := h_1
          refine j_iret (pc := 63) dX12_sieve_63 rfl ?_
          have e : q_sieve s (nI j) (nI kh) v = zrf s 3 := by simp only [q_sieve, ht]; rw [if_neg (bnf2 hzc.symm), if_neg hgo, if_pos (Nat.le_of_eq ((nI_eq (b := 2) (by omega) (by decide)).mp h55).symm)]
          rw [e]
          exact ⟨rfl, (h.no (n := 0) (by decide)).no1 (n := 3) (by decide), zNw.f.tr (zF.wI (by decide))⟩
      · refine j_aload_n (pc := 34) dX12_sieve_34 rfl ?_
        refine j_iload_n (pc := 35) dX12_sieve_35 rfl ?_
        refine j_lload_n (pc := 36) dX12_sieve_36 rfl ?_
        refine j_iconst (pc := 37) (v := 0) dX12_sieve_37 (by decide) ?_
        refine j_callV (pc := 38) (t := 12) (n_canHave (h.no (n := 0) (by decide)) ht hKb hK4 v false) dX12_sieve_38 l_X12_378 mk_X12_canHave mv_X12_canHave (by decide) rfl hM.1 (by decide) rfl rfl (Nat.le_of_ble_eq_true rfl) (Nat.le_refl _) (Nat.le_refl _) (fun r T h_1 => ?_)
        obtain ⟨rfl, rfl⟩ := h_1
        refine j_if_ne (pc := 41) (tgt := 50) dX12_sieve_41 (by decide) (fun h41 => ?_) (fun h41 => ?_)
        · have hcv := zbi_ne0 h41
          have hvm : ¬ v = zMiss := fun q => by rw [if_pos q] at hcv; cases hcv
          rw [if_neg hvm] at hcv
          have hgo : ¬ (zcl2 5 (nI kh) = false ∨ (nI kh < 3 ∧ (v = zMiss ∨ zch ((tK t).getD (zn (nI j)) false) v = false))) := by
            rintro (g | ⟨-, g | g⟩)
            · exact bnf2 hh5 g
            · exact hvm g
            · rw [zn, hcl] at g
              exact bnf2 hcv g
          refine j_aload_n (pc := 50) dX12_sieve_50 rfl ?_
          refine j_getIv (pc := 51) dX12_sieve_51 f_X12_286 (Or.inl rfl) hM.1 ((h.2.2.2.2.1 t ht).1.2.2.1.1) ?_
          refine j_iconst (pc := 54) (v := 2) dX12_sieve_54 (by decide) ?_
          refine j_icmp_ne (pc := 55) (tgt := 64) dX12_sieve_55 (by decide) (fun h55 => ?_) (fun h55 => ?_)
          · have hV2 : (tV t).length < 2 := by have h2 : (tV t).length ≠ 2 := fun q => h55 (by rw [q]; rfl); omega
            refine j_aload_n (pc := 64) dX12_sieve_64 rfl ?_
            refine j_getPv (pc := 65) dX12_sieve_65 f_X12_66 (Or.inr ⟨_, rfl⟩) hM.1 (mp_sieveColumn hM) ?_
            refine j_aload_n (pc := 68) dX12_sieve_68 rfl ?_
            refine j_getIv (pc := 69) dX12_sieve_69 f_X12_286 (Or.inl rfl) hM.1 ((h.2.2.2.2.1 t ht).1.2.2.1.1) ?_
            refine j_iload_n (pc := 72) dX12_sieve_72 rfl ?_
            refine j_iastn (pc := 73) dX12_sieve_73 (mk_sieveColumn hM) (by omega) (Nat.le_of_ble_eq_true rfl) ?_
            refine j_aload_n (pc := 74) dX12_sieve_74 rfl ?_
            refine j_getPv (pc := 75) dX12_sieve_75 f_X12_69 (Or.inr ⟨_, rfl⟩) hM.1 (mp_sieveHow hM) ?_
            refine j_aload_n (pc := 78) dX12_sieve_78 rfl ?_
            refine j_getIv (pc := 79) dX12_sieve_79 f_X12_286 (Or.inl rfl) hM.1 ((h.2.2.2.2.1 t ht).1.2.2.1.1) ?_
            refine j_iload_n (pc := 82) dX12_sieve_82 rfl ?_
            refine j_iastn (pc := 83) dX12_sieve_83 (mk_sieveHow hM) (by omega) (Nat.le_of_ble_eq_true rfl) ?_
            refine j_aload_n (pc := 84) dX12_sieve_84 rfl ?_
            refine j_getPv (pc := 85) dX12_sieve_85 f_X12_72 (Or.inr ⟨_, rfl⟩) hM.1 (mp_sieveValue hM) ?_
            refine j_aload_n (pc := 88) dX12_sieve_88 rfl ?_
            refine j_getIv (pc := 89) dX12_sieve_89 f_X12_286 (Or.inl rfl) hM.1 ((h.2.2.2.2.1 t ht).1.2.2.1.1) ?_
            refine j_lload_n (pc := 92) dX12_sieve_92 rfl ?_
            refine j_lastn (pc := 93) dX12_sieve_93 (mk_sieveValue hM) (by omega) (Nat.le_of_ble_eq_true rfl) ?_
            refine j_aload_n (pc := 94) dX12_sieve_94 rfl ?_
            refine j_dup (pc := 95) dX12_sieve_95 rfl ?_
            refine j_getIv (pc := 96) dX12_sieve_96 f_X12_286 (Or.inl rfl) hM.1 ((h.2.2.2.2.1 t ht).1.2.2.1.1) ?_
            refine j_iconst (pc := 99) (v := 1) dX12_sieve_99 (by decide) ?_
            
            refine j_iadd (pc := 100) dX12_sieve_100 ?_
            rw [nI_1]
            refine j_putI (pc := 101) dX12_sieve_101 f_X12_286 rfl hM.1 rfl ?_
            refine j_aload_n (pc := 104) dX12_sieve_104 rfl ?_
            refine j_callV (pc := 105) (t := 12) (n_turned (u := tn t) (by exact hM) (by exact (h.2.2.2.2.1 t ht).1.2.2.2.1.2.1)) dX12_sieve_105 l_X12_382 mk_X12_turned mv_X12_turned (by decide) rfl hM.1 (by decide) rfl rfl (Nat.le_of_ble_eq_true rfl) (Nat.le_refl _) (Nat.le_refl _) (fun r Tz h_1 => ?_)
            obtain ⟨rfl, f1, g1, z1⟩ := h_1
            have hM9 : zMs Tz := f1.ms (by exact hM)
            refine j_aload_n (pc := 108) dX12_sieve_108 rfl ?_
            refine j_getIv (pc := 109) dX12_sieve_109 f_X12_286 (Or.inl rfl) hM9.1 ((f1.2.2.2.1 123 39 (by omega)).trans zgI_self) ?_
            refine j_iret (pc := 112) dX12_sieve_112 rfl ?_
            have ez : q_sieve s (nI j) (nI kh) v = (nI ((tV t).length + 1), zturn s t (tO t) (tV t ++ [(j, (tK t).getD j false, kh, v)])) := by
              simp only [q_sieve, ht]
              rw [if_neg (bnf2 hzc.symm), if_neg hgo, if_neg (by omega)]
              simp only [zn, hcl, hch]
            rw [ez]
            have f3 : zK (fun c k => (140 ≤ c ∧ c ≤ 142) ∨ (c = 123 ∧ (k = 0 ∨ k = 1 ∨ k = 3 ∨ k = 39))) S (zwI (zwL (zwI (zwI (zNw S 0) 140 (tV t).length (nI j)) 141 (tV t).length (nI kh)) 142 (tV t).length v) 123 39 (nI ((tV t).length + 1))) := ((((((zK.wI (by omega)).tr (zK.wI (by omega))).tr (zK.wI (by omega))).tr (zK.wI (by omega))).tr (zK.wI (by omega))).tr (zK.wL (by omega))).tr (zK.wI (by omega))
            have f2 : zK (fun c k => (140 ≤ c ∧ c ≤ 142) ∨ c = 151 ∨ (c = 123 ∧ (k = 0 ∨ k = 1 ∨ k = 3 ∨ k = 30 ∨ k = 39))) S Tz := (f3.mo (fun c k z => by omega)).tr (f1.mo (fun c k z => by omega))
            have hV3 : mV (zwI (zwL (zwI (zwI (zNw S 0) 140 (tV t).length (nI j)) 141 (tV t).length (nI kh)) 142 (tV t).length v) 123 39 (nI ((tV t).length + 1))) (tV t ++ [(j, (tK t).getD j false, kh, v)]) := by
              refine ⟨by rw [List.length_append]; exact zgI_self, fun i c hc => ?_⟩
              by_cases q : i = (tV t).length
              · subst q
                rw [List.getElem?_concat_length] at hc
                cases hc
                exact ⟨(zgI_ne (by decide)).trans ((show zgI (zwI (zwI (zNw S 0) 140 (tV t).length (nI j)) 141 (tV t).length (nI kh)) 140 (tV t).length = _ from zgI_ne (by decide)).trans zgI_self), (zgI_ne (by decide)).trans (zgI_self (S := zwI (zNw S 0) 140 (tV t).length (nI j))), zgL_self (S := zwI (zwI (zNw S 0) 140 (tV t).length (nI j)) 141 (tV t).length (nI kh))⟩
              · have hi : i < (tV t ++ [(j, (tK t).getD j false, kh, v)]).length := (List.getElem?_eq_some_iff.mp hc).1
                simp only [List.length_append, List.length_cons, List.length_nil] at hi
                rw [List.getElem?_append_left (by omega)] at hc
                obtain ⟨b1, b2, b3⟩ := (h.2.2.2.2.1 t ht).1.2.2.1.2 i c hc
                refine ⟨?_, ?_, ?_⟩
                · refine (zgI_ne (by decide)).trans ((show zgI (zwI (zwI (zNw S 0) 140 (tV t).length (nI j)) 141 (tV t).length (nI kh)) 140 i = _ from zgI_ne (by decide)).trans ((zgI_nk q).trans b1))
                · exact (zgI_ne (by decide)).trans ((show zgI (zwI (zwI (zNw S 0) 140 (tV t).length (nI j)) 141 (tV t).length (nI kh)) 141 i = _ from zgI_nk q).trans ((zgI_ne (by decide)).trans b2))
                · exact (show zgL (zwL (zwI (zwI (zNw S 0) 140 (tV t).length (nI j)) 141 (tV t).length (nI kh)) 142 (tV t).length v) 142 i = _ from zgL_nk q).trans b3
            exact ⟨rfl, h.turn ht f2 (fun c k z => by unfold zXs; omega) (f1.2.2.2.1 123 1 (by omega)) ((h.2.2.2.2.1 t ht).1.2.1.k f2 (by omega) (fun c k _ _ => by omega)) (hV3.k f1 (by omega) (fun c k _ _ => by omega)) g1 z1, f2.f (fun c k z => by unfold zMX; omega)⟩
          · refine j_aload_n (pc := 58) dX12_sieve_58 rfl ?_
            refine j_iconst (pc := 59) (v := 3) dX12_sieve_59 (by decide) ?_
            refine j_callV (pc := 60) (t := 12) (n_no (by exact hM) _) dX12_sieve_60 l_X12_265 mk_X12_no mv_X12_no (by decide) rfl hM.1 (by decide) rfl rfl (Nat.le_of_ble_eq_true rfl) (Nat.le_refl _) (Nat.le_refl _) (fun r T h_1 => ?_)
            obtain ⟨rfl, rfl⟩ := h_1
            refine j_iret (pc := 63) dX12_sieve_63 rfl ?_
            have e : q_sieve s (nI j) (nI kh) v = zrf s 3 := by simp only [q_sieve, ht]; rw [if_neg (bnf2 hzc.symm), if_neg hgo, if_pos (Nat.le_of_eq ((nI_eq (b := 2) (by omega) (by decide)).mp h55).symm)]
            rw [e]
            exact ⟨rfl, (h.no (n := 0) (by decide)).no1 (n := 3) (by decide), zNw.f.tr (zF.wI (by decide))⟩
        · refine j_aload_n (pc := 44) dX12_sieve_44 rfl ?_
          refine j_iconst (pc := 45) (v := 2) dX12_sieve_45 (by decide) ?_
          refine j_callV (pc := 46) (t := 12) (n_no (by exact hM) _) dX12_sieve_46 l_X12_265 mk_X12_no mv_X12_no (by decide) rfl hM.1 (by decide) rfl rfl (Nat.le_of_ble_eq_true rfl) (Nat.le_refl _) (Nat.le_refl _) (fun r T h_1 => ?_)
          obtain ⟨rfl, rfl⟩ := h_1
          refine j_iret (pc := 49) dX12_sieve_49 rfl ?_
          have hcv := zbi_eq0.mp h41
          have e : q_sieve s (nI j) (nI kh) v = zrf s 2 := by simp only [q_sieve, ht]; rw [if_neg (bnf2 hzc.symm), if_pos (Or.inr ⟨Int32.not_le.mp h31, by by_cases q : v = zMiss; exact Or.inl q; rw [if_neg q] at hcv; exact Or.inr (by rw [zn, hcl]; exact hcv)⟩)]
          rw [e]
          exact ⟨rfl, (h.no (n := 0) (by decide)).no1 (n := 2) (by decide), zNw.f.tr (zF.wI (by decide))⟩
