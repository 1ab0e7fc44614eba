theorem zWt_rem {n : Nat} {t : zTB} {j : Nat} (h : zWt n t) : zWt (n + 1) (zact t (va_up (tW t).1 j false, (tW t).2) (tG t) (tc t)) := by
  have h6 := h.2.2.2.2.1.2 (tv t) (Nat.le_refl _)
  have hs : ∀ i, va_up (tW t).1 j false i = true → (tW t).1 i = true := by
    intro i hi
    unfold va_up at hi
    split at hi
    · cases hi
    · exact hi
  refine h.act (Nat.le_refl _) h.2.2.2.2.1.1 (fun i hi => ?_) (Nat.le_trans (fb_ct_sub (fun k _ hk => hs k hk)) h6.2.1) (fun i k b hi hb => h6.2.2 i k b (hs i hi) hb) (fun i => Nat.le_succ_of_le (h.2.2.2.2.2.2 i))
  show va_up (tW t).1 j false i = false
  unfold va_up
  split
  · rfl
  · exact h6.1 i hi
theorem zWr.mo {t t' : zTB} {x : zRDR} (h : zWr t x) (hv : tv t ≤ tv t') : zWr t' x := ⟨h.1, Nat.le_trans h.2.1 hv, h.2.2.1, fun i => Nat.le_trans (h.2.2.2 i) hv⟩
theorem zWF_act {n : Nat} {s : zST} {t t' : zTB} (h : zWF n s) (ht : sT s = some t) (hw : zWt (n + 1) t') (hv : tv t ≤ tv t') (hn : n + 1 < 600) : zWF (n + 1) (sF s, (0, s.2.1.2), some t', sP s, sR s) := ⟨hn, h.2.1, ⟨Nat.zero_le _, h.2.2.1.2⟩, hw, (h.t ht).2.1, fun r x hx => ((h.t ht).2.2 r x hx).mo hv⟩
set_option maxRecDepth 20000 in
set_option maxHeartbeats 4000000 in
theorem m_remove {E : zE} {S : zM} {s : zST} {n : Nat} (h : zMO S s) (hw : zWF n s) (hn1 : n < 599) (x : Int32) : zSp E 3 0 0 mX12_remove cX12_remove [zR 123, zI x] S (fun r T => r = some (zI (q_remove s x).1) ∧ zMO T (q_remove s x).2 ∧ zF zMX S T) := by
  refine zSp.of (by decide) rfl (Nat.le_of_ble_eq_true rfl) rfl ?_
  have hM := h.1
  cases hz : zrow s x with
  | false =>
    have e : q_remove s x = zrf s 1 := by
      unfold q_remove
      split
      · rfl
      · rename_i t ht
        rw [zrow_s ht] at hz
        simp [hz]
    refine j_aload_n (pc := 0) dX12_remove_0 rfl ?_
    refine j_aload_n (pc := 1) dX12_remove_1 rfl ?_
    refine j_iload_n (pc := 2) dX12_remove_2 rfl ?_
    refine j_callV (pc := 3) (t := 12) (n_isNow h hw _) dX12_remove_3 l_X12_324 mk_X12_isNow mv_X12_isNow (by decide) rfl hM.1 (by decide) rfl rfl (Nat.le_of_ble_eq_true rfl) (Nat.le_refl _) (Nat.le_refl _) (fun r T h_1 => ?_)
    obtain ⟨rfl, rfl⟩ := h_1
    rw [hz]
    refine j_callS (pc := 6) (n_unlF) dX12_remove_6 l_X12_312 mk_X12_unless ms_X12_unless (by decide) rfl rfl (Nat.le_of_ble_eq_true rfl) (Nat.le_refl _) (Nat.le_refl _) (fun r T h_1 => ?_)
    obtain ⟨rfl, rfl⟩ := h_1
    refine j_callV (pc := 9) (t := 12) (n_rf1 hM) dX12_remove_9 l_X12_256 mk_X12_isRefused mv_X12_isRefused (by decide) rfl hM.1 (by decide) rfl rfl (Nat.le_of_ble_eq_true rfl) (Nat.le_refl _) (Nat.le_refl _) (fun r T h_1 => ?_)
    obtain ⟨rfl, rfl⟩ := h_1
    refine j_if_eq (pc := 12) (tgt := 17) dX12_remove_12 (by decide) (fun h12 => absurd h12 (by decide)) (fun h12 => ?_)
    refine j_iconst (pc := 15) (v := (-1)) dX12_remove_15 (by decide) ?_
    refine j_iret (pc := 16) dX12_remove_16 rfl ?_
    exact m_ref h (n := 1) (by decide) e
  | true =>
    obtain ⟨t, j, ht, hj, rfl, hjr⟩ := zrow_t hz
    have hv := hw.v ht
    have hjt : zth (tW t).1 (nI j) = true := by rw [zth_nI _ hj]; exact hjr
    have hcl : (nI j).toNatClampNeg = j := nI_clamp (by omega)
    have hn' : n + 1 < 600 := by have := hn1; omega
    refine j_aload_n (pc := 0) dX12_remove_0 rfl ?_
    refine j_aload_n (pc := 1) dX12_remove_1 rfl ?_
    refine j_iload_n (pc := 2) dX12_remove_2 rfl ?_
    refine j_callV (pc := 3) (t := 12) (n_isNow h hw _) dX12_remove_3 l_X12_324 mk_X12_isNow mv_X12_isNow (by decide) rfl hM.1 (by decide) rfl rfl (Nat.le_of_ble_eq_true rfl) (Nat.le_refl _) (Nat.le_refl _) (fun r T h_1 => ?_)
    obtain ⟨rfl, rfl⟩ := h_1
    rw [hz]
    refine j_callS (pc := 6) (n_unlT) dX12_remove_6 l_X12_312 mk_X12_unless ms_X12_unless (by decide) rfl rfl (Nat.le_of_ble_eq_true rfl) (Nat.le_refl _) (Nat.le_refl _) (fun r T h_1 => ?_)
    obtain ⟨rfl, rfl⟩ := h_1
    refine j_callV (pc := 9) (t := 12) (n_ok hM) dX12_remove_9 l_X12_256 mk_X12_isRefused mv_X12_isRefused (by decide) rfl hM.1 (by decide) rfl rfl (Nat.le_of_ble_eq_true rfl) (Nat.le_refl _) (Nat.le_refl _) (fun r T h_1 => ?_)
    obtain ⟨rfl, rfl⟩ := h_1
    refine j_if_eq (pc := 12) (tgt := 17) dX12_remove_12 (by decide) (fun h12 => ?_) (fun h12 => absurd rfl h12)
    refine j_aload_n (pc := 17) dX12_remove_17 rfl ?_
    refine j_callV (pc := 18) (t := 12) (n_acts (h.no (n := 0) (by decide)) (zWF.no hw) ht) dX12_remove_18 l_X12_455 mk_X12_acts mv_X12_acts (by decide) rfl hM.1 (by decide) rfl rfl (Nat.le_of_ble_eq_true rfl) (Nat.le_refl _) (Nat.le_refl _) (fun r Ta h_1 => ?_)
    obtain ⟨rfl, fa, e29, hcp⟩ := h_1
    have hMa : zMs Ta := fa.ms (by exact hM)
    refine j_aload_n (pc := 21) dX12_remove_21 rfl ?_
    refine j_getPv (pc := 22) dX12_remove_22 f_X12_51 (Or.inr ⟨_, rfl⟩) hMa.1 (mp_isThere hMa) ?_
    refine j_aload_n (pc := 25) dX12_remove_25 rfl ?_
    refine j_getIv (pc := 26) dX12_remove_26 f_X12_277 (Or.inl rfl) hMa.1 (e29) ?_
    refine j_iload_n (pc := 29) dX12_remove_29 rfl ?_
    refine j_callS (pc := 30) (n_rowAt (show tv t + 1 < 2 ^ 20 by omega)) dX12_remove_30 l_X12_301 mk_X12_rowAt ms_X12_rowAt (by decide) rfl rfl (Nat.le_of_ble_eq_true rfl) (Nat.le_refl _) (Nat.le_refl _) (fun r T h_1 => ?_)
    obtain ⟨rfl, rfl⟩ := h_1
    refine j_iconst (pc := 33) (v := 0) dX12_remove_33 (by decide) ?_
    refine j_zastn (pc := 34) dX12_remove_34 (mk_isThere hMa) (show 64 * ((tv t + 1) % 41) + j < 2624 by omega) (Nat.le_of_ble_eq_true rfl) (by first | assumption | decide) ?_
    have f9 : zK (fun c k => zXc ((tv t + 1) % 41) c k ∨ (c = 123 ∧ (k = 29 ∨ k = 0 ∨ k = 1 ∨ k = 3))) S (zwI Ta 135 (64 * ((tv t + 1) % 41) + j) 0) := ((((zK.wI (by unfold zXc; omega)).tr (zK.wI (by unfold zXc; omega))).tr (zK.wI (by unfold zXc; omega))).tr (fa.mo (fun c k z => by unfold zXc at z ⊢; omega))).tr (zK.wI (by unfold zXc; omega))
    have hT0 := (h.2.2.2.2.1 t ht).1
    have hH9 : mH (zwI Ta 135 (64 * ((tv t + 1) % 41) + j) 0) (tK t).length (tv t + 1) (tH (zact t (va_up (tW t).1 j false, (tW t).2) (tG t) (tc t))) := by
      refine hT0.2.2.2.2.new (fun u hu1 hu2 i hi => f9.2.2.2.1 _ _ (by unfold zXc; omega)) (fun u hu1 hu2 i c hi hc => f9.2.2.2.2 _ _ (by unfold zXc; omega)) (fun u hu => by rw [zact_o _ _ _ _ hu]; exact zeq.rf) (fun i hi => ?_) (fun i hi hth c hc => ?_)
      · rw [zact_W, zgI_wI]
        show _ = zbi (va_up (tW t).1 j false i)
        unfold va_up
        by_cases g : i = j
        · rw [if_pos ⟨rfl, by omega⟩, if_pos g]
          rfl
        · rw [if_neg (by omega), if_neg g]
          exact (hcp.1 i hi).trans (hT0.2.2.2.2 (tv t) (Nat.le_refl _) (Nat.le_add_right _ _) i hi).1
      · rw [zact_W] at hth ⊢
        have hi2 : (tW t).1 i = true := by
          have hth : va_up (tW t).1 j false i = true := hth
          unfold va_up at hth
          split at hth
          · cases hth
          · exact hth
        exact (hcp.2.1 i c hi (by omega)).trans ((hT0.2.2.2.2 (tv t) (Nat.le_refl _) (Nat.le_add_right _ _) i hi).2 hi2 c hc)
    have hC9 : mC (zwI Ta 135 (64 * ((tv t + 1) % 41) + j) 0) (zact t (va_up (tW t).1 j false, (tW t).2) (tG t) (tc t)) (sR s) := by
      obtain ⟨⟨ca, hca⟩, hz⟩ := (h.2.2.2.2.1 t ht).2.k f9 (fun k => by unfold zXc; omega)
      refine ⟨⟨ca, fun i hi => ⟨(hca i hi).1, Nat.le_succ_of_le (hca i hi).2.1, (hca i hi).2.2.elim Or.inl (fun e => Or.inr ⟨e.1, e.2.1, fun u hu hth => ?_⟩)⟩⟩, hz⟩
      by_cases g : u = tv t + 1
      · have := (hca i hi).2.1
        omega
      · have hu : u ≤ tv t := by have : u ≤ tv t + 1 := hu; omega
        rw [zact_o _ _ _ _ hu] at hth
        exact e.2.2 u hu hth
    have h9 := h.act (t' := (zact t (va_up (tW t).1 j false, (tW t).2) (tG t) (tc t))) ht f9 (fun c k z => by unfold zXc at z; unfold zXs; omega) ((zgI_ne (by decide)).trans (fa.2.2.2.1 123 1 (by unfold zXc; omega))) rfl rfl rfl rfl ((zgI_ne (by decide)).trans e29) ((zgI_ne (by decide)).trans ((fa.2.2.2.1 123 31 (by unfold zXc; omega)).trans hT0.2.2.2.1.2.2)) hH9 hC9
    have hM9 := h9.1
    have hWt9 := zWt_rem (hw.t ht).1 (j := j)
    have hw9 : zWF (n + 1) (sF s, (0, s.2.1.2), some (zact t (va_up (tW t).1 j false, (tW t).2) (tG t) (tc t)), sP s, sR s) := zWF_act hw ht hWt9 (Nat.le_succ _) hn'
    
    refine j_aload_n (pc := 35) dX12_remove_35 rfl ?_
    refine j_callV (pc := 36) (t := 12) (n_thereMany h9 hw9 rfl) dX12_remove_36 l_X12_316 mk_X12_thereMany mv_X12_thereMany (by decide) rfl hM9.1 (by decide) rfl rfl (Nat.le_of_ble_eq_true rfl) (Nat.le_refl _) (Nat.le_refl _) (fun r T h_1 => ?_)
    obtain ⟨rfl, rfl⟩ := h_1
    refine j_iret (pc := 39) dX12_remove_39 rfl ?_
    have ez : q_remove s (nI j) = (nI (fb_ct (va_up (tW t).1 j false) 64), (sF s, (0, s.2.1.2), some (zact t (va_up (tW t).1 j false, (tW t).2) (tG t) (tc t)), sP s, sR s)) := by
      simp only [q_remove, ht]
      rw [if_pos hjt]
      simp only [zn, hcl]
    rw [ez]
    refine ⟨?_, h9, f9.f (fun c k z => by unfold zXc at z; unfold zMX; omega)⟩
    rw [show tW (zact t (va_up (tW t).1 j false, (tW t).2) (tG t) (tc t)) = (va_up (tW t).1 j false, (tW t).2) from zact_W _ _ _ _]
