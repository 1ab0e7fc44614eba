theorem zso_inj {kf : Nat → List Nat} {A : List Nat} {i j x : Nat} (h : zSo kf A) (hi : A[i]? = some x) (hj : A[j]? = some x) : i = j := by
  have hi2 := List.getElem?_eq_some_iff.mp hi
  have hj2 := List.getElem?_eq_some_iff.mp hj
  rcases Nat.lt_trichotomy i j with g | g | g
  · have := List.pairwise_iff_getElem.mp h i j hi2.1 hj2.1 g
    rw [hi2.2, hj2.2, zkl_irr] at this
    cases this
  · exact g
  · have := List.pairwise_iff_getElem.mp h j i hj2.1 hi2.1 g
    rw [hi2.2, hj2.2, zkl_irr] at this
    cases this
set_option maxRecDepth 20000 in
set_option maxHeartbeats 4000000 in
theorem m_ranked {E : zE} {S : zM} {s : zST} {n : Nat} (h : zMO S s) (hw : zWF n s) (k : Int32) : zSp E 4 0 0 mX12_ranked cX12_ranked [zR 123, zI k] S (fun r T => r = some (zI (q_ranked s k).1) ∧ zMO T (q_ranked s k).2 ∧ zF zMX S T) := by
  refine zSp.of (by decide) rfl (Nat.le_of_ble_eq_true rfl) rfl ?_
  have hM := h.1
  cases ht : sT s with
  | none =>
    have hto : zgI S 123 12 = 0 := by have := h.2.2.2.1.1; rw [ht] at this; exact this
    have e : q_ranked s k = zrf s 1 := by rw [q_ranked, ht]
    refine j_aload_n (pc := 0) dX12_ranked_0 rfl ?_
    refine j_aload_n (pc := 1) dX12_ranked_1 rfl ?_
    refine j_getIv (pc := 2) dX12_ranked_2 f_X12_296 (Or.inr rfl) hM.1 (hto) ?_
    refine j_callS (pc := 5) (n_unlF) dX12_ranked_5 l_X12_312 mk_X12_unless ms_X12_unless (by decide) rfl rfl (Nat.le_of_ble_eq_true rfl) (Nat.le_refl _) (Nat.le_refl _) (fun r T h_1 => ?_)
    obtain ⟨rfl, rfl⟩ := h_1
    refine j_callV (pc := 8) (t := 12) (n_rf1 hM) dX12_ranked_8 l_X12_256 mk_X12_isRefused mv_X12_isRefused (by decide) rfl hM.1 (by decide) rfl rfl (Nat.le_of_ble_eq_true rfl) (Nat.le_refl _) (Nat.le_refl _) (fun r T h_1 => ?_)
    obtain ⟨rfl, rfl⟩ := h_1
    refine j_if_eq (pc := 11) (tgt := 16) dX12_ranked_11 (by decide) (fun h11 => absurd h11 (by decide)) (fun h11 => ?_)
    refine j_iconst (pc := 14) (v := (-1)) dX12_ranked_14 (by decide) ?_
    refine j_iret (pc := 15) dX12_ranked_15 rfl ?_
    exact m_ref h (n := 1) (by decide) e
  | some t =>
    have hto : zgI S 123 12 = 1 := by have := h.2.2.2.1.1; rw [ht] at this; exact this
    have hv := hw.v ht
    refine j_aload_n (pc := 0) dX12_ranked_0 rfl ?_
    refine j_aload_n (pc := 1) dX12_ranked_1 rfl ?_
    refine j_getIv (pc := 2) dX12_ranked_2 f_X12_296 (Or.inr rfl) hM.1 (hto) ?_
    refine j_callS (pc := 5) (n_unlT) dX12_ranked_5 l_X12_312 mk_X12_unless ms_X12_unless (by decide) rfl rfl (Nat.le_of_ble_eq_true rfl) (Nat.le_refl _) (Nat.le_refl _) (fun r T h_1 => ?_)
    obtain ⟨rfl, rfl⟩ := h_1
    refine j_callV (pc := 8) (t := 12) (n_ok hM) dX12_ranked_8 l_X12_256 mk_X12_isRefused mv_X12_isRefused (by decide) rfl hM.1 (by decide) rfl rfl (Nat.le_of_ble_eq_true rfl) (Nat.le_refl _) (Nat.le_refl _) (fun r T h_1 => ?_)
    obtain ⟨rfl, rfl⟩ := h_1
    refine j_if_eq (pc := 11) (tgt := 16) dX12_ranked_11 (by decide) (fun h11 => ?_) (fun h11 => absurd rfl h11)
    refine j_iconst (pc := 16) (v := 0) dX12_ranked_16 (by decide) ?_
    refine j_istore_n (pc := 17) (ls' := [_, _, _]) dX12_ranked_17 (by decide) rfl rfl ?_
    have lp : ∀ (m i : Nat) (T : zM), i + m = 64 → zK zXkm (zNw S 0) T → (∀ o, o < i → (tW t).1 o = true → ¬ nI (zah (tO t) (tW t) o 64) = k) → zJ E 4 0 0 mX12_ranked cX12_ranked 18 [some (zR 123), some (zI k), some (zI (nI i))] [] T (fun r T => r = some (zI (q_ranked s k).1) ∧ zMO T (q_ranked s k).2 ∧ zF zMX S T) := by
      intro m
      induction m with
      | zero =>
        intro i T hi hk hq
        have ei : i = 64 := by omega
        subst ei
        have hT := (h.no (n := 0) (by decide)).scr hk (fun c k z => zXkm.s z)
        have hMT := hT.1
        refine j_iload_n (pc := 18) dX12_ranked_18 rfl ?_
        refine j_bipush (pc := 19) (v := 64) dX12_ranked_19 (by decide) ?_
        refine j_icmp_ge (pc := 21) (tgt := 53) dX12_ranked_21 (by decide) (fun h21 => ?_) (fun h21 => absurd (nI_le (a := 64) (Nat.le_refl _) (by decide)) h21)
        refine j_aload_n (pc := 53) dX12_ranked_53 rfl ?_
        refine j_iconst (pc := 54) (v := 1) dX12_ranked_54 (by decide) ?_
        refine j_callV (pc := 55) (t := 12) (n_no hMT _) dX12_ranked_55 l_X12_265 mk_X12_no mv_X12_no (by decide) rfl hMT.1 (by decide) rfl rfl (Nat.le_of_ble_eq_true rfl) (Nat.le_refl _) (Nat.le_refl _) (fun r T h_1 => ?_)
        obtain ⟨rfl, rfl⟩ := h_1
        refine j_iret (pc := 58) dX12_ranked_58 rfl ?_
        have e : q_ranked s k = zrf s 1 := by
          simp only [q_ranked, ht]
          cases g : zcl2 (fb_ct (tW t).1 64) k with
          | false => rw [if_neg (by decide)]
          | true =>
            obtain ⟨j, hj, rfl⟩ := zcl2_t (by have := fb_ct_le (tW t).1 64; omega) g
            have hjA : j < (tA t).length := by rw [zsr_len]; exact hj
            have hx := gD 0 hjA
            obtain ⟨h64, hth⟩ := zsr_mem.mp (List.mem_of_getElem? hx)
            have h9 := (zah_at (O := tO t) h64 hth).1
            have hso : zSo (tkf t) (tA t) := zsr_so (fun x y hx hy e => zkey_inj hx hy e) (Nat.le_refl _)
            have ej : zah (tO t) (tW t) ((tA t).getD j 0) 64 = j := zso_inj hso h9 hx
            exact absurd (by rw [ej]) (hq _ h64 hth)
        rw [e]
        exact ⟨rfl, hT.no1 (n := 1) (by decide), (zNw.f.tr hk.kf).tr (zF.wI (by decide))⟩
      | succ m ih =>
        intro i T hi hk hq
        have hT := (h.no (n := 0) (by decide)).scr hk (fun c k z => zXkm.s z)
        have hMT := hT.1
        refine j_iload_n (pc := 18) dX12_ranked_18 rfl ?_
        refine j_bipush (pc := 19) (v := 64) dX12_ranked_19 (by decide) ?_
        refine j_icmp_ge (pc := 21) (tgt := 53) dX12_ranked_21 (by decide) (fun h21 => absurd h21 (nI_ge (b := 64) (by omega) (by decide))) (fun h21 => ?_)
        refine j_aload_n (pc := 24) dX12_ranked_24 rfl ?_
        refine j_aload_n (pc := 25) dX12_ranked_25 rfl ?_
        refine j_getIv (pc := 26) dX12_ranked_26 f_X12_277 (Or.inl rfl) hMT.1 ((hT.2.2.2.2.1 t ht).1.2.2.2.1.1) ?_
        refine j_iload_n (pc := 29) dX12_ranked_29 rfl ?_
        refine j_callV (pc := 30) (t := 12) (n_isThen hT ht (Nat.le_refl _) (Nat.le_add_right _ _) (by omega) (nI i)) dX12_ranked_30 l_X12_305 mk_X12_isThen mv_X12_isThen (by decide) rfl hMT.1 (by decide) rfl rfl (Nat.le_of_ble_eq_true rfl) (Nat.le_refl _) (Nat.le_refl _) (fun r T1 h_1 => ?_)
        obtain ⟨rfl, rfl⟩ := h_1
        rw [zth_nI _ (by omega)]
        refine j_if_eq (pc := 33) (tgt := 47) dX12_ranked_33 (by decide) (fun h33 => ?_) (fun h33 => ?_)
        · refine j_iinc (pc := 47) (v := _ + 1) (ls' := [_, _, _]) dX12_ranked_47 rfl rfl (by decide) rfl rfl ?_
          refine j_goto (pc := 50) (tgt := 18) dX12_ranked_50 (by decide) ?_
          rw [nI_1]
          refine ih (i + 1) T (by omega) hk (fun o ho hth => ?_)
          by_cases g : o = i
          · rw [g, zbi_eq0.mp h33] at hth
            cases hth
          · exact hq o (by omega) hth
        · refine j_aload_n (pc := 36) dX12_ranked_36 rfl ?_
          refine j_iload_n (pc := 37) dX12_ranked_37 rfl ?_
          refine j_callV (pc := 38) (t := 12) (n_aheadOf hT (zWF.no hw) ht (show i < 64 by omega) (zbi_ne0 h33)) dX12_ranked_38 l_X12_361 mk_X12_aheadOf mv_X12_aheadOf (by decide) rfl hMT.1 (by decide) rfl rfl (Nat.le_of_ble_eq_true rfl) (Nat.le_refl _) (Nat.le_refl _) (fun r T2 h_1 => ?_)
          obtain ⟨k1, rfl⟩ := h_1
          refine j_iload_n (pc := 41) dX12_ranked_41 rfl ?_
          refine j_icmp_ne (pc := 42) (tgt := 47) dX12_ranked_42 (by decide) (fun h42 => ?_) (fun h42 => ?_)
          · refine j_iinc (pc := 47) (v := _ + 1) (ls' := [_, _, _]) dX12_ranked_47 rfl rfl (by decide) rfl rfl ?_
            refine j_goto (pc := 50) (tgt := 18) dX12_ranked_50 (by decide) ?_
            rw [nI_1]
            refine ih (i + 1) T2 (by omega) (hk.tr k1) (fun o ho hth => ?_)
            by_cases g : o = i
            · rw [g]
              exact h42
            · exact hq o (by omega) hth
          · refine j_iload_n (pc := 45) dX12_ranked_45 rfl ?_
            refine j_iret (pc := 46) dX12_ranked_46 rfl ?_
            have h9 := (zah_at (O := tO t) (show i < 64 by omega) (zbi_ne0 h33)).1
            have hlt := (List.getElem?_eq_some_iff.mp h9).1
            rw [zsr_len] at hlt
            have hlt : zah (tO t) (tW t) i 64 < fb_ct (tW t).1 64 := hlt
            have hle : fb_ct (tW t).1 64 ≤ 64 := fb_ct_le _ _
            have e : q_ranked s k = zan s (nI i) := by
              simp only [q_ranked, ht]
              rw [← h42, if_pos (zcl2_nI hlt (show fb_ct (tW t).1 64 < 2 ^ 31 by omega)), zn, nI_clamp (show zah (tO t) (tW t) i 64 < 2 ^ 31 by omega), List.getD_eq_getElem?_getD, h9]
              rfl
            rw [e]
            exact ⟨rfl, hT.scr k1 (fun c k z => zXkm.s z), (zNw.f.tr hk.kf).tr k1.kf⟩
    exact lp 64 0 _ (by omega) zK.rf (fun o ho => absurd ho (Nat.not_lt_zero o))
set_option maxRecDepth 20000 in
set_option maxHeartbeats 4000000 in
theorem m_change {E : zE} {S : zM} {s : zST} {n : Nat} (h : zMO S s) (hw : zWF n s) (hn1 : n < 599) (x c : Int32) (v : Int64) : zSp E 4 0 0 mX12_change cX12_change [zR 123, zI x, zI c, zL v] S (fun r T => r = some (zI (q_change s x c v).1) ∧ zMO T (q_change s x c v).2 ∧ zF zMX S T) := by
  refine zSp.of (by decide) rfl (Nat.le_of_ble_eq_true rfl) rfl ?_
  have hM := h.1
  cases hz : zrow s x with
  | false =>
    have e : q_change s x c v = zrf s 1 := by
      unfold q_change
      split
      · rfl
      · rename_i t ht
        rw [zrow_s ht] at hz
        simp [hz]
    refine j_aload_n (pc := 0) dX12_change_0 rfl ?_
    refine j_aload_n (pc := 1) dX12_change_1 rfl ?_
    refine j_iload_n (pc := 2) dX12_change_2 rfl ?_
    refine j_callV (pc := 3) (t := 12) (n_isNow h hw _) dX12_change_3 l_X12_324 mk_X12_isNow mv_X12_isNow (by decide) rfl hM.1 (by decide) rfl rfl (Nat.le_of_ble_eq_true rfl) (Nat.le_refl _) (Nat.le_refl _) (fun r T h_1 => ?_)
    obtain ⟨rfl, rfl⟩ := h_1
    rw [hz]
    refine j_if_eq (pc := 6) (tgt := 21) dX12_change_6 (by decide) (fun h6 => ?_) (fun h6 => absurd rfl h6)
    refine j_iconst (pc := 21) (v := 0) dX12_change_21 (by decide) ?_
    refine j_callS (pc := 22) (n_unlF) dX12_change_22 l_X12_312 mk_X12_unless ms_X12_unless (by decide) rfl rfl (Nat.le_of_ble_eq_true rfl) (Nat.le_refl _) (Nat.le_refl _) (fun r T h_1 => ?_)
    obtain ⟨rfl, rfl⟩ := h_1
    refine j_callV (pc := 25) (t := 12) (n_rf1 hM) dX12_change_25 l_X12_256 mk_X12_isRefused mv_X12_isRefused (by decide) rfl hM.1 (by decide) rfl rfl (Nat.le_of_ble_eq_true rfl) (Nat.le_refl _) (Nat.le_refl _) (fun r T h_1 => ?_)
    obtain ⟨rfl, rfl⟩ := h_1
    refine j_if_eq (pc := 28) (tgt := 33) dX12_change_28 (by decide) (fun h28 => absurd h28 (by decide)) (fun h28 => ?_)
    refine j_iconst (pc := 31) (v := (-1)) dX12_change_31 (by decide) ?_
    refine j_iret (pc := 32) dX12_change_32 rfl ?_
    exact m_ref h (n := 1) (by decide) e
  | true =>
    obtain ⟨t, j, ht, hj, rfl, hjr⟩ := zrow_t hz
    have hv := hw.v ht
    have hjt : zth (tW t).1 (nI j) = true := by rw [zth_nI _ hj]; exact hjr
    have hcl : (nI j).toNatClampNeg = j := nI_clamp (by omega)
    refine j_aload_n (pc := 0) dX12_change_0 rfl ?_
    refine j_aload_n (pc := 1) dX12_change_1 rfl ?_
    refine j_iload_n (pc := 2) dX12_change_2 rfl ?_
    refine j_callV (pc := 3) (t := 12) (n_isNow h hw _) dX12_change_3 l_X12_324 mk_X12_isNow mv_X12_isNow (by decide) rfl hM.1 (by decide) rfl rfl (Nat.le_of_ble_eq_true rfl) (Nat.le_refl _) (Nat.le_refl _) (fun r T h_1 => ?_)
    obtain ⟨rfl, rfl⟩ := h_1
    rw [hz]
    refine j_if_eq (pc := 6) (tgt := 21) dX12_change_6 (by decide) (fun h6 => absurd h6 (by decide)) (fun h6 => ?_)
    refine j_aload_n (pc := 9) dX12_change_9 rfl ?_
    refine j_iload_n (pc := 10) dX12_change_10 rfl ?_
    refine j_callV (pc := 11) (t := 12) (n_isColumn h hw c) dX12_change_11 l_X12_319 mk_X12_isColumn mv_X12_isColumn (by decide) rfl hM.1 (by decide) rfl rfl (Nat.le_of_ble_eq_true rfl) (Nat.le_refl _) (Nat.le_refl _) (fun r T h_1 => ?_)
    obtain ⟨rfl, rfl⟩ := h_1
    have hzc := zcol_s ht c
    refine j_if_eq (pc := 14) (tgt := 21) dX12_change_14 (by decide) (fun h14 => ?_) (fun h14 => ?_)
    · refine j_iconst (pc := 21) (v := 0) dX12_change_21 (by decide) ?_
      refine j_callS (pc := 22) (n_unlF) dX12_change_22 l_X12_312 mk_X12_unless ms_X12_unless (by decide) rfl rfl (Nat.le_of_ble_eq_true rfl) (Nat.le_refl _) (Nat.le_refl _) (fun r T h_1 => ?_)
      obtain ⟨rfl, rfl⟩ := h_1
      refine j_callV (pc := 25) (t := 12) (n_rf1 hM) dX12_change_25 l_X12_256 mk_X12_isRefused mv_X12_isRefused (by decide) rfl hM.1 (by decide) rfl rfl (Nat.le_of_ble_eq_true rfl) (Nat.le_refl _) (Nat.le_refl _) (fun r T h_1 => ?_)
      obtain ⟨rfl, rfl⟩ := h_1
      refine j_if_eq (pc := 28) (tgt := 33) dX12_change_28 (by decide) (fun h28 => absurd h28 (by decide)) (fun h28 => ?_)
      refine j_iconst (pc := 31) (v := (-1)) dX12_change_31 (by decide) ?_
      refine j_iret (pc := 32) dX12_change_32 rfl ?_
      rw [zbi_eq0.mp h14] at hzc
      exact m_ref h (n := 1) (by decide) (by simp only [q_change, ht]; rw [if_neg (fun g => bnf hzc.symm g.2)])
    · refine j_iconst (pc := 17) (v := 1) dX12_change_17 (by decide) ?_
      refine j_goto (pc := 18) (tgt := 22) dX12_change_18 (by decide) ?_
      refine j_callS (pc := 22) (n_unlT) dX12_change_22 l_X12_312 mk_X12_unless ms_X12_unless (by decide) rfl rfl (Nat.le_of_ble_eq_true rfl) (Nat.le_refl _) (Nat.le_refl _) (fun r T h_1 => ?_)
      obtain ⟨rfl, rfl⟩ := h_1
      refine j_callV (pc := 25) (t := 12) (n_ok hM) dX12_change_25 l_X12_256 mk_X12_isRefused mv_X12_isRefused (by decide) rfl hM.1 (by decide) rfl rfl (Nat.le_of_ble_eq_true rfl) (Nat.le_refl _) (Nat.le_refl _) (fun r T h_1 => ?_)
      obtain ⟨rfl, rfl⟩ := h_1
      refine j_if_eq (pc := 28) (tgt := 33) dX12_change_28 (by decide) (fun h28 => ?_) (fun h28 => absurd rfl h28)
      obtain ⟨t2, jc, ht2, hjc, rfl, hK4⟩ := zcol_t hw (zbi_ne0 h14)
      rw [ht] at ht2
      cases ht2
      have hcc : (nI jc).toNatClampNeg = jc := nI_clamp (by omega)
      have hKb := gD false hjc
      rw [zbi_ne0 h14] at hzc
      refine j_aload_n (pc := 33) dX12_change_33 rfl ?_
      refine j_iload_n (pc := 34) dX12_change_34 rfl ?_
      refine j_lload_n (pc := 35) dX12_change_35 rfl ?_
      refine j_iconst (pc := 36) (v := 1) dX12_change_36 (by decide) ?_
      refine j_callV (pc := 37) (t := 12) (n_canHave (h.no (n := 0) (by decide)) ht hKb hK4 v true) dX12_change_37 l_X12_378 mk_X12_canHave mv_X12_canHave (by decide) rfl hM.1 (by decide) rfl rfl (Nat.le_of_ble_eq_true rfl) (Nat.le_refl _) (Nat.le_refl _) (fun r T h_1 => ?_)
      obtain ⟨rfl, rfl⟩ := h_1
      refine j_if_ne (pc := 40) (tgt := 49) dX12_change_40 (by decide) (fun h40 => ?_) (fun h40 => ?_)
      · refine j_aload_n (pc := 49) dX12_change_49 rfl ?_
        refine j_callV (pc := 50) (t := 12) (n_acts (h.no (n := 0) (by decide)) (zWF.no hw) ht) dX12_change_50 l_X12_455 mk_X12_acts mv_X12_acts (by decide) rfl hM.1 (by decide) rfl rfl (Nat.le_of_ble_eq_true rfl) (Nat.le_refl _) (Nat.le_refl _) (fun r Ta h_1 => ?_)
        obtain ⟨rfl, fa, e29, hcp⟩ := h_1
        have hMa : zMs Ta := fa.ms (by exact hM)
        refine j_aload_n (pc := 53) dX12_change_53 rfl ?_
        refine j_getPv (pc := 54) dX12_change_54 f_X12_54 (Or.inr ⟨_, rfl⟩) hMa.1 (mp_values hMa) ?_
        refine j_iconst (pc := 57) (v := 4) dX12_change_57 (by decide) ?_
        refine j_aload_n (pc := 58) dX12_change_58 rfl ?_
        refine j_getIv (pc := 59) dX12_change_59 f_X12_277 (Or.inl rfl) hMa.1 (e29) ?_
        refine j_iload_n (pc := 62) dX12_change_62 rfl ?_
        refine j_callS (pc := 63) (n_rowAt (show tv t + 1 < 2 ^ 20 by omega)) dX12_change_63 l_X12_301 mk_X12_rowAt ms_X12_rowAt (by decide) rfl rfl (Nat.le_of_ble_eq_true rfl) (Nat.le_refl _) (Nat.le_refl _) (fun r T h_1 => ?_)
        obtain ⟨rfl, rfl⟩ := h_1
        refine j_imul (pc := 66) dX12_change_66 ?_
        rw [show (4 : Int32) * nI (64 * ((tv t + 1) % 41) + j) = nI (4 * (64 * ((tv t + 1) % 41) + j)) from pk_mul 4 _]
        refine j_iload_n (pc := 67) dX12_change_67 rfl ?_
        refine j_iadd (pc := 68) dX12_change_68 ?_
        rw [nI_add]
        refine j_lload_n (pc := 69) dX12_change_69 rfl ?_
        refine j_lastn (pc := 70) dX12_change_70 (mk_values hMa) (show 4 * (64 * ((tv t + 1) % 41) + j) + jc < 10496 by omega) (Nat.le_of_ble_eq_true rfl) ?_
        refine j_aload_n (pc := 71) dX12_change_71 rfl ?_
        refine j_getPv (pc := 72) dX12_change_72 f_X12_57 (Or.inr ⟨_, rfl⟩) hMa.1 (mp_changedAt hMa) ?_
        refine j_iload_n (pc := 75) dX12_change_75 rfl ?_
        refine j_aload_n (pc := 76) dX12_change_76 rfl ?_
        refine j_getIv (pc := 77) dX12_change_77 f_X12_277 (Or.inl rfl) hMa.1 (e29) ?_
        refine j_iastn (pc := 80) dX12_change_80 (mk_changedAt hMa) (by omega) (Nat.le_of_ble_eq_true rfl) ?_
        have hcv : zch ((tK t).getD jc false) v = true := by
          have := zbi_ne0 h40
          by_cases g : v = zMiss
          · rw [g, zch, if_pos rfl]
          · rwa [if_neg g] at this
        have f9 : zK (fun c k => zXc ((tv t + 1) % 41) c k ∨ (c = 137 ∧ k = j) ∨ (c = 123 ∧ (k = 29 ∨ k = 0 ∨ k = 1 ∨ k = 3))) S (zwI (zwL Ta 136 (4 * (64 * ((tv t + 1) % 41) + j) + jc) v) 137 j (nI (tv t + 1))) := (((((zK.wI (by unfold zXc; omega)).tr (zK.wI (by unfold zXc; omega))).tr (zK.wI (by unfold zXc; omega))).tr (fa.mo (fun c k z => by unfold zXc at z ⊢; omega))).tr (zK.wL (by unfold zXc; omega))).tr (zK.wI (by unfold zXc; omega))
        have hT0 := (h.2.2.2.2.1 t ht).1
        have hH9 : mH (zwI (zwL Ta 136 (4 * (64 * ((tv t + 1) % 41) + j) + jc) v) 137 j (nI (tv t + 1))) (tK t).length (tv t + 1) (tH (zchg t j jc v)) := by
          refine hT0.2.2.2.2.new (fun u hu1 hu2 i hi => f9.2.2.2.1 _ _ (by unfold zXc; omega)) (fun u hu1 hu2 i c hi hc => f9.2.2.2.2 _ _ (by unfold zXc; omega)) (fun u hu => by rw [zact_o _ _ _ _ hu]; exact zeq.rf) (fun i hi => ?_) (fun i hi hth c hc => ?_)
          · rw [zact_W]
            exact ((zgI_ne (by decide)).trans (hcp.1 i hi)).trans (hT0.2.2.2.2 (tv t) (Nat.le_refl _) (Nat.le_add_right _ _) i hi).1
          · rw [zact_W] at hth ⊢
            show zgL (zwL Ta 136 (4 * (64 * ((tv t + 1) % 41) + j) + jc) v) 136 _ = zu2 (tW t).2 j jc v i c
            rw [zgL_wL]
            unfold zu2
            by_cases g : i = j ∧ c = jc
            · rw [if_pos ⟨rfl, by omega⟩, if_pos g]
            · rw [if_neg (by omega), if_neg g]
              exact (hcp.2.1 i c hi (by omega)).trans ((hT0.2.2.2.2 (tv t) (Nat.le_refl _) (Nat.le_add_right _ _) i hi).2 hth c hc)
        have hC9 : mC (zwI (zwL Ta 136 (4 * (64 * ((tv t + 1) % 41) + j) + jc) v) 137 j (nI (tv t + 1))) (zchg t j jc v) (sR s) := by
          obtain ⟨⟨ca, hca⟩, hz⟩ := (h.2.2.2.2.1 t ht).2
          have hjg : j < tG t := Nat.lt_of_not_le (fun q => by have := ((hw.t ht).1.2.2.2.2.1.2 (tv t) (Nat.le_refl _)).1 j q; rw [hjr] at this; cases this)
          refine ⟨⟨va_up ca j (tv t + 1), fun i hi => ?_⟩, fun i hi => ?_, hz.2⟩
          · show _ ∧ va_up ca j (tv t + 1) i ≤ tv t + 1 ∧ (va_up ca j (tv t + 1) i = va_up (tc t) j (tv t + 1) i ∨ _)
            unfold va_up
            by_cases g : i = j
            · rw [if_pos g, if_pos g]
              exact ⟨by rw [g]; exact zgI_self, Nat.le_refl _, Or.inl rfl⟩
            · rw [if_neg g, if_neg g]
              refine ⟨(f9.2.2.2.1 137 i (by unfold zXc; omega)).trans (hca i hi).1, Nat.le_succ_of_le (hca i hi).2.1, (hca i hi).2.2.elim Or.inl (fun e => Or.inr ⟨?_, e.2.1, fun u hu hth => ?_⟩)⟩
              · show va_up (tc t) j (tv t + 1) i = 0
                unfold va_up
                rw [if_neg g]
                exact e.1
              · by_cases q : u = tv t + 1
                · have := (hca i hi).2.1
                  omega
                · have hu : u ≤ tv t := by have : u ≤ tv t + 1 := hu; omega
                  rw [zact_o _ _ _ _ hu] at hth
                  exact e.2.2 u hu hth
          · show va_up (tc t) j (tv t + 1) i = 0
            have hi : tG t ≤ i := hi
            unfold va_up
            rw [if_neg (by omega)]
            exact hz.1 i hi
        have h9 := h.act (t' := (zchg t j jc v)) ht f9 (fun c k z => by unfold zXc at z; unfold zXs; omega) ((zgI_ne (by decide)).trans (fa.2.2.2.1 123 1 (by unfold zXc; omega))) rfl rfl rfl rfl ((zgI_ne (by decide)).trans e29) ((zgI_ne (by decide)).trans ((fa.2.2.2.1 123 31 (by unfold zXc; omega)).trans hT0.2.2.2.1.2.2)) hH9 hC9
        have hM9 := h9.1
        have hw9 : zWF (n + 1) (sF s, (0, s.2.1.2), some (zchg t j jc v), sP s, sR s) := zWF_act hw ht (zWt_chg (hw.t ht).1 hjr hKb hcv) (Nat.le_succ _) (by omega)
        refine j_aload_n (pc := 81) dX12_change_81 rfl ?_
        refine j_iload_n (pc := 82) dX12_change_82 rfl ?_
        refine j_callV (pc := 83) (t := 12) (n_aheadOf h9 hw9 rfl hj (by rw [show tW (zchg t j jc v) = _ from zact_W _ _ _ _]; exact hjr)) dX12_change_83 l_X12_361 mk_X12_aheadOf mv_X12_aheadOf (by decide) rfl hM9.1 (by decide) rfl rfl (Nat.le_of_ble_eq_true rfl) (Nat.le_refl _) (Nat.le_refl _) (fun r Tz h_1 => ?_)
        obtain ⟨k1, rfl⟩ := h_1
        refine j_iret (pc := 86) dX12_change_86 rfl ?_
        have ez : q_change s (nI j) (nI jc) v = (zpo (tA (zchg t j jc v)) j, (sF s, (0, s.2.1.2), some (zchg t j jc v), sP s, sR s)) := by
          simp only [q_change, ht]
          rw [if_pos ⟨hjt, hzc.symm⟩]
          simp only [zn, hcl, hcc]
          rw [if_pos hcv]
        rw [ez]
        refine ⟨?_, h9.scr k1 (fun c k z => zXkm.s z), (f9.f (fun c k z => by unfold zXc at z; unfold zMX; omega)).tr k1.kf⟩
        rw [show zpo (tA (zchg t j jc v)) j = _ from (zah_at hj (by rw [show tW (zchg t j jc v) = _ from zact_W _ _ _ _]; exact hjr)).2]
      · refine j_aload_n (pc := 43) dX12_change_43 rfl ?_
        refine j_iconst (pc := 44) (v := 2) dX12_change_44 (by decide) ?_
        refine j_callV (pc := 45) (t := 12) (n_no (by exact hM) _) dX12_change_45 l_X12_265 mk_X12_no mv_X12_no (by decide) rfl hM.1 (by decide) rfl rfl (Nat.le_of_ble_eq_true rfl) (Nat.le_refl _) (Nat.le_refl _) (fun r T h_1 => ?_)
        obtain ⟨rfl, rfl⟩ := h_1
        refine j_iret (pc := 48) dX12_change_48 rfl ?_
        have hcv := zbi_eq0.mp h40
        have e : q_change s (nI j) (nI jc) v = zrf s 2 := by
          simp only [q_change, ht]
          rw [if_pos ⟨hjt, hzc.symm⟩, zn, hcc, if_neg (bnf (by
            by_cases g : v = zMiss
            · rw [if_pos g] at hcv
              cases hcv
            · rwa [if_neg g] at hcv))]
        rw [e]
        exact ⟨rfl, (h.no (n := 0) (by decide)).no1 (n := 2) (by decide), zNw.f.tr (zF.wI (by decide))⟩
set_option maxRecDepth 20000 in
set_option maxHeartbeats 4000000 in
theorem m_differ {E : zE} {S : zM} {s : zST} {n : Nat} (h : zMO S s) (hw : zWF n s) (x x2 : Int32) : zSp E 3 0 0 mX12_differ cX12_differ [zR 123, zI x, zI x2] S (fun r T => r = some (zI (q_differ s x x2).1) ∧ zMO T (q_differ s x x2).2 ∧ zF zMX S T) := by
  refine zSp.of (by decide) rfl (Nat.le_of_ble_eq_true rfl) rfl ?_
  have hM := h.1
  cases hz : zrow s x with
  | false =>
    have e : q_differ s x x2 = zrf s 1 := by
      unfold q_differ
      split
      · rfl
      · rename_i t ht
        rw [zrow_s ht] at hz
        simp [hz]
    refine j_aload_n (pc := 0) dX12_differ_0 rfl ?_
    refine j_aload_n (pc := 1) dX12_differ_1 rfl ?_
    refine j_iload_n (pc := 2) dX12_differ_2 rfl ?_
    refine j_callV (pc := 3) (t := 12) (n_isNow h hw _) dX12_differ_3 l_X12_324 mk_X12_isNow mv_X12_isNow (by decide) rfl hM.1 (by decide) rfl rfl (Nat.le_of_ble_eq_true rfl) (Nat.le_refl _) (Nat.le_refl _) (fun r T h_1 => ?_)
    obtain ⟨rfl, rfl⟩ := h_1
    rw [hz]
    refine j_if_eq (pc := 6) (tgt := 26) dX12_differ_6 (by decide) (fun h6 => ?_) (fun h6 => absurd rfl h6)
    refine j_iconst (pc := 26) (v := 0) dX12_differ_26 (by decide) ?_
    refine j_callS (pc := 27) (n_unlF) dX12_differ_27 l_X12_312 mk_X12_unless ms_X12_unless (by decide) rfl rfl (Nat.le_of_ble_eq_true rfl) (Nat.le_refl _) (Nat.le_refl _) (fun r T h_1 => ?_)
    obtain ⟨rfl, rfl⟩ := h_1
    refine j_callV (pc := 30) (t := 12) (n_rf1 hM) dX12_differ_30 l_X12_256 mk_X12_isRefused mv_X12_isRefused (by decide) rfl hM.1 (by decide) rfl rfl (Nat.le_of_ble_eq_true rfl) (Nat.le_refl _) (Nat.le_refl _) (fun r T h_1 => ?_)
    obtain ⟨rfl, rfl⟩ := h_1
    refine j_if_eq (pc := 33) (tgt := 38) dX12_differ_33 (by decide) (fun h33 => absurd h33 (by decide)) (fun h33 => ?_)
    refine j_iconst (pc := 36) (v := (-1)) dX12_differ_36 (by decide) ?_
    refine j_iret (pc := 37) dX12_differ_37 rfl ?_
    exact m_ref h (n := 1) (by decide) e
  | true =>
    obtain ⟨t, j, ht, hj, rfl, hjr⟩ := zrow_t hz
    have hv := hw.v ht
    have hjt : zth (tW t).1 (nI j) = true := by rw [zth_nI _ hj]; exact hjr
    have hcl : (nI j).toNatClampNeg = j := nI_clamp (by omega)
    refine j_aload_n (pc := 0) dX12_differ_0 rfl ?_
    refine j_aload_n (pc := 1) dX12_differ_1 rfl ?_
    refine j_iload_n (pc := 2) dX12_differ_2 rfl ?_
    refine j_callV (pc := 3) (t := 12) (n_isNow h hw _) dX12_differ_3 l_X12_324 mk_X12_isNow mv_X12_isNow (by decide) rfl hM.1 (by decide) rfl rfl (Nat.le_of_ble_eq_true rfl) (Nat.le_refl _) (Nat.le_refl _) (fun r T h_1 => ?_)
    obtain ⟨rfl, rfl⟩ := h_1
    rw [hz]
    refine j_if_eq (pc := 6) (tgt := 26) dX12_differ_6 (by decide) (fun h6 => absurd h6 (by decide)) (fun h6 => ?_)
    refine j_aload_n (pc := 9) dX12_differ_9 rfl ?_
    refine j_iload_n (pc := 10) dX12_differ_10 rfl ?_
    refine j_callV (pc := 11) (t := 12) (n_isNow h hw x2) dX12_differ_11 l_X12_324 mk_X12_isNow mv_X12_isNow (by decide) rfl hM.1 (by decide) rfl rfl (Nat.le_of_ble_eq_true rfl) (Nat.le_refl _) (Nat.le_refl _) (fun r T h_1 => ?_)
    obtain ⟨rfl, rfl⟩ := h_1
    refine j_if_eq (pc := 14) (tgt := 26) dX12_differ_14 (by decide) (fun h14 => ?_) (fun h14 => ?_)
    · refine j_iconst (pc := 26) (v := 0) dX12_differ_26 (by decide) ?_
      refine j_callS (pc := 27) (n_unlF) dX12_differ_27 l_X12_312 mk_X12_unless ms_X12_unless (by decide) rfl rfl (Nat.le_of_ble_eq_true rfl) (Nat.le_refl _) (Nat.le_refl _) (fun r T h_1 => ?_)
      obtain ⟨rfl, rfl⟩ := h_1
      refine j_callV (pc := 30) (t := 12) (n_rf1 hM) dX12_differ_30 l_X12_256 mk_X12_isRefused mv_X12_isRefused (by decide) rfl hM.1 (by decide) rfl rfl (Nat.le_of_ble_eq_true rfl) (Nat.le_refl _) (Nat.le_refl _) (fun r T h_1 => ?_)
      obtain ⟨rfl, rfl⟩ := h_1
      refine j_if_eq (pc := 33) (tgt := 38) dX12_differ_33 (by decide) (fun h33 => absurd h33 (by decide)) (fun h33 => ?_)
      refine j_iconst (pc := 36) (v := (-1)) dX12_differ_36 (by decide) ?_
      refine j_iret (pc := 37) dX12_differ_37 rfl ?_
      have hx2 := zbi_eq0.mp h14
      rw [zrow_s ht] at hx2
      exact m_ref h (n := 1) (by decide) (by simp only [q_differ, ht]; rw [if_neg (fun g => bnf hx2 g.2.1)])
    · refine j_iload_n (pc := 17) dX12_differ_17 rfl ?_
      refine j_iload_n (pc := 18) dX12_differ_18 rfl ?_
      refine j_icmp_eq (pc := 19) (tgt := 26) dX12_differ_19 (by decide) (fun h19 => ?_) (fun h19 => ?_)
      · refine j_iconst (pc := 26) (v := 0) dX12_differ_26 (by decide) ?_
        refine j_callS (pc := 27) (n_unlF) dX12_differ_27 l_X12_312 mk_X12_unless ms_X12_unless (by decide) rfl rfl (Nat.le_of_ble_eq_true rfl) (Nat.le_refl _) (Nat.le_refl _) (fun r T h_1 => ?_)
        obtain ⟨rfl, rfl⟩ := h_1
        refine j_callV (pc := 30) (t := 12) (n_rf1 hM) dX12_differ_30 l_X12_256 mk_X12_isRefused mv_X12_isRefused (by decide) rfl hM.1 (by decide) rfl rfl (Nat.le_of_ble_eq_true rfl) (Nat.le_refl _) (Nat.le_refl _) (fun r T h_1 => ?_)
        obtain ⟨rfl, rfl⟩ := h_1
        refine j_if_eq (pc := 33) (tgt := 38) dX12_differ_33 (by decide) (fun h33 => absurd h33 (by decide)) (fun h33 => ?_)
        refine j_iconst (pc := 36) (v := (-1)) dX12_differ_36 (by decide) ?_
        refine j_iret (pc := 37) dX12_differ_37 rfl ?_
        exact m_ref h (n := 1) (by decide) (by simp only [q_differ, ht]; rw [if_neg (fun g => g.2.2 h19)])
      · refine j_iconst (pc := 22) (v := 1) dX12_differ_22 (by decide) ?_
        refine j_goto (pc := 23) (tgt := 27) dX12_differ_23 (by decide) ?_
        refine j_callS (pc := 27) (n_unlT) dX12_differ_27 l_X12_312 mk_X12_unless ms_X12_unless (by decide) rfl rfl (Nat.le_of_ble_eq_true rfl) (Nat.le_refl _) (Nat.le_refl _) (fun r T h_1 => ?_)
        obtain ⟨rfl, rfl⟩ := h_1
        refine j_callV (pc := 30) (t := 12) (n_ok hM) dX12_differ_30 l_X12_256 mk_X12_isRefused mv_X12_isRefused (by decide) rfl hM.1 (by decide) rfl rfl (Nat.le_of_ble_eq_true rfl) (Nat.le_refl _) (Nat.le_refl _) (fun r T h_1 => ?_)
        obtain ⟨rfl, rfl⟩ := h_1
        refine j_if_eq (pc := 33) (tgt := 38) dX12_differ_33 (by decide) (fun h33 => ?_) (fun h33 => absurd rfl h33)
        obtain ⟨t2, k, ht2, hk, rfl, hkr⟩ := zrow_t (zbi_ne0 h14)
        rw [ht] at ht2
        cases ht2
        have hkt : zth (tW t).1 (nI k) = true := by rw [zth_nI _ hk]; exact hkr
        have hck : (nI k).toNatClampNeg = k := nI_clamp (by omega)
        refine j_iconst (pc := 38) (v := 0) dX12_differ_38 (by decide) ?_
        refine j_istore_n (pc := 39) (ls' := [_, _, _, _]) dX12_differ_39 (by decide) rfl rfl ?_
        have ew : q_differ s (nI j) (nI k) = zan s (zdf (tO t) ((tW t).2 j) ((tW t).2 k)) := by
          simp only [q_differ, ht]
          rw [if_pos ⟨hjt, hkt, h19⟩]
          simp only [zn, hcl, hck]
        have lp : ∀ (m i : Nat), i + m = (tO t).length → (∀ i' e', i' < i → (tO t)[i']? = some e' → (tW t).2 j e'.1 = (tW t).2 k e'.1) → zJ E 3 0 0 mX12_differ cX12_differ 40 [some (zR 123), some (zI (nI j)), some (zI (nI k)), some (zI (nI i))] [] (zNw S 0) (fun r T => r = some (zI (q_differ s (nI j) (nI k)).1) ∧ zMO T (q_differ s (nI j) (nI k)).2 ∧ zF zMX S T) := by
          intro m
          induction m with
          | zero =>
            intro i hi hq
            have ei : i = (tO t).length := by omega
            subst ei
            refine j_iload_n (pc := 40) dX12_differ_40 rfl ?_
            refine j_aload_n (pc := 41) dX12_differ_41 rfl ?_
            refine j_getIv (pc := 42) dX12_differ_42 f_X12_274 (Or.inl rfl) hM.1 ((h.2.2.2.2.1 t ht).1.2.1.1) ?_
            refine j_icmp_ge (pc := 45) (tgt := 90) dX12_differ_45 (by decide) (fun h45 => ?_) (fun h45 => absurd (nI_le (Nat.le_refl _) (by omega)) h45)
            refine j_bipush (pc := 90) (v := (-2)) dX12_differ_90 (by decide) ?_
            refine j_iret (pc := 92) dX12_differ_92 rfl ?_
            have en : (tO t).findIdx? (fun e => decide ((tW t).2 j e.1 ≠ (tW t).2 k e.1)) = none := List.findIdx?_eq_none_iff.mpr (fun e he => by
              obtain ⟨i, hi⟩ := List.getElem?_of_mem he
              exact decide_eq_false (not_not_intro (hq i e (List.getElem?_eq_some_iff.mp hi).1 hi)))
            exact m_ans h (ew.trans (by rw [zdf, en]))
          | succ m ih =>
            intro i hi hq
            have he := gD (0, false, false, false) (show i < (tO t).length by omega)
            generalize (tO t).getD i (0, false, false, false) = e at he
            have hKl := (List.getElem?_eq_some_iff.mp ((hw.t ht).1.2.2.1 e (List.mem_of_getElem? he))).1
            refine j_iload_n (pc := 40) dX12_differ_40 rfl ?_
            refine j_aload_n (pc := 41) dX12_differ_41 rfl ?_
            refine j_getIv (pc := 42) dX12_differ_42 f_X12_274 (Or.inl rfl) hM.1 ((h.2.2.2.2.1 t ht).1.2.1.1) ?_
            refine j_icmp_ge (pc := 45) (tgt := 90) dX12_differ_45 (by decide) (fun h45 => absurd h45 (nI_ge (by omega) (by omega))) (fun h45 => ?_)
            refine j_aload_n (pc := 48) dX12_differ_48 rfl ?_
            refine j_aload_n (pc := 49) dX12_differ_49 rfl ?_
            refine j_getIv (pc := 50) dX12_differ_50 f_X12_277 (Or.inl rfl) hM.1 ((h.2.2.2.2.1 t ht).1.2.2.2.1.1) ?_
            refine j_iload_n (pc := 53) dX12_differ_53 rfl ?_
            refine j_aload_n (pc := 54) dX12_differ_54 rfl ?_
            refine j_getPv (pc := 55) dX12_differ_55 f_X12_23 (Or.inr ⟨_, rfl⟩) hM.1 (mp_order hM) ?_
            refine j_iload_n (pc := 58) dX12_differ_58 rfl ?_
            refine j_ialdn (pc := 59) dX12_differ_59 (mk_order hM) (by omega) (Nat.le_of_ble_eq_true rfl) (((h.2.2.2.2.1 t ht).1.2.1.2 i e he).1) ?_
            refine j_callV (pc := 60) (t := 12) (n_valueThen (h.no (n := 0) (by decide)) ht (Nat.le_refl _) (Nat.le_add_right _ _) (by omega) hj hKl hv.2.2.1 hjr) dX12_differ_60 l_X12_327 mk_X12_valueThen mv_X12_valueThen (by decide) rfl hM.1 (by decide) rfl rfl (Nat.le_of_ble_eq_true rfl) (Nat.le_refl _) (Nat.le_refl _) (fun r T h_1 => ?_)
            obtain ⟨rfl, rfl⟩ := h_1
            refine j_aload_n (pc := 63) dX12_differ_63 rfl ?_
            refine j_aload_n (pc := 64) dX12_differ_64 rfl ?_
            refine j_getIv (pc := 65) dX12_differ_65 f_X12_277 (Or.inl rfl) hM.1 ((h.2.2.2.2.1 t ht).1.2.2.2.1.1) ?_
            refine j_iload_n (pc := 68) dX12_differ_68 rfl ?_
            refine j_aload_n (pc := 69) dX12_differ_69 rfl ?_
            refine j_getPv (pc := 70) dX12_differ_70 f_X12_23 (Or.inr ⟨_, rfl⟩) hM.1 (mp_order hM) ?_
            refine j_iload_n (pc := 73) dX12_differ_73 rfl ?_
            refine j_ialdn (pc := 74) dX12_differ_74 (mk_order hM) (by omega) (Nat.le_of_ble_eq_true rfl) (((h.2.2.2.2.1 t ht).1.2.1.2 i e he).1) ?_
            refine j_callV (pc := 75) (t := 12) (n_valueThen (h.no (n := 0) (by decide)) ht (Nat.le_refl _) (Nat.le_add_right _ _) (by omega) hk hKl hv.2.2.1 hkr) dX12_differ_75 l_X12_327 mk_X12_valueThen mv_X12_valueThen (by decide) rfl hM.1 (by decide) rfl rfl (Nat.le_of_ble_eq_true rfl) (Nat.le_refl _) (Nat.le_refl _) (fun r T h_1 => ?_)
            obtain ⟨rfl, rfl⟩ := h_1
            refine j_lcmp (pc := 78) dX12_differ_78 ?_
            refine j_if_eq (pc := 79) (tgt := 84) dX12_differ_79 (by decide) (fun h79 => ?_) (fun h79 => ?_)
            · refine j_iinc (pc := 84) (v := _ + 1) (ls' := [_, _, _, _]) dX12_differ_84 rfl rfl (by decide) rfl rfl ?_
              refine j_goto (pc := 87) (tgt := 40) dX12_differ_87 (by decide) ?_
              rw [nI_1]
              refine ih (i + 1) (by omega) (fun i' e' hi' he' => ?_)
              by_cases g : i' = i
              · subst g
                rw [he] at he'
                cases he'
                exact (lg_cmp_eq _ _).mp h79
              · exact hq i' e' (by omega) he'
            · refine j_iload_n (pc := 82) dX12_differ_82 rfl ?_
              refine j_iret (pc := 83) dX12_differ_83 rfl ?_
              have en : (tO t).findIdx? (fun e => decide ((tW t).2 j e.1 ≠ (tW t).2 k e.1)) = some i := List.findIdx?_eq_some_iff_getElem.mpr ⟨by omega, by
                rw [(List.getElem?_eq_some_iff.mp he).2]
                exact decide_eq_true (fun g => h79 ((lg_cmp_eq _ _).mpr g)), fun i' hi' => by
                have := hq i' _ hi' (List.getElem?_eq_getElem (by omega))
                simp [this]⟩
              exact m_ans h (ew.trans (by rw [zdf, en]))
        exact lp (tO t).length 0 (by omega) (fun i' _ hi' => absurd hi' (Nat.not_lt_zero i'))
