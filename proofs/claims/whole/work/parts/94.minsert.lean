set_option maxRecDepth 20000 in
set_option maxHeartbeats 4000000 in
theorem n_offered {E : zE} {S : zM} {i : Nat} (hi : i < 4) (x1 x2 x3 x4 : Int64) : zSp E 0 0 0 mX12_offered cX12_offered [zR 123, zI (nI i), zL x1, zL x2, zL x3, zL x4] S (fun r T => S = T ∧ r = some (zL (zin4 x1 x2 x3 x4 i))) := by
  refine zSp.of (by decide) rfl (Nat.le_of_ble_eq_true rfl) rfl ?_
  refine j_iload_n (pc := 0) dX12_offered_0 rfl ?_
  refine j_if_ne (pc := 1) (tgt := 8) dX12_offered_1 (by decide) (fun h1 => ?_) (fun h1 => ?_)
  · refine j_iload_n (pc := 8) dX12_offered_8 rfl ?_
    refine j_iconst (pc := 9) (v := 1) dX12_offered_9 (by decide) ?_
    refine j_icmp_ne (pc := 10) (tgt := 18) dX12_offered_10 (by decide) (fun h10 => ?_) (fun h10 => ?_)
    · refine j_iload_n (pc := 18) dX12_offered_18 rfl ?_
      refine j_iconst (pc := 19) (v := 2) dX12_offered_19 (by decide) ?_
      refine j_icmp_ne (pc := 20) (tgt := 28) dX12_offered_20 (by decide) (fun h20 => ?_) (fun h20 => ?_)
      · refine j_lload (pc := 28) dX12_offered_28 rfl ?_
        refine j_lret (pc := 30) dX12_offered_30 rfl ?_
        have e : i = 3 := by
          have h0 : i ≠ 0 := fun q => h1 (by rw [q]; rfl)
          have h2 : i ≠ 1 := fun q => h10 (by rw [q]; rfl)
          have h3 : i ≠ 2 := fun q => h20 (by rw [q]; rfl)
          omega
        exact ⟨rfl, by rw [e]; rfl⟩
      · refine j_lload (pc := 23) dX12_offered_23 rfl ?_
        refine j_goto (pc := 25) (tgt := 30) dX12_offered_25 (by decide) ?_
        refine j_lret (pc := 30) dX12_offered_30 rfl ?_
        have e : i = 2 := (nI_eq (b := 2) (by omega) (by decide)).mp h20
        exact ⟨rfl, by rw [e]; rfl⟩
    · refine j_lload (pc := 13) dX12_offered_13 rfl ?_
      refine j_goto (pc := 15) (tgt := 30) dX12_offered_15 (by decide) ?_
      refine j_lret (pc := 30) dX12_offered_30 rfl ?_
      have e : i = 1 := (nI_eq (b := 1) (by omega) (by decide)).mp h10
      exact ⟨rfl, by rw [e]; rfl⟩
  · refine j_lload_n (pc := 4) dX12_offered_4 rfl ?_
    refine j_goto (pc := 5) (tgt := 30) dX12_offered_5 (by decide) ?_
    refine j_lret (pc := 30) dX12_offered_30 rfl ?_
    have e : i = 0 := (nI_eq (b := 0) (by omega) (by decide)).mp h1
    exact ⟨rfl, by rw [e]; rfl⟩
set_option maxRecDepth 20000 in
set_option maxHeartbeats 4000000 in
theorem m_insert {E : zE} {S : zM} {s : zST} {n : Nat} (h : zMO S s) (hw : zWF n s) (x1 x2 x3 x4 : Int64) : zSp E 3 0 0 mX12_insert cX12_insert [zR 123, zL x1, zL x2, zL x3, zL x4] S (fun r T => r = some (zI (q_insert s x1 x2 x3 x4).1) ∧ zMO T (q_insert s x1 x2 x3 x4).2 ∧ zF zMX S T) := by
  refine zSp.of (by decide) rfl (Nat.le_of_ble_eq_true rfl) rfl ?_
  have hM := h.1
  cases ht : sT s with
  | none =>
    have hto : zgI S 123 12 = 0 := by have := h.2.2.2.1.1; rw [ht] at this; exact this
    have e : q_insert s x1 x2 x3 x4 = zrf s 1 := by rw [q_insert, ht]
    refine j_aload_n (pc := 0) dX12_insert_0 rfl ?_
    refine j_aload_n (pc := 1) dX12_insert_1 rfl ?_
    refine j_getIv (pc := 2) dX12_insert_2 f_X12_296 (Or.inr rfl) hM.1 (hto) ?_
    refine j_callS (pc := 5) (n_unlF) dX12_insert_5 l_X12_312 mk_X12_unless ms_X12_unless (by decide) rfl rfl (Nat.le_of_ble_eq_true rfl) (Nat.le_refl _) (Nat.le_refl _) (fun r T h_1 => ?_)
    obtain ⟨rfl, rfl⟩ := h_1
    refine j_callV (pc := 8) (t := 12) (n_rf1 hM) dX12_insert_8 l_X12_256 mk_X12_isRefused mv_X12_isRefused (by decide) rfl hM.1 (by decide) rfl rfl (Nat.le_of_ble_eq_true rfl) (Nat.le_refl _) (Nat.le_refl _) (fun r T h_1 => ?_)
    obtain ⟨rfl, rfl⟩ := h_1
    refine j_if_eq (pc := 11) (tgt := 16) dX12_insert_11 (by decide) (fun h11 => absurd h11 (by decide)) (fun h11 => ?_)
    refine j_iconst (pc := 14) (v := (-1)) dX12_insert_14 (by decide) ?_
    refine j_iret (pc := 15) dX12_insert_15 rfl ?_
    exact m_ref h (n := 1) (by decide) e
  | some t =>
    have hto : zgI S 123 12 = 1 := by have := h.2.2.2.1.1; rw [ht] at this; exact this
    have hv := hw.v ht
    refine j_aload_n (pc := 0) dX12_insert_0 rfl ?_
    refine j_aload_n (pc := 1) dX12_insert_1 rfl ?_
    refine j_getIv (pc := 2) dX12_insert_2 f_X12_296 (Or.inr rfl) hM.1 (hto) ?_
    refine j_callS (pc := 5) (n_unlT) dX12_insert_5 l_X12_312 mk_X12_unless ms_X12_unless (by decide) rfl rfl (Nat.le_of_ble_eq_true rfl) (Nat.le_refl _) (Nat.le_refl _) (fun r T h_1 => ?_)
    obtain ⟨rfl, rfl⟩ := h_1
    refine j_callV (pc := 8) (t := 12) (n_ok hM) dX12_insert_8 l_X12_256 mk_X12_isRefused mv_X12_isRefused (by decide) rfl hM.1 (by decide) rfl rfl (Nat.le_of_ble_eq_true rfl) (Nat.le_refl _) (Nat.le_refl _) (fun r T h_1 => ?_)
    obtain ⟨rfl, rfl⟩ := h_1
    refine j_if_eq (pc := 11) (tgt := 16) dX12_insert_11 (by decide) (fun h11 => ?_) (fun h11 => absurd rfl h11)
    refine j_iconst (pc := 16) (v := 0) dX12_insert_16 (by decide) ?_
    refine j_istore (pc := 17) (ls' := [_, _, _, _, _, _, _, _, _, _, _]) dX12_insert_17 (by decide) rfl rfl ?_
    have lp : ∀ (m i : Nat), i + m = (tK t).length → (∀ k, k < i → zch ((tK t).getD k false) ((zin4 x1 x2 x3 x4) k) = true) → zJ E 3 0 0 mX12_insert cX12_insert 19 [some (zR 123), some (zL x1), none, some (zL x2), none, some (zL x3), none, some (zL x4), none, some (zI (nI i)), none] [] (zNw S 0) (fun r T => r = some (zI (q_insert s x1 x2 x3 x4).1) ∧ zMO T (q_insert s x1 x2 x3 x4).2 ∧ zF zMX S T) := by
      intro m
      induction m with
      | zero =>
        intro i hi hq0
        have ei : i = (tK t).length := by omega
        subst ei
        refine j_iload (pc := 19) dX12_insert_19 rfl ?_
        refine j_aload_n (pc := 21) dX12_insert_21 rfl ?_
        refine j_getIv (pc := 22) dX12_insert_22 f_X12_271 (Or.inl rfl) hM.1 ((h.2.2.2.2.1 t ht).1.1.1) ?_
        refine j_icmp_ge (pc := 25) (tgt := 62) dX12_insert_25 (by decide) (fun h25 => ?_) (fun h25 => absurd (nI_le (Nat.le_refl _) (by omega)) h25)
        refine j_aload_n (pc := 62) dX12_insert_62 rfl ?_
        refine j_callV (pc := 63) (t := 12) (n_thereMany (h.no (n := 0) (by decide)) (zWF.no hw) ht) dX12_insert_63 l_X12_316 mk_X12_thereMany mv_X12_thereMany (by decide) rfl hM.1 (by decide) rfl rfl (Nat.le_of_ble_eq_true rfl) (Nat.le_refl _) (Nat.le_refl _) (fun r T h_1 => ?_)
        obtain ⟨rfl, rfl⟩ := h_1
        refine j_bipush (pc := 66) (v := 40) dX12_insert_66 (by decide) ?_
        refine j_icmp_eq (pc := 68) (tgt := 80) dX12_insert_68 (by decide) (fun h68 => ?_) (fun h68 => ?_)
        · refine j_aload_n (pc := 80) dX12_insert_80 rfl ?_
          refine j_iconst (pc := 81) (v := 3) dX12_insert_81 (by decide) ?_
          refine j_callV (pc := 82) (t := 12) (n_no (by exact hM) _) dX12_insert_82 l_X12_265 mk_X12_no mv_X12_no (by decide) rfl hM.1 (by decide) rfl rfl (Nat.le_of_ble_eq_true rfl) (Nat.le_refl _) (Nat.le_refl _) (fun r T h_1 => ?_)
          obtain ⟨rfl, rfl⟩ := h_1
          refine j_iret (pc := 85) dX12_insert_85 rfl ?_
          have e : q_insert s x1 x2 x3 x4 = zrf s 3 := by
            simp only [q_insert, ht]
            rw [if_neg (bnf2 (zoff_yes hq0)), if_pos (Or.inl (Nat.le_of_eq ((nI_eq (b := 40) (by have := fb_ct_le (tW t).1 64; omega) (by decide)).mp h68).symm))]
          rw [e]
          exact ⟨rfl, (h.no (n := 0) (by decide)).no1 (n := 3) (by decide), zNw.f.tr (zF.wI (by decide))⟩
        · refine j_aload_n (pc := 71) dX12_insert_71 rfl ?_
          refine j_getIv (pc := 72) dX12_insert_72 f_X12_283 (Or.inl rfl) hM.1 ((h.2.2.2.2.1 t ht).1.2.2.2.1.2.2) ?_
          refine j_bipush (pc := 75) (v := 64) dX12_insert_75 (by decide) ?_
          refine j_icmp_ne (pc := 77) (tgt := 86) dX12_insert_77 (by decide) (fun h77 => ?_) (fun h77 => ?_)
          · have h40' := ((hw.t ht).1.2.2.2.2.1.2 (tv t) (Nat.le_refl _)).2.1
            have h40 : fb_ct (tW t).1 64 < 40 := by
              have : fb_ct (tW t).1 64 ≠ 40 := fun q => h68 (by rw [q]; rfl)
              have h40' : fb_ct (tW t).1 64 ≤ 40 := h40'
              omega
            have hg64 : tG t < 64 := by
              have : tG t ≠ 64 := fun q => h77 (by rw [q]; rfl)
              omega
            have hoff := zoff_yes hq0
            refine j_aload_n (pc := 86) dX12_insert_86 rfl ?_
            refine j_callV (pc := 87) (t := 12) (n_acts (h.no (n := 0) (by decide)) (zWF.no hw) ht) dX12_insert_87 l_X12_455 mk_X12_acts mv_X12_acts (by decide) rfl hM.1 (by decide) rfl rfl (Nat.le_of_ble_eq_true rfl) (Nat.le_refl _) (Nat.le_refl _) (fun r Ta h_1 => ?_)
            obtain ⟨rfl, fa, e29, hcp⟩ := h_1
            have hMa : zMs Ta := fa.ms (by exact hM)
            have e31 : zgI Ta 123 31 = nI (tG t) := (fa.2.2.2.1 123 31 (by unfold zXc; omega)).trans (h.2.2.2.2.1 t ht).1.2.2.2.1.2.2
            refine j_aload_n (pc := 90) dX12_insert_90 rfl ?_
            refine j_getIv (pc := 91) dX12_insert_91 f_X12_283 (Or.inl rfl) hMa.1 (e31) ?_
            refine j_istore (pc := 94) (ls' := [_, _, _, _, _, _, _, _, _, _, _]) dX12_insert_94 (by decide) rfl rfl ?_
            refine j_aload_n (pc := 96) dX12_insert_96 rfl ?_
            refine j_dup (pc := 97) dX12_insert_97 rfl ?_
            refine j_getIv (pc := 98) dX12_insert_98 f_X12_283 (Or.inl rfl) hMa.1 (e31) ?_
            refine j_iconst (pc := 101) (v := 1) dX12_insert_101 (by decide) ?_
            refine j_iadd (pc := 102) dX12_insert_102 ?_
            rw [nI_1]
            refine j_putI (pc := 103) dX12_insert_103 f_X12_283 rfl hMa.1 rfl ?_
            refine j_aload_n (pc := 106) dX12_insert_106 rfl ?_
            refine j_getPv (pc := 107) dX12_insert_107 f_X12_51 (Or.inr ⟨_, rfl⟩) hMa.1 (mp_isThere hMa) ?_
            refine j_aload_n (pc := 110) dX12_insert_110 rfl ?_
            refine j_getIv (pc := 111) dX12_insert_111 f_X12_277 (Or.inl rfl) hMa.1 ((zgI_nk (by decide)).trans e29) ?_
            refine j_iload (pc := 114) dX12_insert_114 rfl ?_
            refine j_callS (pc := 116) (n_rowAt (show tv t + 1 < 2 ^ 20 by omega)) dX12_insert_116 l_X12_301 mk_X12_rowAt ms_X12_rowAt (by decide) rfl rfl (Nat.le_of_ble_eq_true rfl) (Nat.le_refl _) (Nat.le_refl _) (fun r T h_1 => ?_)
            obtain ⟨rfl, rfl⟩ := h_1
            refine j_iconst (pc := 119) (v := 1) dX12_insert_119 (by decide) ?_
            refine j_zastn (pc := 120) dX12_insert_120 (mk_isThere hMa) (show 64 * ((tv t + 1) % 41) + tG t < 2624 by omega) (Nat.le_of_ble_eq_true rfl) (by first | assumption | decide) ?_
            refine j_aload_n (pc := 121) dX12_insert_121 rfl ?_
            refine j_getPv (pc := 122) dX12_insert_122 f_X12_57 (Or.inr ⟨_, rfl⟩) hMa.1 (mp_changedAt hMa) ?_
            refine j_iload (pc := 125) dX12_insert_125 rfl ?_
            refine j_aload_n (pc := 127) dX12_insert_127 rfl ?_
            refine j_getIv (pc := 128) dX12_insert_128 f_X12_277 (Or.inl rfl) hMa.1 ((zgI_ne (by decide)).trans ((zgI_nk (by decide)).trans e29)) ?_
            refine j_iastn (pc := 131) dX12_insert_131 (mk_changedAt hMa) (hg64) (Nat.le_of_ble_eq_true rfl) ?_
            refine j_iconst (pc := 132) (v := 0) dX12_insert_132 (by decide) ?_
            refine j_istore (pc := 133) (ls' := [_, _, _, _, _, _, _, _, _, _, _]) dX12_insert_133 (by decide) rfl rfl ?_
            have lp2 : ∀ (m i : Nat) (T : zM), i + m = (tK t).length → zK (fun c k => c = 136 ∧ 4 * (64 * ((tv t + 1) % 41) + tG t) ≤ k ∧ k < 4 * (64 * ((tv t + 1) % 41) + tG t) + 4) (zwI (zwI (zwI Ta 123 31 (nI (tG t + 1))) 135 (64 * ((tv t + 1) % 41) + tG t) 1) 137 (tG t) (nI (tv t + 1))) T → (∀ c, c < i → zgL T 136 (4 * (64 * ((tv t + 1) % 41) + tG t) + c) = (zin4 x1 x2 x3 x4) c) → zJ E 3 0 0 mX12_insert cX12_insert 135 [some (zR 123), some (zL x1), none, some (zL x2), none, some (zL x3), none, some (zL x4), none, some (zI (nI (tG t))), some (zI (nI i))] [] T (fun r T => r = some (zI (q_insert s x1 x2 x3 x4).1) ∧ zMO T (q_insert s x1 x2 x3 x4).2 ∧ zF zMX S T) := by
              intro m
              induction m with
              | zero =>
                intro i T hi hk hq
                have ei : i = (tK t).length := by omega
                subst ei
                have hMT := hk.ms (by exact hMa)
                have e6 : zgI T 123 6 = nI (tK t).length := (hk.2.2.2.1 123 6 (by omega)).trans ((fa.2.2.2.1 123 6 (by unfold zXc; omega)).trans (h.2.2.2.2.1 t ht).1.1.1)
                refine j_iload (pc := 135) dX12_insert_135 rfl ?_
                refine j_aload_n (pc := 137) dX12_insert_137 rfl ?_
                refine j_getIv (pc := 138) dX12_insert_138 f_X12_271 (Or.inl rfl) hMT.1 (e6) ?_
                refine j_icmp_ge (pc := 141) (tgt := 181) dX12_insert_141 (by decide) (fun h141 => ?_) (fun h141 => absurd (nI_le (Nat.le_refl _) (by omega)) h141)
                refine j_iload (pc := 181) dX12_insert_181 rfl ?_
                refine j_iret (pc := 183) dX12_insert_183 rfl ?_
                have f9 : zK (fun c k => zXc ((tv t + 1) % 41) c k ∨ (c = 137 ∧ k = tG t) ∨ (c = 123 ∧ (k = 29 ∨ k = 31 ∨ k = 0 ∨ k = 1 ∨ k = 3))) S T := ((((((((zK.wI (by unfold zXc; omega)).tr (zK.wI (by unfold zXc; omega))).tr (zK.wI (by unfold zXc; omega))).tr (fa.mo (fun c k z => by unfold zXc at z ⊢; omega))).tr (zK.wI (by unfold zXc; omega))).tr (zK.wI (by unfold zXc; omega))).tr (zK.wI (by unfold zXc; omega))).tr (hk.mo (fun c k z => by unfold zXc; omega)))
                have ez : q_insert s x1 x2 x3 x4 = (nI (tG t), (sF s, (0, s.2.1.2), some (zgrow t (zin4 x1 x2 x3 x4)), sP s, sR s)) := by
                  simp only [q_insert, ht]
                  rw [if_neg (bnf2 hoff), if_neg (by omega)]
                rw [ez]
                have hT0 := (h.2.2.2.2.1 t ht).1
                have gT : ∀ c k, c ≠ 136 → zgI T c k = zgI (zwI (zwI (zwI Ta 123 31 (nI (tG t + 1))) 135 (64 * ((tv t + 1) % 41) + tG t) 1) 137 (tG t) (nI (tv t + 1))) c k := fun c k hc => hk.2.2.2.1 _ _ (by omega)
                have hgF : ∀ u, u ≤ tv t → (tH t u).1 (tG t) = false := fun u hu => ((hw.t ht).1.2.2.2.2.1.2 u hu).1 _ (Nat.le_refl _)
                have hH9 : mH T (tK t).length (tv t + 1) (tH (zgrow t (zin4 x1 x2 x3 x4))) := by
                  refine hT0.2.2.2.2.new (fun u hu1 hu2 i hi => f9.2.2.2.1 _ _ (by unfold zXc; omega)) (fun u hu1 hu2 i c hi hc => f9.2.2.2.2 _ _ (by unfold zXc; omega)) (fun u hu => ?_) (fun i hi => ?_) (fun i hi hth c hc => ?_)
                  · rw [zgrow_o _ _ hu]
                    refine ⟨rfl, fun i k hi => ?_⟩
                    show (tH t u).2 i k = zfil t (zin4 x1 x2 x3 x4) (tH t u).2 i k
                    unfold zfil
                    rw [if_neg (fun q => by
                      have hi : (tH t u).1 i = true := hi
                      rw [q.1, hgF u hu] at hi
                      cases hi)]
                  · rw [zgrow_W, gT 135 _ (by decide), zgI_ne (by decide), zgI_wI]
                    show _ = zbi (va_up (tW t).1 (tG t) true i)
                    unfold va_up
                    by_cases g : i = tG t
                    · rw [if_pos ⟨rfl, by omega⟩, if_pos g]
                      rfl
                    · rw [if_neg (by omega), if_neg g]
                      exact ((zgI_ne (by decide)).trans (hcp.1 i hi)).trans (hT0.2.2.2.2 (tv t) (Nat.le_refl _) (Nat.le_add_right _ _) i hi).1
                  · rw [zgrow_W] at hth ⊢
                    show _ = zfil t (zin4 x1 x2 x3 x4) (tW t).2 i c
                    unfold zfil
                    by_cases g : i = tG t
                    · rw [if_pos ⟨g, hc⟩, g]
                      exact hq c hc
                    · rw [if_neg (fun z => g z.1)]
                      have hi2 : (tW t).1 i = true := by
                        have hth : va_up (tW t).1 (tG t) true i = true := hth
                        unfold va_up at hth
                        rwa [if_neg g] at hth
                      exact (hk.2.2.2.2 136 _ (by omega)).trans ((hcp.2.1 i c hi (by omega)).trans ((hT0.2.2.2.2 (tv t) (Nat.le_refl _) (Nat.le_add_right _ _) i hi).2 hi2 c hc))
                have hC9 : mC T (zgrow t (zin4 x1 x2 x3 x4)) (sR s) := by
                  obtain ⟨⟨ca, hca⟩, hz⟩ := (h.2.2.2.2.1 t ht).2
                  refine ⟨⟨va_up ca (tG t) (tv t + 1), fun i hi => ?_⟩, fun i hi => hz.1 i (Nat.le_of_succ_le hi), fun r x hr hx i hi => hz.2 r x hr hx i (Nat.le_of_succ_le hi)⟩
                  unfold va_up
                  by_cases g : i = tG t
                  · rw [if_pos g]
                    refine ⟨by rw [g]; exact (gT 137 _ (by decide)).trans zgI_self, Nat.le_refl _, Or.inr ⟨by rw [g]; exact hz.1 _ (Nat.le_refl _), fun r x hr hx hp => ?_, fun u hu hth => ?_⟩⟩
                    · rw [g, hz.2 r x hr hx _ (Nat.le_refl _)] at hp
                      exact absurd hp (Nat.lt_irrefl 0)
                    · by_cases q : u = tv t + 1
                      · omega
                      · have hu : u ≤ tv t := by have : u ≤ tv t + 1 := hu; omega
                        rw [zgrow_o _ _ hu] at hth
                        have hth : (tH t u).1 i = true := hth
                        rw [g, hgF u hu] at hth
                        cases hth
                  · rw [if_neg g]
                    refine ⟨(f9.2.2.2.1 137 i (by unfold zXc; omega)).trans (hca i hi).1, Nat.le_succ_of_le (hca i hi).2.1, (hca i hi).2.2.elim Or.inl (fun e => Or.inr ⟨e.1, e.2.1, fun u hu hth => ?_⟩)⟩
                    by_cases q : u = tv t + 1
                    · have := (hca i hi).2.1
                      omega
                    · have hu : u ≤ tv t := by have : u ≤ tv t + 1 := hu; omega
                      rw [zgrow_o _ _ hu] at hth
                      exact e.2.2 u hu hth
                exact ⟨rfl, h.act (t' := (zgrow t (zin4 x1 x2 x3 x4))) ht f9 (fun c k z => by unfold zXc at z; unfold zXs; omega) ((gT 123 1 (by decide)).trans (fa.2.2.2.1 123 1 (by unfold zXc; omega))) rfl rfl rfl rfl ((gT 123 29 (by decide)).trans e29) ((gT 123 31 (by decide)).trans rfl) hH9 hC9, f9.f (fun c k z => by unfold zXc at z; unfold zMX; omega)⟩
              | succ m ih =>
                intro i T hi hk hq
                have hMT := hk.ms (by exact hMa)
                have e6 : zgI T 123 6 = nI (tK t).length := (hk.2.2.2.1 123 6 (by omega)).trans ((fa.2.2.2.1 123 6 (by unfold zXc; omega)).trans (h.2.2.2.2.1 t ht).1.1.1)
                have e29T : zgI T 123 29 = nI (tv t + 1) := (hk.2.2.2.1 123 29 (by omega)).trans e29
                refine j_iload (pc := 135) dX12_insert_135 rfl ?_
                refine j_aload_n (pc := 137) dX12_insert_137 rfl ?_
                refine j_getIv (pc := 138) dX12_insert_138 f_X12_271 (Or.inl rfl) hMT.1 (e6) ?_
                refine j_icmp_ge (pc := 141) (tgt := 181) dX12_insert_141 (by decide) (fun h141 => absurd h141 (nI_ge (by omega) (by omega))) (fun h141 => ?_)
                refine j_aload_n (pc := 144) dX12_insert_144 rfl ?_
                refine j_getPv (pc := 145) dX12_insert_145 f_X12_54 (Or.inr ⟨_, rfl⟩) hMT.1 (mp_values hMT) ?_
                refine j_iconst (pc := 148) (v := 4) dX12_insert_148 (by decide) ?_
                refine j_aload_n (pc := 149) dX12_insert_149 rfl ?_
                refine j_getIv (pc := 150) dX12_insert_150 f_X12_277 (Or.inl rfl) hMT.1 (e29T) ?_
                refine j_iload (pc := 153) dX12_insert_153 rfl ?_
                refine j_callS (pc := 155) (n_rowAt (show tv t + 1 < 2 ^ 20 by omega)) dX12_insert_155 l_X12_301 mk_X12_rowAt ms_X12_rowAt (by decide) rfl rfl (Nat.le_of_ble_eq_true rfl) (Nat.le_refl _) (Nat.le_refl _) (fun r T h_1 => ?_)
                obtain ⟨rfl, rfl⟩ := h_1
                refine j_imul (pc := 158) dX12_insert_158 ?_
                rw [show (4 : Int32) * nI (64 * ((tv t + 1) % 41) + tG t) = nI (4 * (64 * ((tv t + 1) % 41) + tG t)) from pk_mul 4 _]
                refine j_iload (pc := 159) dX12_insert_159 rfl ?_
                refine j_iadd (pc := 161) dX12_insert_161 ?_
                rw [nI_add]
                refine j_aload_n (pc := 162) dX12_insert_162 rfl ?_
                refine j_iload (pc := 163) dX12_insert_163 rfl ?_
                refine j_lload_n (pc := 165) dX12_insert_165 rfl ?_
                refine j_lload_n (pc := 166) dX12_insert_166 rfl ?_
                refine j_lload (pc := 167) dX12_insert_167 rfl ?_
                refine j_lload (pc := 169) dX12_insert_169 rfl ?_
                refine j_callV (pc := 171) (t := 12) (n_offered (show i < 4 by omega) x1 x2 x3 x4) dX12_insert_171 l_X12_451 mk_X12_offered mv_X12_offered (by decide) rfl hMT.1 (by decide) rfl rfl (Nat.le_of_ble_eq_true rfl) (Nat.le_refl _) (Nat.le_refl _) (fun r T h_1 => ?_)
                obtain ⟨rfl, rfl⟩ := h_1
                refine j_lastn (pc := 174) dX12_insert_174 (mk_values hMT) (show 4 * (64 * ((tv t + 1) % 41) + tG t) + i < 10496 by omega) (Nat.le_of_ble_eq_true rfl) ?_
                refine j_iinc (pc := 175) (v := _ + 1) (ls' := [_, _, _, _, _, _, _, _, _, _, _]) dX12_insert_175 rfl rfl (by decide) rfl rfl ?_
                refine j_goto (pc := 178) (tgt := 135) dX12_insert_178 (by decide) ?_
                rw [nI_1]
                refine ih (i + 1) _ (by omega) (hk.tr (zK.wL (by omega))) (fun c hc => ?_)
                rw [zgL_wL]
                by_cases g : c = i
                · rw [if_pos ⟨rfl, by omega⟩, g]
                · rw [if_neg (by omega)]
                  exact hq c (by omega)
            exact lp2 (tK t).length 0 _ (by omega) zK.rf (fun c hc => absurd hc (Nat.not_lt_zero c))
          · refine j_aload_n (pc := 80) dX12_insert_80 rfl ?_
            refine j_iconst (pc := 81) (v := 3) dX12_insert_81 (by decide) ?_
            refine j_callV (pc := 82) (t := 12) (n_no (by exact hM) _) dX12_insert_82 l_X12_265 mk_X12_no mv_X12_no (by decide) rfl hM.1 (by decide) rfl rfl (Nat.le_of_ble_eq_true rfl) (Nat.le_refl _) (Nat.le_refl _) (fun r T h_1 => ?_)
            obtain ⟨rfl, rfl⟩ := h_1
            refine j_iret (pc := 85) dX12_insert_85 rfl ?_
            have e : q_insert s x1 x2 x3 x4 = zrf s 3 := by
              simp only [q_insert, ht]
              rw [if_neg (bnf2 (zoff_yes hq0)), if_pos (Or.inr (Nat.le_of_eq ((nI_eq (b := 64) (by omega) (by decide)).mp h77).symm))]
            rw [e]
            exact ⟨rfl, (h.no (n := 0) (by decide)).no1 (n := 3) (by decide), zNw.f.tr (zF.wI (by decide))⟩
      | succ m ih =>
        intro i hi hq0
        have hlt : i < (tK t).length := by omega
        refine j_iload (pc := 19) dX12_insert_19 rfl ?_
        refine j_aload_n (pc := 21) dX12_insert_21 rfl ?_
        refine j_getIv (pc := 22) dX12_insert_22 f_X12_271 (Or.inl rfl) hM.1 ((h.2.2.2.2.1 t ht).1.1.1) ?_
        refine j_icmp_ge (pc := 25) (tgt := 62) dX12_insert_25 (by decide) (fun h25 => absurd h25 (nI_ge (by omega) (by omega))) (fun h25 => ?_)
        refine j_aload_n (pc := 28) dX12_insert_28 rfl ?_
        refine j_iload (pc := 29) dX12_insert_29 rfl ?_
        refine j_aload_n (pc := 31) dX12_insert_31 rfl ?_
        refine j_iload (pc := 32) dX12_insert_32 rfl ?_
        refine j_lload_n (pc := 34) dX12_insert_34 rfl ?_
        refine j_lload_n (pc := 35) dX12_insert_35 rfl ?_
        refine j_lload (pc := 36) dX12_insert_36 rfl ?_
        refine j_lload (pc := 38) dX12_insert_38 rfl ?_
        refine j_callV (pc := 40) (t := 12) (n_offered (show i < 4 by omega) x1 x2 x3 x4) dX12_insert_40 l_X12_451 mk_X12_offered mv_X12_offered (by decide) rfl hM.1 (by decide) rfl rfl (Nat.le_of_ble_eq_true rfl) (Nat.le_refl _) (Nat.le_refl _) (fun r T h_1 => ?_)
        obtain ⟨rfl, rfl⟩ := h_1
        refine j_iconst (pc := 43) (v := 1) dX12_insert_43 (by decide) ?_
        refine j_callV (pc := 44) (t := 12) (n_canHave (h.no (n := 0) (by decide)) ht (gD false hlt) hv.2.2.1 _ true) dX12_insert_44 l_X12_378 mk_X12_canHave mv_X12_canHave (by decide) rfl hM.1 (by decide) rfl rfl (Nat.le_of_ble_eq_true rfl) (Nat.le_refl _) (Nat.le_refl _) (fun r T h_1 => ?_)
        obtain ⟨rfl, rfl⟩ := h_1
        refine j_if_ne (pc := 47) (tgt := 56) dX12_insert_47 (by decide) (fun h47 => ?_) (fun h47 => ?_)
        · refine j_iinc (pc := 56) (v := _ + 1) (ls' := [_, _, _, _, _, _, _, _, _, _, _]) dX12_insert_56 rfl rfl (by decide) rfl rfl ?_
          refine j_goto (pc := 59) (tgt := 19) dX12_insert_59 (by decide) ?_
          rw [nI_1]
          refine ih (i + 1) (by omega) (fun k hk => ?_)
          by_cases e : k = i
          · subst e
            have := zbi_ne0 h47
            by_cases g : (zin4 x1 x2 x3 x4) k = zMiss
            · rw [g, zch, if_pos rfl]
            · rwa [if_neg g] at this
          · exact hq0 k (by omega)
        · refine j_aload_n (pc := 50) dX12_insert_50 rfl ?_
          refine j_iconst (pc := 51) (v := 2) dX12_insert_51 (by decide) ?_
          refine j_callV (pc := 52) (t := 12) (n_no (by exact hM) _) dX12_insert_52 l_X12_265 mk_X12_no mv_X12_no (by decide) rfl hM.1 (by decide) rfl rfl (Nat.le_of_ble_eq_true rfl) (Nat.le_refl _) (Nat.le_refl _) (fun r T h_1 => ?_)
          obtain ⟨rfl, rfl⟩ := h_1
          refine j_iret (pc := 55) dX12_insert_55 rfl ?_
          have hc0 := zbi_eq0.mp h47
          have e : q_insert s x1 x2 x3 x4 = zrf s 2 := by
            simp only [q_insert, ht]
            rw [if_pos (zoff_no hlt (by
              by_cases g : (zin4 x1 x2 x3 x4) i = zMiss
              · rw [if_pos g] at hc0
                cases hc0
              · rwa [if_neg g] at hc0))]
          rw [e]
          exact ⟨rfl, (h.no (n := 0) (by decide)).no1 (n := 2) (by decide), zNw.f.tr (zF.wI (by decide))⟩
    exact lp (tK t).length 0 (by omega) (fun k hk => absurd hk (Nat.not_lt_zero k))
