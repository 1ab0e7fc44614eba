set_option maxRecDepth 20000 in
set_option maxHeartbeats 4000000 in
theorem p_sieve {E : zE} {S : zM} {s : zST} {n : Nat} (h : zCI S s) (hw : zWF n s) (c hw0 : Int32) (v : Int64) : zSp E 2 0 0 mX11_sieve cX11_sieve [zR 1, zI c, zI hw0, zL v] S (fun r T => r = some (zI (q_sieve s c hw0 v).1) ∧ zCI T (q_sieve s c hw0 v).2 ∧ zQF S T) := by
  refine zSp.of (by decide) rfl (Nat.le_of_ble_eq_true rfl) rfl ?_
  obtain ⟨h0, hF, hG4, hi, hV, hP, hR, hT⟩ := _root_.id h
  have k1 := h0.1
  cases hz : zcol s c with
  | false =>
    have e : q_sieve s c hw0 v = zrf s 1 := by
      unfold q_sieve
      split
      · rfl
      · rename_i t ht
        rw [zcol_s ht] at hz
        rw [if_pos hz]
    refine j_aload_n (pc := 0) dX11_sieve_0 rfl ?_
    refine j_iload_n (pc := 1) dX11_sieve_1 rfl ?_
    refine j_callV (pc := 2) (t := 11) (c_isColumn h c) dX11_sieve_2 l_X11_135 mk_X11_isColumn mv_X11_isColumn (by decide) rfl (by assumption) (by decide) rfl rfl (Nat.le_of_ble_eq_true rfl) (Nat.le_refl _) (Nat.le_refl _) (fun r T h_1 => ?_)
    obtain ⟨rfl, rfl⟩ := h_1
    rw [hz]
    refine j_if_ne (pc := 5) (tgt := 14) dX11_sieve_5 (by decide) (fun h5 => absurd rfl h5) (fun h5 => ?_)
    refine j_aload_n (pc := 8) dX11_sieve_8 rfl ?_
    refine j_iconst (pc := 9) (v := 1) dX11_sieve_9 (by decide) ?_
    refine j_callV (pc := 10) (t := 11) (c_refused k1 _) dX11_sieve_10 l_X11_68 mk_X11_refused mv_X11_refused (by decide) rfl (by assumption) (by decide) rfl rfl (Nat.le_of_ble_eq_true rfl) (Nat.le_refl _) (Nat.le_refl _) (fun r T h_1 => ?_)
    obtain ⟨rfl, rfl⟩ := h_1
    refine j_iret (pc := 13) dX11_sieve_13 rfl ?_
    exact q_ref h zQF.rf e
  | true =>
    obtain ⟨t, jc, ht, hjc, rfl, hK4⟩ := zcol_t hw hz
    rw [ht] at hT
    obtain ⟨a, p5, a161, ag, hTt, hVI⟩ := hT
    obtain ⟨ka, q2, q3, q4, q5, q6, q1, i7, i8⟩ := hTt.d
    have k6 : zkd S 6 = (11, 0) := by obtain ⟨q, t0, g, h1, h2⟩ := hV.1; exact h1.1.1
    obtain ⟨so, si, sc, ol, hTA, hHi⟩ := hTt
    have hOr := hTA.2.2.1
    have hSv := hTA.2.2.2.1
    have hRo := hTA.2.2.2.2.1
    have hAc := hTA.2.2.2.2.2.1
    have kor := hOr.1.1
    have ksv := hSv.1.1
    have kro := hRo.1
    have kac := hAc.1.1
    have iv := hAc.2.2.1
    have hn : n ≤ 600 := Nat.le_of_lt hw.1
    have hwT := hw.2.2.2
    rw [ht] at hwT
    obtain ⟨hWt, hWp, hWr⟩ := hwT
    have ht600 := hWt.2.2.2.2.2.1.2
    have hzc := zcol_s ht (nI jc)
    rw [hz] at hzc
    have hcc : (nI jc).toNatClampNeg = jc := nI_clamp (by omega)
    have hKb := gD false hjc
    have kk := hTA.1.1.2.1
    have hV2' := hSv.2.2.2.1
    refine j_aload_n (pc := 0) dX11_sieve_0 rfl ?_
    refine j_iload_n (pc := 1) dX11_sieve_1 rfl ?_
    refine j_callV (pc := 2) (t := 11) (c_isColumn h _) dX11_sieve_2 l_X11_135 mk_X11_isColumn mv_X11_isColumn (by decide) rfl (by assumption) (by decide) rfl rfl (Nat.le_of_ble_eq_true rfl) (Nat.le_refl _) (Nat.le_refl _) (fun r T h_1 => ?_)
    obtain ⟨rfl, rfl⟩ := h_1
    rw [hz]
    refine j_if_ne (pc := 5) (tgt := 14) dX11_sieve_5 (by decide) (fun h5 => ?_) (fun h5 => absurd h5 (by decide))
    refine j_iload_n (pc := 14) dX11_sieve_14 rfl ?_
    refine j_if_lt (pc := 15) (tgt := 23) dX11_sieve_15 (by decide) (fun h15 => ?_) (fun h15 => ?_)
    · refine j_aload_n (pc := 23) dX11_sieve_23 rfl ?_
      refine j_iconst (pc := 24) (v := 2) dX11_sieve_24 (by decide) ?_
      refine j_callV (pc := 25) (t := 11) (c_refused k1 _) dX11_sieve_25 l_X11_68 mk_X11_refused mv_X11_refused (by decide) rfl (by assumption) (by decide) rfl rfl (Nat.le_of_ble_eq_true rfl) (Nat.le_refl _) (Nat.le_refl _) (fun r T h_1 => ?_)
      obtain ⟨rfl, rfl⟩ := h_1
      refine j_iret (pc := 28) dX11_sieve_28 rfl ?_
      exact q_ref h zQF.rf (by simp only [q_sieve, ht]; rw [if_neg (bnf2 hzc.symm), if_pos (Or.inl (zcl2_f1 h15))])
    · refine j_iload_n (pc := 18) dX11_sieve_18 rfl ?_
      refine j_iconst (pc := 19) (v := 4) dX11_sieve_19 (by decide) ?_
      refine j_icmp_le (pc := 20) (tgt := 29) dX11_sieve_20 (by decide) (fun h20 => ?_) (fun h20 => ?_)
      · have hh5 : zcl2 5 hw0 = true := decide_eq_true (p := ¬ hw0 < 0 ∧ ¬ nI 5 ≤ hw0) ⟨h15, Int32.not_le.mpr (Int32.lt_of_le_of_lt h20 (by decide))⟩
        obtain ⟨kh, hk5, rfl⟩ := zcl2_t (by decide) hh5
        have hch : (nI kh).toNatClampNeg = kh := nI_clamp (by omega)
        refine j_iload_n (pc := 29) dX11_sieve_29 rfl ?_
        refine j_iconst (pc := 30) (v := 3) dX11_sieve_30 (by decide) ?_
        refine j_icmp_ge (pc := 31) (tgt := 60) dX11_sieve_31 (by decide) (fun h31 => ?_) (fun h31 => ?_)
        · have hgo : ¬ (zcl2 5 (nI kh) = false ∨ (nI kh < 3 ∧ (v = zMiss ∨ zch ((tK t).getD (zn (nI jc)) false) v = false))) := fun g => g.elim (bnf2 hh5) (fun g => absurd g.1 (Int32.not_lt.mpr h31))
          refine j_aload_n (pc := 60) dX11_sieve_60 rfl ?_
          refine j_getPv (pc := 61) dX11_sieve_61 f_X11_44 (Or.inl ⟨_, rfl⟩) (by assumption) (p5) ?_
          refine j_getPv (pc := 64) dX11_sieve_64 f_X11_294 (Or.inl ⟨_, rfl⟩) (by assumption) (q3) ?_
          refine j_getIv (pc := 67) dX11_sieve_67 f_X11_298 (Or.inl rfl) (by assumption) (hSv.2.2.1) ?_
          refine j_iconst (pc := 70) (v := 2) dX11_sieve_70 (by decide) ?_
          refine j_icmp_lt (pc := 71) (tgt := 80) dX11_sieve_71 (by decide) (fun h71 => ?_) (fun h71 => ?_)
          · have hV2 : (tV t).length < 2 := (nI_ltI (b := 2) (by have := hSv.2.2.2.1; omega) (by decide)).mp h71
            refine j_aload_n (pc := 80) dX11_sieve_80 rfl ?_
            refine j_getPv (pc := 81) dX11_sieve_81 f_X11_44 (Or.inl ⟨_, rfl⟩) (by assumption) (p5) ?_
            refine j_getPv (pc := 84) dX11_sieve_84 f_X11_294 (Or.inl ⟨_, rfl⟩) (by assumption) (q3) ?_
            refine j_iload_n (pc := 87) dX11_sieve_87 rfl ?_
            refine j_aload_n (pc := 88) dX11_sieve_88 rfl ?_
            refine j_getPv (pc := 89) dX11_sieve_89 f_X11_44 (Or.inl ⟨_, rfl⟩) (by assumption) (p5) ?_
            refine j_getPv (pc := 92) dX11_sieve_92 f_X11_138 (Or.inr ⟨_, rfl⟩) (by assumption) (q1) ?_
            refine j_iload_n (pc := 95) dX11_sieve_95 rfl ?_
            refine j_ialdn (pc := 96) dX11_sieve_96 kk (by omega) (by decide) (hTA.1.2.2.2 jc _ (gD false hjc)) ?_
            refine j_iload_n (pc := 97) dX11_sieve_97 rfl ?_
            refine j_lload_n (pc := 98) dX11_sieve_98 rfl ?_
            refine j_callV (pc := 99) (t := 8) (c_sadd (e := (jc, (tK t).getD jc false, kh, v)) hSv (by omega) hk5 hV2) dX11_sieve_99 l_X11_299 mk_X8_add mv_X8_add (by decide) rfl (by assumption) (by decide) rfl rfl (Nat.le_of_ble_eq_true rfl) (Nat.le_refl _) (Nat.le_refl _) (fun r Ty h_1 => ?_)
            obtain ⟨rfl, hSv0, f0⟩ := h_1
            have ft : zF (fun c => a + 3 ≤ c ∧ c < a + 13) S Ty := f0.mo (fun c z => by unfold zX5 at z; omega)
            have hTA0 := hTA.sv ft (hOr.ag (fun k hk => f0.ag (by unfold zX5; omega))) hSv0
            have h00 : zC0 Ty := h0.ag (ft.ag (by omega)) (ft.ag (by omega)) (Nat.le_of_eq ft.2.1.symm)
            have hR0 : ∀ r, r < 4 → zCr Ty (103 + 5 * r) (sR s r) := fun r hr => (hR r hr).ag (fun k hk => ft.ag (by omega))
            have p50 : zgP Ty 1 5 = a := by rw [ft.2.2.1]; exact p5
            have k10 := h00.1
            refine j_aload_n (pc := 102) dX11_sieve_102 rfl ?_
            refine j_callV (pc := 103) (t := 11) (c_turned h00 hR0 p50 a161 hTA0 (by omega)) dX11_sieve_103 l_X11_287 mk_X11_turned mv_X11_turned (by decide) rfl (by assumption) (by decide) rfl rfl (Nat.le_of_ble_eq_true rfl) (Nat.le_refl _) (Nat.le_refl _) (fun r Tz h_1 => ?_)
            obtain ⟨rfl, hTA1, hR1, f1⟩ := h_1
            have fz : zF (fun c => (a ≤ c ∧ c ≤ a + 21) ∨ zXR c) S Tz := (ft.mo (fun c z => Or.inl (by omega))).tr (f1.mo (fun c z => z.elim (fun e => Or.inl (by omega)) Or.inr))
            have hTt' : zTt Tz a (tK t, tO t, tV t ++ [(jc, (tK t).getD jc false, kh, v)], tH t, tG t, tv t, tn t + 1, tc t) := ⟨so, si, sc, ol, hTA1, hHi⟩
            have h2 := h.tab (R' := fun _ => none) ht p5 fz hTt' (fun g => g.turned (fun c z1 z2 => fz.ag (by unfold zXR; omega)) rfl rfl) hR1
            have k12 := h2.1.1
            have p52 : zgP Tz 1 5 = a := by rw [fz.2.2.1]; exact p5
            have ka2 := hTA1.1.1.1
            have ksv2 := hTA1.2.2.2.1.1.1
            have q32 := hTA1.2.1.2.1
            refine j_aload_n (pc := 106) dX11_sieve_106 rfl ?_
            refine j_aload_n (pc := 107) dX11_sieve_107 rfl ?_
            refine j_getPv (pc := 108) dX11_sieve_108 f_X11_44 (Or.inl ⟨_, rfl⟩) (by assumption) (p52) ?_
            refine j_getPv (pc := 111) dX11_sieve_111 f_X11_294 (Or.inl ⟨_, rfl⟩) (by assumption) (q32) ?_
            refine j_getIv (pc := 114) dX11_sieve_114 f_X11_298 (Or.inl rfl) (by assumption) (hTA1.2.2.2.1.2.2.1) ?_
            refine j_callV (pc := 117) (t := 11) (c_answered k12 _) dX11_sieve_117 l_X11_103 mk_X11_answered mv_X11_answered (by decide) rfl (by assumption) (by decide) rfl rfl (Nat.le_of_ble_eq_true rfl) (Nat.le_refl _) (Nat.le_refl _) (fun r T h_1 => ?_)
            obtain ⟨rfl, rfl⟩ := h_1
            refine j_iret (pc := 120) dX11_sieve_120 rfl ?_
            have ez : q_sieve s (nI jc) (nI kh) v = (nI ((tV t).length + 1), zturn s t (tO t) (tV t ++ [(jc, (tK t).getD jc false, kh, v)])) := by
              simp only [q_sieve, ht]
              rw [if_neg (bnf2 hzc.symm), if_neg hgo, if_neg (by omega)]
              simp only [zn, hcc, hch]
            rw [ez]
            exact ⟨by rw [List.length_append]; rfl, h2.no 0, (fz.tabq a161).tr zQF.w1⟩
          · refine j_aload_n (pc := 74) dX11_sieve_74 rfl ?_
            refine j_iconst (pc := 75) (v := 3) dX11_sieve_75 (by decide) ?_
            refine j_callV (pc := 76) (t := 11) (c_refused k1 _) dX11_sieve_76 l_X11_68 mk_X11_refused mv_X11_refused (by decide) rfl (by assumption) (by decide) rfl rfl (Nat.le_of_ble_eq_true rfl) (Nat.le_refl _) (Nat.le_refl _) (fun r T h_1 => ?_)
            obtain ⟨rfl, rfl⟩ := h_1
            refine j_iret (pc := 79) dX11_sieve_79 rfl ?_
            exact q_ref h zQF.rf (by simp only [q_sieve, ht]; rw [if_neg (bnf2 hzc.symm), if_neg hgo, if_pos (Nat.le_of_not_lt (fun g => h71 ((nI_ltI (b := 2) (by omega) (by decide)).mpr g)))])
        · refine j_lload_n (pc := 34) dX11_sieve_34 rfl ?_
          refine j_ldcL (pc := 35) dX11_sieve_35 k_X11_292 ?_
          refine j_lcmp (pc := 38) dX11_sieve_38 ?_
          refine j_if_eq (pc := 39) (tgt := 54) dX11_sieve_39 (by decide) (fun h39 => ?_) (fun h39 => ?_)
          · refine j_aload_n (pc := 54) dX11_sieve_54 rfl ?_
            refine j_iconst (pc := 55) (v := 2) dX11_sieve_55 (by decide) ?_
            refine j_callV (pc := 56) (t := 11) (c_refused k1 _) dX11_sieve_56 l_X11_68 mk_X11_refused mv_X11_refused (by decide) rfl (by assumption) (by decide) rfl rfl (Nat.le_of_ble_eq_true rfl) (Nat.le_refl _) (Nat.le_refl _) (fun r T h_1 => ?_)
            obtain ⟨rfl, rfl⟩ := h_1
            refine j_iret (pc := 59) dX11_sieve_59 rfl ?_
            exact q_ref h zQF.rf (by simp only [q_sieve, ht]; rw [if_neg (bnf2 hzc.symm), if_pos (Or.inr ⟨Int32.not_le.mp h31, Or.inl ((lg_cmp_eq _ _).mp h39)⟩)])
          · refine j_aload_n (pc := 42) dX11_sieve_42 rfl ?_
            refine j_getPv (pc := 43) dX11_sieve_43 f_X11_44 (Or.inl ⟨_, rfl⟩) (by assumption) (p5) ?_
            refine j_iload_n (pc := 46) dX11_sieve_46 rfl ?_
            refine j_lload_n (pc := 47) dX11_sieve_47 rfl ?_
            refine j_callV (pc := 48) (t := 9) (c_canHold hTA.1 hKb v) dX11_sieve_48 l_X11_209 mk_X9_canHold mv_X9_canHold (by decide) rfl (by assumption) (by decide) rfl rfl (Nat.le_of_ble_eq_true rfl) (Nat.le_refl _) (Nat.le_refl _) (fun r T h_1 => ?_)
            obtain ⟨rfl, rfl⟩ := h_1
            refine j_if_ne (pc := 51) (tgt := 60) dX11_sieve_51 (by decide) (fun h51 => ?_) (fun h51 => ?_)
            · have hgo : ¬ (zcl2 5 (nI kh) = false ∨ (nI kh < 3 ∧ (v = zMiss ∨ zch ((tK t).getD (zn (nI jc)) false) v = false))) := by
                rintro (g | ⟨-, g | g⟩)
                · exact bnf2 hh5 g
                · exact h39 ((lg_cmp_eq _ _).mpr g)
                · rw [zn, hcc] at g
                  exact bnf2 (zbi_ne0 h51) g
              refine j_aload_n (pc := 60) dX11_sieve_60 rfl ?_
              refine j_getPv (pc := 61) dX11_sieve_61 f_X11_44 (Or.inl ⟨_, rfl⟩) (by assumption) (p5) ?_
              refine j_getPv (pc := 64) dX11_sieve_64 f_X11_294 (Or.inl ⟨_, rfl⟩) (by assumption) (q3) ?_
              refine j_getIv (pc := 67) dX11_sieve_67 f_X11_298 (Or.inl rfl) (by assumption) (hSv.2.2.1) ?_
              refine j_iconst (pc := 70) (v := 2) dX11_sieve_70 (by decide) ?_
              refine j_icmp_lt (pc := 71) (tgt := 80) dX11_sieve_71 (by decide) (fun h71 => ?_) (fun h71 => ?_)
              · have hV2 : (tV t).length < 2 := (nI_ltI (b := 2) (by have := hSv.2.2.2.1; omega) (by decide)).mp h71
                refine j_aload_n (pc := 80) dX11_sieve_80 rfl ?_
                refine j_getPv (pc := 81) dX11_sieve_81 f_X11_44 (Or.inl ⟨_, rfl⟩) (by assumption) (p5) ?_
                refine j_getPv (pc := 84) dX11_sieve_84 f_X11_294 (Or.inl ⟨_, rfl⟩) (by assumption) (q3) ?_
                refine j_iload_n (pc := 87) dX11_sieve_87 rfl ?_
                refine j_aload_n (pc := 88) dX11_sieve_88 rfl ?_
                refine j_getPv (pc := 89) dX11_sieve_89 f_X11_44 (Or.inl ⟨_, rfl⟩) (by assumption) (p5) ?_
                refine j_getPv (pc := 92) dX11_sieve_92 f_X11_138 (Or.inr ⟨_, rfl⟩) (by assumption) (q1) ?_
                refine j_iload_n (pc := 95) dX11_sieve_95 rfl ?_
                refine j_ialdn (pc := 96) dX11_sieve_96 kk (by omega) (by decide) (hTA.1.2.2.2 jc _ (gD false hjc)) ?_
                refine j_iload_n (pc := 97) dX11_sieve_97 rfl ?_
                refine j_lload_n (pc := 98) dX11_sieve_98 rfl ?_
                refine j_callV (pc := 99) (t := 8) (c_sadd (e := (jc, (tK t).getD jc false, kh, v)) hSv (by omega) hk5 hV2) dX11_sieve_99 l_X11_299 mk_X8_add mv_X8_add (by decide) rfl (by assumption) (by decide) rfl rfl (Nat.le_of_ble_eq_true rfl) (Nat.le_refl _) (Nat.le_refl _) (fun r Ty h_1 => ?_)
                obtain ⟨rfl, hSv0, f0⟩ := h_1
                have ft : zF (fun c => a + 3 ≤ c ∧ c < a + 13) S Ty := f0.mo (fun c z => by unfold zX5 at z; omega)
                have hTA0 := hTA.sv ft (hOr.ag (fun k hk => f0.ag (by unfold zX5; omega))) hSv0
                have h00 : zC0 Ty := h0.ag (ft.ag (by omega)) (ft.ag (by omega)) (Nat.le_of_eq ft.2.1.symm)
                have hR0 : ∀ r, r < 4 → zCr Ty (103 + 5 * r) (sR s r) := fun r hr => (hR r hr).ag (fun k hk => ft.ag (by omega))
                have p50 : zgP Ty 1 5 = a := by rw [ft.2.2.1]; exact p5
                have k10 := h00.1
                refine j_aload_n (pc := 102) dX11_sieve_102 rfl ?_
                refine j_callV (pc := 103) (t := 11) (c_turned h00 hR0 p50 a161 hTA0 (by omega)) dX11_sieve_103 l_X11_287 mk_X11_turned mv_X11_turned (by decide) rfl (by assumption) (by decide) rfl rfl (Nat.le_of_ble_eq_true rfl) (Nat.le_refl _) (Nat.le_refl _) (fun r Tz h_1 => ?_)
                obtain ⟨rfl, hTA1, hR1, f1⟩ := h_1
                have fz : zF (fun c => (a ≤ c ∧ c ≤ a + 21) ∨ zXR c) S Tz := (ft.mo (fun c z => Or.inl (by omega))).tr (f1.mo (fun c z => z.elim (fun e => Or.inl (by omega)) Or.inr))
                have hTt' : zTt Tz a (tK t, tO t, tV t ++ [(jc, (tK t).getD jc false, kh, v)], tH t, tG t, tv t, tn t + 1, tc t) := ⟨so, si, sc, ol, hTA1, hHi⟩
                have h2 := h.tab (R' := fun _ => none) ht p5 fz hTt' (fun g => g.turned (fun c z1 z2 => fz.ag (by unfold zXR; omega)) rfl rfl) hR1
                have k12 := h2.1.1
                have p52 : zgP Tz 1 5 = a := by rw [fz.2.2.1]; exact p5
                have ka2 := hTA1.1.1.1
                have ksv2 := hTA1.2.2.2.1.1.1
                have q32 := hTA1.2.1.2.1
                refine j_aload_n (pc := 106) dX11_sieve_106 rfl ?_
                refine j_aload_n (pc := 107) dX11_sieve_107 rfl ?_
                refine j_getPv (pc := 108) dX11_sieve_108 f_X11_44 (Or.inl ⟨_, rfl⟩) (by assumption) (p52) ?_
                refine j_getPv (pc := 111) dX11_sieve_111 f_X11_294 (Or.inl ⟨_, rfl⟩) (by assumption) (q32) ?_
                refine j_getIv (pc := 114) dX11_sieve_114 f_X11_298 (Or.inl rfl) (by assumption) (hTA1.2.2.2.1.2.2.1) ?_
                refine j_callV (pc := 117) (t := 11) (c_answered k12 _) dX11_sieve_117 l_X11_103 mk_X11_answered mv_X11_answered (by decide) rfl (by assumption) (by decide) rfl rfl (Nat.le_of_ble_eq_true rfl) (Nat.le_refl _) (Nat.le_refl _) (fun r T h_1 => ?_)
                obtain ⟨rfl, rfl⟩ := h_1
                refine j_iret (pc := 120) dX11_sieve_120 rfl ?_
                have ez : q_sieve s (nI jc) (nI kh) v = (nI ((tV t).length + 1), zturn s t (tO t) (tV t ++ [(jc, (tK t).getD jc false, kh, v)])) := by
                  simp only [q_sieve, ht]
                  rw [if_neg (bnf2 hzc.symm), if_neg hgo, if_neg (by omega)]
                  simp only [zn, hcc, hch]
                rw [ez]
                exact ⟨by rw [List.length_append]; rfl, h2.no 0, (fz.tabq a161).tr zQF.w1⟩
              · refine j_aload_n (pc := 74) dX11_sieve_74 rfl ?_
                refine j_iconst (pc := 75) (v := 3) dX11_sieve_75 (by decide) ?_
                refine j_callV (pc := 76) (t := 11) (c_refused k1 _) dX11_sieve_76 l_X11_68 mk_X11_refused mv_X11_refused (by decide) rfl (by assumption) (by decide) rfl rfl (Nat.le_of_ble_eq_true rfl) (Nat.le_refl _) (Nat.le_refl _) (fun r T h_1 => ?_)
                obtain ⟨rfl, rfl⟩ := h_1
                refine j_iret (pc := 79) dX11_sieve_79 rfl ?_
                exact q_ref h zQF.rf (by simp only [q_sieve, ht]; rw [if_neg (bnf2 hzc.symm), if_neg hgo, if_pos (Nat.le_of_not_lt (fun g => h71 ((nI_ltI (b := 2) (by omega) (by decide)).mpr g)))])
            · refine j_aload_n (pc := 54) dX11_sieve_54 rfl ?_
              refine j_iconst (pc := 55) (v := 2) dX11_sieve_55 (by decide) ?_
              refine j_callV (pc := 56) (t := 11) (c_refused k1 _) dX11_sieve_56 l_X11_68 mk_X11_refused mv_X11_refused (by decide) rfl (by assumption) (by decide) rfl rfl (Nat.le_of_ble_eq_true rfl) (Nat.le_refl _) (Nat.le_refl _) (fun r T h_1 => ?_)
              obtain ⟨rfl, rfl⟩ := h_1
              refine j_iret (pc := 59) dX11_sieve_59 rfl ?_
              exact q_ref h zQF.rf (by simp only [q_sieve, ht]; rw [if_neg (bnf2 hzc.symm), if_pos (Or.inr ⟨Int32.not_le.mp h31, Or.inr (by rw [zn, hcc]; exact zbi_eq0.mp h51)⟩)])
      · refine j_aload_n (pc := 23) dX11_sieve_23 rfl ?_
        refine j_iconst (pc := 24) (v := 2) dX11_sieve_24 (by decide) ?_
        refine j_callV (pc := 25) (t := 11) (c_refused k1 _) dX11_sieve_25 l_X11_68 mk_X11_refused mv_X11_refused (by decide) rfl (by assumption) (by decide) rfl rfl (Nat.le_of_ble_eq_true rfl) (Nat.le_refl _) (Nat.le_refl _) (fun r T h_1 => ?_)
        obtain ⟨rfl, rfl⟩ := h_1
        refine j_iret (pc := 28) dX11_sieve_28 rfl ?_
        exact q_ref h zQF.rf (by simp only [q_sieve, ht]; rw [if_neg (bnf2 hzc.symm), if_pos (Or.inl (zcl2_f2 (m := 5) (by rcases pk_ix hw0 (n := 5) (by decide) with g | g | ⟨k, hk, rfl⟩; exact absurd g h15; exact g; exact absurd (nI_le (b := 4) (by omega) (by decide)) h20)))])
