theorem nI_3 {q : Bool} {a b : Nat} : nI (if q then a else b) = if q then nI a else nI b := by cases q <;> rfl
theorem zsub_le {a b k : Nat} (h : b ≤ a) (ha : a < 2 ^ 31) (hk : k < 2 ^ 31) : nI a - nI b ≤ nI k ↔ a - b ≤ k := by
  rw [pk_sub h, zle_nI (by omega) hk]
set_option maxRecDepth 20000 in
set_option maxHeartbeats 4000000 in
theorem c_takeLetters {E : zE} {S : zM} {x tp tp2 cap : Nat} {F : List Nat} {n ps0 so sr : Nat} {co0 : Int64} (h0 : zLx S x tp tp2 cap F n ps0 so sr co0) (hps0 : ps0 ≤ n) (hsr0 : sr ≤ ps0) : zSp E 1 0 0 mX2_takeLetters cX2_takeLetters [zR x] S (fun r T => r = none ∧ zF (fun c => c = x) S T ∧ zLx T x tp tp2 cap F n (zrun zlet (F.take n) ps0) (if zrun zlet (F.take n) ps0 - sr ≤ 6 then 1 else 4) sr (zfo zcw zlet co0 (F.take n) ps0)) := by
  refine zSp.of (by decide) rfl (Nat.le_of_ble_eq_true rfl) rfl ?_
  have lp : ∀ (m ps : Nat) (co : Int64) (T : zM), ps + m = n → zF (fun c => c = x) S T → zLx T x tp tp2 cap F n ps so sr co → sr ≤ ps → zrun zlet (F.take n) ps0 = zrun zlet (F.take n) ps → zfo zcw zlet co0 (F.take n) ps0 = zfo zcw zlet co (F.take n) ps → zJ E 1 0 0 mX2_takeLetters cX2_takeLetters 0 [some (zR x)] [] T (fun r T => r = none ∧ zF (fun c => c = x) S T ∧ zLx T x tp tp2 cap F n (zrun zlet (F.take n) ps0) (if zrun zlet (F.take n) ps0 - sr ≤ 6 then 1 else 4) sr (zfo zcw zlet co0 (F.take n) ps0)) := by
    intro m
    induction m with
    | zero =>
      intro ps co T hm hF h hsr hr hf
      have k1 := h.1
      have kt := h.2.2.1.1
      have hp := h.2.1
      have e1 := h.2.2.2.2.1
      have e2 := h.2.2.2.2.2.1
      have e4 := h.2.2.2.2.2.2.2.1
      have e5 := h.2.2.2.2.2.2.2.2
      obtain ⟨hX, hn31⟩ := h.ln
      refine j_aload_n (pc := 0) dX2_takeLetters_0 rfl ?_
      refine j_getI (pc := 1) dX2_takeLetters_1 f_X2_19 (Or.inl rfl) (by assumption) ?_
      rw [e2]
      refine j_aload_n (pc := 4) dX2_takeLetters_4 rfl ?_
      refine j_getI (pc := 5) dX2_takeLetters_5 f_X2_15 (Or.inl rfl) (by assumption) ?_
      rw [e1]
      refine j_icmp_ge (pc := 8) (tgt := 65) dX2_takeLetters_8 (by decide) (fun h8 => ?_) (fun h8 => ?_)
      · refine j_aload_n (pc := 65) dX2_takeLetters_65 rfl ?_
        refine j_aload_n (pc := 66) dX2_takeLetters_66 rfl ?_
        refine j_getI (pc := 67) dX2_takeLetters_67 f_X2_19 (Or.inl rfl) (by assumption) ?_
        rw [e2]
        refine j_aload_n (pc := 70) dX2_takeLetters_70 rfl ?_
        refine j_getI (pc := 71) dX2_takeLetters_71 f_X2_25 (Or.inl rfl) (by assumption) ?_
        rw [e4]
        refine j_isub (pc := 74) dX2_takeLetters_74 ?_
        refine j_bipush (pc := 75) (v := 6) dX2_takeLetters_75 (by decide) ?_
        refine j_icmp_gt (pc := 77) (tgt := 84) dX2_takeLetters_77 (by decide) (fun h77 => ?_) (fun h77 => ?_)
        · refine j_iconst (pc := 84) (v := 4) dX2_takeLetters_84 (by decide) ?_
          refine j_putI (pc := 85) dX2_takeLetters_85 f_X2_22 rfl (by assumption) rfl ?_
          refine j_vret (pc := 88) dX2_takeLetters_88 rfl ?_
          refine ⟨rfl, hF.tr (zF.wI rfl), ?_⟩
          rw [hr, hf, show zrun zlet (F.take n) ps = ps from zrun_E (by omega), show zfo zcw zlet co (F.take n) ps = co from zfo_E (by omega)]
          rw [if_neg (fun z => Int32.not_le.mpr h77 ((zsub_le (k := 6) hsr (by omega) (by decide)).mpr z))]
          exact h.w3 _
        · refine j_iconst (pc := 80) (v := 1) dX2_takeLetters_80 (by decide) ?_
          refine j_goto (pc := 81) (tgt := 85) dX2_takeLetters_81 (by decide) ?_
          refine j_putI (pc := 85) dX2_takeLetters_85 f_X2_22 rfl (by assumption) rfl ?_
          refine j_vret (pc := 88) dX2_takeLetters_88 rfl ?_
          refine ⟨rfl, hF.tr (zF.wI rfl), ?_⟩
          rw [hr, hf, show zrun zlet (F.take n) ps = ps from zrun_E (by omega), show zfo zcw zlet co (F.take n) ps = co from zfo_E (by omega)]
          rw [if_pos ((zsub_le (k := 6) hsr (by omega) (by decide)).mp (Int32.not_lt.mp h77))]
          exact h.w3 _
      · exact absurd (nI_le (by omega) (by omega)) h8
    | succ m ih =>
      intro ps co T hm hF h hsr hr hf
      have k1 := h.1
      have kt := h.2.2.1.1
      have hp := h.2.1
      have e1 := h.2.2.2.2.1
      have e2 := h.2.2.2.2.2.1
      have e4 := h.2.2.2.2.2.2.2.1
      have e5 := h.2.2.2.2.2.2.2.2
      obtain ⟨hX, hn31⟩ := h.ln
      obtain ⟨b, hxb, hgb, hb256⟩ := h.at (i := ps) (by omega)
      have hbb := zbi_01 (zlet b)
      refine j_aload_n (pc := 0) dX2_takeLetters_0 rfl ?_
      refine j_getI (pc := 1) dX2_takeLetters_1 f_X2_19 (Or.inl rfl) (by assumption) ?_
      rw [e2]
      refine j_aload_n (pc := 4) dX2_takeLetters_4 rfl ?_
      refine j_getI (pc := 5) dX2_takeLetters_5 f_X2_15 (Or.inl rfl) (by assumption) ?_
      rw [e1]
      refine j_icmp_ge (pc := 8) (tgt := 65) dX2_takeLetters_8 (by decide) (fun h8 => ?_) (fun h8 => ?_)
      · refine j_aload_n (pc := 65) dX2_takeLetters_65 rfl ?_
        refine j_aload_n (pc := 66) dX2_takeLetters_66 rfl ?_
        refine j_getI (pc := 67) dX2_takeLetters_67 f_X2_19 (Or.inl rfl) (by assumption) ?_
        rw [e2]
        refine j_aload_n (pc := 70) dX2_takeLetters_70 rfl ?_
        refine j_getI (pc := 71) dX2_takeLetters_71 f_X2_25 (Or.inl rfl) (by assumption) ?_
        rw [e4]
        refine j_isub (pc := 74) dX2_takeLetters_74 ?_
        refine j_bipush (pc := 75) (v := 6) dX2_takeLetters_75 (by decide) ?_
        refine j_icmp_gt (pc := 77) (tgt := 84) dX2_takeLetters_77 (by decide) (fun h77 => ?_) (fun h77 => ?_)
        · refine j_iconst (pc := 84) (v := 4) dX2_takeLetters_84 (by decide) ?_
          refine j_putI (pc := 85) dX2_takeLetters_85 f_X2_22 rfl (by assumption) rfl ?_
          refine j_vret (pc := 88) dX2_takeLetters_88 rfl ?_
          exact absurd h8 (nI_ge (by omega) (by omega))
        · refine j_iconst (pc := 80) (v := 1) dX2_takeLetters_80 (by decide) ?_
          refine j_goto (pc := 81) (tgt := 85) dX2_takeLetters_81 (by decide) ?_
          refine j_putI (pc := 85) dX2_takeLetters_85 f_X2_22 rfl (by assumption) rfl ?_
          refine j_vret (pc := 88) dX2_takeLetters_88 rfl ?_
          exact absurd h8 (nI_ge (by omega) (by omega))
      · refine j_aload_n (pc := 11) dX2_takeLetters_11 rfl ?_
        refine j_getP (pc := 12) dX2_takeLetters_12 f_X2_9 (Or.inl ⟨_, rfl⟩) (by assumption) ?_
        rw [hp]
        refine j_aload_n (pc := 15) dX2_takeLetters_15 rfl ?_
        refine j_getI (pc := 16) dX2_takeLetters_16 f_X2_19 (Or.inl rfl) (by assumption) ?_
        rw [e2]
        refine j_callV (pc := 19) (t := 1) (c_get h.2.2.1 _) dX2_takeLetters_19 l_X2_32 mk_X1_get mv_X1_get (by decide) rfl (by assumption) (by decide) rfl rfl (Nat.le_of_ble_eq_true rfl) (Nat.le_refl _) (Nat.le_refl _) (fun r T h_1 => ?_)
        obtain ⟨rfl, rfl⟩ := h_1
        rw [hgb]
        refine j_callS (pc := 22) (c_isLetter hb256) dX2_takeLetters_22 l_X2_38 mk_X2_isLetter ms_X2_isLetter (by decide) rfl rfl (Nat.le_of_ble_eq_true rfl) (Nat.le_refl _) (Nat.le_refl _) (fun r T h_1 => ?_)
        obtain ⟨rfl, rfl⟩ := h_1
        refine j_if_eq (pc := 25) (tgt := 65) dX2_takeLetters_25 (by decide) (fun h25 => ?_) (fun h25 => ?_)
        · refine j_aload_n (pc := 65) dX2_takeLetters_65 rfl ?_
          refine j_aload_n (pc := 66) dX2_takeLetters_66 rfl ?_
          refine j_getI (pc := 67) dX2_takeLetters_67 f_X2_19 (Or.inl rfl) (by assumption) ?_
          rw [e2]
          refine j_aload_n (pc := 70) dX2_takeLetters_70 rfl ?_
          refine j_getI (pc := 71) dX2_takeLetters_71 f_X2_25 (Or.inl rfl) (by assumption) ?_
          rw [e4]
          refine j_isub (pc := 74) dX2_takeLetters_74 ?_
          refine j_bipush (pc := 75) (v := 6) dX2_takeLetters_75 (by decide) ?_
          refine j_icmp_gt (pc := 77) (tgt := 84) dX2_takeLetters_77 (by decide) (fun h77 => ?_) (fun h77 => ?_)
          · refine j_iconst (pc := 84) (v := 4) dX2_takeLetters_84 (by decide) ?_
            refine j_putI (pc := 85) dX2_takeLetters_85 f_X2_22 rfl (by assumption) rfl ?_
            refine j_vret (pc := 88) dX2_takeLetters_88 rfl ?_
            refine ⟨rfl, hF.tr (zF.wI rfl), ?_⟩
            rw [hr, hf]
            rw [show zrun zlet (F.take n) ps = ps from zrun_F hxb (zbi_eq0.mp h25), show zfo zcw zlet co (F.take n) ps = co from zfo_F hxb (zbi_eq0.mp h25), if_neg (fun z => Int32.not_le.mpr h77 ((zsub_le (k := 6) hsr (by omega) (by decide)).mpr z))]
            exact h.w3 _
          · refine j_iconst (pc := 80) (v := 1) dX2_takeLetters_80 (by decide) ?_
            refine j_goto (pc := 81) (tgt := 85) dX2_takeLetters_81 (by decide) ?_
            refine j_putI (pc := 85) dX2_takeLetters_85 f_X2_22 rfl (by assumption) rfl ?_
            refine j_vret (pc := 88) dX2_takeLetters_88 rfl ?_
            refine ⟨rfl, hF.tr (zF.wI rfl), ?_⟩
            rw [hr, hf]
            rw [show zrun zlet (F.take n) ps = ps from zrun_F hxb (zbi_eq0.mp h25), show zfo zcw zlet co (F.take n) ps = co from zfo_F hxb (zbi_eq0.mp h25), if_pos ((zsub_le (k := 6) hsr (by omega) (by decide)).mp (Int32.not_lt.mp h77))]
            exact h.w3 _
        · refine j_aload_n (pc := 28) dX2_takeLetters_28 rfl ?_
          refine j_aload_n (pc := 29) dX2_takeLetters_29 rfl ?_
          refine j_getL (pc := 30) dX2_takeLetters_30 f_X2_28 rfl (by assumption) ?_
          rw [e5]
          refine j_bipush (pc := 33) (v := 8) dX2_takeLetters_33 (by decide) ?_
          refine j_lshl (pc := 35) dX2_takeLetters_35 ?_
          refine j_aload_n (pc := 36) dX2_takeLetters_36 rfl ?_
          refine j_getP (pc := 37) dX2_takeLetters_37 f_X2_9 (Or.inl ⟨_, rfl⟩) (by assumption) ?_
          rw [hp]
          refine j_aload_n (pc := 40) dX2_takeLetters_40 rfl ?_
          refine j_getI (pc := 41) dX2_takeLetters_41 f_X2_19 (Or.inl rfl) (by assumption) ?_
          rw [e2]
          refine j_callV (pc := 44) (t := 1) (c_get h.2.2.1 _) dX2_takeLetters_44 l_X2_32 mk_X1_get mv_X1_get (by decide) rfl (by assumption) (by decide) rfl rfl (Nat.le_of_ble_eq_true rfl) (Nat.le_refl _) (Nat.le_refl _) (fun r T h_1 => ?_)
          obtain ⟨rfl, rfl⟩ := h_1
          rw [hgb]
          refine j_i2l (pc := 47) dX2_takeLetters_47 ?_
          refine j_lor (pc := 48) dX2_takeLetters_48 ?_
          refine j_putL (pc := 49) dX2_takeLetters_49 f_X2_28 rfl (by assumption) rfl ?_
          refine j_aload_n (pc := 52) dX2_takeLetters_52 rfl ?_
          refine j_dup (pc := 53) dX2_takeLetters_53 rfl ?_
          refine j_getI (pc := 54) dX2_takeLetters_54 f_X2_19 (Or.inl rfl) (by assumption) ?_
          rw [(h.w5 _).2.2.2.2.2.1]
          refine j_iconst (pc := 57) (v := 1) dX2_takeLetters_57 (by decide) ?_
          refine j_iadd (pc := 58) dX2_takeLetters_58 ?_
          refine j_putI (pc := 59) dX2_takeLetters_59 f_X2_19 rfl (by assumption) rfl ?_
          refine j_goto (pc := 62) (tgt := 0) dX2_takeLetters_62 (by decide) ?_
          rw [nI_1]
          have hpb := zbi_ne0 h25
          refine ih (ps + 1) _ _ (by omega) ((hF.tr (zF.wL rfl)).tr (zF.wI rfl)) ((h.w5 (zcw co b)).w2 (ps + 1)) (by omega) (hr.trans (zrun_T hxb hpb)) (hf.trans (zfo_T hxb hpb))
  exact lp (n - ps0) ps0 co0 S (by omega) zF.rf h0 hsr0 rfl rfl
set_option maxRecDepth 20000 in
set_option maxHeartbeats 4000000 in
theorem c_takeDigits {E : zE} {S : zM} {x tp tp2 cap : Nat} {F : List Nat} {n ps0 so sr : Nat} {co0 : Int64} (h0 : zLx S x tp tp2 cap F n ps0 so sr co0) (hps0 : ps0 ≤ n) (hsr0 : sr ≤ ps0) : zSp E 1 0 0 mX2_takeDigits cX2_takeDigits [zR x] S (fun r T => r = none ∧ zF (fun c => c = x) S T ∧ zLx T x tp tp2 cap F n (zrun zdig (F.take n) ps0) (if zrun zdig (F.take n) ps0 - sr ≤ 4 then 2 else 4) sr (zfo zcd zdig co0 (F.take n) ps0)) := by
  refine zSp.of (by decide) rfl (Nat.le_of_ble_eq_true rfl) rfl ?_
  have lp : ∀ (m ps : Nat) (co : Int64) (T : zM), ps + m = n → zF (fun c => c = x) S T → zLx T x tp tp2 cap F n ps so sr co → sr ≤ ps → zrun zdig (F.take n) ps0 = zrun zdig (F.take n) ps → zfo zcd zdig co0 (F.take n) ps0 = zfo zcd zdig co (F.take n) ps → zJ E 1 0 0 mX2_takeDigits cX2_takeDigits 0 [some (zR x)] [] T (fun r T => r = none ∧ zF (fun c => c = x) S T ∧ zLx T x tp tp2 cap F n (zrun zdig (F.take n) ps0) (if zrun zdig (F.take n) ps0 - sr ≤ 4 then 2 else 4) sr (zfo zcd zdig co0 (F.take n) ps0)) := by
    intro m
    induction m with
    | zero =>
      intro ps co T hm hF h hsr hr hf
      have k1 := h.1
      have kt := h.2.2.1.1
      have hp := h.2.1
      have e1 := h.2.2.2.2.1
      have e2 := h.2.2.2.2.2.1
      have e4 := h.2.2.2.2.2.2.2.1
      have e5 := h.2.2.2.2.2.2.2.2
      obtain ⟨hX, hn31⟩ := h.ln
      refine j_aload_n (pc := 0) dX2_takeDigits_0 rfl ?_
      refine j_getI (pc := 1) dX2_takeDigits_1 f_X2_19 (Or.inl rfl) (by assumption) ?_
      rw [e2]
      refine j_aload_n (pc := 4) dX2_takeDigits_4 rfl ?_
      refine j_getI (pc := 5) dX2_takeDigits_5 f_X2_15 (Or.inl rfl) (by assumption) ?_
      rw [e1]
      refine j_icmp_ge (pc := 8) (tgt := 70) dX2_takeDigits_8 (by decide) (fun h8 => ?_) (fun h8 => ?_)
      · refine j_aload_n (pc := 70) dX2_takeDigits_70 rfl ?_
        refine j_aload_n (pc := 71) dX2_takeDigits_71 rfl ?_
        refine j_getI (pc := 72) dX2_takeDigits_72 f_X2_19 (Or.inl rfl) (by assumption) ?_
        rw [e2]
        refine j_aload_n (pc := 75) dX2_takeDigits_75 rfl ?_
        refine j_getI (pc := 76) dX2_takeDigits_76 f_X2_25 (Or.inl rfl) (by assumption) ?_
        rw [e4]
        refine j_isub (pc := 79) dX2_takeDigits_79 ?_
        refine j_iconst (pc := 80) (v := 4) dX2_takeDigits_80 (by decide) ?_
        refine j_icmp_gt (pc := 81) (tgt := 88) dX2_takeDigits_81 (by decide) (fun h81 => ?_) (fun h81 => ?_)
        · refine j_iconst (pc := 88) (v := 4) dX2_takeDigits_88 (by decide) ?_
          refine j_putI (pc := 89) dX2_takeDigits_89 f_X2_22 rfl (by assumption) rfl ?_
          refine j_vret (pc := 92) dX2_takeDigits_92 rfl ?_
          refine ⟨rfl, hF.tr (zF.wI rfl), ?_⟩
          rw [hr, hf, show zrun zdig (F.take n) ps = ps from zrun_E (by omega), show zfo zcd zdig co (F.take n) ps = co from zfo_E (by omega)]
          rw [if_neg (fun z => Int32.not_le.mpr h81 ((zsub_le (k := 4) hsr (by omega) (by decide)).mpr z))]
          exact h.w3 _
        · refine j_iconst (pc := 84) (v := 2) dX2_takeDigits_84 (by decide) ?_
          refine j_goto (pc := 85) (tgt := 89) dX2_takeDigits_85 (by decide) ?_
          refine j_putI (pc := 89) dX2_takeDigits_89 f_X2_22 rfl (by assumption) rfl ?_
          refine j_vret (pc := 92) dX2_takeDigits_92 rfl ?_
          refine ⟨rfl, hF.tr (zF.wI rfl), ?_⟩
          rw [hr, hf, show zrun zdig (F.take n) ps = ps from zrun_E (by omega), show zfo zcd zdig co (F.take n) ps = co from zfo_E (by omega)]
          rw [if_pos ((zsub_le (k := 4) hsr (by omega) (by decide)).mp (Int32.not_lt.mp h81))]
          exact h.w3 _
      · exact absurd (nI_le (by omega) (by omega)) h8
    | succ m ih =>
      intro ps co T hm hF h hsr hr hf
      have k1 := h.1
      have kt := h.2.2.1.1
      have hp := h.2.1
      have e1 := h.2.2.2.2.1
      have e2 := h.2.2.2.2.2.1
      have e4 := h.2.2.2.2.2.2.2.1
      have e5 := h.2.2.2.2.2.2.2.2
      obtain ⟨hX, hn31⟩ := h.ln
      obtain ⟨b, hxb, hgb, hb256⟩ := h.at (i := ps) (by omega)
      have hbb := zbi_01 (zdig b)
      refine j_aload_n (pc := 0) dX2_takeDigits_0 rfl ?_
      refine j_getI (pc := 1) dX2_takeDigits_1 f_X2_19 (Or.inl rfl) (by assumption) ?_
      rw [e2]
      refine j_aload_n (pc := 4) dX2_takeDigits_4 rfl ?_
      refine j_getI (pc := 5) dX2_takeDigits_5 f_X2_15 (Or.inl rfl) (by assumption) ?_
      rw [e1]
      refine j_icmp_ge (pc := 8) (tgt := 70) dX2_takeDigits_8 (by decide) (fun h8 => ?_) (fun h8 => ?_)
      · refine j_aload_n (pc := 70) dX2_takeDigits_70 rfl ?_
        refine j_aload_n (pc := 71) dX2_takeDigits_71 rfl ?_
        refine j_getI (pc := 72) dX2_takeDigits_72 f_X2_19 (Or.inl rfl) (by assumption) ?_
        rw [e2]
        refine j_aload_n (pc := 75) dX2_takeDigits_75 rfl ?_
        refine j_getI (pc := 76) dX2_takeDigits_76 f_X2_25 (Or.inl rfl) (by assumption) ?_
        rw [e4]
        refine j_isub (pc := 79) dX2_takeDigits_79 ?_
        refine j_iconst (pc := 80) (v := 4) dX2_takeDigits_80 (by decide) ?_
        refine j_icmp_gt (pc := 81) (tgt := 88) dX2_takeDigits_81 (by decide) (fun h81 => ?_) (fun h81 => ?_)
        · refine j_iconst (pc := 88) (v := 4) dX2_takeDigits_88 (by decide) ?_
          refine j_putI (pc := 89) dX2_takeDigits_89 f_X2_22 rfl (by assumption) rfl ?_
          refine j_vret (pc := 92) dX2_takeDigits_92 rfl ?_
          exact absurd h8 (nI_ge (by omega) (by omega))
        · refine j_iconst (pc := 84) (v := 2) dX2_takeDigits_84 (by decide) ?_
          refine j_goto (pc := 85) (tgt := 89) dX2_takeDigits_85 (by decide) ?_
          refine j_putI (pc := 89) dX2_takeDigits_89 f_X2_22 rfl (by assumption) rfl ?_
          refine j_vret (pc := 92) dX2_takeDigits_92 rfl ?_
          exact absurd h8 (nI_ge (by omega) (by omega))
      · refine j_aload_n (pc := 11) dX2_takeDigits_11 rfl ?_
        refine j_getP (pc := 12) dX2_takeDigits_12 f_X2_9 (Or.inl ⟨_, rfl⟩) (by assumption) ?_
        rw [hp]
        refine j_aload_n (pc := 15) dX2_takeDigits_15 rfl ?_
        refine j_getI (pc := 16) dX2_takeDigits_16 f_X2_19 (Or.inl rfl) (by assumption) ?_
        rw [e2]
        refine j_callV (pc := 19) (t := 1) (c_get h.2.2.1 _) dX2_takeDigits_19 l_X2_32 mk_X1_get mv_X1_get (by decide) rfl (by assumption) (by decide) rfl rfl (Nat.le_of_ble_eq_true rfl) (Nat.le_refl _) (Nat.le_refl _) (fun r T h_1 => ?_)
        obtain ⟨rfl, rfl⟩ := h_1
        rw [hgb]
        refine j_callS (pc := 22) (c_isDigit hb256) dX2_takeDigits_22 l_X2_45 mk_X2_isDigit ms_X2_isDigit (by decide) rfl rfl (Nat.le_of_ble_eq_true rfl) (Nat.le_refl _) (Nat.le_refl _) (fun r T h_1 => ?_)
        obtain ⟨rfl, rfl⟩ := h_1
        refine j_if_eq (pc := 25) (tgt := 70) dX2_takeDigits_25 (by decide) (fun h25 => ?_) (fun h25 => ?_)
        · refine j_aload_n (pc := 70) dX2_takeDigits_70 rfl ?_
          refine j_aload_n (pc := 71) dX2_takeDigits_71 rfl ?_
          refine j_getI (pc := 72) dX2_takeDigits_72 f_X2_19 (Or.inl rfl) (by assumption) ?_
          rw [e2]
          refine j_aload_n (pc := 75) dX2_takeDigits_75 rfl ?_
          refine j_getI (pc := 76) dX2_takeDigits_76 f_X2_25 (Or.inl rfl) (by assumption) ?_
          rw [e4]
          refine j_isub (pc := 79) dX2_takeDigits_79 ?_
          refine j_iconst (pc := 80) (v := 4) dX2_takeDigits_80 (by decide) ?_
          refine j_icmp_gt (pc := 81) (tgt := 88) dX2_takeDigits_81 (by decide) (fun h81 => ?_) (fun h81 => ?_)
          · refine j_iconst (pc := 88) (v := 4) dX2_takeDigits_88 (by decide) ?_
            refine j_putI (pc := 89) dX2_takeDigits_89 f_X2_22 rfl (by assumption) rfl ?_
            refine j_vret (pc := 92) dX2_takeDigits_92 rfl ?_
            refine ⟨rfl, hF.tr (zF.wI rfl), ?_⟩
            rw [hr, hf]
            rw [show zrun zdig (F.take n) ps = ps from zrun_F hxb (zbi_eq0.mp h25), show zfo zcd zdig co (F.take n) ps = co from zfo_F hxb (zbi_eq0.mp h25), if_neg (fun z => Int32.not_le.mpr h81 ((zsub_le (k := 4) hsr (by omega) (by decide)).mpr z))]
            exact h.w3 _
          · refine j_iconst (pc := 84) (v := 2) dX2_takeDigits_84 (by decide) ?_
            refine j_goto (pc := 85) (tgt := 89) dX2_takeDigits_85 (by decide) ?_
            refine j_putI (pc := 89) dX2_takeDigits_89 f_X2_22 rfl (by assumption) rfl ?_
            refine j_vret (pc := 92) dX2_takeDigits_92 rfl ?_
            refine ⟨rfl, hF.tr (zF.wI rfl), ?_⟩
            rw [hr, hf]
            rw [show zrun zdig (F.take n) ps = ps from zrun_F hxb (zbi_eq0.mp h25), show zfo zcd zdig co (F.take n) ps = co from zfo_F hxb (zbi_eq0.mp h25), if_pos ((zsub_le (k := 4) hsr (by omega) (by decide)).mp (Int32.not_lt.mp h81))]
            exact h.w3 _
        · refine j_aload_n (pc := 28) dX2_takeDigits_28 rfl ?_
          refine j_aload_n (pc := 29) dX2_takeDigits_29 rfl ?_
          refine j_getL (pc := 30) dX2_takeDigits_30 f_X2_28 rfl (by assumption) ?_
          rw [e5]
          refine j_ldcL (pc := 33) dX2_takeDigits_33 k_X2_51 ?_
          refine j_lmul (pc := 36) dX2_takeDigits_36 ?_
          refine j_aload_n (pc := 37) dX2_takeDigits_37 rfl ?_
          refine j_getP (pc := 38) dX2_takeDigits_38 f_X2_9 (Or.inl ⟨_, rfl⟩) (by assumption) ?_
          rw [hp]
          refine j_aload_n (pc := 41) dX2_takeDigits_41 rfl ?_
          refine j_getI (pc := 42) dX2_takeDigits_42 f_X2_19 (Or.inl rfl) (by assumption) ?_
          rw [e2]
          refine j_callV (pc := 45) (t := 1) (c_get h.2.2.1 _) dX2_takeDigits_45 l_X2_32 mk_X1_get mv_X1_get (by decide) rfl (by assumption) (by decide) rfl rfl (Nat.le_of_ble_eq_true rfl) (Nat.le_refl _) (Nat.le_refl _) (fun r T h_1 => ?_)
          obtain ⟨rfl, rfl⟩ := h_1
          rw [hgb]
          refine j_i2l (pc := 48) dX2_takeDigits_48 ?_
          refine j_ladd (pc := 49) dX2_takeDigits_49 ?_
          refine j_ldcL (pc := 50) dX2_takeDigits_50 k_X2_53 ?_
          refine j_lsub (pc := 53) dX2_takeDigits_53 ?_
          refine j_putL (pc := 54) dX2_takeDigits_54 f_X2_28 rfl (by assumption) rfl ?_
          refine j_aload_n (pc := 57) dX2_takeDigits_57 rfl ?_
          refine j_dup (pc := 58) dX2_takeDigits_58 rfl ?_
          refine j_getI (pc := 59) dX2_takeDigits_59 f_X2_19 (Or.inl rfl) (by assumption) ?_
          rw [(h.w5 _).2.2.2.2.2.1]
          refine j_iconst (pc := 62) (v := 1) dX2_takeDigits_62 (by decide) ?_
          refine j_iadd (pc := 63) dX2_takeDigits_63 ?_
          refine j_putI (pc := 64) dX2_takeDigits_64 f_X2_19 rfl (by assumption) rfl ?_
          refine j_goto (pc := 67) (tgt := 0) dX2_takeDigits_67 (by decide) ?_
          rw [nI_1]
          have hpb := zbi_ne0 h25
          refine ih (ps + 1) _ _ (by omega) ((hF.tr (zF.wL rfl)).tr (zF.wI rfl)) ((h.w5 (zcd co b)).w2 (ps + 1)) (by omega) (hr.trans (zrun_T hxb hpb)) (hf.trans (zfo_T hxb hpb))
  exact lp (n - ps0) ps0 co0 S (by omega) zF.rf h0 hsr0 rfl rfl
