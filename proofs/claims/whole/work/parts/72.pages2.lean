/-- the page that was filled -/
theorem zpage_cp {T : zM} {t : zTB} {v f e z st : Nat} {kb ka : List Nat} {ah be : Nat} (h : zPg T true (zid (tO t) (tV t) (tH t v) f e) (fun i j => (tH t v).2 ((zid (tO t) (tV t) (tH t v) f e).getD i 0) j) kb ka [] ah be) (hq : zpw (tO t) (tV t) (tH t v) f e (tn t) z st kb ka ah be) (he : e ≤ (zBB (tO t) (tV t) (tH t v)).length) : zCP T (some (zpage t v f e z st)) := by
  have hl : (zid (tO t) (tV t) (tH t v) f e).length = e - f := zid_len he
  unfold zpw at hq
  by_cases g : f < e
  · rw [if_pos g] at hq
    obtain ⟨e1, e2, rfl, rfl⟩ := hq
    refine ⟨kb, ka, [], ?_, ?_, ?_⟩
    · simp only [zpage, if_pos g]
      exact h
    · simp only [zpage, if_pos g]
      rw [if_neg (by omega)]
      exact (e1 _ (gD 0 (by omega))).symm
    · simp only [zpage, if_pos g]
      rw [if_neg (by omega)]
      exact (e2 _ (gD 0 (by omega))).symm
  · rw [if_neg g] at hq
    obtain ⟨rfl, rfl⟩ := hq
    refine ⟨kb, ka, [], ?_, ?_, ?_⟩
    · simp only [zpage, if_neg g]
      exact h
    · simp only [zpage, if_neg g]
      rw [if_pos (by omega)]
    · simp only [zpage, if_neg g]
      rw [if_pos (by omega)]
theorem zkeep_0 {t : zTB} {F : List Nat} {n : Nat} {q : zPGE} (h : q.1.length = 0) : zkeep t F n q = (q.1, q.2.1, F.take n, F.take n, zlf (tO t) (tV t) (tH t (zvr t F)) (zgk F n), (zBB (tO t) (tV t) (tH t (zvr t F))).length - zlg (tO t) (tV t) (tH t (zvr t F)) (zgk F n)) := if_pos h
theorem zkeep_1 {t : zTB} {F : List Nat} {n : Nat} {q : zPGE} (h : ¬ q.1.length = 0) : zkeep t F n q = q := if_neg h
theorem zwt_le (t : zTB) (F : List Nat) (n : Nat) : zwt t F n ≤ 8 := by
  unfold zwt
  split
  · decide
  · split
    · decide
    · split <;> decide
theorem zwt_0 {t : zTB} {F : List Nat} {n : Nat} (h : zwt t F n = 0) : 8 ≤ n ∧ 1 ≤ F.getD 2 0 ∧ F.getD 2 0 ≤ 20 ∧ (zst F ≠ 0 → zcv (tv t) (nI (zst F - 1)) = true) := by
  unfold zwt at h
  split at h
  · cases h
  · rename_i g
    split at h
    · cases h
    · split at h
      · cases h
      · rename_i g2 g3
        refine ⟨by omega, by omega, by omega, fun q => ?_⟩
        cases e : zcv (tv t) (nI (zst F - 1)) with
        | true => rfl
        | false => exact absurd ⟨q, e⟩ g3
theorem zCP.any {S : zM} {P : Option zPGE} (h : zCP S P) : ∃ pt ids vs kb ka kk ah be, zPg S pt ids vs kb ka kk ah be := by
  obtain ⟨ids, vs, kb, ka, kk, ah, be, h, -⟩ := h.n
  exact ⟨_, ids, vs, kb, ka, kk, ah, be, h⟩
theorem zF.xp {S T : zM} (f : zF zXP S T) : zQF S T := (f.mo (fun c z => Or.inl (by unfold zXP at z; omega))).nf
theorem zF.ab {S T : zM} {a : Nat} (ha : a < 100) (f : zF (zAB a (a + 1)) S T) : zQF S T := (f.mo (fun c z => Or.inl (by unfold zAB at z; omega))).nf
set_option maxRecDepth 20000 in
set_option maxHeartbeats 4000000 in
theorem p_page {E : zE} {S : zM} {s : zST} {n : Nat} (h : zCI S s) (hw : zWF n s) (z : Int32) (st : Bool) : zSp E 5 0 0 mX11_page cX11_page [zR 1, zI z, zI (zbi st)] S (fun r T => r = some (zI (q_page s z st).1) ∧ zCI T (q_page s z st).2 ∧ zQF S T) := by
  refine zSp.of (by decide) rfl (Nat.le_of_ble_eq_true rfl) rfl ?_
  obtain ⟨h0, hF, hG4, hi, hV, hP, hR, hT⟩ := _root_.id h
  have k1 := h0.1
  cases ht : sT s with
  | none =>
    rw [ht] at hT
    have p5 : zgP S 1 5 = 0 := hT
    refine j_aload_n (pc := 0) dX11_page_0 rfl ?_
    refine j_getPv (pc := 1) dX11_page_1 f_X11_44 (Or.inl ⟨_, rfl⟩) (by assumption) (p5) ?_
    refine j_ifnonnull (pc := 4) (tgt := 13) dX11_page_4 (by decide) (fun h4 => absurd rfl h4) (fun h4 => ?_)
    refine j_aload_n (pc := 7) dX11_page_7 rfl ?_
    refine j_iconst (pc := 8) (v := 1) dX11_page_8 (by decide) ?_
    refine j_callV (pc := 9) (t := 11) (c_refused k1 _) dX11_page_9 l_X11_68 mk_X11_refused mv_X11_refused (by decide) rfl (by assumption) (by decide) rfl rfl (Nat.le_of_ble_eq_true rfl) (Nat.le_refl _) (Nat.le_refl _) (fun r T h_1 => ?_)
    obtain ⟨rfl, rfl⟩ := h_1
    refine j_iret (pc := 12) dX11_page_12 rfl ?_
    exact q_ref h zQF.rf (by rw [q_page, ht])
  | some t =>
    rw [ht] at hT
    obtain ⟨a, p5, a161, ag, hTt, hVI⟩ := hT
    obtain ⟨ka, q2, q3, q4, q5, q6, q1, i7, i8⟩ := hTt.d
    have k6 : zkd S 6 = (11, 0) := by obtain ⟨q, t0, g, h1, h2⟩ := hV.1; exact h1.1.1
    obtain ⟨so, si, sc, ol, hTA, hHi⟩ := hTt
    have hOr := hTA.2.2.1
    have hSv := hTA.2.2.2.1
    have hRo := hTA.2.2.2.2.1
    have hAc := hTA.2.2.2.2.2.1
    have kor := hOr.1.1
    have ksv := hSv.1.1
    have kro := hRo.1
    have kac := hAc.1.1
    have iv := hAc.2.2.1
    have hn : n ≤ 600 := Nat.le_of_lt hw.1
    have hwT := hw.2.2.2
    rw [ht] at hwT
    obtain ⟨hWt, hWp, hWr⟩ := hwT
    have hst := zbi_01 st
    have hv600 := hWt.2.2.2.2.2.1.1
    have ht600 := hWt.2.2.2.2.2.1.2
    refine j_aload_n (pc := 0) dX11_page_0 rfl ?_
    refine j_getPv (pc := 1) dX11_page_1 f_X11_44 (Or.inl ⟨_, rfl⟩) (by assumption) (p5) ?_
    refine j_ifnonnull (pc := 4) (tgt := 13) dX11_page_4 (by decide) (fun h4 => ?_) (fun h4 => absurd h4 (by omega))
    refine j_iload_n (pc := 13) dX11_page_13 rfl ?_
    refine j_callS (pc := 14) (c_isPageSize z) dX11_page_14 l_X11_193 mk_X11_isPageSize ms_X11_isPageSize (by decide) rfl rfl (Nat.le_of_ble_eq_true rfl) (Nat.le_refl _) (Nat.le_refl _) (fun r T h_1 => ?_)
    obtain ⟨rfl, rfl⟩ := h_1
    refine j_if_ne (pc := 17) (tgt := 26) dX11_page_17 (by decide) (fun h17 => ?_) (fun h17 => ?_)
    · obtain ⟨k, kk1, kk20, rfl⟩ := zsz_t (zbi_ne0 h17)
      have hcz : (nI k).toNatClampNeg = k := nI_clamp (by omega)
      refine j_aload_n (pc := 26) dX11_page_26 rfl ?_
      refine j_getPv (pc := 27) dX11_page_27 f_X11_26 (Or.inl ⟨_, rfl⟩) (by assumption) (h0.2.1.2.2.1) ?_
      refine j_aload_n (pc := 30) dX11_page_30 rfl ?_
      refine j_getPv (pc := 31) dX11_page_31 f_X11_44 (Or.inl ⟨_, rfl⟩) (by assumption) (p5) ?_
      refine j_aload_n (pc := 34) dX11_page_34 rfl ?_
      refine j_getPv (pc := 35) dX11_page_35 f_X11_44 (Or.inl ⟨_, rfl⟩) (by assumption) (p5) ?_
      refine j_getPv (pc := 38) dX11_page_38 f_X11_119 (Or.inl ⟨_, rfl⟩) (by assumption) (q5) ?_
      refine j_getIv (pc := 41) dX11_page_41 f_X11_123 (Or.inl rfl) (by assumption) (iv) ?_
      refine j_callV (pc := 44) (t := 10) (c_showS h ht hWt hn p5 (Nat.le_refl _) (Nat.le_add_right _ _)) dX11_page_44 l_X11_169 mk_X10_show mv_X10_show (by decide) rfl (by assumption) (by decide) rfl rfl (Nat.le_of_ble_eq_true rfl) (Nat.le_refl _) (Nat.le_refl _) (fun r T1 h_1 => ?_)
      obtain ⟨rfl, h2, hC, htn1, hG⟩ := h_1
      have ag2 : ∀ c, c < 6 ∨ 92 < c → zAg S T1 c := fun c hc => hG.2.2 c (by unfold zXV; omega)
      have k11 := h2.1.1
      have k61 := hC.sh.1
      have hP1 := h2.2.2.2.2.2.1
      have p51 : zgP T1 1 5 = a := ((ag2 1 (by omega)).2.2.2 5).trans p5
      refine j_aload_n (pc := 47) dX11_page_47 rfl ?_
      refine j_getPv (pc := 48) dX11_page_48 f_X11_26 (Or.inl ⟨_, rfl⟩) (by assumption) (h2.1.2.1.2.2.1) ?_
      refine j_iconst (pc := 51) (v := 0) dX11_page_51 (by decide) ?_
      refine j_iload_n (pc := 52) dX11_page_52 rfl ?_
      refine j_callV (pc := 53) (t := 10) (d_chooseFrom (f := 0) hC (by decide) (show k < 2 ^ 20 by omega)) dX11_page_53 l_X11_196 mk_X10_chooseFrom mv_X10_chooseFrom (by decide) rfl (by assumption) (by decide) rfl rfl (Nat.le_of_ble_eq_true rfl) (Nat.le_refl _) (Nat.le_refl _) (fun r T2 h_1 => ?_)
      obtain ⟨rfl, fe⟩ := h_1
      have h3 := h2.six fe
      have hC3 := hC.six fe.1 fe.2.1
      have k12 := h3.1.1
      have k62 := hC3.sh.1
      have htn2 : zgI T2 6 10 = nI (tn t) := (fe.2.1 10 (by decide) (by decide)).trans htn1
      obtain ⟨pt, ids, vs, kb, ka, kk, ah, be, hPg⟩ := h3.2.2.2.2.2.1.any
      have k93 := hPg.1.1
      have lB := hC3.len.2
      have lz : min (0 + k) (zBB (tO t) (tV t) (tW t)).length = min k (zBB (tO t) (tV t) (tW t)).length := by rw [Nat.zero_add]
      have z2 : min (0 + k) (zBB (tO t) (tV t) (tW t)).length ≤ (zBB (tO t) (tV t) (tW t)).length := Nat.min_le_right _ _
      have hTA3 := (hTA.ag (T := T1) (fun k hk => ag2 _ (by omega))).ag (T := T2) (fun k hk => fe.1.ag (by omega))
      have p52 : zgP T2 1 5 = a := by rw [fe.1.2.2.1]; exact p51
      have ka3 := hTA3.1.1.1
      have kac3 := hTA3.2.2.2.2.2.1.1.1
      refine j_aload_n (pc := 56) dX11_page_56 rfl ?_
      refine j_getPv (pc := 57) dX11_page_57 f_X11_33 (Or.inl ⟨_, rfl⟩) (by assumption) (h3.1.2.1.2.2.2.1) ?_
      refine j_aload_n (pc := 60) dX11_page_60 rfl ?_
      refine j_getPv (pc := 61) dX11_page_61 f_X11_26 (Or.inl ⟨_, rfl⟩) (by assumption) (h3.1.2.1.2.2.1) ?_
      refine j_iload_n (pc := 64) dX11_page_64 rfl ?_
      refine j_iload_n (pc := 65) dX11_page_65 rfl ?_
      refine j_if_eq (pc := 66) (tgt := 84) dX11_page_66 (by decide) (fun h66 => ?_) (fun h66 => ?_)
      · refine j_iconst (pc := 84) (v := 0) dX11_page_84 (by decide) ?_
        refine j_callV (pc := 85) (t := 4) (d_fill (sz := k) (st := 0) hC3 hPg fe.2.2.1 fe.2.2.2 htn2 (by omega) (by omega) (by omega) (by omega) (by omega) z2) dX11_page_85 l_X11_200 mk_X4_fill mv_X4_fill (by decide) rfl (by assumption) (by decide) rfl rfl (Nat.le_of_ble_eq_true rfl) (Nat.le_refl _) (Nat.le_refl _) (fun r T3 h_1 => ?_)
        obtain ⟨rfl, kb', ka', ah', be', hPg3, hpw, f3⟩ := h_1
        have h4 := h3.pg f3 (zpage_cp hPg3 hpw z2)
        have k13 := h4.1.1
        have k933 : zkd T3 93 = (5, 0) := by rw [f3.1]; exact k93
        refine j_aload_n (pc := 88) dX11_page_88 rfl ?_
        refine j_aload_n (pc := 89) dX11_page_89 rfl ?_
        refine j_getPv (pc := 90) dX11_page_90 f_X11_33 (Or.inl ⟨_, rfl⟩) (by assumption) (h4.1.2.1.2.2.2.1) ?_
        refine j_getIv (pc := 93) dX11_page_93 f_X11_204 (Or.inl rfl) (by assumption) (hPg3.2.2.1) ?_
        refine j_callV (pc := 96) (t := 11) (c_answered k13 _) dX11_page_96 l_X11_103 mk_X11_answered mv_X11_answered (by decide) rfl (by assumption) (by decide) rfl rfl (Nat.le_of_ble_eq_true rfl) (Nat.le_refl _) (Nat.le_refl _) (fun r T h_1 => ?_)
        obtain ⟨rfl, rfl⟩ := h_1
        refine j_iret (pc := 99) dX11_page_99 rfl ?_
        have ez : q_page s (nI k) st = zshow s (zpage t (tv t) 0 (min (0 + k) (zBB (tO t) (tV t) (tW t)).length) k 0) := by
          simp only [q_page, ht]
          rw [if_pos (zbi_ne0 h17), zn, hcz, zbi_eq0.mp h66, lz]
          rfl
        rw [ez]
        exact ⟨rfl, h4.no 0, (((hG.q.tr fe.q).tr f3.xp)).tr zQF.w1⟩
      · refine j_aload_n (pc := 69) dX11_page_69 rfl ?_
        refine j_getPv (pc := 70) dX11_page_70 f_X11_44 (Or.inl ⟨_, rfl⟩) (by assumption) (p52) ?_
        refine j_getPv (pc := 73) dX11_page_73 f_X11_119 (Or.inl ⟨_, rfl⟩) (by assumption) (hTA3.2.1.2.2.2.1) ?_
        refine j_getIv (pc := 76) dX11_page_76 f_X11_123 (Or.inl rfl) (by assumption) (hTA3.2.2.2.2.2.1.2.2.1) ?_
        refine j_iconst (pc := 79) (v := 1) dX11_page_79 (by decide) ?_
        refine j_iadd (pc := 80) dX11_page_80 ?_
        rw [nI_1]
        refine j_goto (pc := 81) (tgt := 85) dX11_page_81 (by decide) ?_
        refine j_callV (pc := 85) (t := 4) (d_fill (sz := k) (st := tv t + 1) hC3 hPg fe.2.2.1 fe.2.2.2 htn2 (by omega) (by omega) (by omega) (by omega) (by omega) z2) dX11_page_85 l_X11_200 mk_X4_fill mv_X4_fill (by decide) rfl (by assumption) (by decide) rfl rfl (Nat.le_of_ble_eq_true rfl) (Nat.le_refl _) (Nat.le_refl _) (fun r T3 h_1 => ?_)
        obtain ⟨rfl, kb', ka', ah', be', hPg3, hpw, f3⟩ := h_1
        have h4 := h3.pg f3 (zpage_cp hPg3 hpw z2)
        have k13 := h4.1.1
        have k933 : zkd T3 93 = (5, 0) := by rw [f3.1]; exact k93
        refine j_aload_n (pc := 88) dX11_page_88 rfl ?_
        refine j_aload_n (pc := 89) dX11_page_89 rfl ?_
        refine j_getPv (pc := 90) dX11_page_90 f_X11_33 (Or.inl ⟨_, rfl⟩) (by assumption) (h4.1.2.1.2.2.2.1) ?_
        refine j_getIv (pc := 93) dX11_page_93 f_X11_204 (Or.inl rfl) (by assumption) (hPg3.2.2.1) ?_
        refine j_callV (pc := 96) (t := 11) (c_answered k13 _) dX11_page_96 l_X11_103 mk_X11_answered mv_X11_answered (by decide) rfl (by assumption) (by decide) rfl rfl (Nat.le_of_ble_eq_true rfl) (Nat.le_refl _) (Nat.le_refl _) (fun r T h_1 => ?_)
        obtain ⟨rfl, rfl⟩ := h_1
        refine j_iret (pc := 99) dX11_page_99 rfl ?_
        have ez : q_page s (nI k) st = zshow s (zpage t (tv t) 0 (min (0 + k) (zBB (tO t) (tV t) (tW t)).length) k (tv t + 1)) := by
          simp only [q_page, ht]
          rw [if_pos (zbi_ne0 h17), zn, hcz, zbi_ne0 h66, lz]
          rfl
        rw [ez]
        exact ⟨rfl, h4.no 0, (((hG.q.tr fe.q).tr f3.xp)).tr zQF.w1⟩
    · refine j_aload_n (pc := 20) dX11_page_20 rfl ?_
      refine j_iconst (pc := 21) (v := 2) dX11_page_21 (by decide) ?_
      refine j_callV (pc := 22) (t := 11) (c_refused k1 _) dX11_page_22 l_X11_68 mk_X11_refused mv_X11_refused (by decide) rfl (by assumption) (by decide) rfl rfl (Nat.le_of_ble_eq_true rfl) (Nat.le_refl _) (Nat.le_refl _) (fun r T h_1 => ?_)
      obtain ⟨rfl, rfl⟩ := h_1
      refine j_iret (pc := 25) dX11_page_25 rfl ?_
      exact q_ref h zQF.rf (by simp only [q_page, ht]; rw [if_neg (bnf (zbi_eq0.mp h17))])
set_option maxRecDepth 20000 in
set_option maxHeartbeats 4000000 in
theorem p_seek {E : zE} {S : zM} {s : zST} {n : Nat} (h : zCI S s) (hw : zWF n s) (z : Int32) (v : Int64) : zSp E 5 0 0 mX11_seek cX11_seek [zR 1, zI z, zL v] S (fun r T => r = some (zI (q_seek s z v).1) ∧ zCI T (q_seek s z v).2 ∧ zQF S T) := by
  refine zSp.of (by decide) rfl (Nat.le_of_ble_eq_true rfl) rfl ?_
  obtain ⟨h0, hF, hG4, hi, hV, hP, hR, hT⟩ := _root_.id h
  have k1 := h0.1
  cases ht : sT s with
  | none =>
    rw [ht] at hT
    have p5 : zgP S 1 5 = 0 := hT
    refine j_aload_n (pc := 0) dX11_seek_0 rfl ?_
    refine j_getPv (pc := 1) dX11_seek_1 f_X11_44 (Or.inl ⟨_, rfl⟩) (by assumption) (p5) ?_
    refine j_ifnonnull (pc := 4) (tgt := 13) dX11_seek_4 (by decide) (fun h4 => absurd rfl h4) (fun h4 => ?_)
    refine j_aload_n (pc := 7) dX11_seek_7 rfl ?_
    refine j_iconst (pc := 8) (v := 1) dX11_seek_8 (by decide) ?_
    refine j_callV (pc := 9) (t := 11) (c_refused k1 _) dX11_seek_9 l_X11_68 mk_X11_refused mv_X11_refused (by decide) rfl (by assumption) (by decide) rfl rfl (Nat.le_of_ble_eq_true rfl) (Nat.le_refl _) (Nat.le_refl _) (fun r T h_1 => ?_)
    obtain ⟨rfl, rfl⟩ := h_1
    refine j_iret (pc := 12) dX11_seek_12 rfl ?_
    exact q_ref h zQF.rf (by rw [q_seek, ht])
  | some t =>
    rw [ht] at hT
    obtain ⟨a, p5, a161, ag, hTt, hVI⟩ := hT
    obtain ⟨ka, q2, q3, q4, q5, q6, q1, i7, i8⟩ := hTt.d
    have k6 : zkd S 6 = (11, 0) := by obtain ⟨q, t0, g, h1, h2⟩ := hV.1; exact h1.1.1
    obtain ⟨so, si, sc, ol, hTA, hHi⟩ := hTt
    have hOr := hTA.2.2.1
    have hSv := hTA.2.2.2.1
    have hRo := hTA.2.2.2.2.1
    have hAc := hTA.2.2.2.2.2.1
    have kor := hOr.1.1
    have ksv := hSv.1.1
    have kro := hRo.1
    have kac := hAc.1.1
    have iv := hAc.2.2.1
    have hn : n ≤ 600 := Nat.le_of_lt hw.1
    have hwT := hw.2.2.2
    rw [ht] at hwT
    obtain ⟨hWt, hWp, hWr⟩ := hwT
    have hv600 := hWt.2.2.2.2.2.1.1
    have ht600 := hWt.2.2.2.2.2.1.2
    obtain ⟨Ge, hGe⟩ := hG4
    obtain ⟨e, O', hOe⟩ : ∃ e O', tO t = e :: O' := by
      cases g : tO t with
      | nil => have := hWt.1.1; rw [g] at this; exact absurd this (by decide)
      | cons e O' => exact ⟨e, O', rfl⟩
    have hO0 : (tO t)[0]? = some e := by rw [hOe]; rfl
    have hKb := hWt.2.2.1 e (List.mem_of_getElem? hO0)
    have ech : zch0 t v = zch e.2.1 v := by rw [zch0, hOe]
    have eek : zek t v = zpt e.2.1 e.2.2.1 e.2.2.2 v := by rw [zek, hOe]
    have kcol := hOr.1.2.1
    have o1 := (hOr.2.2.2.2 0 e hO0).1
    refine j_aload_n (pc := 0) dX11_seek_0 rfl ?_
    refine j_getPv (pc := 1) dX11_seek_1 f_X11_44 (Or.inl ⟨_, rfl⟩) (by assumption) (p5) ?_
    refine j_ifnonnull (pc := 4) (tgt := 13) dX11_seek_4 (by decide) (fun h4 => ?_) (fun h4 => absurd h4 (by omega))
    refine j_iload_n (pc := 13) dX11_seek_13 rfl ?_
    refine j_callS (pc := 14) (c_isPageSize z) dX11_seek_14 l_X11_193 mk_X11_isPageSize ms_X11_isPageSize (by decide) rfl rfl (Nat.le_of_ble_eq_true rfl) (Nat.le_refl _) (Nat.le_refl _) (fun r T h_1 => ?_)
    obtain ⟨rfl, rfl⟩ := h_1
    refine j_if_eq (pc := 17) (tgt := 43) dX11_seek_17 (by decide) (fun h17 => ?_) (fun h17 => ?_)
    · refine j_aload_n (pc := 43) dX11_seek_43 rfl ?_
      refine j_iconst (pc := 44) (v := 2) dX11_seek_44 (by decide) ?_
      refine j_callV (pc := 45) (t := 11) (c_refused k1 _) dX11_seek_45 l_X11_68 mk_X11_refused mv_X11_refused (by decide) rfl (by assumption) (by decide) rfl rfl (Nat.le_of_ble_eq_true rfl) (Nat.le_refl _) (Nat.le_refl _) (fun r T h_1 => ?_)
      obtain ⟨rfl, rfl⟩ := h_1
      refine j_iret (pc := 48) dX11_seek_48 rfl ?_
      exact q_ref h zQF.rf (by simp only [q_seek, ht]; rw [if_neg (fun g => bnf (zbi_eq0.mp h17) g.1)])
    · obtain ⟨k, kk1, kk20, rfl⟩ := zsz_t (zbi_ne0 h17)
      have hcz : (nI k).toNatClampNeg = k := nI_clamp (by omega)
      refine j_aload_n (pc := 20) dX11_seek_20 rfl ?_
      refine j_getPv (pc := 21) dX11_seek_21 f_X11_44 (Or.inl ⟨_, rfl⟩) (by assumption) (p5) ?_
      refine j_aload_n (pc := 24) dX11_seek_24 rfl ?_
      refine j_getPv (pc := 25) dX11_seek_25 f_X11_44 (Or.inl ⟨_, rfl⟩) (by assumption) (p5) ?_
      refine j_getPv (pc := 28) dX11_seek_28 f_X11_109 (Or.inl ⟨_, rfl⟩) (by assumption) (q2) ?_
      refine j_getPv (pc := 31) dX11_seek_31 f_X11_142 (Or.inr ⟨_, rfl⟩) (by assumption) (hOr.2.1.1) ?_
      refine j_iconst (pc := 34) (v := 0) dX11_seek_34 (by decide) ?_
      refine j_ialdn (i := 0) (pc := 35) dX11_seek_35 kcol (by decide) (by decide) o1 ?_
      refine j_lload_n (pc := 36) dX11_seek_36 rfl ?_
      refine j_callV (pc := 37) (t := 9) (c_canHold hTA.1 hKb v) dX11_seek_37 l_X11_209 mk_X9_canHold mv_X9_canHold (by decide) rfl (by assumption) (by decide) rfl rfl (Nat.le_of_ble_eq_true rfl) (Nat.le_refl _) (Nat.le_refl _) (fun r T h_1 => ?_)
      obtain ⟨rfl, rfl⟩ := h_1
      refine j_if_ne (pc := 40) (tgt := 49) dX11_seek_40 (by decide) (fun h40 => ?_) (fun h40 => ?_)
      · have kg := hGe.1
        refine j_aload_n (pc := 49) dX11_seek_49 rfl ?_
        refine j_getPv (pc := 50) dX11_seek_50 f_X11_20 (Or.inl ⟨_, rfl⟩) (by assumption) (h0.2.1.2.1) ?_
        refine j_callV (pc := 53) (t := 1) (c_empty hGe) dX11_seek_53 l_X11_84 mk_X1_empty mv_X1_empty (by decide) rfl (by assumption) (by decide) rfl rfl (Nat.le_of_ble_eq_true rfl) (Nat.le_refl _) (Nat.le_refl _) (fun r T h_1 => ?_)
        obtain ⟨rfl, rfl⟩ := h_1
        have fa : zF (zAB 4 5) S (zwI S 4 1 0) := zF.wI (Or.inl rfl)
        have ga := hGe.empty
        have h1a := h.edge fa ga
        have k1a := h1a.1.1
        have k4a := ga.1
        have p5a : zgP (zwI S 4 1 0) 1 5 = a := p5
        have hTAa := hTA.ag (T := zwI S 4 1 0) (fun k hk => fa.ag (by unfold zAB; omega))
        have kaa := hTAa.1.1.1
        have kora := hTAa.2.2.1.1.1
        have q2a := hTAa.2.1.1
        refine j_aload_n (pc := 56) dX11_seek_56 rfl ?_
        refine j_getPv (pc := 57) dX11_seek_57 f_X11_44 (Or.inl ⟨_, rfl⟩) (by assumption) (p5a) ?_
        refine j_getPv (pc := 60) dX11_seek_60 f_X11_109 (Or.inl ⟨_, rfl⟩) (by assumption) (q2a) ?_
        refine j_iconst (pc := 63) (v := 0) dX11_seek_63 (by decide) ?_
        refine j_lload_n (pc := 64) dX11_seek_64 rfl ?_
        refine j_aload_n (pc := 65) dX11_seek_65 rfl ?_
        refine j_getPv (pc := 66) dX11_seek_66 f_X11_20 (Or.inl ⟨_, rfl⟩) (by assumption) (h1a.1.2.1.2.1) ?_
        refine j_callV (pc := 69) (t := 3) (c_writePart hTAa.2.2.1 hO0 v ga (by decide)) dX11_seek_69 l_X11_213 mk_X3_writePart mv_X3_writePart (by decide) rfl (by assumption) (by decide) rfl rfl (Nat.le_of_ble_eq_true rfl) (Nat.le_refl _) (Nat.le_refl _) (fun r T0 h_1 => ?_)
        obtain ⟨rfl, gb, fb⟩ := h_1
        rw [List.nil_append] at gb
        have fab := fa.tr fb
        have h1b := h.edge fab gb
        have k1b := h1b.1.1
        have k4b := gb.1
        have p5b : zgP T0 1 5 = a := by rw [fab.2.2.1]; exact p5
        have hTAb := hTAa.ag (T := T0) (fun k hk => fb.ag (by unfold zAB; omega))
        have kab := hTAb.1.1.1
        have kacb := hTAb.2.2.2.2.2.1.1.1
        have q5b := hTAb.2.1.2.2.2.1
        have k6b : zkd T0 6 = (11, 0) := by rw [fab.1]; exact k6
        refine j_aload_n (pc := 72) dX11_seek_72 rfl ?_
        refine j_getPv (pc := 73) dX11_seek_73 f_X11_26 (Or.inl ⟨_, rfl⟩) (by assumption) (h1b.1.2.1.2.2.1) ?_
        refine j_aload_n (pc := 76) dX11_seek_76 rfl ?_
        refine j_getPv (pc := 77) dX11_seek_77 f_X11_44 (Or.inl ⟨_, rfl⟩) (by assumption) (p5b) ?_
        refine j_aload_n (pc := 80) dX11_seek_80 rfl ?_
        refine j_getPv (pc := 81) dX11_seek_81 f_X11_44 (Or.inl ⟨_, rfl⟩) (by assumption) (p5b) ?_
        refine j_getPv (pc := 84) dX11_seek_84 f_X11_119 (Or.inl ⟨_, rfl⟩) (by assumption) (q5b) ?_
        refine j_getIv (pc := 87) dX11_seek_87 f_X11_123 (Or.inl rfl) (by assumption) (hTAb.2.2.2.2.2.1.2.2.1) ?_
        refine j_callV (pc := 90) (t := 10) (c_showS h1b ht hWt hn p5b (Nat.le_refl _) (Nat.le_add_right _ _)) dX11_seek_90 l_X11_169 mk_X10_show mv_X10_show (by decide) rfl (by assumption) (by decide) rfl rfl (Nat.le_of_ble_eq_true rfl) (Nat.le_refl _) (Nat.le_refl _) (fun r T1 h_1 => ?_)
        obtain ⟨rfl, h2, hC, htn1, hG⟩ := h_1
        have ag2 : ∀ c, c < 6 ∨ 92 < c → zAg T0 T1 c := fun c hc => hG.2.2 c (by unfold zXV; omega)
        have k11 := h2.1.1
        have k61 := hC.sh.1
        have hP1 := h2.2.2.2.2.2.1
        have p51 : zgP T1 1 5 = a := ((ag2 1 (by omega)).2.2.2 5).trans p5b
        have hC : zVQ T1 (tO t) (tV t) (tW t) := hC
        have gb1 := gb.ag (ag2 4 (by omega)) (ag2 5 (by omega))
        have k41 := gb1.1
        refine j_aload_n (pc := 93) dX11_seek_93 rfl ?_
        refine j_getPv (pc := 94) dX11_seek_94 f_X11_26 (Or.inl ⟨_, rfl⟩) (by assumption) (h2.1.2.1.2.2.1) ?_
        refine j_aload_n (pc := 97) dX11_seek_97 rfl ?_
        refine j_getPv (pc := 98) dX11_seek_98 f_X11_26 (Or.inl ⟨_, rfl⟩) (by assumption) (h2.1.2.1.2.2.1) ?_
        refine j_aload_n (pc := 101) dX11_seek_101 rfl ?_
        refine j_getPv (pc := 102) dX11_seek_102 f_X11_20 (Or.inl ⟨_, rfl⟩) (by assumption) (h2.1.2.1.2.1) ?_
        refine j_callV (pc := 105) (t := 10) (d_countBelow hC gb1) dX11_seek_105 l_X11_217 mk_X10_countBelow mv_X10_countBelow (by decide) rfl (by assumption) (by decide) rfl rfl (Nat.le_of_ble_eq_true rfl) (Nat.le_refl _) (Nat.le_refl _) (fun r T h_1 => ?_)
        obtain ⟨rfl, rfl⟩ := h_1
        have lf := zTW_le (zBB (tO t) (tV t) (tW t)) (fun x => zkl (zkf (tO t) (tW t) x) (zpt e.2.1 e.2.2.1 e.2.2.2 v))
        have lB0 := hC.len.2
        refine j_iload_n (pc := 108) dX11_seek_108 rfl ?_
        refine j_callV (pc := 109) (t := 10) (d_chooseFrom hC (show List.length (List.takeWhile (fun x => zkl (zkf (tO t) (tW t) x) (zpt e.2.1 e.2.2.1 e.2.2.2 v)) (zBB (tO t) (tV t) (tW t))) < 2 ^ 20 by omega) (show k < 2 ^ 20 by omega)) dX11_seek_109 l_X11_196 mk_X10_chooseFrom mv_X10_chooseFrom (by decide) rfl (by assumption) (by decide) rfl rfl (Nat.le_of_ble_eq_true rfl) (Nat.le_refl _) (Nat.le_refl _) (fun r T2 h_1 => ?_)
        obtain ⟨rfl, fe⟩ := h_1
        have h3 := h2.six fe
        have hC3 := hC.six fe.1 fe.2.1
        have k12 := h3.1.1
        have k62 := hC3.sh.1
        have htn2 : zgI T2 6 10 = nI (tn t) := (fe.2.1 10 (by decide) (by decide)).trans htn1
        obtain ⟨pt, ids, vs, kb, ka, kk, ah, be, hPg⟩ := h3.2.2.2.2.2.1.any
        have k93 := hPg.1.1
        have lB := hC3.len.2
        have z2 : min (List.length (List.takeWhile (fun x => zkl (zkf (tO t) (tW t) x) (zpt e.2.1 e.2.2.1 e.2.2.2 v)) (zBB (tO t) (tV t) (tW t))) + k) (zBB (tO t) (tV t) (tW t)).length ≤ (zBB (tO t) (tV t) (tW t)).length := Nat.min_le_right _ _
        refine j_aload_n (pc := 112) dX11_seek_112 rfl ?_
        refine j_getPv (pc := 113) dX11_seek_113 f_X11_33 (Or.inl ⟨_, rfl⟩) (by assumption) (h3.1.2.1.2.2.2.1) ?_
        refine j_aload_n (pc := 116) dX11_seek_116 rfl ?_
        refine j_getPv (pc := 117) dX11_seek_117 f_X11_26 (Or.inl ⟨_, rfl⟩) (by assumption) (h3.1.2.1.2.2.1) ?_
        refine j_iload_n (pc := 120) dX11_seek_120 rfl ?_
        refine j_iconst (pc := 121) (v := 0) dX11_seek_121 (by decide) ?_
        refine j_callV (pc := 122) (t := 4) (d_fill (sz := k) (st := 0) hC3 hPg fe.2.2.1 fe.2.2.2 htn2 (by omega) (by omega) (by omega) (by omega) (by omega) z2) dX11_seek_122 l_X11_200 mk_X4_fill mv_X4_fill (by decide) rfl (by assumption) (by decide) rfl rfl (Nat.le_of_ble_eq_true rfl) (Nat.le_refl _) (Nat.le_refl _) (fun r T3 h_1 => ?_)
        obtain ⟨rfl, kb', ka', ah', be', hPg3, hpw, f3⟩ := h_1
        have h4 := h3.pg f3 (zpage_cp hPg3 hpw z2)
        have k13 := h4.1.1
        have k933 : zkd T3 93 = (5, 0) := by rw [f3.1]; exact k93
        refine j_aload_n (pc := 125) dX11_seek_125 rfl ?_
        refine j_aload_n (pc := 126) dX11_seek_126 rfl ?_
        refine j_getPv (pc := 127) dX11_seek_127 f_X11_33 (Or.inl ⟨_, rfl⟩) (by assumption) (h4.1.2.1.2.2.2.1) ?_
        refine j_getIv (pc := 130) dX11_seek_130 f_X11_204 (Or.inl rfl) (by assumption) (hPg3.2.2.1) ?_
        refine j_callV (pc := 133) (t := 11) (c_answered k13 _) dX11_seek_133 l_X11_103 mk_X11_answered mv_X11_answered (by decide) rfl (by assumption) (by decide) rfl rfl (Nat.le_of_ble_eq_true rfl) (Nat.le_refl _) (Nat.le_refl _) (fun r T h_1 => ?_)
        obtain ⟨rfl, rfl⟩ := h_1
        refine j_iret (pc := 136) dX11_seek_136 rfl ?_
        have ez : q_seek s (nI k) v = zshow s (zpage t (tv t) (List.length (List.takeWhile (fun x => zkl (zkf (tO t) (tW t) x) (zpt e.2.1 e.2.2.1 e.2.2.2 v)) (zBB (tO t) (tV t) (tW t)))) (min (List.length (List.takeWhile (fun x => zkl (zkf (tO t) (tW t) x) (zpt e.2.1 e.2.2.1 e.2.2.2 v)) (zBB (tO t) (tV t) (tW t))) + k) (zBB (tO t) (tV t) (tW t)).length) k 0) := by
          simp only [q_seek, ht]
          rw [if_pos ⟨zbi_ne0 h17, by rw [ech]; exact zbi_ne0 h40⟩, zn, hcz, zlf, eek]
        rw [ez]
        exact ⟨rfl, h4.no 0, (((((fab.ab (a := 4) (by decide)).tr hG.q).tr fe.q).tr f3.xp)).tr zQF.w1⟩
      · refine j_aload_n (pc := 43) dX11_seek_43 rfl ?_
        refine j_iconst (pc := 44) (v := 2) dX11_seek_44 (by decide) ?_
        refine j_callV (pc := 45) (t := 11) (c_refused k1 _) dX11_seek_45 l_X11_68 mk_X11_refused mv_X11_refused (by decide) rfl (by assumption) (by decide) rfl rfl (Nat.le_of_ble_eq_true rfl) (Nat.le_refl _) (Nat.le_refl _) (fun r T h_1 => ?_)
        obtain ⟨rfl, rfl⟩ := h_1
        refine j_iret (pc := 48) dX11_seek_48 rfl ?_
        exact q_ref h zQF.rf (by simp only [q_seek, ht]; rw [if_neg (fun g => bnf (zbi_eq0.mp h40) (ech ▸ g.2))])
set_option maxRecDepth 20000 in
set_option maxHeartbeats 4000000 in
theorem p_byTok {E : zE} {S : zM} {s : zST} {n : Nat} (h : zCI S s) (hw : zWF n s) (x : Int32) (on : Bool) : zSp E 5 0 0 mX11_pageByToken cX11_pageByToken [zR 1, zI x, zI (zbi on)] S (fun r T => r = some (zI (q_tok s x on).1) ∧ zCI T (q_tok s x on).2 ∧ zQF S T) := by
  refine zSp.of (by decide) rfl (Nat.le_of_ble_eq_true rfl) rfl ?_
  obtain ⟨h0, hF, hG4, hi, hV, hP, hR, hT⟩ := _root_.id h
  have k1 := h0.1
  cases ht : sT s with
  | none =>
    rw [ht] at hT
    have p5 : zgP S 1 5 = 0 := hT
    refine j_aload_n (pc := 0) dX11_pageByToken_0 rfl ?_
    refine j_getPv (pc := 1) dX11_pageByToken_1 f_X11_44 (Or.inl ⟨_, rfl⟩) (by assumption) (p5) ?_
    refine j_ifnonnull (pc := 4) (tgt := 13) dX11_pageByToken_4 (by decide) (fun h4 => absurd rfl h4) (fun h4 => ?_)
    refine j_aload_n (pc := 7) dX11_pageByToken_7 rfl ?_
    refine j_iconst (pc := 8) (v := 1) dX11_pageByToken_8 (by decide) ?_
    refine j_callV (pc := 9) (t := 11) (c_refused k1 _) dX11_pageByToken_9 l_X11_68 mk_X11_refused mv_X11_refused (by decide) rfl (by assumption) (by decide) rfl rfl (Nat.le_of_ble_eq_true rfl) (Nat.le_refl _) (Nat.le_refl _) (fun r T h_1 => ?_)
    obtain ⟨rfl, rfl⟩ := h_1
    refine j_iret (pc := 12) dX11_pageByToken_12 rfl ?_
    exact q_ref h zQF.rf (by rw [q_tok, ht])
  | some t =>
    rw [ht] at hT
    obtain ⟨a, p5, a161, ag, hTt, hVI⟩ := hT
    obtain ⟨ka, q2, q3, q4, q5, q6, q1, i7, i8⟩ := hTt.d
    have k6 : zkd S 6 = (11, 0) := by obtain ⟨q, t0, g, h1, h2⟩ := hV.1; exact h1.1.1
    obtain ⟨so, si, sc, ol, hTA, hHi⟩ := hTt
    have hOr := hTA.2.2.1
    have hSv := hTA.2.2.2.1
    have hRo := hTA.2.2.2.2.1
    have hAc := hTA.2.2.2.2.2.1
    have kor := hOr.1.1
    have ksv := hSv.1.1
    have kro := hRo.1
    have kac := hAc.1.1
    have iv := hAc.2.2.1
    have hn : n ≤ 600 := Nat.le_of_lt hw.1
    have hwT := hw.2.2.2
    rw [ht] at hwT
    obtain ⟨hWt, hWp, hWr⟩ := hwT
    have hv600 := hWt.2.2.2.2.2.1.1
    have ht600 := hWt.2.2.2.2.2.1.2
    have hon := zbi_01 on
    obtain ⟨Ge, hGe⟩ := hG4
    have l9 := hF.2.2.2.2.2.1
    have k2 := hF.1
    have kg := hGe.1
    have hb : ∀ i, i < (sF s).length → (sF s).getD i 0 < 256 := fun i hi => (hF.2.2.2.2.2.2 i hi).2
    refine j_aload_n (pc := 0) dX11_pageByToken_0 rfl ?_
    refine j_getPv (pc := 1) dX11_pageByToken_1 f_X11_44 (Or.inl ⟨_, rfl⟩) (by assumption) (p5) ?_
    refine j_ifnonnull (pc := 4) (tgt := 13) dX11_pageByToken_4 (by decide) (fun h4 => ?_) (fun h4 => absurd h4 (by omega))
    refine j_aload_n (pc := 13) dX11_pageByToken_13 rfl ?_
    refine j_iload_n (pc := 14) dX11_pageByToken_14 rfl ?_
    refine j_callV (pc := 15) (t := 11) (c_isOnTape k1 h0.2.1.1 hF _) dX11_pageByToken_15 l_X11_64 mk_X11_isOnTape mv_X11_isOnTape (by decide) rfl (by assumption) (by decide) rfl rfl (Nat.le_of_ble_eq_true rfl) (Nat.le_refl _) (Nat.le_refl _) (fun r T h_1 => ?_)
    obtain ⟨rfl, rfl⟩ := h_1
    refine j_if_ne (pc := 18) (tgt := 27) dX11_pageByToken_18 (by decide) (fun h18 => ?_) (fun h18 => ?_)
    · obtain ⟨k, hk, rfl⟩ := zoT_t hw.2.1.1 (zbi_ne0 h18)
      have hcz : (nI k).toNatClampNeg = k := nI_clamp (by omega)
      refine j_aload_n (pc := 27) dX11_pageByToken_27 rfl ?_
      refine j_iload_n (pc := 28) dX11_pageByToken_28 rfl ?_
      refine j_callV (pc := 29) (t := 11) (c_wtok h ht hk) dX11_pageByToken_29 l_X11_236 mk_X11_troubleOfToken mv_X11_troubleOfToken (by decide) rfl (by assumption) (by decide) rfl rfl (Nat.le_of_ble_eq_true rfl) (Nat.le_refl _) (Nat.le_refl _) (fun r T h_1 => ?_)
      obtain ⟨rfl, rfl⟩ := h_1
      refine j_istore_n (pc := 32) (ls' := [_, _, _, _, _, _]) dX11_pageByToken_32 (by decide) rfl rfl ?_
      refine j_iload_n (pc := 33) dX11_pageByToken_33 rfl ?_
      refine j_if_eq (pc := 34) (tgt := 50) dX11_pageByToken_34 (by decide) (fun h34 => ?_) (fun h34 => ?_)
      · have hz0 : zwt t (sF s) k = 0 := (nI_eq (b := 0) (by have := zwt_le t (sF s) k; omega) (by decide)).mp h34
        obtain ⟨hk8, hb1, hb20, hstv⟩ := zwt_0 hz0
        have b3 := hb 3 (by omega)
        have b4 := hb 4 (by omega)
        have hst16 : zst (sF s) < 65536 := by show (sF s).getD 3 0 * 256 + (sF s).getD 4 0 < 65536; omega
        have hvr1 : zvr t (sF s) ≤ tv t := by
          rw [zvr]
          split
          · exact Nat.le_refl _
          · rename_i g
            obtain ⟨w, e1, e2, e3⟩ := zcv_t (by omega) (hstv g)
            have := (nI_eq (by omega) (by omega)).mp e1
            omega
        have hvr2 : tv t ≤ zvr t (sF s) + 40 := by
          rw [zvr]
          split
          · omega
          · rename_i g
            obtain ⟨w, e1, e2, e3⟩ := zcv_t (by omega) (hstv g)
            have := (nI_eq (by omega) (by omega)).mp e1
            omega
        refine j_aload_n (pc := 50) dX11_pageByToken_50 rfl ?_
        refine j_getPv (pc := 51) dX11_pageByToken_51 f_X11_16 (Or.inl ⟨_, rfl⟩) (by assumption) (h0.2.1.1) ?_
        refine j_iconst (pc := 54) (v := 2) dX11_pageByToken_54 (by decide) ?_
        refine j_callV (pc := 55) (t := 1) (c_get hF _) dX11_pageByToken_55 l_X11_181 mk_X1_get mv_X1_get (by decide) rfl (by assumption) (by decide) rfl rfl (Nat.le_of_ble_eq_true rfl) (Nat.le_refl _) (Nat.le_refl _) (fun r T h_1 => ?_)
        obtain ⟨rfl, rfl⟩ := h_1
        rw [zgetL (i := 2) (x := 2) rfl (by omega) l9]
        refine j_istore (pc := 58) (ls' := [_, _, _, _, _, _]) dX11_pageByToken_58 (by decide) rfl rfl ?_
        refine j_aload_n (pc := 60) dX11_pageByToken_60 rfl ?_
        refine j_getPv (pc := 61) dX11_pageByToken_61 f_X11_16 (Or.inl ⟨_, rfl⟩) (by assumption) (h0.2.1.1) ?_
        refine j_iconst (pc := 64) (v := 3) dX11_pageByToken_64 (by decide) ?_
        refine j_callV (pc := 65) (t := 1) (c_getTwo hF _) dX11_pageByToken_65 l_X11_341 mk_X1_getTwo mv_X1_getTwo (by decide) rfl (by assumption) (by decide) rfl rfl (Nat.le_of_ble_eq_true rfl) (Nat.le_refl _) (Nat.le_refl _) (fun r T h_1 => ?_)
        obtain ⟨rfl, rfl⟩ := h_1
        rw [zgetL (i := 3) (x := 3) rfl (by omega) l9, zgetL (i := 4) (x := 3 + 1) rfl (by omega) l9, show nI ((sF s).getD 3 0) * 256 + nI ((sF s).getD 4 0) = nI (zst (sF s)) by rw [show (256 : Int32) = nI 256 from rfl, pk_mul, nI_add]]
        refine j_istore (pc := 68) (ls' := [_, _, _, _, _, _]) dX11_pageByToken_68 (by decide) rfl rfl ?_
        refine j_aload_n (pc := 70) dX11_pageByToken_70 rfl ?_
        refine j_getPv (pc := 71) dX11_pageByToken_71 f_X11_20 (Or.inl ⟨_, rfl⟩) (by assumption) (h0.2.1.2.1) ?_
        refine j_callV (pc := 74) (t := 1) (c_empty hGe) dX11_pageByToken_74 l_X11_84 mk_X1_empty mv_X1_empty (by decide) rfl (by assumption) (by decide) rfl rfl (Nat.le_of_ble_eq_true rfl) (Nat.le_refl _) (Nat.le_refl _) (fun r T h_1 => ?_)
        obtain ⟨rfl, rfl⟩ := h_1
        have fa : zF (zAB 4 5) S (zwI S 4 1 0) := zF.wI (Or.inl rfl)
        have ga := hGe.empty
        have h1a := h.edge fa ga
        have k1a := h1a.1.1
        have k4a := ga.1
        have hFa := h1a.2.1
        have k2a := hFa.1
        refine j_aload_n (pc := 77) dX11_pageByToken_77 rfl ?_
        refine j_getPv (pc := 78) dX11_pageByToken_78 f_X11_20 (Or.inl ⟨_, rfl⟩) (by assumption) (h1a.1.2.1.2.1) ?_
        refine j_aload_n (pc := 81) dX11_pageByToken_81 rfl ?_
        refine j_getPv (pc := 82) dX11_pageByToken_82 f_X11_16 (Or.inl ⟨_, rfl⟩) (by assumption) (h1a.1.2.1.1) ?_
        refine j_iconst (pc := 85) (v := 5) dX11_pageByToken_85 (by decide) ?_
        refine j_iload_n (pc := 86) dX11_pageByToken_86 rfl ?_
        refine j_iconst (pc := 87) (v := 1) dX11_pageByToken_87 (by decide) ?_
        refine j_isub (pc := 88) dX11_pageByToken_88 ?_
        rw [show nI k - 1 = nI (k - 1) from pk_sub (b := 1) (by omega)]
        refine j_callV (pc := 89) (t := 1) (c_append (f := 5) (e := k - 1) ga hFa ⟨by decide, by decide, by decide, by decide⟩ (by omega) (by omega) (by simp only [List.length_nil]; omega)) dX11_pageByToken_89 l_X11_344 mk_X1_append mv_X1_append (by decide) rfl (by assumption) (by decide) rfl rfl (Nat.le_of_ble_eq_true rfl) (Nat.le_refl _) (Nat.le_refl _) (fun r T0 h_1 => ?_)
        obtain ⟨rfl, gb, fb⟩ := h_1
        rw [List.nil_append, show k - 1 - 5 = k - 6 by omega] at gb
        have gb : zBy T0 4 5 900 (zgk (sF s) k) := gb
        have fab := fa.tr fb
        have h1b := h.edge fab gb
        have k1b := h1b.1.1
        have k4b := gb.1
        have p5b : zgP T0 1 5 = a := by rw [fab.2.2.1]; exact p5
        have hTAb := hTA.ag (T := T0) (fun k hk => fab.ag (by unfold zAB; omega))
        have kab := hTAb.1.1.1
        have kacb := hTAb.2.2.2.2.2.1.1.1
        have q5b := hTAb.2.1.2.2.2.1
        have k6b : zkd T0 6 = (11, 0) := by rw [fab.1]; exact k6
        refine j_aload_n (pc := 92) dX11_pageByToken_92 rfl ?_
        refine j_getPv (pc := 93) dX11_pageByToken_93 f_X11_26 (Or.inl ⟨_, rfl⟩) (by assumption) (h1b.1.2.1.2.2.1) ?_
        refine j_aload_n (pc := 96) dX11_pageByToken_96 rfl ?_
        refine j_getPv (pc := 97) dX11_pageByToken_97 f_X11_44 (Or.inl ⟨_, rfl⟩) (by assumption) (p5b) ?_
        refine j_iload (pc := 100) dX11_pageByToken_100 rfl ?_
        refine j_if_ne (pc := 102) (tgt := 118) dX11_pageByToken_102 (by decide) (fun h102 => ?_) (fun h102 => ?_)
        · refine j_iload (pc := 118) dX11_pageByToken_118 rfl ?_
          refine j_iconst (pc := 120) (v := 1) dX11_pageByToken_120 (by decide) ?_
          refine j_isub (pc := 121) dX11_pageByToken_121 ?_
          rw [show nI (zst (sF s)) - 1 = nI (zvr t (sF s)) by rw [zvr, if_neg (fun g => h102 (by rw [g]; rfl)), show nI (zst (sF s)) - 1 = nI (zst (sF s) - 1) from pk_sub (b := 1) (Nat.pos_of_ne_zero (fun g => h102 (by rw [g]; rfl)))]]
          refine j_callV (pc := 122) (t := 10) (c_showS (w := zvr t (sF s)) h1b ht hWt hn p5b hvr1 hvr2) dX11_pageByToken_122 l_X11_169 mk_X10_show mv_X10_show (by decide) rfl (by assumption) (by decide) rfl rfl (Nat.le_of_ble_eq_true rfl) (Nat.le_refl _) (Nat.le_refl _) (fun r T1 h_1 => ?_)
          obtain ⟨rfl, h2, hC, htn1, hG⟩ := h_1
          have ag2 : ∀ c, c < 6 ∨ 92 < c → zAg T0 T1 c := fun c hc => hG.2.2 c (by unfold zXV; omega)
          have k11 := h2.1.1
          have k61 := hC.sh.1
          have hP1 := h2.2.2.2.2.2.1
          have p51 : zgP T1 1 5 = a := ((ag2 1 (by omega)).2.2.2 5).trans p5b
          have gb1 := gb.ag (ag2 4 (by omega)) (ag2 5 (by omega))
          have k41 := gb1.1
          refine j_aload_n (pc := 125) dX11_pageByToken_125 rfl ?_
          refine j_getPv (pc := 126) dX11_pageByToken_126 f_X11_26 (Or.inl ⟨_, rfl⟩) (by assumption) (h2.1.2.1.2.2.1) ?_
          refine j_aload_n (pc := 129) dX11_pageByToken_129 rfl ?_
          refine j_getPv (pc := 130) dX11_pageByToken_130 f_X11_20 (Or.inl ⟨_, rfl⟩) (by assumption) (h2.1.2.1.2.1) ?_
          refine j_iload (pc := 133) dX11_pageByToken_133 rfl ?_
          refine j_iload_n (pc := 135) dX11_pageByToken_135 rfl ?_
          refine j_callV (pc := 136) (t := 10) (d_chooseBeside hC gb1 (show (sF s).getD 2 0 < 2 ^ 20 by omega) on) dX11_pageByToken_136 l_X11_348 mk_X10_chooseBeside mv_X10_chooseBeside (by decide) rfl (by assumption) (by decide) rfl rfl (Nat.le_of_ble_eq_true rfl) (Nat.le_refl _) (Nat.le_refl _) (fun r T2 h_1 => ?_)
          obtain ⟨rfl, fe⟩ := h_1
          have h3 := h2.six fe
          have hC3 := hC.six fe.1 fe.2.1
          have k12 := h3.1.1
          have k62 := hC3.sh.1
          have htn2 : zgI T2 6 10 = nI (tn t) := (fe.2.1 10 (by decide) (by decide)).trans htn1
          obtain ⟨pt, ids, vs, kb, ka, kk, ah, be, hPg⟩ := h3.2.2.2.2.2.1.any
          have k93 := hPg.1.1
          have lB := hC3.len.2
          obtain ⟨z1, z2, z3⟩ := zbfe (tO t) (tV t) (tH t (zvr t (sF s))) (zgk (sF s) k) ((sF s).getD 2 0) on
          have gb2 := gb1.keep fe.1 (by decide) (by decide)
          refine j_aload_n (pc := 139) dX11_pageByToken_139 rfl ?_
          refine j_getPv (pc := 140) dX11_pageByToken_140 f_X11_33 (Or.inl ⟨_, rfl⟩) (by assumption) (h3.1.2.1.2.2.2.1) ?_
          refine j_aload_n (pc := 143) dX11_pageByToken_143 rfl ?_
          refine j_getPv (pc := 144) dX11_pageByToken_144 f_X11_26 (Or.inl ⟨_, rfl⟩) (by assumption) (h3.1.2.1.2.2.1) ?_
          refine j_iload (pc := 147) dX11_pageByToken_147 rfl ?_
          refine j_iload (pc := 149) dX11_pageByToken_149 rfl ?_
          refine j_callV (pc := 151) (t := 4) (d_fill (sz := (sF s).getD 2 0) (st := zst (sF s)) hC3 hPg fe.2.2.1 fe.2.2.2 htn2 (by omega) (by omega) (by omega) z1 (by omega) z2) dX11_pageByToken_151 l_X11_200 mk_X4_fill mv_X4_fill (by decide) rfl (by assumption) (by decide) rfl rfl (Nat.le_of_ble_eq_true rfl) (Nat.le_refl _) (Nat.le_refl _) (fun r T3 h_1 => ?_)
          obtain ⟨rfl, kb', ka', ah', be', hPg3, hpw, f3⟩ := h_1
          have h4 := h3.pg f3 (zpage_cp hPg3 hpw z2)
          have k13 := h4.1.1
          have k933 : zkd T3 93 = (5, 0) := by rw [f3.1]; exact k93
          have hC4 := hC3.ag (T := T3) (fun c c1 c2 => f3.ag (by unfold zXP; omega))
          have gb3 := gb2.keep f3 (by decide) (by decide)
          have hF3 := h4.2.1
          have k63 := hC4.sh.1
          have k23 := hF3.1
          have k43 := gb3.1
          refine j_aload_n (pc := 154) dX11_pageByToken_154 rfl ?_
          refine j_getPv (pc := 155) dX11_pageByToken_155 f_X11_33 (Or.inl ⟨_, rfl⟩) (by assumption) (h4.1.2.1.2.2.2.1) ?_
          refine j_aload_n (pc := 158) dX11_pageByToken_158 rfl ?_
          refine j_getPv (pc := 159) dX11_pageByToken_159 f_X11_16 (Or.inl ⟨_, rfl⟩) (by assumption) (h4.1.2.1.1) ?_
          refine j_iload_n (pc := 162) dX11_pageByToken_162 rfl ?_
          refine j_aload_n (pc := 163) dX11_pageByToken_163 rfl ?_
          refine j_getPv (pc := 164) dX11_pageByToken_164 f_X11_26 (Or.inl ⟨_, rfl⟩) (by assumption) (h4.1.2.1.2.2.1) ?_
          refine j_aload_n (pc := 167) dX11_pageByToken_167 rfl ?_
          refine j_getPv (pc := 168) dX11_pageByToken_168 f_X11_20 (Or.inl ⟨_, rfl⟩) (by assumption) (h4.1.2.1.2.1) ?_
          refine j_callV (pc := 171) (t := 4) (d_keepToken hC4 hPg3 hF3 (show k ≤ _ from hk) (by omega) ⟨by decide, by decide⟩ gb3 ⟨by decide, by decide⟩) dX11_pageByToken_171 l_X11_352 mk_X4_keepToken mv_X4_keepToken (by decide) rfl (by assumption) (by decide) rfl rfl (Nat.le_of_ble_eq_true rfl) (Nat.le_refl _) (Nat.le_refl _) (fun r T4 h_1 => ?_)
          obtain ⟨rfl, f4, hke⟩ := h_1
          have hcp : zCP T4 (some (zkeep t (sF s) k (zpage t (zvr t (sF s)) (zbf (tO t) (tV t) (tH t (zvr t (sF s))) (zgk (sF s) k) ((sF s).getD 2 0) on) (zbe (tO t) (tV t) (tH t (zvr t (sF s))) (zgk (sF s) k) ((sF s).getD 2 0) on) ((sF s).getD 2 0) (zst (sF s))))) := by
            by_cases g : (zid (tO t) (tV t) (tH t (zvr t (sF s))) (zbf (tO t) (tV t) (tH t (zvr t (sF s))) (zgk (sF s) k) ((sF s).getD 2 0) on) (zbe (tO t) (tV t) (tH t (zvr t (sF s))) (zgk (sF s) k) ((sF s).getD 2 0) on)).length = 0
            · rw [if_pos g] at hke
              rw [zkeep_0 (q := (zpage t (zvr t (sF s)) (zbf (tO t) (tV t) (tH t (zvr t (sF s))) (zgk (sF s) k) ((sF s).getD 2 0) on) (zbe (tO t) (tV t) (tH t (zvr t (sF s))) (zgk (sF s) k) ((sF s).getD 2 0) on) ((sF s).getD 2 0) (zst (sF s)))) g]
              exact ⟨_, _, _, hke, (if_pos g).symm, (if_pos g).symm⟩
            · rw [if_neg g] at hke
              rw [zkeep_1 (q := (zpage t (zvr t (sF s)) (zbf (tO t) (tV t) (tH t (zvr t (sF s))) (zgk (sF s) k) ((sF s).getD 2 0) on) (zbe (tO t) (tV t) (tH t (zvr t (sF s))) (zgk (sF s) k) ((sF s).getD 2 0) on) ((sF s).getD 2 0) (zst (sF s)))) g, hke]
              exact zpage_cp hPg3 hpw z2
          have h5 := h4.pg f4 hcp
          have i65 : zgI T4 93 6 = nI (zid (tO t) (tV t) (tH t (zvr t (sF s))) (zbf (tO t) (tV t) (tH t (zvr t (sF s))) (zgk (sF s) k) ((sF s).getD 2 0) on) (zbe (tO t) (tV t) (tH t (zvr t (sF s))) (zgk (sF s) k) ((sF s).getD 2 0) on)).length := by
            by_cases g : (zid (tO t) (tV t) (tH t (zvr t (sF s))) (zbf (tO t) (tV t) (tH t (zvr t (sF s))) (zgk (sF s) k) ((sF s).getD 2 0) on) (zbe (tO t) (tV t) (tH t (zvr t (sF s))) (zgk (sF s) k) ((sF s).getD 2 0) on)).length = 0
            · rw [if_pos g] at hke
              exact hke.2.2.1
            · rw [if_neg g] at hke
              rw [hke]
              exact hPg3.2.2.1
          have k15 := h5.1.1
          have p05 := h5.1.2.1.1
          have k25 := h5.2.1.1
          have k935 : zkd T4 93 = (5, 0) := by rw [f4.1]; exact k933
          refine j_aload_n (pc := 174) dX11_pageByToken_174 rfl ?_
          refine j_getPv (pc := 175) dX11_pageByToken_175 f_X11_16 (Or.inl ⟨_, rfl⟩) (by assumption) (p05) ?_
          refine j_callV (pc := 178) (t := 1) (c_empty h5.2.1) dX11_pageByToken_178 l_X11_84 mk_X1_empty mv_X1_empty (by decide) rfl (by assumption) (by decide) rfl rfl (Nat.le_of_ble_eq_true rfl) (Nat.le_refl _) (Nat.le_refl _) (fun r T h_1 => ?_)
          obtain ⟨rfl, rfl⟩ := h_1
          have h6 := h5.fed (F := []) (zF.wI (X := zAB 2 3) (Or.inl rfl)) h5.2.1.empty
          have k16 := h6.1.1
          have p35 := h6.1.2.1.2.2.2.1
          have i65 : zgI (zwI T4 2 1 0) 93 6 = _ := (zgI_ne (by decide)).trans i65
          refine j_aload_n (pc := 181) dX11_pageByToken_181 rfl ?_
          refine j_aload_n (pc := 182) dX11_pageByToken_182 rfl ?_
          refine j_getPv (pc := 183) dX11_pageByToken_183 f_X11_33 (Or.inl ⟨_, rfl⟩) (by assumption) (p35) ?_
          refine j_getIv (pc := 186) dX11_pageByToken_186 f_X11_204 (Or.inl rfl) (by assumption) (i65) ?_
          refine j_callV (pc := 189) (t := 11) (c_answered k16 _) dX11_pageByToken_189 l_X11_103 mk_X11_answered mv_X11_answered (by decide) rfl (by assumption) (by decide) rfl rfl (Nat.le_of_ble_eq_true rfl) (Nat.le_refl _) (Nat.le_refl _) (fun r T h_1 => ?_)
          obtain ⟨rfl, rfl⟩ := h_1
          refine j_iret (pc := 192) dX11_pageByToken_192 rfl ?_
          have ez : q_tok s (nI k) on = zshow ([], s.2) (zkeep t (sF s) k (zpage t (zvr t (sF s)) (zbf (tO t) (tV t) (tH t (zvr t (sF s))) (zgk (sF s) k) ((sF s).getD 2 0) on) (zbe (tO t) (tV t) (tH t (zvr t (sF s))) (zgk (sF s) k) ((sF s).getD 2 0) on) ((sF s).getD 2 0) (zst (sF s)))) := by
            simp only [q_tok, ht]
            rw [if_neg (bnf2 (zbi_ne0 h18)), zn, hcz, if_neg (not_not_intro hz0)]
          rw [ez]
          refine ⟨?_, h6.no 0, (((((fab.ab (a := 4) (by decide)).tr hG.q).tr fe.q).tr f3.xp).tr f4.xp).tr ((zF.wI (X := zOM) (Or.inl (by decide))).nf.tr zQF.w1)⟩
          have hl : (zkeep t (sF s) k (zpage t (zvr t (sF s)) (zbf (tO t) (tV t) (tH t (zvr t (sF s))) (zgk (sF s) k) ((sF s).getD 2 0) on) (zbe (tO t) (tV t) (tH t (zvr t (sF s))) (zgk (sF s) k) ((sF s).getD 2 0) on) ((sF s).getD 2 0) (zst (sF s)))).1 = (zpage t (zvr t (sF s)) (zbf (tO t) (tV t) (tH t (zvr t (sF s))) (zgk (sF s) k) ((sF s).getD 2 0) on) (zbe (tO t) (tV t) (tH t (zvr t (sF s))) (zgk (sF s) k) ((sF s).getD 2 0) on) ((sF s).getD 2 0) (zst (sF s))).1 := by
            unfold zkeep
            split <;> rfl
          show _ = some (zI (nI (zkeep t (sF s) k (zpage t (zvr t (sF s)) (zbf (tO t) (tV t) (tH t (zvr t (sF s))) (zgk (sF s) k) ((sF s).getD 2 0) on) (zbe (tO t) (tV t) (tH t (zvr t (sF s))) (zgk (sF s) k) ((sF s).getD 2 0) on) ((sF s).getD 2 0) (zst (sF s)))).1.length))
          rw [hl]
          rfl
        · refine j_aload_n (pc := 105) dX11_pageByToken_105 rfl ?_
          refine j_getPv (pc := 106) dX11_pageByToken_106 f_X11_44 (Or.inl ⟨_, rfl⟩) (by assumption) (p5b) ?_
          refine j_getPv (pc := 109) dX11_pageByToken_109 f_X11_119 (Or.inl ⟨_, rfl⟩) (by assumption) (q5b) ?_
          refine j_getIv (pc := 112) dX11_pageByToken_112 f_X11_123 (Or.inl rfl) (by assumption) (hTAb.2.2.2.2.2.1.2.2.1) ?_
          refine j_goto (pc := 115) (tgt := 122) dX11_pageByToken_115 (by decide) ?_
          rw [show nI (tv t) = nI (zvr t (sF s)) by rw [zvr, if_pos ((nI_eq (b := 0) (by omega) (by decide)).mp h102)]]
          refine j_callV (pc := 122) (t := 10) (c_showS (w := zvr t (sF s)) h1b ht hWt hn p5b hvr1 hvr2) dX11_pageByToken_122 l_X11_169 mk_X10_show mv_X10_show (by decide) rfl (by assumption) (by decide) rfl rfl (Nat.le_of_ble_eq_true rfl) (Nat.le_refl _) (Nat.le_refl _) (fun r T1 h_1 => ?_)
          obtain ⟨rfl, h2, hC, htn1, hG⟩ := h_1
          have ag2 : ∀ c, c < 6 ∨ 92 < c → zAg T0 T1 c := fun c hc => hG.2.2 c (by unfold zXV; omega)
          have k11 := h2.1.1
          have k61 := hC.sh.1
          have hP1 := h2.2.2.2.2.2.1
          have p51 : zgP T1 1 5 = a := ((ag2 1 (by omega)).2.2.2 5).trans p5b
          have gb1 := gb.ag (ag2 4 (by omega)) (ag2 5 (by omega))
          have k41 := gb1.1
          refine j_aload_n (pc := 125) dX11_pageByToken_125 rfl ?_
          refine j_getPv (pc := 126) dX11_pageByToken_126 f_X11_26 (Or.inl ⟨_, rfl⟩) (by assumption) (h2.1.2.1.2.2.1) ?_
          refine j_aload_n (pc := 129) dX11_pageByToken_129 rfl ?_
          refine j_getPv (pc := 130) dX11_pageByToken_130 f_X11_20 (Or.inl ⟨_, rfl⟩) (by assumption) (h2.1.2.1.2.1) ?_
          refine j_iload (pc := 133) dX11_pageByToken_133 rfl ?_
          refine j_iload_n (pc := 135) dX11_pageByToken_135 rfl ?_
          refine j_callV (pc := 136) (t := 10) (d_chooseBeside hC gb1 (show (sF s).getD 2 0 < 2 ^ 20 by omega) on) dX11_pageByToken_136 l_X11_348 mk_X10_chooseBeside mv_X10_chooseBeside (by decide) rfl (by assumption) (by decide) rfl rfl (Nat.le_of_ble_eq_true rfl) (Nat.le_refl _) (Nat.le_refl _) (fun r T2 h_1 => ?_)
          obtain ⟨rfl, fe⟩ := h_1
          have h3 := h2.six fe
          have hC3 := hC.six fe.1 fe.2.1
          have k12 := h3.1.1
          have k62 := hC3.sh.1
          have htn2 : zgI T2 6 10 = nI (tn t) := (fe.2.1 10 (by decide) (by decide)).trans htn1
          obtain ⟨pt, ids, vs, kb, ka, kk, ah, be, hPg⟩ := h3.2.2.2.2.2.1.any
          have k93 := hPg.1.1
          have lB := hC3.len.2
          obtain ⟨z1, z2, z3⟩ := zbfe (tO t) (tV t) (tH t (zvr t (sF s))) (zgk (sF s) k) ((sF s).getD 2 0) on
          have gb2 := gb1.keep fe.1 (by decide) (by decide)
          refine j_aload_n (pc := 139) dX11_pageByToken_139 rfl ?_
          refine j_getPv (pc := 140) dX11_pageByToken_140 f_X11_33 (Or.inl ⟨_, rfl⟩) (by assumption) (h3.1.2.1.2.2.2.1) ?_
          refine j_aload_n (pc := 143) dX11_pageByToken_143 rfl ?_
          refine j_getPv (pc := 144) dX11_pageByToken_144 f_X11_26 (Or.inl ⟨_, rfl⟩) (by assumption) (h3.1.2.1.2.2.1) ?_
          refine j_iload (pc := 147) dX11_pageByToken_147 rfl ?_
          refine j_iload (pc := 149) dX11_pageByToken_149 rfl ?_
          refine j_callV (pc := 151) (t := 4) (d_fill (sz := (sF s).getD 2 0) (st := zst (sF s)) hC3 hPg fe.2.2.1 fe.2.2.2 htn2 (by omega) (by omega) (by omega) z1 (by omega) z2) dX11_pageByToken_151 l_X11_200 mk_X4_fill mv_X4_fill (by decide) rfl (by assumption) (by decide) rfl rfl (Nat.le_of_ble_eq_true rfl) (Nat.le_refl _) (Nat.le_refl _) (fun r T3 h_1 => ?_)
          obtain ⟨rfl, kb', ka', ah', be', hPg3, hpw, f3⟩ := h_1
          have h4 := h3.pg f3 (zpage_cp hPg3 hpw z2)
          have k13 := h4.1.1
          have k933 : zkd T3 93 = (5, 0) := by rw [f3.1]; exact k93
          have hC4 := hC3.ag (T := T3) (fun c c1 c2 => f3.ag (by unfold zXP; omega))
          have gb3 := gb2.keep f3 (by decide) (by decide)
          have hF3 := h4.2.1
          have k63 := hC4.sh.1
          have k23 := hF3.1
          have k43 := gb3.1
          refine j_aload_n (pc := 154) dX11_pageByToken_154 rfl ?_
          refine j_getPv (pc := 155) dX11_pageByToken_155 f_X11_33 (Or.inl ⟨_, rfl⟩) (by assumption) (h4.1.2.1.2.2.2.1) ?_
          refine j_aload_n (pc := 158) dX11_pageByToken_158 rfl ?_
          refine j_getPv (pc := 159) dX11_pageByToken_159 f_X11_16 (Or.inl ⟨_, rfl⟩) (by assumption) (h4.1.2.1.1) ?_
          refine j_iload_n (pc := 162) dX11_pageByToken_162 rfl ?_
          refine j_aload_n (pc := 163) dX11_pageByToken_163 rfl ?_
          refine j_getPv (pc := 164) dX11_pageByToken_164 f_X11_26 (Or.inl ⟨_, rfl⟩) (by assumption) (h4.1.2.1.2.2.1) ?_
          refine j_aload_n (pc := 167) dX11_pageByToken_167 rfl ?_
          refine j_getPv (pc := 168) dX11_pageByToken_168 f_X11_20 (Or.inl ⟨_, rfl⟩) (by assumption) (h4.1.2.1.2.1) ?_
          refine j_callV (pc := 171) (t := 4) (d_keepToken hC4 hPg3 hF3 (show k ≤ _ from hk) (by omega) ⟨by decide, by decide⟩ gb3 ⟨by decide, by decide⟩) dX11_pageByToken_171 l_X11_352 mk_X4_keepToken mv_X4_keepToken (by decide) rfl (by assumption) (by decide) rfl rfl (Nat.le_of_ble_eq_true rfl) (Nat.le_refl _) (Nat.le_refl _) (fun r T4 h_1 => ?_)
          obtain ⟨rfl, f4, hke⟩ := h_1
          have hcp : zCP T4 (some (zkeep t (sF s) k (zpage t (zvr t (sF s)) (zbf (tO t) (tV t) (tH t (zvr t (sF s))) (zgk (sF s) k) ((sF s).getD 2 0) on) (zbe (tO t) (tV t) (tH t (zvr t (sF s))) (zgk (sF s) k) ((sF s).getD 2 0) on) ((sF s).getD 2 0) (zst (sF s))))) := by
            by_cases g : (zid (tO t) (tV t) (tH t (zvr t (sF s))) (zbf (tO t) (tV t) (tH t (zvr t (sF s))) (zgk (sF s) k) ((sF s).getD 2 0) on) (zbe (tO t) (tV t) (tH t (zvr t (sF s))) (zgk (sF s) k) ((sF s).getD 2 0) on)).length = 0
            · rw [if_pos g] at hke
              rw [zkeep_0 (q := (zpage t (zvr t (sF s)) (zbf (tO t) (tV t) (tH t (zvr t (sF s))) (zgk (sF s) k) ((sF s).getD 2 0) on) (zbe (tO t) (tV t) (tH t (zvr t (sF s))) (zgk (sF s) k) ((sF s).getD 2 0) on) ((sF s).getD 2 0) (zst (sF s)))) g]
              exact ⟨_, _, _, hke, (if_pos g).symm, (if_pos g).symm⟩
            · rw [if_neg g] at hke
              rw [zkeep_1 (q := (zpage t (zvr t (sF s)) (zbf (tO t) (tV t) (tH t (zvr t (sF s))) (zgk (sF s) k) ((sF s).getD 2 0) on) (zbe (tO t) (tV t) (tH t (zvr t (sF s))) (zgk (sF s) k) ((sF s).getD 2 0) on) ((sF s).getD 2 0) (zst (sF s)))) g, hke]
              exact zpage_cp hPg3 hpw z2
          have h5 := h4.pg f4 hcp
          have i65 : zgI T4 93 6 = nI (zid (tO t) (tV t) (tH t (zvr t (sF s))) (zbf (tO t) (tV t) (tH t (zvr t (sF s))) (zgk (sF s) k) ((sF s).getD 2 0) on) (zbe (tO t) (tV t) (tH t (zvr t (sF s))) (zgk (sF s) k) ((sF s).getD 2 0) on)).length := by
            by_cases g : (zid (tO t) (tV t) (tH t (zvr t (sF s))) (zbf (tO t) (tV t) (tH t (zvr t (sF s))) (zgk (sF s) k) ((sF s).getD 2 0) on) (zbe (tO t) (tV t) (tH t (zvr t (sF s))) (zgk (sF s) k) ((sF s).getD 2 0) on)).length = 0
            · rw [if_pos g] at hke
              exact hke.2.2.1
            · rw [if_neg g] at hke
              rw [hke]
              exact hPg3.2.2.1
          have k15 := h5.1.1
          have p05 := h5.1.2.1.1
          have k25 := h5.2.1.1
          have k935 : zkd T4 93 = (5, 0) := by rw [f4.1]; exact k933
          refine j_aload_n (pc := 174) dX11_pageByToken_174 rfl ?_
          refine j_getPv (pc := 175) dX11_pageByToken_175 f_X11_16 (Or.inl ⟨_, rfl⟩) (by assumption) (p05) ?_
          refine j_callV (pc := 178) (t := 1) (c_empty h5.2.1) dX11_pageByToken_178 l_X11_84 mk_X1_empty mv_X1_empty (by decide) rfl (by assumption) (by decide) rfl rfl (Nat.le_of_ble_eq_true rfl) (Nat.le_refl _) (Nat.le_refl _) (fun r T h_1 => ?_)
          obtain ⟨rfl, rfl⟩ := h_1
          have h6 := h5.fed (F := []) (zF.wI (X := zAB 2 3) (Or.inl rfl)) h5.2.1.empty
          have k16 := h6.1.1
          have p35 := h6.1.2.1.2.2.2.1
          have i65 : zgI (zwI T4 2 1 0) 93 6 = _ := (zgI_ne (by decide)).trans i65
          refine j_aload_n (pc := 181) dX11_pageByToken_181 rfl ?_
          refine j_aload_n (pc := 182) dX11_pageByToken_182 rfl ?_
          refine j_getPv (pc := 183) dX11_pageByToken_183 f_X11_33 (Or.inl ⟨_, rfl⟩) (by assumption) (p35) ?_
          refine j_getIv (pc := 186) dX11_pageByToken_186 f_X11_204 (Or.inl rfl) (by assumption) (i65) ?_
          refine j_callV (pc := 189) (t := 11) (c_answered k16 _) dX11_pageByToken_189 l_X11_103 mk_X11_answered mv_X11_answered (by decide) rfl (by assumption) (by decide) rfl rfl (Nat.le_of_ble_eq_true rfl) (Nat.le_refl _) (Nat.le_refl _) (fun r T h_1 => ?_)
          obtain ⟨rfl, rfl⟩ := h_1
          refine j_iret (pc := 192) dX11_pageByToken_192 rfl ?_
          have ez : q_tok s (nI k) on = zshow ([], s.2) (zkeep t (sF s) k (zpage t (zvr t (sF s)) (zbf (tO t) (tV t) (tH t (zvr t (sF s))) (zgk (sF s) k) ((sF s).getD 2 0) on) (zbe (tO t) (tV t) (tH t (zvr t (sF s))) (zgk (sF s) k) ((sF s).getD 2 0) on) ((sF s).getD 2 0) (zst (sF s)))) := by
            simp only [q_tok, ht]
            rw [if_neg (bnf2 (zbi_ne0 h18)), zn, hcz, if_neg (not_not_intro hz0)]
          rw [ez]
          refine ⟨?_, h6.no 0, (((((fab.ab (a := 4) (by decide)).tr hG.q).tr fe.q).tr f3.xp).tr f4.xp).tr ((zF.wI (X := zOM) (Or.inl (by decide))).nf.tr zQF.w1)⟩
          have hl : (zkeep t (sF s) k (zpage t (zvr t (sF s)) (zbf (tO t) (tV t) (tH t (zvr t (sF s))) (zgk (sF s) k) ((sF s).getD 2 0) on) (zbe (tO t) (tV t) (tH t (zvr t (sF s))) (zgk (sF s) k) ((sF s).getD 2 0) on) ((sF s).getD 2 0) (zst (sF s)))).1 = (zpage t (zvr t (sF s)) (zbf (tO t) (tV t) (tH t (zvr t (sF s))) (zgk (sF s) k) ((sF s).getD 2 0) on) (zbe (tO t) (tV t) (tH t (zvr t (sF s))) (zgk (sF s) k) ((sF s).getD 2 0) on) ((sF s).getD 2 0) (zst (sF s))).1 := by
            unfold zkeep
            split <;> rfl
          show _ = some (zI (nI (zkeep t (sF s) k (zpage t (zvr t (sF s)) (zbf (tO t) (tV t) (tH t (zvr t (sF s))) (zgk (sF s) k) ((sF s).getD 2 0) on) (zbe (tO t) (tV t) (tH t (zvr t (sF s))) (zgk (sF s) k) ((sF s).getD 2 0) on) ((sF s).getD 2 0) (zst (sF s)))).1.length))
          rw [hl]
          rfl
      · refine j_aload_n (pc := 37) dX11_pageByToken_37 rfl ?_
        refine j_getPv (pc := 38) dX11_pageByToken_38 f_X11_16 (Or.inl ⟨_, rfl⟩) (by assumption) (h0.2.1.1) ?_
        refine j_callV (pc := 41) (t := 1) (c_empty hF) dX11_pageByToken_41 l_X11_84 mk_X1_empty mv_X1_empty (by decide) rfl (by assumption) (by decide) rfl rfl (Nat.le_of_ble_eq_true rfl) (Nat.le_refl _) (Nat.le_refl _) (fun r T h_1 => ?_)
        obtain ⟨rfl, rfl⟩ := h_1
        have hf0 := h.fed (F := []) (zF.wI (X := zAB 2 3) (Or.inl rfl)) hF.empty
        have k1f := hf0.1.1
        refine j_aload_n (pc := 44) dX11_pageByToken_44 rfl ?_
        refine j_iload_n (pc := 45) dX11_pageByToken_45 rfl ?_
        refine j_callV (pc := 46) (t := 11) (c_refused k1f _) dX11_pageByToken_46 l_X11_68 mk_X11_refused mv_X11_refused (by decide) rfl (by assumption) (by decide) rfl rfl (Nat.le_of_ble_eq_true rfl) (Nat.le_refl _) (Nat.le_refl _) (fun r T h_1 => ?_)
        obtain ⟨rfl, rfl⟩ := h_1
        refine j_iret (pc := 49) dX11_pageByToken_49 rfl ?_
        have hz : zwt t (sF s) k ≠ 0 := fun g => h34 (by rw [g]; rfl)
        have ez : q_tok s (nI k) on = (-1, ([], (zwt t (sF s) k, s.2.1.2), s.2.2)) := by
          simp only [q_tok, ht]
          rw [if_neg (bnf2 (zbi_ne0 h18)), zn, hcz, if_pos hz]
        rw [ez]
        exact ⟨rfl, hf0.no _, (zF.wI (X := zOM) (Or.inl (by decide))).nf.tr zQF.w1⟩
    · refine j_aload_n (pc := 21) dX11_pageByToken_21 rfl ?_
      refine j_iconst (pc := 22) (v := 2) dX11_pageByToken_22 (by decide) ?_
      refine j_callV (pc := 23) (t := 11) (c_refused k1 _) dX11_pageByToken_23 l_X11_68 mk_X11_refused mv_X11_refused (by decide) rfl (by assumption) (by decide) rfl rfl (Nat.le_of_ble_eq_true rfl) (Nat.le_refl _) (Nat.le_refl _) (fun r T h_1 => ?_)
      obtain ⟨rfl, rfl⟩ := h_1
      refine j_iret (pc := 26) dX11_pageByToken_26 rfl ?_
      exact q_ref h zQF.rf (by simp only [q_tok, ht]; rw [if_pos (zbi_eq0.mp h18)])
set_option maxRecDepth 20000 in
set_option maxHeartbeats 4000000 in
theorem p_next {E : zE} {S : zM} {s : zST} {n : Nat} (h : zCI S s) (hw : zWF n s) (x : Int32) : zSp E 6 0 0 mX11_next cX11_next [zR 1, zI x] S (fun r T => r = some (zI (q_tok s x true).1) ∧ zCI T (q_tok s x true).2 ∧ zQF S T) := by
  refine zSp.of (by decide) rfl (Nat.le_of_ble_eq_true rfl) rfl ?_
  obtain ⟨h0, hF, hG4, hi, hV, hP, hR, hT⟩ := _root_.id h
  have k1 := h0.1
  refine j_aload_n (pc := 0) dX11_next_0 rfl ?_
  refine j_iload_n (pc := 1) dX11_next_1 rfl ?_
  refine j_iconst (pc := 2) (v := 1) dX11_next_2 (by decide) ?_
  refine j_callV (pc := 3) (t := 11) (p_byTok h hw x true) dX11_next_3 l_X11_205 mk_X11_pageByToken mv_X11_pageByToken (by decide) rfl (by assumption) (by decide) rfl rfl (Nat.le_of_ble_eq_true rfl) (Nat.le_refl _) (Nat.le_refl _) (fun r T h_1 => ?_)
  obtain ⟨rfl, h2, h3⟩ := h_1
  refine j_iret (pc := 6) dX11_next_6 rfl ?_
  exact ⟨rfl, h2, h3⟩
set_option maxRecDepth 20000 in
set_option maxHeartbeats 4000000 in
theorem p_previous {E : zE} {S : zM} {s : zST} {n : Nat} (h : zCI S s) (hw : zWF n s) (x : Int32) : zSp E 6 0 0 mX11_previous cX11_previous [zR 1, zI x] S (fun r T => r = some (zI (q_tok s x false).1) ∧ zCI T (q_tok s x false).2 ∧ zQF S T) := by
  refine zSp.of (by decide) rfl (Nat.le_of_ble_eq_true rfl) rfl ?_
  obtain ⟨h0, hF, hG4, hi, hV, hP, hR, hT⟩ := _root_.id h
  have k1 := h0.1
  refine j_aload_n (pc := 0) dX11_previous_0 rfl ?_
  refine j_iload_n (pc := 1) dX11_previous_1 rfl ?_
  refine j_iconst (pc := 2) (v := 0) dX11_previous_2 (by decide) ?_
  refine j_callV (pc := 3) (t := 11) (p_byTok h hw x false) dX11_previous_3 l_X11_205 mk_X11_pageByToken mv_X11_pageByToken (by decide) rfl (by assumption) (by decide) rfl rfl (Nat.le_of_ble_eq_true rfl) (Nat.le_refl _) (Nat.le_refl _) (fun r T h_1 => ?_)
  obtain ⟨rfl, h2, h3⟩ := h_1
  refine j_iret (pc := 6) dX11_previous_6 rfl ?_
  exact ⟨rfl, h2, h3⟩
