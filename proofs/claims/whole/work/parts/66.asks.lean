theorem zrow_t {s : zST} {x : Int32} (h : zrow s x = true) : ∃ t j, sT s = some t ∧ j < 64 ∧ x = nI j ∧ (tW t).1 j = true := by
  cases ht : sT s with
  | none =>
    rw [zrow_n ht] at h
    cases h
  | some t =>
    rw [zrow_s ht] at h
    rcases pk_ix x (n := 64) (by decide) with hx | hx | ⟨j, hj, rfl⟩
    · rw [zth, decide_eq_false (fun q => q.1 hx)] at h
      cases h
    · rw [zth, decide_eq_false (fun q => q.2 hx)] at h
      cases h
    · exact ⟨t, j, rfl, hj, rfl, by rwa [zth_nI _ hj] at h⟩
theorem zcl2_t {m : Nat} {x : Int32} (hm : m < 2 ^ 31) (h : zcl2 m x = true) : ∃ j, j < m ∧ x = nI j := by
  rcases pk_ix x (n := m) (by omega) with hx | hx | ⟨j, hj, rfl⟩
  · rw [zcl2, decide_eq_false (fun q => q.1 hx)] at h
    cases h
  · rw [zcl2, decide_eq_false (fun q => q.2 hx)] at h
    cases h
  · exact ⟨j, hj, rfl⟩
theorem zcl2_nI {m j : Nat} (hj : j < m) (hm : m < 2 ^ 31) : zcl2 m (nI j) = true := decide_eq_true (p := ¬ nI j < 0 ∧ ¬ nI m ≤ nI j) ⟨nI_pos (by omega), nI_ge hj hm⟩
theorem zcl2_f1 {m : Nat} {x : Int32} (h : x < 0) : zcl2 m x = false := decide_eq_false (fun q => q.1 h)
theorem zcl2_f2 {m : Nat} {x : Int32} (h : nI m ≤ x) : zcl2 m x = false := decide_eq_false (fun q => q.2 h)
theorem bf {b : Bool} (h : ¬ b = true) : b = false := by cases b; rfl; exact absurd rfl h
theorem bnf {b : Bool} (h : b = false) : ¬ b = true := by rw [h]; decide
theorem z_ne {b : Bool} (h : b = true) : ¬ zbi b = 0 := by rw [h]; decide
theorem z_e0 {b : Bool} (h : b = false) : zbi b = 0 := by rw [h]; rfl
set_option maxRecDepth 20000 in
set_option maxHeartbeats 4000000 in
theorem p_fault {E : zE} {S : zM} {s : zST} {n : Nat} (h : zCI S s) (hw : zWF n s) : zSp E 0 0 0 mX11_fault cX11_fault [zR 1] S (fun r T => r = some (zI (q_fault s).1) ∧ zCI T (q_fault s).2 ∧ zQF S T) := by
  refine zSp.of (by decide) rfl (Nat.le_of_ble_eq_true rfl) rfl ?_
  obtain ⟨h0, hF, hG4, hi, hV, hP, hR, hT⟩ := _root_.id h
  have k1 := h0.1
  refine j_aload_n (pc := 0) dX11_fault_0 rfl ?_
  refine j_getIv (pc := 1) dX11_fault_1 f_X11_52 (Or.inl rfl) (by assumption) (hi.2.1) ?_
  refine j_iret (pc := 4) dX11_fault_4 rfl ?_
  exact ⟨rfl, h, zQF.rf⟩
set_option maxRecDepth 20000 in
set_option maxHeartbeats 4000000 in
theorem p_trouble {E : zE} {S : zM} {s : zST} {n : Nat} (h : zCI S s) (hw : zWF n s) : zSp E 0 0 0 mX11_trouble cX11_trouble [zR 1] S (fun r T => r = some (zI (q_trouble s).1) ∧ zCI T (q_trouble s).2 ∧ zQF S T) := by
  refine zSp.of (by decide) rfl (Nat.le_of_ble_eq_true rfl) rfl ?_
  obtain ⟨h0, hF, hG4, hi, hV, hP, hR, hT⟩ := _root_.id h
  have k1 := h0.1
  refine j_aload_n (pc := 0) dX11_trouble_0 rfl ?_
  refine j_getIv (pc := 1) dX11_trouble_1 f_X11_48 (Or.inl rfl) (by assumption) (hi.1) ?_
  refine j_iret (pc := 4) dX11_trouble_4 rfl ?_
  exact ⟨rfl, h, zQF.rf⟩
set_option maxRecDepth 20000 in
set_option maxHeartbeats 4000000 in
theorem p_where {E : zE} {S : zM} {s : zST} {n : Nat} (h : zCI S s) (hw : zWF n s) : zSp E 0 0 0 mX11_where cX11_where [zR 1] S (fun r T => r = some (zI (q_where s).1) ∧ zCI T (q_where s).2 ∧ zQF S T) := by
  refine zSp.of (by decide) rfl (Nat.le_of_ble_eq_true rfl) rfl ?_
  obtain ⟨h0, hF, hG4, hi, hV, hP, hR, hT⟩ := _root_.id h
  have k1 := h0.1
  have htr := hw.2.2.1.1
  refine j_aload_n (pc := 0) dX11_where_0 rfl ?_
  refine j_getIv (pc := 1) dX11_where_1 f_X11_48 (Or.inl rfl) (by assumption) (hi.1) ?_
  refine j_iconst (pc := 4) (v := 4) dX11_where_4 (by decide) ?_
  refine j_icmp_ne (pc := 5) (tgt := 15) dX11_where_5 (by decide) (fun h5 => ?_) (fun h5 => ?_)
  · refine j_iconst (pc := 15) (v := (-1)) dX11_where_15 (by decide) ?_
    refine j_iret (pc := 16) dX11_where_16 rfl ?_
    exact ⟨by rw [q_where, if_neg (fun q => h5 (by rw [q]; rfl))], h, zQF.rf⟩
  · refine j_aload_n (pc := 8) dX11_where_8 rfl ?_
    refine j_getIv (pc := 9) dX11_where_9 f_X11_55 (Or.inl rfl) (by assumption) (hi.2.2) ?_
    refine j_goto (pc := 12) (tgt := 16) dX11_where_12 (by decide) ?_
    refine j_iret (pc := 16) dX11_where_16 rfl ?_
    exact ⟨by rw [q_where, if_pos ((nI_eq (b := 4) (by omega) (by decide)).mp h5)], h, zQF.rf⟩
theorem q_about_out {s : zST} {t : zTB} {x : Int32} (ht : sT s = some t) (g : ∀ k : Nat, k < 7 → x ≠ nI k) : q_about s x = zrf s 1 := by
  simp only [q_about, ht]
  rw [if_neg (show ¬ x = 0 from g 0 (by decide)), if_neg (show ¬ x = 1 from g 1 (by decide)), if_neg (show ¬ x = 2 from g 2 (by decide)), if_neg (show ¬ x = 3 from g 3 (by decide)), if_neg (show ¬ x = 4 from g 4 (by decide)), if_neg (show ¬ x = 5 from g 5 (by decide)), if_neg (show ¬ x = 6 from g 6 (by decide))]
set_option maxRecDepth 20000 in
set_option maxHeartbeats 4000000 in
theorem p_about {E : zE} {S : zM} {s : zST} {n : Nat} (h : zCI S s) (hw : zWF n s) (x : Int32) : zSp E 2 0 0 mX11_about cX11_about [zR 1, zI x] S (fun r T => r = some (zI (q_about s x).1) ∧ zCI T (q_about s x).2 ∧ zQF S T) := by
  refine zSp.of (by decide) rfl (Nat.le_of_ble_eq_true rfl) rfl ?_
  obtain ⟨h0, hF, hG4, hi, hV, hP, hR, hT⟩ := _root_.id h
  have k1 := h0.1
  cases ht : sT s with
  | none =>
    rw [ht] at hT
    have p5 : zgP S 1 5 = 0 := hT
    refine j_aload_n (pc := 0) dX11_about_0 rfl ?_
    refine j_getPv (pc := 1) dX11_about_1 f_X11_44 (Or.inl ⟨_, rfl⟩) (by assumption) (p5) ?_
    refine j_ifnull (pc := 4) (tgt := 17) dX11_about_4 (by decide) (fun h4 => ?_) (fun h4 => absurd rfl h4)
    refine j_aload_n (pc := 17) dX11_about_17 rfl ?_
    refine j_iconst (pc := 18) (v := 1) dX11_about_18 (by decide) ?_
    refine j_callV (pc := 19) (t := 11) (c_refused k1 _) dX11_about_19 l_X11_68 mk_X11_refused mv_X11_refused (by decide) rfl (by assumption) (by decide) rfl rfl (Nat.le_of_ble_eq_true rfl) (Nat.le_refl _) (Nat.le_refl _) (fun r T h_1 => ?_)
    obtain ⟨rfl, rfl⟩ := h_1
    refine j_iret (pc := 22) dX11_about_22 rfl ?_
    exact q_ref h zQF.rf (by rw [q_about, ht])
  | some t =>
    rw [ht] at hT
    obtain ⟨a, p5, a161, ag, hTt, hVI⟩ := hT
    obtain ⟨ka, q2, q3, q4, q5, q6, q1, i7, i8⟩ := hTt.d
    have k6 : zkd S 6 = (11, 0) := by obtain ⟨q, t0, g, h1, h2⟩ := hV.1; exact h1.1.1
    obtain ⟨so, si, sc, ol, hTA, hHi⟩ := hTt
    have hOr := hTA.2.2.1
    have hSv := hTA.2.2.2.1
    have hRo := hTA.2.2.2.2.1
    have hAc := hTA.2.2.2.2.2.1
    have kor := hOr.1.1
    have ksv := hSv.1.1
    have kro := hRo.1
    have kac := hAc.1.1
    have iv := hAc.2.2.1
    have hn : n ≤ 600 := Nat.le_of_lt hw.1
    have hwT := hw.2.2.2
    rw [ht] at hwT
    obtain ⟨hWt, hWp, hWr⟩ := hwT
    refine j_aload_n (pc := 0) dX11_about_0 rfl ?_
    refine j_getPv (pc := 1) dX11_about_1 f_X11_44 (Or.inl ⟨_, rfl⟩) (by assumption) (p5) ?_
    refine j_ifnull (pc := 4) (tgt := 17) dX11_about_4 (by decide) (fun h4 => absurd h4 (by omega)) (fun h4 => ?_)
    refine j_iload_n (pc := 7) dX11_about_7 rfl ?_
    refine j_if_lt (pc := 8) (tgt := 17) dX11_about_8 (by decide) (fun h8 => ?_) (fun h8 => ?_)
    · refine j_aload_n (pc := 17) dX11_about_17 rfl ?_
      refine j_iconst (pc := 18) (v := 1) dX11_about_18 (by decide) ?_
      refine j_callV (pc := 19) (t := 11) (c_refused k1 _) dX11_about_19 l_X11_68 mk_X11_refused mv_X11_refused (by decide) rfl (by assumption) (by decide) rfl rfl (Nat.le_of_ble_eq_true rfl) (Nat.le_refl _) (Nat.le_refl _) (fun r T h_1 => ?_)
      obtain ⟨rfl, rfl⟩ := h_1
      refine j_iret (pc := 22) dX11_about_22 rfl ?_
      exact q_ref h zQF.rf (q_about_out ht (fun k hk e => by subst e; exact nI_pos (by omega) h8))
    · refine j_iload_n (pc := 11) dX11_about_11 rfl ?_
      refine j_bipush (pc := 12) (v := 6) dX11_about_12 (by decide) ?_
      refine j_icmp_le (pc := 14) (tgt := 23) dX11_about_14 (by decide) (fun h14 => ?_) (fun h14 => ?_)
      · refine j_iload_n (pc := 23) dX11_about_23 rfl ?_
        refine j_swC (pc := 24) (k := 0) (tgt := 64) dX11_about_24 (by decide) (by decide) rfl (by decide) (fun h24 => ?_) (fun h24_0 => ?_)
        · subst h24
          refine j_aload_n (pc := 64) dX11_about_64 rfl ?_
          refine j_aload_n (pc := 65) dX11_about_65 rfl ?_
          refine j_getPv (pc := 66) dX11_about_66 f_X11_44 (Or.inl ⟨_, rfl⟩) (by assumption) (p5) ?_
          refine j_getIv (pc := 69) dX11_about_69 f_X11_106 (Or.inl rfl) (by assumption) (i7) ?_
          refine j_callV (pc := 72) (t := 11) (c_answered k1 _) dX11_about_72 l_X11_103 mk_X11_answered mv_X11_answered (by decide) rfl (by assumption) (by decide) rfl rfl (Nat.le_of_ble_eq_true rfl) (Nat.le_refl _) (Nat.le_refl _) (fun r T h_1 => ?_)
          obtain ⟨rfl, rfl⟩ := h_1
          refine j_iret (pc := 75) dX11_about_75 rfl ?_
          exact q_ans h zQF.rf (by rw [q_about, ht]; rfl)
        refine j_swC (pc := 24) (k := 1) (tgt := 76) dX11_about_24 (by decide) (by decide) rfl (by decide) (fun h24 => ?_) (fun h24_1 => ?_)
        · subst h24
          refine j_aload_n (pc := 76) dX11_about_76 rfl ?_
          refine j_aload_n (pc := 77) dX11_about_77 rfl ?_
          refine j_getPv (pc := 78) dX11_about_78 f_X11_44 (Or.inl ⟨_, rfl⟩) (by assumption) (p5) ?_
          refine j_getPv (pc := 81) dX11_about_81 f_X11_109 (Or.inl ⟨_, rfl⟩) (by assumption) (q2) ?_
          refine j_getIv (pc := 84) dX11_about_84 f_X11_113 (Or.inl rfl) (by assumption) (hOr.2.2.1) ?_
          refine j_callV (pc := 87) (t := 11) (c_answered k1 _) dX11_about_87 l_X11_103 mk_X11_answered mv_X11_answered (by decide) rfl (by assumption) (by decide) rfl rfl (Nat.le_of_ble_eq_true rfl) (Nat.le_refl _) (Nat.le_refl _) (fun r T h_1 => ?_)
          obtain ⟨rfl, rfl⟩ := h_1
          refine j_iret (pc := 90) dX11_about_90 rfl ?_
          exact q_ans h zQF.rf (by rw [q_about, ht]; rfl)
        refine j_swC (pc := 24) (k := 2) (tgt := 91) dX11_about_24 (by decide) (by decide) rfl (by decide) (fun h24 => ?_) (fun h24_2 => ?_)
        · subst h24
          refine j_aload_n (pc := 91) dX11_about_91 rfl ?_
          refine j_aload_n (pc := 92) dX11_about_92 rfl ?_
          refine j_getPv (pc := 93) dX11_about_93 f_X11_44 (Or.inl ⟨_, rfl⟩) (by assumption) (p5) ?_
          refine j_getPv (pc := 96) dX11_about_96 f_X11_96 (Or.inl ⟨_, rfl⟩) (by assumption) (q4) ?_
          refine j_getIv (pc := 99) dX11_about_99 f_X11_100 (Or.inl rfl) (by assumption) (hRo.2.2.2.2.2.2.1) ?_
          refine j_callV (pc := 102) (t := 11) (c_answered k1 _) dX11_about_102 l_X11_103 mk_X11_answered mv_X11_answered (by decide) rfl (by assumption) (by decide) rfl rfl (Nat.le_of_ble_eq_true rfl) (Nat.le_refl _) (Nat.le_refl _) (fun r T h_1 => ?_)
          obtain ⟨rfl, rfl⟩ := h_1
          refine j_iret (pc := 105) dX11_about_105 rfl ?_
          exact q_ans h zQF.rf (by rw [q_about, ht]; rfl)
        refine j_swC (pc := 24) (k := 3) (tgt := 106) dX11_about_24 (by decide) (by decide) rfl (by decide) (fun h24 => ?_) (fun h24_3 => ?_)
        · subst h24
          refine j_aload_n (pc := 106) dX11_about_106 rfl ?_
          refine j_aload_n (pc := 107) dX11_about_107 rfl ?_
          refine j_getPv (pc := 108) dX11_about_108 f_X11_44 (Or.inl ⟨_, rfl⟩) (by assumption) (p5) ?_
          refine j_getPv (pc := 111) dX11_about_111 f_X11_96 (Or.inl ⟨_, rfl⟩) (by assumption) (q4) ?_
          refine j_getIv (pc := 114) dX11_about_114 f_X11_116 (Or.inl rfl) (by assumption) (hRo.2.2.2.2.2.1) ?_
          refine j_callV (pc := 117) (t := 11) (c_answered k1 _) dX11_about_117 l_X11_103 mk_X11_answered mv_X11_answered (by decide) rfl (by assumption) (by decide) rfl rfl (Nat.le_of_ble_eq_true rfl) (Nat.le_refl _) (Nat.le_refl _) (fun r T h_1 => ?_)
          obtain ⟨rfl, rfl⟩ := h_1
          refine j_iret (pc := 120) dX11_about_120 rfl ?_
          exact q_ans h zQF.rf (by rw [q_about, ht]; rfl)
        refine j_swC (pc := 24) (k := 4) (tgt := 121) dX11_about_24 (by decide) (by decide) rfl (by decide) (fun h24 => ?_) (fun h24_4 => ?_)
        · subst h24
          refine j_aload_n (pc := 121) dX11_about_121 rfl ?_
          refine j_aload_n (pc := 122) dX11_about_122 rfl ?_
          refine j_getPv (pc := 123) dX11_about_123 f_X11_44 (Or.inl ⟨_, rfl⟩) (by assumption) (p5) ?_
          refine j_getPv (pc := 126) dX11_about_126 f_X11_119 (Or.inl ⟨_, rfl⟩) (by assumption) (q5) ?_
          refine j_getIv (pc := 129) dX11_about_129 f_X11_123 (Or.inl rfl) (by assumption) (iv) ?_
          refine j_callV (pc := 132) (t := 11) (c_answered k1 _) dX11_about_132 l_X11_103 mk_X11_answered mv_X11_answered (by decide) rfl (by assumption) (by decide) rfl rfl (Nat.le_of_ble_eq_true rfl) (Nat.le_refl _) (Nat.le_refl _) (fun r T h_1 => ?_)
          obtain ⟨rfl, rfl⟩ := h_1
          refine j_iret (pc := 135) dX11_about_135 rfl ?_
          exact q_ans h zQF.rf (by rw [q_about, ht]; rfl)
        refine j_swC (pc := 24) (k := 5) (tgt := 136) dX11_about_24 (by decide) (by decide) rfl (by decide) (fun h24 => ?_) (fun h24_5 => ?_)
        · subst h24
          refine j_aload_n (pc := 136) dX11_about_136 rfl ?_
          refine j_aload_n (pc := 137) dX11_about_137 rfl ?_
          refine j_getPv (pc := 138) dX11_about_138 f_X11_44 (Or.inl ⟨_, rfl⟩) (by assumption) (p5) ?_
          refine j_getIv (pc := 141) dX11_about_141 f_X11_128 (Or.inl rfl) (by assumption) (i8) ?_
          refine j_sipush (pc := 144) (v := 255) dX11_about_144 (by decide) ?_
          refine j_iand (pc := 147) dX11_about_147 ?_
          rw [show nI (tn t) &&& 255 = nI (tn t % 256) from fa_mask _ 8]
          refine j_callV (pc := 148) (t := 11) (c_answered k1 _) dX11_about_148 l_X11_103 mk_X11_answered mv_X11_answered (by decide) rfl (by assumption) (by decide) rfl rfl (Nat.le_of_ble_eq_true rfl) (Nat.le_refl _) (Nat.le_refl _) (fun r T h_1 => ?_)
          obtain ⟨rfl, rfl⟩ := h_1
          refine j_iret (pc := 151) dX11_about_151 rfl ?_
          exact q_ans h zQF.rf (by rw [q_about, ht]; rfl)
        refine j_swD (pc := 24) (n := 6) (tgt := 152) dX11_about_24 rfl (fun k hk => by match k, hk with | 0, _ => exact h24_0 | 1, _ => exact h24_1 | 2, _ => exact h24_2 | 3, _ => exact h24_3 | 4, _ => exact h24_4 | 5, _ => exact h24_5) (by decide) ?_
        refine j_aload_n (pc := 152) dX11_about_152 rfl ?_
        refine j_aload_n (pc := 153) dX11_about_153 rfl ?_
        refine j_getPv (pc := 154) dX11_about_154 f_X11_44 (Or.inl ⟨_, rfl⟩) (by assumption) (p5) ?_
        refine j_getPv (pc := 157) dX11_about_157 f_X11_119 (Or.inl ⟨_, rfl⟩) (by assumption) (q5) ?_
        refine j_callV (pc := 160) (t := 0) (c_earliest hAc) dX11_about_160 l_X11_131 mk_X0_earliest mv_X0_earliest (by decide) rfl (by assumption) (by decide) rfl rfl (Nat.le_of_ble_eq_true rfl) (Nat.le_refl _) (Nat.le_refl _) (fun r T h_1 => ?_)
        obtain ⟨rfl, rfl⟩ := h_1
        refine j_callV (pc := 163) (t := 11) (c_answered k1 _) dX11_about_163 l_X11_103 mk_X11_answered mv_X11_answered (by decide) rfl (by assumption) (by decide) rfl rfl (Nat.le_of_ble_eq_true rfl) (Nat.le_refl _) (Nat.le_refl _) (fun r T h_1 => ?_)
        obtain ⟨rfl, rfl⟩ := h_1
        refine j_iret (pc := 166) dX11_about_166 rfl ?_
        have e6 : x = 6 := by
          rcases pk_ix x (n := 7) (by decide) with hx | hx | ⟨j, hj, rfl⟩
          · exact absurd hx h8
          · exact absurd hx (Int32.not_le.mpr (Int32.lt_of_le_of_lt h14 (by decide)))
          · match j, hj with
            | 0, _ => exact absurd rfl h24_0
            | 1, _ => exact absurd rfl h24_1
            | 2, _ => exact absurd rfl h24_2
            | 3, _ => exact absurd rfl h24_3
            | 4, _ => exact absurd rfl h24_4
            | 5, _ => exact absurd rfl h24_5
            | 6, _ => rfl
        subst e6
        exact q_ans h zQF.rf (by rw [q_about, ht]; rfl)
      · refine j_aload_n (pc := 17) dX11_about_17 rfl ?_
        refine j_iconst (pc := 18) (v := 1) dX11_about_18 (by decide) ?_
        refine j_callV (pc := 19) (t := 11) (c_refused k1 _) dX11_about_19 l_X11_68 mk_X11_refused mv_X11_refused (by decide) rfl (by assumption) (by decide) rfl rfl (Nat.le_of_ble_eq_true rfl) (Nat.le_refl _) (Nat.le_refl _) (fun r T h_1 => ?_)
        obtain ⟨rfl, rfl⟩ := h_1
        refine j_iret (pc := 22) dX11_about_22 rfl ?_
        exact q_ref h zQF.rf (q_about_out ht (fun k hk e => h14 (by rw [e]; exact nI_le (b := 6) (by omega) (by decide))))
theorem zcol_t {s : zST} {n : Nat} {x : Int32} (hw : zWF n s) (h : zcol s x = true) : ∃ t j, sT s = some t ∧ j < (tK t).length ∧ x = nI j ∧ (tK t).length ≤ 4 := by
  cases ht : sT s with
  | none =>
    rw [zcol_n ht] at h
    cases h
  | some t =>
    rw [zcol_s ht] at h
    have hwT := hw.2.2.2
    rw [ht] at hwT
    have := hwT.1.1.2.2
    obtain ⟨j, hj, e⟩ := zcl2_t (by omega) h
    exact ⟨t, j, rfl, hj, e, this⟩
theorem gD {α : Type} {l : List α} {i : Nat} (d : α) (h : i < l.length) : l[i]? = some (l.getD i d) := by rw [List.getD_eq_getElem?_getD, List.getElem?_eq_getElem h]; rfl
set_option maxRecDepth 20000 in
set_option maxHeartbeats 4000000 in
theorem p_kind {E : zE} {S : zM} {s : zST} {n : Nat} (h : zCI S s) (hw : zWF n s) (x : Int32) : zSp E 1 0 0 mX11_kind cX11_kind [zR 1, zI x] S (fun r T => r = some (zI (q_kind s x).1) ∧ zCI T (q_kind s x).2 ∧ zQF S T) := by
  refine zSp.of (by decide) rfl (Nat.le_of_ble_eq_true rfl) rfl ?_
  obtain ⟨h0, hF, hG4, hi, hV, hP, hR, hT⟩ := _root_.id h
  have k1 := h0.1
  cases hz : zcol s x with
  | false =>
    have e : q_kind s x = zrf s 1 := by
      unfold q_kind
      split
      · rfl
      · rename_i t ht
        rw [zcol_s ht] at hz
        simp [hz]
    refine j_aload_n (pc := 0) dX11_kind_0 rfl ?_
    refine j_iload_n (pc := 1) dX11_kind_1 rfl ?_
    refine j_callV (pc := 2) (t := 11) (c_isColumn h x) dX11_kind_2 l_X11_135 mk_X11_isColumn mv_X11_isColumn (by decide) rfl (by assumption) (by decide) rfl rfl (Nat.le_of_ble_eq_true rfl) (Nat.le_refl _) (Nat.le_refl _) (fun r T h_1 => ?_)
    obtain ⟨rfl, rfl⟩ := h_1
    rw [hz]
    refine j_if_ne (pc := 5) (tgt := 14) dX11_kind_5 (by decide) (fun h5 => absurd rfl h5) (fun h5 => ?_)
    refine j_aload_n (pc := 8) dX11_kind_8 rfl ?_
    refine j_iconst (pc := 9) (v := 1) dX11_kind_9 (by decide) ?_
    refine j_callV (pc := 10) (t := 11) (c_refused k1 _) dX11_kind_10 l_X11_68 mk_X11_refused mv_X11_refused (by decide) rfl (by assumption) (by decide) rfl rfl (Nat.le_of_ble_eq_true rfl) (Nat.le_refl _) (Nat.le_refl _) (fun r T h_1 => ?_)
    obtain ⟨rfl, rfl⟩ := h_1
    refine j_iret (pc := 13) dX11_kind_13 rfl ?_
    exact q_ref h zQF.rf e
  | true =>
    obtain ⟨t, j, ht, hj, rfl, hK4⟩ := zcol_t hw hz
    rw [ht] at hT
    obtain ⟨a, p5, a161, ag, hTt, hVI⟩ := hT
    obtain ⟨ka, q2, q3, q4, q5, q6, q1, i7, i8⟩ := hTt.d
    have k6 : zkd S 6 = (11, 0) := by obtain ⟨q, t0, g, h1, h2⟩ := hV.1; exact h1.1.1
    obtain ⟨so, si, sc, ol, hTA, hHi⟩ := hTt
    have hOr := hTA.2.2.1
    have hSv := hTA.2.2.2.1
    have hRo := hTA.2.2.2.2.1
    have hAc := hTA.2.2.2.2.2.1
    have kor := hOr.1.1
    have ksv := hSv.1.1
    have kro := hRo.1
    have kac := hAc.1.1
    have iv := hAc.2.2.1
    have hn : n ≤ 600 := Nat.le_of_lt hw.1
    have hwT := hw.2.2.2
    rw [ht] at hwT
    obtain ⟨hWt, hWp, hWr⟩ := hwT
    have kk := hTA.1.1.2.1
    refine j_aload_n (pc := 0) dX11_kind_0 rfl ?_
    refine j_iload_n (pc := 1) dX11_kind_1 rfl ?_
    refine j_callV (pc := 2) (t := 11) (c_isColumn h _) dX11_kind_2 l_X11_135 mk_X11_isColumn mv_X11_isColumn (by decide) rfl (by assumption) (by decide) rfl rfl (Nat.le_of_ble_eq_true rfl) (Nat.le_refl _) (Nat.le_refl _) (fun r T h_1 => ?_)
    obtain ⟨rfl, rfl⟩ := h_1
    rw [hz]
    refine j_if_ne (pc := 5) (tgt := 14) dX11_kind_5 (by decide) (fun h5 => ?_) (fun h5 => absurd h5 (by decide))
    refine j_aload_n (pc := 14) dX11_kind_14 rfl ?_
    refine j_aload_n (pc := 15) dX11_kind_15 rfl ?_
    refine j_getPv (pc := 16) dX11_kind_16 f_X11_44 (Or.inl ⟨_, rfl⟩) (by assumption) (p5) ?_
    refine j_getPv (pc := 19) dX11_kind_19 f_X11_138 (Or.inr ⟨_, rfl⟩) (by assumption) (q1) ?_
    refine j_iload_n (pc := 22) dX11_kind_22 rfl ?_
    refine j_ialdn (pc := 23) dX11_kind_23 kk (by omega) (by decide) (hTA.1.2.2.2 j _ (gD false hj)) ?_
    refine j_callV (pc := 24) (t := 11) (c_answered k1 _) dX11_kind_24 l_X11_103 mk_X11_answered mv_X11_answered (by decide) rfl (by assumption) (by decide) rfl rfl (Nat.le_of_ble_eq_true rfl) (Nat.le_refl _) (Nat.le_refl _) (fun r T h_1 => ?_)
    obtain ⟨rfl, rfl⟩ := h_1
    refine j_iret (pc := 27) dX11_kind_27 rfl ?_
    exact q_ans h zQF.rf (by rw [zcol_s ht] at hz; simp [q_kind, ht, hz, nI_clamp (show j < 2 ^ 31 by omega)])
set_option maxRecDepth 20000 in
set_option maxHeartbeats 4000000 in
theorem p_value {E : zE} {S : zM} {s : zST} {n : Nat} (h : zCI S s) (hw : zWF n s) (x c : Int32) : zSp E 2 0 0 mX11_value cX11_value [zR 1, zI x, zI c] S (fun r T => r = some (zL (q_value s x c).1) ∧ zCI T (q_value s x c).2 ∧ zQF S T) := by
  refine zSp.of (by decide) rfl (Nat.le_of_ble_eq_true rfl) rfl ?_
  obtain ⟨h0, hF, hG4, hi, hV, hP, hR, hT⟩ := _root_.id h
  have k1 := h0.1
  cases hz : zrow s x with
  | false =>
    have e : q_value s x c = zrfL s 1 := by
      unfold q_value
      split
      · rfl
      · rename_i t ht
        rw [zrow_s ht] at hz
        simp [hz]
    refine j_aload_n (pc := 0) dX11_value_0 rfl ?_
    refine j_iload_n (pc := 1) dX11_value_1 rfl ?_
    refine j_callV (pc := 2) (t := 11) (c_isRow h x) dX11_value_2 l_X11_151 mk_X11_isRow mv_X11_isRow (by decide) rfl (by assumption) (by decide) rfl rfl (Nat.le_of_ble_eq_true rfl) (Nat.le_refl _) (Nat.le_refl _) (fun r T h_1 => ?_)
    obtain ⟨rfl, rfl⟩ := h_1
    rw [hz]
    refine j_if_eq (pc := 5) (tgt := 16) dX11_value_5 (by decide) (fun h5 => ?_) (fun h5 => absurd rfl h5)
    refine j_aload_n (pc := 16) dX11_value_16 rfl ?_
    refine j_iconst (pc := 17) (v := 1) dX11_value_17 (by decide) ?_
    refine j_callV (pc := 18) (t := 11) (c_refusedV k1 _) dX11_value_18 l_X11_154 mk_X11_refusedValue mv_X11_refusedValue (by decide) rfl (by assumption) (by decide) rfl rfl (Nat.le_of_ble_eq_true rfl) (Nat.le_refl _) (Nat.le_refl _) (fun r T h_1 => ?_)
    obtain ⟨rfl, rfl⟩ := h_1
    refine j_lret (pc := 21) dX11_value_21 rfl ?_
    exact q_refL h zQF.rf e
  | true =>
    obtain ⟨t, j, ht, hj, rfl, hjr⟩ := zrow_t hz
    have hjt : zth (tW t).1 (nI j) = true := by rw [zth_nI _ hj]; exact hjr
    have hcl : (nI j).toNatClampNeg = j := nI_clamp (by omega)
    rw [ht] at hT
    obtain ⟨a, p5, a161, ag, hTt, hVI⟩ := hT
    obtain ⟨ka, q2, q3, q4, q5, q6, q1, i7, i8⟩ := hTt.d
    have k6 : zkd S 6 = (11, 0) := by obtain ⟨q, t0, g, h1, h2⟩ := hV.1; exact h1.1.1
    obtain ⟨so, si, sc, ol, hTA, hHi⟩ := hTt
    have hOr := hTA.2.2.1
    have hSv := hTA.2.2.2.1
    have hRo := hTA.2.2.2.2.1
    have hAc := hTA.2.2.2.2.2.1
    have kor := hOr.1.1
    have ksv := hSv.1.1
    have kro := hRo.1
    have kac := hAc.1.1
    have iv := hAc.2.2.1
    have hn : n ≤ 600 := Nat.le_of_lt hw.1
    have hwT := hw.2.2.2
    rw [ht] at hwT
    obtain ⟨hWt, hWp, hWr⟩ := hwT
    refine j_aload_n (pc := 0) dX11_value_0 rfl ?_
    refine j_iload_n (pc := 1) dX11_value_1 rfl ?_
    refine j_callV (pc := 2) (t := 11) (c_isRow h _) dX11_value_2 l_X11_151 mk_X11_isRow mv_X11_isRow (by decide) rfl (by assumption) (by decide) rfl rfl (Nat.le_of_ble_eq_true rfl) (Nat.le_refl _) (Nat.le_refl _) (fun r T h_1 => ?_)
    obtain ⟨rfl, rfl⟩ := h_1
    rw [hz]
    refine j_if_eq (pc := 5) (tgt := 16) dX11_value_5 (by decide) (fun h5 => absurd h5 (by decide)) (fun h5 => ?_)
    refine j_aload_n (pc := 8) dX11_value_8 rfl ?_
    refine j_iload_n (pc := 9) dX11_value_9 rfl ?_
    refine j_callV (pc := 10) (t := 11) (c_isColumn h c) dX11_value_10 l_X11_135 mk_X11_isColumn mv_X11_isColumn (by decide) rfl (by assumption) (by decide) rfl rfl (Nat.le_of_ble_eq_true rfl) (Nat.le_refl _) (Nat.le_refl _) (fun r T h_1 => ?_)
    obtain ⟨rfl, rfl⟩ := h_1
    have hzc := zcol_s ht c
    refine j_if_ne (pc := 13) (tgt := 22) dX11_value_13 (by decide) (fun h13 => ?_) (fun h13 => ?_)
    · obtain ⟨t2, jc, ht2, hjc, rfl, hK4⟩ := zcol_t hw (zbi_ne0 h13)
      rw [ht] at ht2
      cases ht2
      refine j_aload_n (pc := 22) dX11_value_22 rfl ?_
      refine j_aload_n (pc := 23) dX11_value_23 rfl ?_
      refine j_getPv (pc := 24) dX11_value_24 f_X11_44 (Or.inl ⟨_, rfl⟩) (by assumption) (p5) ?_
      refine j_getPv (pc := 27) dX11_value_27 f_X11_96 (Or.inl ⟨_, rfl⟩) (by assumption) (q4) ?_
      refine j_iload_n (pc := 30) dX11_value_30 rfl ?_
      refine j_iload_n (pc := 31) dX11_value_31 rfl ?_
      refine j_callV (pc := 32) (t := 7) (c_read hRo hj (show jc < 4 by omega)) dX11_value_32 l_X11_158 mk_X7_read mv_X7_read (by decide) rfl (by assumption) (by decide) rfl rfl (Nat.le_of_ble_eq_true rfl) (Nat.le_refl _) (Nat.le_refl _) (fun r T h_1 => ?_)
      obtain ⟨rfl, rfl⟩ := h_1
      refine j_callV (pc := 35) (t := 11) (c_answeredV k1 _) dX11_value_35 l_X11_162 mk_X11_answeredValue mv_X11_answeredValue (by decide) rfl (by assumption) (by decide) rfl rfl (Nat.le_of_ble_eq_true rfl) (Nat.le_refl _) (Nat.le_refl _) (fun r T h_1 => ?_)
      obtain ⟨rfl, rfl⟩ := h_1
      refine j_lret (pc := 38) dX11_value_38 rfl ?_
      exact q_ansL h zQF.rf (by rw [zbi_ne0 h13] at hzc; simp [q_value, ht, ← hzc, hjt, hcl, nI_clamp (show jc < 2 ^ 31 by omega)])
    · refine j_aload_n (pc := 16) dX11_value_16 rfl ?_
      refine j_iconst (pc := 17) (v := 1) dX11_value_17 (by decide) ?_
      refine j_callV (pc := 18) (t := 11) (c_refusedV k1 _) dX11_value_18 l_X11_154 mk_X11_refusedValue mv_X11_refusedValue (by decide) rfl (by assumption) (by decide) rfl rfl (Nat.le_of_ble_eq_true rfl) (Nat.le_refl _) (Nat.le_refl _) (fun r T h_1 => ?_)
      obtain ⟨rfl, rfl⟩ := h_1
      refine j_lret (pc := 21) dX11_value_21 rfl ?_
      exact q_refL h zQF.rf (by rw [zbi_eq0.mp h13] at hzc; simp [q_value, ht, ← hzc])
set_option maxRecDepth 20000 in
set_option maxHeartbeats 4000000 in
theorem p_orderAt {E : zE} {S : zM} {s : zST} {n : Nat} (h : zCI S s) (hw : zWF n s) (i w : Int32) : zSp E 1 0 0 mX11_orderAt cX11_orderAt [zR 1, zI i, zI w] S (fun r T => r = some (zI (q_orderAt s i w).1) ∧ zCI T (q_orderAt s i w).2 ∧ zQF S T) := by
  refine zSp.of (by decide) rfl (Nat.le_of_ble_eq_true rfl) rfl ?_
  obtain ⟨h0, hF, hG4, hi, hV, hP, hR, hT⟩ := _root_.id h
  have k1 := h0.1
  cases ht : sT s with
  | none =>
    rw [ht] at hT
    have p5 : zgP S 1 5 = 0 := hT
    refine j_aload_n (pc := 0) dX11_orderAt_0 rfl ?_
    refine j_getPv (pc := 1) dX11_orderAt_1 f_X11_44 (Or.inl ⟨_, rfl⟩) (by assumption) (p5) ?_
    refine j_ifnull (pc := 4) (tgt := 34) dX11_orderAt_4 (by decide) (fun h4 => ?_) (fun h4 => absurd rfl h4)
    refine j_aload_n (pc := 34) dX11_orderAt_34 rfl ?_
    refine j_iconst (pc := 35) (v := 1) dX11_orderAt_35 (by decide) ?_
    refine j_callV (pc := 36) (t := 11) (c_refused k1 _) dX11_orderAt_36 l_X11_68 mk_X11_refused mv_X11_refused (by decide) rfl (by assumption) (by decide) rfl rfl (Nat.le_of_ble_eq_true rfl) (Nat.le_refl _) (Nat.le_refl _) (fun r T h_1 => ?_)
    obtain ⟨rfl, rfl⟩ := h_1
    refine j_iret (pc := 39) dX11_orderAt_39 rfl ?_
    exact q_ref h zQF.rf (by rw [q_orderAt, ht])
  | some t =>
    rw [ht] at hT
    obtain ⟨a, p5, a161, ag, hTt, hVI⟩ := hT
    obtain ⟨ka, q2, q3, q4, q5, q6, q1, i7, i8⟩ := hTt.d
    have k6 : zkd S 6 = (11, 0) := by obtain ⟨q, t0, g, h1, h2⟩ := hV.1; exact h1.1.1
    obtain ⟨so, si, sc, ol, hTA, hHi⟩ := hTt
    have hOr := hTA.2.2.1
    have hSv := hTA.2.2.2.1
    have hRo := hTA.2.2.2.2.1
    have hAc := hTA.2.2.2.2.2.1
    have kor := hOr.1.1
    have ksv := hSv.1.1
    have kro := hRo.1
    have kac := hAc.1.1
    have iv := hAc.2.2.1
    have hn : n ≤ 600 := Nat.le_of_lt hw.1
    have hwT := hw.2.2.2
    rw [ht] at hwT
    obtain ⟨hWt, hWp, hWr⟩ := hwT
    have hO4 := hOr.2.2.2.1
    refine j_aload_n (pc := 0) dX11_orderAt_0 rfl ?_
    refine j_getPv (pc := 1) dX11_orderAt_1 f_X11_44 (Or.inl ⟨_, rfl⟩) (by assumption) (p5) ?_
    refine j_ifnull (pc := 4) (tgt := 34) dX11_orderAt_4 (by decide) (fun h4 => absurd h4 (by omega)) (fun h4 => ?_)
    refine j_iload_n (pc := 7) dX11_orderAt_7 rfl ?_
    refine j_if_lt (pc := 8) (tgt := 34) dX11_orderAt_8 (by decide) (fun h8 => ?_) (fun h8 => ?_)
    · refine j_aload_n (pc := 34) dX11_orderAt_34 rfl ?_
      refine j_iconst (pc := 35) (v := 1) dX11_orderAt_35 (by decide) ?_
      refine j_callV (pc := 36) (t := 11) (c_refused k1 _) dX11_orderAt_36 l_X11_68 mk_X11_refused mv_X11_refused (by decide) rfl (by assumption) (by decide) rfl rfl (Nat.le_of_ble_eq_true rfl) (Nat.le_refl _) (Nat.le_refl _) (fun r T h_1 => ?_)
      obtain ⟨rfl, rfl⟩ := h_1
      refine j_iret (pc := 39) dX11_orderAt_39 rfl ?_
      exact q_ref h zQF.rf (by simp only [q_orderAt, ht]; rw [if_neg (fun q => bnf (zcl2_f1 h8) q.1)])
    · refine j_iload_n (pc := 11) dX11_orderAt_11 rfl ?_
      refine j_aload_n (pc := 12) dX11_orderAt_12 rfl ?_
      refine j_getPv (pc := 13) dX11_orderAt_13 f_X11_44 (Or.inl ⟨_, rfl⟩) (by assumption) (p5) ?_
      refine j_getPv (pc := 16) dX11_orderAt_16 f_X11_109 (Or.inl ⟨_, rfl⟩) (by assumption) (q2) ?_
      refine j_getIv (pc := 19) dX11_orderAt_19 f_X11_113 (Or.inl rfl) (by assumption) (hOr.2.2.1) ?_
      refine j_icmp_ge (pc := 22) (tgt := 34) dX11_orderAt_22 (by decide) (fun h22 => ?_) (fun h22 => ?_)
      · refine j_aload_n (pc := 34) dX11_orderAt_34 rfl ?_
        refine j_iconst (pc := 35) (v := 1) dX11_orderAt_35 (by decide) ?_
        refine j_callV (pc := 36) (t := 11) (c_refused k1 _) dX11_orderAt_36 l_X11_68 mk_X11_refused mv_X11_refused (by decide) rfl (by assumption) (by decide) rfl rfl (Nat.le_of_ble_eq_true rfl) (Nat.le_refl _) (Nat.le_refl _) (fun r T h_1 => ?_)
        obtain ⟨rfl, rfl⟩ := h_1
        refine j_iret (pc := 39) dX11_orderAt_39 rfl ?_
        exact q_ref h zQF.rf (by simp only [q_orderAt, ht]; rw [if_neg (fun q => bnf (zcl2_f2 h22) q.1)])
      · refine j_iload_n (pc := 25) dX11_orderAt_25 rfl ?_
        refine j_if_lt (pc := 26) (tgt := 34) dX11_orderAt_26 (by decide) (fun h26 => ?_) (fun h26 => ?_)
        · refine j_aload_n (pc := 34) dX11_orderAt_34 rfl ?_
          refine j_iconst (pc := 35) (v := 1) dX11_orderAt_35 (by decide) ?_
          refine j_callV (pc := 36) (t := 11) (c_refused k1 _) dX11_orderAt_36 l_X11_68 mk_X11_refused mv_X11_refused (by decide) rfl (by assumption) (by decide) rfl rfl (Nat.le_of_ble_eq_true rfl) (Nat.le_refl _) (Nat.le_refl _) (fun r T h_1 => ?_)
          obtain ⟨rfl, rfl⟩ := h_1
          refine j_iret (pc := 39) dX11_orderAt_39 rfl ?_
          exact q_ref h zQF.rf (by simp only [q_orderAt, ht]; rw [if_neg (fun q => bnf (zcl2_f1 h26) q.2)])
        · refine j_iload_n (pc := 29) dX11_orderAt_29 rfl ?_
          refine j_iconst (pc := 30) (v := 2) dX11_orderAt_30 (by decide) ?_
          refine j_icmp_le (pc := 31) (tgt := 40) dX11_orderAt_31 (by decide) (fun h31 => ?_) (fun h31 => ?_)
          · have hi2 : zcl2 (tO t).length i = true := decide_eq_true (p := ¬ i < 0 ∧ ¬ nI (tO t).length ≤ i) ⟨h8, h22⟩
            have hw2 : zcl2 3 w = true := decide_eq_true (p := ¬ w < 0 ∧ ¬ nI 3 ≤ w) ⟨h26, Int32.not_le.mpr (Int32.lt_of_le_of_lt h31 (by decide))⟩
            obtain ⟨j, hj, rfl⟩ := zcl2_t (by omega) hi2
            have hcl : (nI j).toNatClampNeg = j := nI_clamp (by omega)
            obtain ⟨o1, o2, o3, o4, o5⟩ := hOr.2.2.2.2 j _ (gD (0, false, false, false) hj)
            have kc := hOr.1.2.1
            have kd := hOr.1.2.2.2.1
            have kf := hOr.1.2.2.2.2
            refine j_iload_n (pc := 40) dX11_orderAt_40 rfl ?_
            refine j_if_ne (pc := 41) (tgt := 61) dX11_orderAt_41 (by decide) (fun h41 => ?_) (fun h41 => ?_)
            · refine j_iload_n (pc := 61) dX11_orderAt_61 rfl ?_
              refine j_iconst (pc := 62) (v := 1) dX11_orderAt_62 (by decide) ?_
              refine j_icmp_ne (pc := 63) (tgt := 81) dX11_orderAt_63 (by decide) (fun h63 => ?_) (fun h63 => ?_)
              · refine j_aload_n (pc := 81) dX11_orderAt_81 rfl ?_
                refine j_getPv (pc := 82) dX11_orderAt_82 f_X11_44 (Or.inl ⟨_, rfl⟩) (by assumption) (p5) ?_
                refine j_getPv (pc := 85) dX11_orderAt_85 f_X11_109 (Or.inl ⟨_, rfl⟩) (by assumption) (q2) ?_
                refine j_getPv (pc := 88) dX11_orderAt_88 f_X11_148 (Or.inr ⟨_, rfl⟩) (by assumption) (hOr.2.1.2.2.2) ?_
                refine j_iload_n (pc := 91) dX11_orderAt_91 rfl ?_
                refine j_zaldn (pc := 92) dX11_orderAt_92 kf (by omega) (by decide) o4 ?_
                refine j_istore_n (pc := 93) (ls' := [_, _, _, _]) dX11_orderAt_93 (by decide) rfl rfl ?_
                refine j_aload_n (pc := 94) dX11_orderAt_94 rfl ?_
                refine j_iload_n (pc := 95) dX11_orderAt_95 rfl ?_
                refine j_if_eq (pc := 96) (tgt := 103) dX11_orderAt_96 (by decide) (fun h96 => ?_) (fun h96 => ?_)
                · refine j_iconst (pc := 103) (v := 0) dX11_orderAt_103 (by decide) ?_
                  refine j_callV (pc := 104) (t := 11) (c_answered k1 _) dX11_orderAt_104 l_X11_103 mk_X11_answered mv_X11_answered (by decide) rfl (by assumption) (by decide) rfl rfl (Nat.le_of_ble_eq_true rfl) (Nat.le_refl _) (Nat.le_refl _) (fun r T h_1 => ?_)
                  obtain ⟨rfl, rfl⟩ := h_1
                  refine j_iret (pc := 107) dX11_orderAt_107 rfl ?_
                  exact q_ans h zQF.rf (by simp only [q_orderAt, ht]; rw [if_pos ⟨hi2, hw2⟩, zoe, if_neg h41, if_neg h63, zn, hcl, h96])
                · refine j_iconst (pc := 99) (v := 1) dX11_orderAt_99 (by decide) ?_
                  refine j_goto (pc := 100) (tgt := 104) dX11_orderAt_100 (by decide) ?_
                  refine j_callV (pc := 104) (t := 11) (c_answered k1 _) dX11_orderAt_104 l_X11_103 mk_X11_answered mv_X11_answered (by decide) rfl (by assumption) (by decide) rfl rfl (Nat.le_of_ble_eq_true rfl) (Nat.le_refl _) (Nat.le_refl _) (fun r T h_1 => ?_)
                  obtain ⟨rfl, rfl⟩ := h_1
                  refine j_iret (pc := 107) dX11_orderAt_107 rfl ?_
                  exact q_ans h zQF.rf (by simp only [q_orderAt, ht]; rw [if_pos ⟨hi2, hw2⟩, zoe, if_neg h41, if_neg h63, zn, hcl, zbi_ne0 h96]; rfl)
              · refine j_aload_n (pc := 66) dX11_orderAt_66 rfl ?_
                refine j_getPv (pc := 67) dX11_orderAt_67 f_X11_44 (Or.inl ⟨_, rfl⟩) (by assumption) (p5) ?_
                refine j_getPv (pc := 70) dX11_orderAt_70 f_X11_109 (Or.inl ⟨_, rfl⟩) (by assumption) (q2) ?_
                refine j_getPv (pc := 73) dX11_orderAt_73 f_X11_144 (Or.inr ⟨_, rfl⟩) (by assumption) (hOr.2.1.2.2.1) ?_
                refine j_iload_n (pc := 76) dX11_orderAt_76 rfl ?_
                refine j_zaldn (pc := 77) dX11_orderAt_77 kd (by omega) (by decide) o3 ?_
                refine j_goto (pc := 78) (tgt := 93) dX11_orderAt_78 (by decide) ?_
                refine j_istore_n (pc := 93) (ls' := [_, _, _, _]) dX11_orderAt_93 (by decide) rfl rfl ?_
                refine j_aload_n (pc := 94) dX11_orderAt_94 rfl ?_
                refine j_iload_n (pc := 95) dX11_orderAt_95 rfl ?_
                refine j_if_eq (pc := 96) (tgt := 103) dX11_orderAt_96 (by decide) (fun h96 => ?_) (fun h96 => ?_)
                · refine j_iconst (pc := 103) (v := 0) dX11_orderAt_103 (by decide) ?_
                  refine j_callV (pc := 104) (t := 11) (c_answered k1 _) dX11_orderAt_104 l_X11_103 mk_X11_answered mv_X11_answered (by decide) rfl (by assumption) (by decide) rfl rfl (Nat.le_of_ble_eq_true rfl) (Nat.le_refl _) (Nat.le_refl _) (fun r T h_1 => ?_)
                  obtain ⟨rfl, rfl⟩ := h_1
                  refine j_iret (pc := 107) dX11_orderAt_107 rfl ?_
                  exact q_ans h zQF.rf (by simp only [q_orderAt, ht]; rw [if_pos ⟨hi2, hw2⟩, zoe, if_neg h41, if_pos h63, zn, hcl, h96])
                · refine j_iconst (pc := 99) (v := 1) dX11_orderAt_99 (by decide) ?_
                  refine j_goto (pc := 100) (tgt := 104) dX11_orderAt_100 (by decide) ?_
                  refine j_callV (pc := 104) (t := 11) (c_answered k1 _) dX11_orderAt_104 l_X11_103 mk_X11_answered mv_X11_answered (by decide) rfl (by assumption) (by decide) rfl rfl (Nat.le_of_ble_eq_true rfl) (Nat.le_refl _) (Nat.le_refl _) (fun r T h_1 => ?_)
                  obtain ⟨rfl, rfl⟩ := h_1
                  refine j_iret (pc := 107) dX11_orderAt_107 rfl ?_
                  exact q_ans h zQF.rf (by simp only [q_orderAt, ht]; rw [if_pos ⟨hi2, hw2⟩, zoe, if_neg h41, if_pos h63, zn, hcl, zbi_ne0 h96]; rfl)
            · refine j_aload_n (pc := 44) dX11_orderAt_44 rfl ?_
              refine j_aload_n (pc := 45) dX11_orderAt_45 rfl ?_
              refine j_getPv (pc := 46) dX11_orderAt_46 f_X11_44 (Or.inl ⟨_, rfl⟩) (by assumption) (p5) ?_
              refine j_getPv (pc := 49) dX11_orderAt_49 f_X11_109 (Or.inl ⟨_, rfl⟩) (by assumption) (q2) ?_
              refine j_getPv (pc := 52) dX11_orderAt_52 f_X11_142 (Or.inr ⟨_, rfl⟩) (by assumption) (hOr.2.1.1) ?_
              refine j_iload_n (pc := 55) dX11_orderAt_55 rfl ?_
              refine j_ialdn (pc := 56) dX11_orderAt_56 kc (by omega) (by decide) o1 ?_
              refine j_callV (pc := 57) (t := 11) (c_answered k1 _) dX11_orderAt_57 l_X11_103 mk_X11_answered mv_X11_answered (by decide) rfl (by assumption) (by decide) rfl rfl (Nat.le_of_ble_eq_true rfl) (Nat.le_refl _) (Nat.le_refl _) (fun r T h_1 => ?_)
              obtain ⟨rfl, rfl⟩ := h_1
              refine j_iret (pc := 60) dX11_orderAt_60 rfl ?_
              exact q_ans h zQF.rf (by simp only [q_orderAt, ht]; rw [if_pos ⟨hi2, hw2⟩, zoe, if_pos h41, zn, hcl])
          · refine j_aload_n (pc := 34) dX11_orderAt_34 rfl ?_
            refine j_iconst (pc := 35) (v := 1) dX11_orderAt_35 (by decide) ?_
            refine j_callV (pc := 36) (t := 11) (c_refused k1 _) dX11_orderAt_36 l_X11_68 mk_X11_refused mv_X11_refused (by decide) rfl (by assumption) (by decide) rfl rfl (Nat.le_of_ble_eq_true rfl) (Nat.le_refl _) (Nat.le_refl _) (fun r T h_1 => ?_)
            obtain ⟨rfl, rfl⟩ := h_1
            refine j_iret (pc := 39) dX11_orderAt_39 rfl ?_
            exact q_ref h zQF.rf (by simp only [q_orderAt, ht]; rw [if_neg (fun q => bnf (zcl2_f2 (m := 3) (by rcases pk_ix w (n := 3) (by decide) with g | g | ⟨k, hk, rfl⟩; exact absurd g h26; exact g; exact absurd (nI_le (b := 2) (by omega) (by decide)) h31)) q.2)])
set_option maxRecDepth 20000 in
set_option maxHeartbeats 4000000 in
theorem p_rank {E : zE} {S : zM} {s : zST} {n : Nat} (h : zCI S s) (hw : zWF n s) (x : Int32) : zSp E 6 0 0 mX11_rank cX11_rank [zR 1, zI x] S (fun r T => r = some (zI (q_rank s x).1) ∧ zCI T (q_rank s x).2 ∧ zQF S T) := by
  refine zSp.of (by decide) rfl (Nat.le_of_ble_eq_true rfl) rfl ?_
  obtain ⟨h0, hF, hG4, hi, hV, hP, hR, hT⟩ := _root_.id h
  have k1 := h0.1
  cases hz : zrow s x with
  | false =>
    have e : q_rank s x = zrf s 1 := by
      unfold q_rank
      split
      · rfl
      · rename_i t ht
        rw [zrow_s ht] at hz
        simp [hz]
    refine j_aload_n (pc := 0) dX11_rank_0 rfl ?_
    refine j_iload_n (pc := 1) dX11_rank_1 rfl ?_
    refine j_callV (pc := 2) (t := 11) (c_isRow h _) dX11_rank_2 l_X11_151 mk_X11_isRow mv_X11_isRow (by decide) rfl (by assumption) (by decide) rfl rfl (Nat.le_of_ble_eq_true rfl) (Nat.le_refl _) (Nat.le_refl _) (fun r T h_1 => ?_)
    obtain ⟨rfl, rfl⟩ := h_1
    rw [hz]
    refine j_if_ne (pc := 5) (tgt := 14) dX11_rank_5 (by decide) (fun h5 => absurd rfl h5) (fun h5 => ?_)
    refine j_aload_n (pc := 8) dX11_rank_8 rfl ?_
    refine j_iconst (pc := 9) (v := 1) dX11_rank_9 (by decide) ?_
    refine j_callV (pc := 10) (t := 11) (c_refused k1 _) dX11_rank_10 l_X11_68 mk_X11_refused mv_X11_refused (by decide) rfl (by assumption) (by decide) rfl rfl (Nat.le_of_ble_eq_true rfl) (Nat.le_refl _) (Nat.le_refl _) (fun r T h_1 => ?_)
    obtain ⟨rfl, rfl⟩ := h_1
    refine j_iret (pc := 13) dX11_rank_13 rfl ?_
    exact q_ref h zQF.rf e
  | true =>
    obtain ⟨t, j, ht, hj, rfl, hjr⟩ := zrow_t hz
    have hjt : zth (tW t).1 (nI j) = true := by rw [zth_nI _ hj]; exact hjr
    have hcl : (nI j).toNatClampNeg = j := nI_clamp (by omega)
    rw [ht] at hT
    obtain ⟨a, p5, a161, ag, hTt, hVI⟩ := hT
    obtain ⟨ka, q2, q3, q4, q5, q6, q1, i7, i8⟩ := hTt.d
    have k6 : zkd S 6 = (11, 0) := by obtain ⟨q, t0, g, h1, h2⟩ := hV.1; exact h1.1.1
    obtain ⟨so, si, sc, ol, hTA, hHi⟩ := hTt
    have hOr := hTA.2.2.1
    have hSv := hTA.2.2.2.1
    have hRo := hTA.2.2.2.2.1
    have hAc := hTA.2.2.2.2.2.1
    have kor := hOr.1.1
    have ksv := hSv.1.1
    have kro := hRo.1
    have kac := hAc.1.1
    have iv := hAc.2.2.1
    have hn : n ≤ 600 := Nat.le_of_lt hw.1
    have hwT := hw.2.2.2
    rw [ht] at hwT
    obtain ⟨hWt, hWp, hWr⟩ := hwT
    refine j_aload_n (pc := 0) dX11_rank_0 rfl ?_
    refine j_iload_n (pc := 1) dX11_rank_1 rfl ?_
    refine j_callV (pc := 2) (t := 11) (c_isRow h _) dX11_rank_2 l_X11_151 mk_X11_isRow mv_X11_isRow (by decide) rfl (by assumption) (by decide) rfl rfl (Nat.le_of_ble_eq_true rfl) (Nat.le_refl _) (Nat.le_refl _) (fun r T h_1 => ?_)
    obtain ⟨rfl, rfl⟩ := h_1
    rw [hz]
    refine j_if_ne (pc := 5) (tgt := 14) dX11_rank_5 (by decide) (fun h5 => ?_) (fun h5 => absurd h5 (by decide))
    refine j_aload_n (pc := 14) dX11_rank_14 rfl ?_
    refine j_aload_n (pc := 15) dX11_rank_15 rfl ?_
    refine j_iload_n (pc := 16) dX11_rank_16 rfl ?_
    refine j_callV (pc := 17) (t := 11) (c_rankNow h ht hWt hn hj) dX11_rank_17 l_X11_187 mk_X11_rankNow mv_X11_rankNow (by decide) rfl (by assumption) (by decide) rfl rfl (Nat.le_of_ble_eq_true rfl) (Nat.le_refl _) (Nat.le_refl _) (fun r T h_1 => ?_)
    obtain ⟨rfl, h2, hG⟩ := h_1
    have k11 := h2.1.1
    refine j_callV (pc := 20) (t := 11) (c_answered k11 _) dX11_rank_20 l_X11_103 mk_X11_answered mv_X11_answered (by decide) rfl (by assumption) (by decide) rfl rfl (Nat.le_of_ble_eq_true rfl) (Nat.le_refl _) (Nat.le_refl _) (fun r T h_1 => ?_)
    obtain ⟨rfl, rfl⟩ := h_1
    refine j_iret (pc := 23) dX11_rank_23 rfl ?_
    exact q_ans h2 hG.q (by simp only [q_rank, ht]; rw [if_pos hjt, zn, hcl])
set_option maxRecDepth 20000 in
set_option maxHeartbeats 4000000 in
theorem p_keySize {E : zE} {S : zM} {s : zST} {n : Nat} (h : zCI S s) (hw : zWF n s) (x : Int32) : zSp E 6 0 0 mX11_keySize cX11_keySize [zR 1, zI x] S (fun r T => r = some (zI (q_keySize s x).1) ∧ zCI T (q_keySize s x).2 ∧ zQF S T) := by
  refine zSp.of (by decide) rfl (Nat.le_of_ble_eq_true rfl) rfl ?_
  obtain ⟨h0, hF, hG4, hi, hV, hP, hR, hT⟩ := _root_.id h
  have k1 := h0.1
  cases hz : zrow s x with
  | false =>
    have e : q_keySize s x = zrf s 1 := by
      unfold q_keySize
      split
      · rfl
      · rename_i t ht
        rw [zrow_s ht] at hz
        simp [hz]
    refine j_aload_n (pc := 0) dX11_keySize_0 rfl ?_
    refine j_iload_n (pc := 1) dX11_keySize_1 rfl ?_
    refine j_callV (pc := 2) (t := 11) (c_isRow h _) dX11_keySize_2 l_X11_151 mk_X11_isRow mv_X11_isRow (by decide) rfl (by assumption) (by decide) rfl rfl (Nat.le_of_ble_eq_true rfl) (Nat.le_refl _) (Nat.le_refl _) (fun r T h_1 => ?_)
    obtain ⟨rfl, rfl⟩ := h_1
    rw [hz]
    refine j_if_ne (pc := 5) (tgt := 14) dX11_keySize_5 (by decide) (fun h5 => absurd rfl h5) (fun h5 => ?_)
    refine j_aload_n (pc := 8) dX11_keySize_8 rfl ?_
    refine j_iconst (pc := 9) (v := 1) dX11_keySize_9 (by decide) ?_
    refine j_callV (pc := 10) (t := 11) (c_refused k1 _) dX11_keySize_10 l_X11_68 mk_X11_refused mv_X11_refused (by decide) rfl (by assumption) (by decide) rfl rfl (Nat.le_of_ble_eq_true rfl) (Nat.le_refl _) (Nat.le_refl _) (fun r T h_1 => ?_)
    obtain ⟨rfl, rfl⟩ := h_1
    refine j_iret (pc := 13) dX11_keySize_13 rfl ?_
    exact q_ref h zQF.rf e
  | true =>
    obtain ⟨t, j, ht, hj, rfl, hjr⟩ := zrow_t hz
    have hjt : zth (tW t).1 (nI j) = true := by rw [zth_nI _ hj]; exact hjr
    have hcl : (nI j).toNatClampNeg = j := nI_clamp (by omega)
    rw [ht] at hT
    obtain ⟨a, p5, a161, ag, hTt, hVI⟩ := hT
    obtain ⟨ka, q2, q3, q4, q5, q6, q1, i7, i8⟩ := hTt.d
    have k6 : zkd S 6 = (11, 0) := by obtain ⟨q, t0, g, h1, h2⟩ := hV.1; exact h1.1.1
    obtain ⟨so, si, sc, ol, hTA, hHi⟩ := hTt
    have hOr := hTA.2.2.1
    have hSv := hTA.2.2.2.1
    have hRo := hTA.2.2.2.2.1
    have hAc := hTA.2.2.2.2.2.1
    have kor := hOr.1.1
    have ksv := hSv.1.1
    have kro := hRo.1
    have kac := hAc.1.1
    have iv := hAc.2.2.1
    have hn : n ≤ 600 := Nat.le_of_lt hw.1
    have hwT := hw.2.2.2
    rw [ht] at hwT
    obtain ⟨hWt, hWp, hWr⟩ := hwT
    refine j_aload_n (pc := 0) dX11_keySize_0 rfl ?_
    refine j_iload_n (pc := 1) dX11_keySize_1 rfl ?_
    refine j_callV (pc := 2) (t := 11) (c_isRow h _) dX11_keySize_2 l_X11_151 mk_X11_isRow mv_X11_isRow (by decide) rfl (by assumption) (by decide) rfl rfl (Nat.le_of_ble_eq_true rfl) (Nat.le_refl _) (Nat.le_refl _) (fun r T h_1 => ?_)
    obtain ⟨rfl, rfl⟩ := h_1
    rw [hz]
    refine j_if_ne (pc := 5) (tgt := 14) dX11_keySize_5 (by decide) (fun h5 => ?_) (fun h5 => absurd h5 (by decide))
    refine j_aload_n (pc := 14) dX11_keySize_14 rfl ?_
    refine j_aload_n (pc := 15) dX11_keySize_15 rfl ?_
    refine j_iload_n (pc := 16) dX11_keySize_16 rfl ?_
    refine j_callV (pc := 17) (t := 11) (c_keyNow h ht hWt hn hj hjr) dX11_keySize_17 l_X11_177 mk_X11_keyNow mv_X11_keyNow (by decide) rfl (by assumption) (by decide) rfl rfl (Nat.le_of_ble_eq_true rfl) (Nat.le_refl _) (Nat.le_refl _) (fun r T h_1 => ?_)
    obtain ⟨h2, hG, c, rfl, c1, c2, hB⟩ := h_1
    have k11 := h2.1.1
    have kc := hB.1
    refine j_getIv (pc := 20) dX11_keySize_20 f_X11_58 (Or.inl rfl) (by assumption) (hB.2.2.2.2.1) ?_
    refine j_callV (pc := 23) (t := 11) (c_answered k11 _) dX11_keySize_23 l_X11_103 mk_X11_answered mv_X11_answered (by decide) rfl (by assumption) (by decide) rfl rfl (Nat.le_of_ble_eq_true rfl) (Nat.le_refl _) (Nat.le_refl _) (fun r T h_1 => ?_)
    obtain ⟨rfl, rfl⟩ := h_1
    refine j_iret (pc := 26) dX11_keySize_26 rfl ?_
    exact q_ans h2 hG.q (by simp only [q_keySize, ht]; rw [if_pos hjt, zn, hcl])
theorem q_rd {S T : zM} {s : zST} {y : Int32} {q : Int32 × zST} (h : zCI T s) (f : zQF S T) (e : q = zrd s y) : some (zI y) = some (zI q.1) ∧ zCI (zwI T 1 6 (if y = -1 then 1 else 0)) q.2 ∧ zQF S (zwI T 1 6 (if y = -1 then 1 else 0)) := by
  subst e
  by_cases hy : y = -1
  · rw [zrd, if_pos hy, if_pos hy]
    exact ⟨rfl, h.no 1, f.tr zQF.w1⟩
  · rw [zrd, if_neg hy, if_neg hy]
    exact ⟨rfl, h.no 0, f.tr zQF.w1⟩
set_option maxRecDepth 20000 in
set_option maxHeartbeats 4000000 in
theorem p_keyByte {E : zE} {S : zM} {s : zST} {n : Nat} (h : zCI S s) (hw : zWF n s) (x i : Int32) : zSp E 6 0 0 mX11_keyByte cX11_keyByte [zR 1, zI x, zI i] S (fun r T => r = some (zI (q_keyByte s x i).1) ∧ zCI T (q_keyByte s x i).2 ∧ zQF S T) := by
  refine zSp.of (by decide) rfl (Nat.le_of_ble_eq_true rfl) rfl ?_
  obtain ⟨h0, hF, hG4, hi, hV, hP, hR, hT⟩ := _root_.id h
  have k1 := h0.1
  cases hz : zrow s x with
  | false =>
    have e : q_keyByte s x i = zrf s 1 := by
      unfold q_keyByte
      split
      · rfl
      · rename_i t ht
        rw [zrow_s ht] at hz
        simp [hz]
    refine j_aload_n (pc := 0) dX11_keyByte_0 rfl ?_
    refine j_iload_n (pc := 1) dX11_keyByte_1 rfl ?_
    refine j_callV (pc := 2) (t := 11) (c_isRow h _) dX11_keyByte_2 l_X11_151 mk_X11_isRow mv_X11_isRow (by decide) rfl (by assumption) (by decide) rfl rfl (Nat.le_of_ble_eq_true rfl) (Nat.le_refl _) (Nat.le_refl _) (fun r T h_1 => ?_)
    obtain ⟨rfl, rfl⟩ := h_1
    rw [hz]
    refine j_if_ne (pc := 5) (tgt := 14) dX11_keyByte_5 (by decide) (fun h5 => absurd rfl h5) (fun h5 => ?_)
    refine j_aload_n (pc := 8) dX11_keyByte_8 rfl ?_
    refine j_iconst (pc := 9) (v := 1) dX11_keyByte_9 (by decide) ?_
    refine j_callV (pc := 10) (t := 11) (c_refused k1 _) dX11_keyByte_10 l_X11_68 mk_X11_refused mv_X11_refused (by decide) rfl (by assumption) (by decide) rfl rfl (Nat.le_of_ble_eq_true rfl) (Nat.le_refl _) (Nat.le_refl _) (fun r T h_1 => ?_)
    obtain ⟨rfl, rfl⟩ := h_1
    refine j_iret (pc := 13) dX11_keyByte_13 rfl ?_
    exact q_ref h zQF.rf e
  | true =>
    obtain ⟨t, j, ht, hj, rfl, hjr⟩ := zrow_t hz
    have hjt : zth (tW t).1 (nI j) = true := by rw [zth_nI _ hj]; exact hjr
    have hcl : (nI j).toNatClampNeg = j := nI_clamp (by omega)
    rw [ht] at hT
    obtain ⟨a, p5, a161, ag, hTt, hVI⟩ := hT
    obtain ⟨ka, q2, q3, q4, q5, q6, q1, i7, i8⟩ := hTt.d
    have k6 : zkd S 6 = (11, 0) := by obtain ⟨q, t0, g, h1, h2⟩ := hV.1; exact h1.1.1
    obtain ⟨so, si, sc, ol, hTA, hHi⟩ := hTt
    have hOr := hTA.2.2.1
    have hSv := hTA.2.2.2.1
    have hRo := hTA.2.2.2.2.1
    have hAc := hTA.2.2.2.2.2.1
    have kor := hOr.1.1
    have ksv := hSv.1.1
    have kro := hRo.1
    have kac := hAc.1.1
    have iv := hAc.2.2.1
    have hn : n ≤ 600 := Nat.le_of_lt hw.1
    have hwT := hw.2.2.2
    rw [ht] at hwT
    obtain ⟨hWt, hWp, hWr⟩ := hwT
    refine j_aload_n (pc := 0) dX11_keyByte_0 rfl ?_
    refine j_iload_n (pc := 1) dX11_keyByte_1 rfl ?_
    refine j_callV (pc := 2) (t := 11) (c_isRow h _) dX11_keyByte_2 l_X11_151 mk_X11_isRow mv_X11_isRow (by decide) rfl (by assumption) (by decide) rfl rfl (Nat.le_of_ble_eq_true rfl) (Nat.le_refl _) (Nat.le_refl _) (fun r T h_1 => ?_)
    obtain ⟨rfl, rfl⟩ := h_1
    rw [hz]
    refine j_if_ne (pc := 5) (tgt := 14) dX11_keyByte_5 (by decide) (fun h5 => ?_) (fun h5 => absurd h5 (by decide))
    refine j_aload_n (pc := 14) dX11_keyByte_14 rfl ?_
    refine j_aload_n (pc := 15) dX11_keyByte_15 rfl ?_
    refine j_iload_n (pc := 16) dX11_keyByte_16 rfl ?_
    refine j_callV (pc := 17) (t := 11) (c_keyNow h ht hWt hn hj hjr) dX11_keyByte_17 l_X11_177 mk_X11_keyNow mv_X11_keyNow (by decide) rfl (by assumption) (by decide) rfl rfl (Nat.le_of_ble_eq_true rfl) (Nat.le_refl _) (Nat.le_refl _) (fun r T h_1 => ?_)
    obtain ⟨h2, hG, c, rfl, c1, c2, hB⟩ := h_1
    have k11 := h2.1.1
    have kc := hB.1
    refine j_iload_n (pc := 20) dX11_keyByte_20 rfl ?_
    refine j_callV (pc := 21) (t := 1) (c_get hB i) dX11_keyByte_21 l_X11_181 mk_X1_get mv_X1_get (by decide) rfl (by assumption) (by decide) rfl rfl (Nat.le_of_ble_eq_true rfl) (Nat.le_refl _) (Nat.le_refl _) (fun r T h_1 => ?_)
    obtain ⟨rfl, rfl⟩ := h_1
    refine j_callV (pc := 24) (t := 11) (c_ansOrNone k11 _) dX11_keyByte_24 l_X11_184 mk_X11_answeredOrNone mv_X11_answeredOrNone (by decide) rfl (by assumption) (by decide) rfl rfl (Nat.le_of_ble_eq_true rfl) (Nat.le_refl _) (Nat.le_refl _) (fun r T h_1 => ?_)
    obtain ⟨rfl, rfl⟩ := h_1
    refine j_iret (pc := 27) dX11_keyByte_27 rfl ?_
    exact q_rd h2 hG.q (by simp only [q_keyByte, ht]; rw [if_pos hjt, zn, hcl])
