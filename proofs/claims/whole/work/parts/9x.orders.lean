/-! the order as the model reads it -/
theorem mPd.ordr {S T : zM} {X : List Nat} {w : zPi} {e : zOe} (h : mPd S X w) (hl : w.2.2.2.1.length < 4) (f : zK (fun c k => c = 123 ∧ k = 16) S T) (e1 : zgI T 131 w.2.2.2.1.length = nI e.1) (e2 : zgI T 132 w.2.2.2.1.length = zbi e.2.2.1) (e3 : zgI T 133 w.2.2.2.1.length = zbi e.2.2.2) (e4 : zgI T 123 16 = nI (w.2.2.2.1.length + 1)) : mPd T X (w.1, w.2.1, w.2.2.1, w.2.2.2.1 ++ [e], w.2.2.2.2) := by
  obtain ⟨a0, a1, a2, a3, a4, ⟨o1, o2, o3⟩, a6⟩ := h
  refine ⟨f.ms a0, a1.k f (by omega) (fun k => by omega), a2.k f (fun i _ _ => by omega), a3, a4.k f (by omega) (fun i => by omega) (fun i => by omega), ⟨by rw [List.length_append]; exact e4, by rw [List.length_append]; show _ + 1 ≤ 4; omega, fun i y hy => ?_⟩, a6.k f (by omega) (fun i => by omega)⟩
  by_cases q : i < w.2.2.2.1.length
  · rw [List.getElem?_append_left q] at hy
    exact ⟨(f.2.2.2.1 _ _ (by omega)).trans (o3 i y hy).1, (f.2.2.2.1 _ _ (by omega)).trans (o3 i y hy).2.1, (f.2.2.2.1 _ _ (by omega)).trans (o3 i y hy).2.2⟩
  · have hi := (List.getElem?_eq_some_iff.mp hy).1
    rw [List.length_append] at hi
    have ei : i = w.2.2.2.1.length := by
      have : i < w.2.2.2.1.length + 1 := hi
      omega
    rw [ei, List.getElem?_concat_length] at hy
    cases hy
    rw [ei]
    exact ⟨e1, e2, e3⟩
set_option maxRecDepth 20000 in
set_option maxHeartbeats 4000000 in
theorem n_readOne {E : zE} {S : zM} {X : List Nat} {w : zPi} (hE : zOKE E) (h : mPd S X w) (hO : ∀ c, w.2.1.findIdx? (fun y => decide (y = w.1.2.2.2)) = some c → zoh w.2.2.2.1 c = false → w.2.2.2.1.length < 4) (hek : ∀ (i : Nat) (e : zOe), w.2.2.2.1[i]? = some e → e.1 < 4) : zSp E 5 0 0 mX12_readOne cX12_readOne [zR 123] S (fun r T => mPQ X S r T (zrO X w)) := by
  refine zSp.of (by decide) rfl (Nat.le_of_ble_eq_true rfl) rfl ?_
  have hlN := h.2.2.2.2.1.2.1
  have hO4' := h.2.2.2.2.2.1.2.1
  by_cases h1 : w.1.2.1 = 1
  case neg =>
    refine j_aload_n (pc := 0) dX12_readOne_0 rfl ?_
    refine j_getIv (pc := 1) dX12_readOne_1 f_X12_152 (Or.inl rfl) h.1.1 (h.2.2.1.2.2.1) ?_
    refine j_iconst (pc := 4) (v := 2) dX12_readOne_4 (by decide) ?_
    refine j_icmp_eq (pc := 5) (tgt := 14) dX12_readOne_5 (by decide) (fun h5 => absurd (h.2.2.2.1.c2.mp h5) h1) (fun h5 => ?_)
    refine j_aload_n (pc := 8) dX12_readOne_8 rfl ?_
    refine j_iconst (pc := 9) (v := 1) dX12_readOne_9 (by decide) ?_
    refine j_callV (pc := 10) (t := 12) (n_err h) dX12_readOne_10 l_X12_195 mk_X12_errs mv_X12_errs (by decide) rfl h.1.1 (by decide) rfl rfl (Nat.le_of_ble_eq_true rfl) (Nat.le_refl _) (Nat.le_refl _) (fun r T h_1 => ?_)
    obtain ⟨rfl, q2, q3, q4⟩ := h_1
    refine j_zret (pc := 13) dX12_readOne_13 rfl (by first | assumption | decide) ?_
    rw [zrO_1 h1]
    exact ⟨rfl, q2, q3, q4⟩
  case pos =>
    cases hf : w.2.1.findIdx? (fun y => decide (y = w.1.2.2.2)) with
    | none =>
      have hco : zco w.2.1 w.1.2.2.2 = -1 := by rw [zco, hf]
      refine j_aload_n (pc := 0) dX12_readOne_0 rfl ?_
      refine j_getIv (pc := 1) dX12_readOne_1 f_X12_152 (Or.inl rfl) h.1.1 (h.2.2.1.2.2.1) ?_
      refine j_iconst (pc := 4) (v := 2) dX12_readOne_4 (by decide) ?_
      refine j_icmp_eq (pc := 5) (tgt := 14) dX12_readOne_5 (by decide) (fun h5 => ?_) (fun h5 => absurd (h.2.2.2.1.c2.mpr h1) h5)
      refine j_aload_n (pc := 14) dX12_readOne_14 rfl ?_
      refine j_callV (pc := 15) (t := 12) (n_columnHere h.1 h.2.1 h.2.2.1 h.2.2.2.1 h1 h.2.2.2.2.1) dX12_readOne_15 l_X12_199 mk_X12_columnHere mv_X12_columnHere (by decide) rfl h.1.1 (by decide) rfl rfl (Nat.le_of_ble_eq_true rfl) (Nat.le_refl _) (Nat.le_refl _) (fun r T h_1 => ?_)
      obtain ⟨rfl, rfl⟩ := h_1
      rw [hco]
      refine j_istore_n (pc := 18) (ls' := [_, _, _]) dX12_readOne_18 (by decide) rfl rfl ?_
      refine j_iload_n (pc := 19) dX12_readOne_19 rfl ?_
      refine j_iconst (pc := 20) (v := (-1)) dX12_readOne_20 (by decide) ?_
      refine j_icmp_ne (pc := 21) (tgt := 30) dX12_readOne_21 (by decide) (fun h21 => absurd rfl h21) (fun h21 => ?_)
      refine j_aload_n (pc := 24) dX12_readOne_24 rfl ?_
      refine j_iconst (pc := 25) (v := 2) dX12_readOne_25 (by decide) ?_
      refine j_callV (pc := 26) (t := 12) (n_err h) dX12_readOne_26 l_X12_195 mk_X12_errs mv_X12_errs (by decide) rfl h.1.1 (by decide) rfl rfl (Nat.le_of_ble_eq_true rfl) (Nat.le_refl _) (Nat.le_refl _) (fun r T h_1 => ?_)
      obtain ⟨rfl, q2, q3, q4⟩ := h_1
      refine j_zret (pc := 29) dX12_readOne_29 rfl (by first | assumption | decide) ?_
      rw [zrO_2 h1 hf]
      exact ⟨rfl, q2, q3, q4⟩
    | some c =>
      have hco : zco w.2.1 w.1.2.2.2 = nI c := by rw [zco, hf]
      have hc4 : c < w.2.1.length := (List.findIdx?_eq_some_iff_getElem.mp hf).1
      have lp : ∀ (m i : Nat), i + m = w.2.2.2.1.length → (∀ (o : Nat) (y : zOe), o < i → w.2.2.2.1[o]? = some y → y.1 ≠ c) → zJ E 5 0 0 mX12_readOne cX12_readOne 32 [some (zR 123), some (zI (nI c)), some (zI (nI i))] [] S (fun r T => mPQ X S r T (zrO X w)) := by
        intro m
        induction m with
        | zero =>
          intro i hi hq
          refine j_iload_n (pc := 32) dX12_readOne_32 rfl ?_
          refine j_aload_n (pc := 33) dX12_readOne_33 rfl ?_
          refine j_getIv (pc := 34) dX12_readOne_34 f_X12_217 (Or.inl rfl) h.1.1 (h.2.2.2.2.2.1.1) ?_
          refine j_icmp_ge (pc := 37) (tgt := 62) dX12_readOne_37 (by decide) (fun h37 => ?_) (fun h37 => absurd (nI_le (show w.2.2.2.1.length ≤ i by omega) (by omega)) h37)
          have hoh : zoh w.2.2.2.1 c = false := by
            unfold zoh
            rw [List.any_eq_false]
            intro e he
            obtain ⟨o, ho⟩ := List.mem_iff_getElem?.mp he
            rw [decide_eq_true_iff]
            exact hq o e (by have := (List.getElem?_eq_some_iff.mp ho).1; omega) ho
          rw [zrO_3 h1 hf, if_neg (by rw [hoh]; decide), ← zWd_5, ← zWd_6, ← zWd_7]
          have hO4 := hO c hf hoh
          refine j_aload_n (pc := 62) dX12_readOne_62 rfl ?_
          refine j_callV (pc := 63) (t := 12) (n_adv h) dX12_readOne_63 l_X12_202 mk_X12_goesOn mv_X12_goesOn (by decide) rfl h.1.1 (by decide) rfl rfl (Nat.le_of_ble_eq_true rfl) (Nat.le_refl _) (Nat.le_refl _) (fun r T1 h_1 => ?_)
          obtain ⟨rfl, k1, h1q⟩ := h_1
          have hA : mPd T1 X (zadv X w.1.1, w.2) := h1q
          refine j_aload_n (pc := 66) dX12_readOne_66 rfl ?_
          refine j_ldcQ (pc := 67) (j := 5) hE dX12_readOne_67 rfl (by decide) rfl ?_
          refine j_callV (pc := 69) (t := 12) (n_isW hE hA (by decide)) dX12_readOne_69 l_X12_207 mk_X12_isWord mv_X12_isWord (by decide) rfl hA.1.1 (by decide) rfl rfl (Nat.le_of_ble_eq_true rfl) (Nat.le_refl _) (Nat.le_refl _) (fun r T h_1 => ?_)
          obtain ⟨rfl, rfl⟩ := h_1
          refine j_if_ne (pc := 72) (tgt := 90) dX12_readOne_72 (by decide) (fun h72 => ?_) (fun h72 => ?_)
          · refine j_aload_n (pc := 90) dX12_readOne_90 rfl ?_
            refine j_getPv (pc := 91) dX12_readOne_91 f_X12_39 (Or.inr ⟨_, rfl⟩) hA.1.1 (mp_newOrder hA.1) ?_
            refine j_aload_n (pc := 94) dX12_readOne_94 rfl ?_
            refine j_getIv (pc := 95) dX12_readOne_95 f_X12_217 (Or.inl rfl) hA.1.1 (hA.2.2.2.2.2.1.1) ?_
            refine j_iload_n (pc := 98) dX12_readOne_98 rfl ?_
            refine j_iastn (pc := 99) dX12_readOne_99 (mk_newOrder hA.1) (show w.2.2.2.1.length < 4 by omega) (Nat.le_of_ble_eq_true rfl) ?_
            have h1a := hA.b (T := zwI T1 131 w.2.2.2.1.length (nI c)) (zK.wI (Or.inr (Or.inr (Or.inl ⟨by decide, by decide, Nat.le_refl _⟩))))
            refine j_aload_n (pc := 100) dX12_readOne_100 rfl ?_
            refine j_getPv (pc := 101) dX12_readOne_101 f_X12_42 (Or.inr ⟨_, rfl⟩) h1a.1.1 (mp_newDown h1a.1) ?_
            refine j_aload_n (pc := 104) dX12_readOne_104 rfl ?_
            refine j_getIv (pc := 105) dX12_readOne_105 f_X12_217 (Or.inl rfl) h1a.1.1 (h1a.2.2.2.2.2.1.1) ?_
            refine j_aload_n (pc := 108) dX12_readOne_108 rfl ?_
            refine j_ldcQ (pc := 109) (j := 6) hE dX12_readOne_109 rfl (by decide) rfl ?_
            refine j_callV (pc := 111) (t := 12) (n_isW hE h1a (by decide)) dX12_readOne_111 l_X12_207 mk_X12_isWord mv_X12_isWord (by decide) rfl h1a.1.1 (by decide) rfl rfl (Nat.le_of_ble_eq_true rfl) (Nat.le_refl _) (Nat.le_refl _) (fun r T h_1 => ?_)
            obtain ⟨rfl, rfl⟩ := h_1
            have hzb6 := zbi_01 (zisW (zadv X w.1.1) (zWd 6))
            refine j_zastn (pc := 114) dX12_readOne_114 (mk_newDown h1a.1) (show w.2.2.2.1.length < 4 by omega) (Nat.le_of_ble_eq_true rfl) (by first | assumption | decide) ?_
            have h1b := h1a.b (T := zwI (zwI T1 131 w.2.2.2.1.length (nI c)) 132 w.2.2.2.1.length (zbi (zisW (zadv X w.1.1) (zWd 6)))) (zK.wI (Or.inr (Or.inr (Or.inl ⟨by decide, by decide, Nat.le_refl _⟩))))
            refine j_aload_n (pc := 115) dX12_readOne_115 rfl ?_
            refine j_callV (pc := 116) (t := 12) (n_adv h1b) dX12_readOne_116 l_X12_202 mk_X12_goesOn mv_X12_goesOn (by decide) rfl h1b.1.1 (by decide) rfl rfl (Nat.le_of_ble_eq_true rfl) (Nat.le_refl _) (Nat.le_refl _) (fun r T2 h_1 => ?_)
            obtain ⟨rfl, k2, h2⟩ := h_1
            have e131 : zgI T2 131 w.2.2.2.1.length = nI c := (k2.2.2.2.1 _ _ (by unfold zXo; omega)).trans ((zgI_ne (by decide)).trans zgI_self)
            have e132 : zgI T2 132 w.2.2.2.1.length = zbi (zisW (zadv X w.1.1) (zWd 6)) := (k2.2.2.2.1 _ _ (by unfold zXo; omega)).trans zgI_self
            have kA : zK zXp S T2 := ((k1.mo (fun c k z => zXo.p z)).tr ((zK.wI (Or.inl (by omega))).tr (zK.wI (Or.inl (by omega))))).tr (k2.mo (fun c k z => zXo.p z))
            refine j_aload_n (pc := 119) dX12_readOne_119 rfl ?_
            refine j_getPv (pc := 120) dX12_readOne_120 f_X12_45 (Or.inr ⟨_, rfl⟩) h2.1.1 (mp_newFirst h2.1) ?_
            refine j_aload_n (pc := 123) dX12_readOne_123 rfl ?_
            refine j_getIv (pc := 124) dX12_readOne_124 f_X12_217 (Or.inl rfl) h2.1.1 (h2.2.2.2.2.2.1.1) ?_
            refine j_aload_n (pc := 127) dX12_readOne_127 rfl ?_
            refine j_ldcQ (pc := 128) (j := 7) hE dX12_readOne_128 rfl (by decide) rfl ?_
            refine j_callV (pc := 130) (t := 12) (n_isW hE h2 (by decide)) dX12_readOne_130 l_X12_207 mk_X12_isWord mv_X12_isWord (by decide) rfl h2.1.1 (by decide) rfl rfl (Nat.le_of_ble_eq_true rfl) (Nat.le_refl _) (Nat.le_refl _) (fun r T h_1 => ?_)
            obtain ⟨rfl, rfl⟩ := h_1
            have hzb7 := zbi_01 (zisW (zadv X (zadv X w.1.1).1) (zWd 7))
            refine j_zastn (pc := 133) dX12_readOne_133 (mk_newFirst h2.1) (show w.2.2.2.1.length < 4 by omega) (Nat.le_of_ble_eq_true rfl) (by first | assumption | decide) ?_
            have h2a := h2.b (T := zwI T2 133 w.2.2.2.1.length (zbi (zisW (zadv X (zadv X w.1.1).1) (zWd 7)))) (zK.wI (Or.inr (Or.inr (Or.inl ⟨by decide, by decide, Nat.le_refl _⟩))))
            have kB : zK zXp S (zwI T2 133 w.2.2.2.1.length (zbi (zisW (zadv X (zadv X w.1.1).1) (zWd 7)))) := kA.tr (zK.wI (Or.inl (by omega)))
            refine j_aload_n (pc := 134) dX12_readOne_134 rfl ?_
            refine j_ldcQ (pc := 135) (j := 7) hE dX12_readOne_135 rfl (by decide) rfl ?_
            refine j_callV (pc := 137) (t := 12) (n_isW hE h2a (by decide)) dX12_readOne_137 l_X12_207 mk_X12_isWord mv_X12_isWord (by decide) rfl h2a.1.1 (by decide) rfl rfl (Nat.le_of_ble_eq_true rfl) (Nat.le_refl _) (Nat.le_refl _) (fun r T h_1 => ?_)
            obtain ⟨rfl, rfl⟩ := h_1
            refine j_if_eq (pc := 140) (tgt := 147) dX12_readOne_140 (by decide) (fun h140 => ?_) (fun h140 => ?_)
            · refine j_aload_n (pc := 147) dX12_readOne_147 rfl ?_
              refine j_dup (pc := 148) dX12_readOne_148 rfl ?_
              refine j_getIv (pc := 149) dX12_readOne_149 f_X12_217 (Or.inl rfl) h2a.1.1 (h2a.2.2.2.2.2.1.1) ?_
              refine j_iconst (pc := 152) (v := 1) dX12_readOne_152 (by decide) ?_
              refine j_iadd (pc := 153) dX12_readOne_153 ?_
              rw [nI_1]
              refine j_putI (pc := 154) dX12_readOne_154 f_X12_217 rfl h2a.1.1 rfl ?_
              refine j_iconst (pc := 157) (v := 1) dX12_readOne_157 (by decide) ?_
              refine j_zret (pc := 158) dX12_readOne_158 rfl (by first | assumption | decide) ?_
              rw [if_neg (fun q => by rw [zbi_ne0 h72] at q; cases q.1), if_neg (by rw [zbi_eq0.mp h140]; decide)]
              exact ⟨rfl, kB.tr (zK.wI (Or.inr (by omega))), h2a.ordr (e := (c, w.2.2.1.getD c false, zisW (zadv X w.1.1) (zWd 6), zisW (zadv X (zadv X w.1.1).1) (zWd 7))) hO4 (zK.wI ⟨rfl, rfl⟩) ((zgI_ne (by decide)).trans ((zgI_ne (by decide)).trans e131)) ((zgI_ne (by decide)).trans ((zgI_ne (by decide)).trans e132)) ((zgI_ne (by decide)).trans zgI_self) zgI_self⟩
            · refine j_aload_n (pc := 143) dX12_readOne_143 rfl ?_
              refine j_callV (pc := 144) (t := 12) (n_adv h2a) dX12_readOne_144 l_X12_202 mk_X12_goesOn mv_X12_goesOn (by decide) rfl h2a.1.1 (by decide) rfl rfl (Nat.le_of_ble_eq_true rfl) (Nat.le_refl _) (Nat.le_refl _) (fun r T3 h_1 => ?_)
              obtain ⟨rfl, k3, h3⟩ := h_1
              have g131 : zgI T3 131 w.2.2.2.1.length = nI c := (k3.2.2.2.1 _ _ (by unfold zXo; omega)).trans ((zgI_ne (by decide)).trans e131)
              have g132 : zgI T3 132 w.2.2.2.1.length = zbi (zisW (zadv X w.1.1) (zWd 6)) := (k3.2.2.2.1 _ _ (by unfold zXo; omega)).trans ((zgI_ne (by decide)).trans e132)
              have g133 : zgI T3 133 w.2.2.2.1.length = zbi (zisW (zadv X (zadv X w.1.1).1) (zWd 7)) := (k3.2.2.2.1 _ _ (by unfold zXo; omega)).trans zgI_self
              refine j_aload_n (pc := 147) dX12_readOne_147 rfl ?_
              refine j_dup (pc := 148) dX12_readOne_148 rfl ?_
              refine j_getIv (pc := 149) dX12_readOne_149 f_X12_217 (Or.inl rfl) h3.1.1 (h3.2.2.2.2.2.1.1) ?_
              refine j_iconst (pc := 152) (v := 1) dX12_readOne_152 (by decide) ?_
              refine j_iadd (pc := 153) dX12_readOne_153 ?_
              rw [nI_1]
              refine j_putI (pc := 154) dX12_readOne_154 f_X12_217 rfl h3.1.1 rfl ?_
              refine j_iconst (pc := 157) (v := 1) dX12_readOne_157 (by decide) ?_
              refine j_zret (pc := 158) dX12_readOne_158 rfl (by first | assumption | decide) ?_
              rw [if_neg (fun q => by rw [zbi_ne0 h72] at q; cases q.1), if_pos (zbi_ne0 h140)]
              exact ⟨rfl, (kB.tr (k3.mo (fun c k z => zXo.p z))).tr (zK.wI (Or.inr (by omega))), h3.ordr (e := (c, w.2.2.1.getD c false, zisW (zadv X w.1.1) (zWd 6), zisW (zadv X (zadv X w.1.1).1) (zWd 7))) hO4 (zK.wI ⟨rfl, rfl⟩) ((zgI_ne (by decide)).trans g131) ((zgI_ne (by decide)).trans g132) ((zgI_ne (by decide)).trans g133) zgI_self⟩
          · refine j_aload_n (pc := 75) dX12_readOne_75 rfl ?_
            refine j_ldcQ (pc := 76) (j := 6) hE dX12_readOne_76 rfl (by decide) rfl ?_
            refine j_callV (pc := 78) (t := 12) (n_isW hE hA (by decide)) dX12_readOne_78 l_X12_207 mk_X12_isWord mv_X12_isWord (by decide) rfl hA.1.1 (by decide) rfl rfl (Nat.le_of_ble_eq_true rfl) (Nat.le_refl _) (Nat.le_refl _) (fun r T h_1 => ?_)
            obtain ⟨rfl, rfl⟩ := h_1
            refine j_if_ne (pc := 81) (tgt := 90) dX12_readOne_81 (by decide) (fun h81 => ?_) (fun h81 => ?_)
            · refine j_aload_n (pc := 90) dX12_readOne_90 rfl ?_
              refine j_getPv (pc := 91) dX12_readOne_91 f_X12_39 (Or.inr ⟨_, rfl⟩) hA.1.1 (mp_newOrder hA.1) ?_
              refine j_aload_n (pc := 94) dX12_readOne_94 rfl ?_
              refine j_getIv (pc := 95) dX12_readOne_95 f_X12_217 (Or.inl rfl) hA.1.1 (hA.2.2.2.2.2.1.1) ?_
              refine j_iload_n (pc := 98) dX12_readOne_98 rfl ?_
              refine j_iastn (pc := 99) dX12_readOne_99 (mk_newOrder hA.1) (show w.2.2.2.1.length < 4 by omega) (Nat.le_of_ble_eq_true rfl) ?_
              have h1a := hA.b (T := zwI T1 131 w.2.2.2.1.length (nI c)) (zK.wI (Or.inr (Or.inr (Or.inl ⟨by decide, by decide, Nat.le_refl _⟩))))
              refine j_aload_n (pc := 100) dX12_readOne_100 rfl ?_
              refine j_getPv (pc := 101) dX12_readOne_101 f_X12_42 (Or.inr ⟨_, rfl⟩) h1a.1.1 (mp_newDown h1a.1) ?_
              refine j_aload_n (pc := 104) dX12_readOne_104 rfl ?_
              refine j_getIv (pc := 105) dX12_readOne_105 f_X12_217 (Or.inl rfl) h1a.1.1 (h1a.2.2.2.2.2.1.1) ?_
              refine j_aload_n (pc := 108) dX12_readOne_108 rfl ?_
              refine j_ldcQ (pc := 109) (j := 6) hE dX12_readOne_109 rfl (by decide) rfl ?_
              refine j_callV (pc := 111) (t := 12) (n_isW hE h1a (by decide)) dX12_readOne_111 l_X12_207 mk_X12_isWord mv_X12_isWord (by decide) rfl h1a.1.1 (by decide) rfl rfl (Nat.le_of_ble_eq_true rfl) (Nat.le_refl _) (Nat.le_refl _) (fun r T h_1 => ?_)
              obtain ⟨rfl, rfl⟩ := h_1
              have hzb6 := zbi_01 (zisW (zadv X w.1.1) (zWd 6))
              refine j_zastn (pc := 114) dX12_readOne_114 (mk_newDown h1a.1) (show w.2.2.2.1.length < 4 by omega) (Nat.le_of_ble_eq_true rfl) (by first | assumption | decide) ?_
              have h1b := h1a.b (T := zwI (zwI T1 131 w.2.2.2.1.length (nI c)) 132 w.2.2.2.1.length (zbi (zisW (zadv X w.1.1) (zWd 6)))) (zK.wI (Or.inr (Or.inr (Or.inl ⟨by decide, by decide, Nat.le_refl _⟩))))
              refine j_aload_n (pc := 115) dX12_readOne_115 rfl ?_
              refine j_callV (pc := 116) (t := 12) (n_adv h1b) dX12_readOne_116 l_X12_202 mk_X12_goesOn mv_X12_goesOn (by decide) rfl h1b.1.1 (by decide) rfl rfl (Nat.le_of_ble_eq_true rfl) (Nat.le_refl _) (Nat.le_refl _) (fun r T2 h_1 => ?_)
              obtain ⟨rfl, k2, h2⟩ := h_1
              have e131 : zgI T2 131 w.2.2.2.1.length = nI c := (k2.2.2.2.1 _ _ (by unfold zXo; omega)).trans ((zgI_ne (by decide)).trans zgI_self)
              have e132 : zgI T2 132 w.2.2.2.1.length = zbi (zisW (zadv X w.1.1) (zWd 6)) := (k2.2.2.2.1 _ _ (by unfold zXo; omega)).trans zgI_self
              have kA : zK zXp S T2 := ((k1.mo (fun c k z => zXo.p z)).tr ((zK.wI (Or.inl (by omega))).tr (zK.wI (Or.inl (by omega))))).tr (k2.mo (fun c k z => zXo.p z))
              refine j_aload_n (pc := 119) dX12_readOne_119 rfl ?_
              refine j_getPv (pc := 120) dX12_readOne_120 f_X12_45 (Or.inr ⟨_, rfl⟩) h2.1.1 (mp_newFirst h2.1) ?_
              refine j_aload_n (pc := 123) dX12_readOne_123 rfl ?_
              refine j_getIv (pc := 124) dX12_readOne_124 f_X12_217 (Or.inl rfl) h2.1.1 (h2.2.2.2.2.2.1.1) ?_
              refine j_aload_n (pc := 127) dX12_readOne_127 rfl ?_
              refine j_ldcQ (pc := 128) (j := 7) hE dX12_readOne_128 rfl (by decide) rfl ?_
              refine j_callV (pc := 130) (t := 12) (n_isW hE h2 (by decide)) dX12_readOne_130 l_X12_207 mk_X12_isWord mv_X12_isWord (by decide) rfl h2.1.1 (by decide) rfl rfl (Nat.le_of_ble_eq_true rfl) (Nat.le_refl _) (Nat.le_refl _) (fun r T h_1 => ?_)
              obtain ⟨rfl, rfl⟩ := h_1
              have hzb7 := zbi_01 (zisW (zadv X (zadv X w.1.1).1) (zWd 7))
              refine j_zastn (pc := 133) dX12_readOne_133 (mk_newFirst h2.1) (show w.2.2.2.1.length < 4 by omega) (Nat.le_of_ble_eq_true rfl) (by first | assumption | decide) ?_
              have h2a := h2.b (T := zwI T2 133 w.2.2.2.1.length (zbi (zisW (zadv X (zadv X w.1.1).1) (zWd 7)))) (zK.wI (Or.inr (Or.inr (Or.inl ⟨by decide, by decide, Nat.le_refl _⟩))))
              have kB : zK zXp S (zwI T2 133 w.2.2.2.1.length (zbi (zisW (zadv X (zadv X w.1.1).1) (zWd 7)))) := kA.tr (zK.wI (Or.inl (by omega)))
              refine j_aload_n (pc := 134) dX12_readOne_134 rfl ?_
              refine j_ldcQ (pc := 135) (j := 7) hE dX12_readOne_135 rfl (by decide) rfl ?_
              refine j_callV (pc := 137) (t := 12) (n_isW hE h2a (by decide)) dX12_readOne_137 l_X12_207 mk_X12_isWord mv_X12_isWord (by decide) rfl h2a.1.1 (by decide) rfl rfl (Nat.le_of_ble_eq_true rfl) (Nat.le_refl _) (Nat.le_refl _) (fun r T h_1 => ?_)
              obtain ⟨rfl, rfl⟩ := h_1
              refine j_if_eq (pc := 140) (tgt := 147) dX12_readOne_140 (by decide) (fun h140 => ?_) (fun h140 => ?_)
              · refine j_aload_n (pc := 147) dX12_readOne_147 rfl ?_
                refine j_dup (pc := 148) dX12_readOne_148 rfl ?_
                refine j_getIv (pc := 149) dX12_readOne_149 f_X12_217 (Or.inl rfl) h2a.1.1 (h2a.2.2.2.2.2.1.1) ?_
                refine j_iconst (pc := 152) (v := 1) dX12_readOne_152 (by decide) ?_
                refine j_iadd (pc := 153) dX12_readOne_153 ?_
                rw [nI_1]
                refine j_putI (pc := 154) dX12_readOne_154 f_X12_217 rfl h2a.1.1 rfl ?_
                refine j_iconst (pc := 157) (v := 1) dX12_readOne_157 (by decide) ?_
                refine j_zret (pc := 158) dX12_readOne_158 rfl (by first | assumption | decide) ?_
                rw [if_neg (fun q => by rw [zbi_ne0 h81] at q; cases q.2), if_neg (by rw [zbi_eq0.mp h140]; decide)]
                exact ⟨rfl, kB.tr (zK.wI (Or.inr (by omega))), h2a.ordr (e := (c, w.2.2.1.getD c false, zisW (zadv X w.1.1) (zWd 6), zisW (zadv X (zadv X w.1.1).1) (zWd 7))) hO4 (zK.wI ⟨rfl, rfl⟩) ((zgI_ne (by decide)).trans ((zgI_ne (by decide)).trans e131)) ((zgI_ne (by decide)).trans ((zgI_ne (by decide)).trans e132)) ((zgI_ne (by decide)).trans zgI_self) zgI_self⟩
              · refine j_aload_n (pc := 143) dX12_readOne_143 rfl ?_
                refine j_callV (pc := 144) (t := 12) (n_adv h2a) dX12_readOne_144 l_X12_202 mk_X12_goesOn mv_X12_goesOn (by decide) rfl h2a.1.1 (by decide) rfl rfl (Nat.le_of_ble_eq_true rfl) (Nat.le_refl _) (Nat.le_refl _) (fun r T3 h_1 => ?_)
                obtain ⟨rfl, k3, h3⟩ := h_1
                have g131 : zgI T3 131 w.2.2.2.1.length = nI c := (k3.2.2.2.1 _ _ (by unfold zXo; omega)).trans ((zgI_ne (by decide)).trans e131)
                have g132 : zgI T3 132 w.2.2.2.1.length = zbi (zisW (zadv X w.1.1) (zWd 6)) := (k3.2.2.2.1 _ _ (by unfold zXo; omega)).trans ((zgI_ne (by decide)).trans e132)
                have g133 : zgI T3 133 w.2.2.2.1.length = zbi (zisW (zadv X (zadv X w.1.1).1) (zWd 7)) := (k3.2.2.2.1 _ _ (by unfold zXo; omega)).trans zgI_self
                refine j_aload_n (pc := 147) dX12_readOne_147 rfl ?_
                refine j_dup (pc := 148) dX12_readOne_148 rfl ?_
                refine j_getIv (pc := 149) dX12_readOne_149 f_X12_217 (Or.inl rfl) h3.1.1 (h3.2.2.2.2.2.1.1) ?_
                refine j_iconst (pc := 152) (v := 1) dX12_readOne_152 (by decide) ?_
                refine j_iadd (pc := 153) dX12_readOne_153 ?_
                rw [nI_1]
                refine j_putI (pc := 154) dX12_readOne_154 f_X12_217 rfl h3.1.1 rfl ?_
                refine j_iconst (pc := 157) (v := 1) dX12_readOne_157 (by decide) ?_
                refine j_zret (pc := 158) dX12_readOne_158 rfl (by first | assumption | decide) ?_
                rw [if_neg (fun q => by rw [zbi_ne0 h81] at q; cases q.2), if_pos (zbi_ne0 h140)]
                exact ⟨rfl, (kB.tr (k3.mo (fun c k z => zXo.p z))).tr (zK.wI (Or.inr (by omega))), h3.ordr (e := (c, w.2.2.1.getD c false, zisW (zadv X w.1.1) (zWd 6), zisW (zadv X (zadv X w.1.1).1) (zWd 7))) hO4 (zK.wI ⟨rfl, rfl⟩) ((zgI_ne (by decide)).trans g131) ((zgI_ne (by decide)).trans g132) ((zgI_ne (by decide)).trans g133) zgI_self⟩
            · refine j_aload_n (pc := 84) dX12_readOne_84 rfl ?_
              refine j_iconst (pc := 85) (v := 1) dX12_readOne_85 (by decide) ?_
              refine j_callV (pc := 86) (t := 12) (n_err hA) dX12_readOne_86 l_X12_195 mk_X12_errs mv_X12_errs (by decide) rfl hA.1.1 (by decide) rfl rfl (Nat.le_of_ble_eq_true rfl) (Nat.le_refl _) (Nat.le_refl _) (fun r T h_1 => ?_)
              obtain ⟨rfl, q2, q3, q4⟩ := h_1
              refine j_zret (pc := 89) dX12_readOne_89 rfl (by first | assumption | decide) ?_
              rw [if_pos ⟨zbi_eq0.mp h72, zbi_eq0.mp h81⟩]
              exact ⟨rfl, (k1.mo (fun c k z => zXo.p z)).tr q2, q3, q4⟩
        | succ m ih =>
          intro i hi hq
          refine j_iload_n (pc := 32) dX12_readOne_32 rfl ?_
          refine j_aload_n (pc := 33) dX12_readOne_33 rfl ?_
          refine j_getIv (pc := 34) dX12_readOne_34 f_X12_217 (Or.inl rfl) h.1.1 (h.2.2.2.2.2.1.1) ?_
          refine j_icmp_ge (pc := 37) (tgt := 62) dX12_readOne_37 (by decide) (fun h37 => absurd h37 (nI_ge (by omega) (by omega))) (fun h37 => ?_)
          have hxi : w.2.2.2.1[i]? = some (w.2.2.2.1.getD i (0, false, false, false)) := gD _ (show i < w.2.2.2.1.length by omega)
          have he64 := hek _ _ hxi
          refine j_aload_n (pc := 40) dX12_readOne_40 rfl ?_
          refine j_getPv (pc := 41) dX12_readOne_41 f_X12_39 (Or.inr ⟨_, rfl⟩) h.1.1 (mp_newOrder h.1) ?_
          refine j_iload_n (pc := 44) dX12_readOne_44 rfl ?_
          refine j_ialdn (pc := 45) dX12_readOne_45 (mk_newOrder h.1) (by omega) (Nat.le_of_ble_eq_true rfl) ((h.2.2.2.2.2.1.2.2 i _ hxi).1) ?_
          refine j_iload_n (pc := 46) dX12_readOne_46 rfl ?_
          refine j_icmp_ne (pc := 47) (tgt := 56) dX12_readOne_47 (by decide) (fun h47 => ?_) (fun h47 => ?_)
          · refine j_iinc (pc := 56) (v := _ + 1) (ls' := [_, _, _]) dX12_readOne_56 rfl rfl (by decide) rfl rfl ?_
            refine j_goto (pc := 59) (tgt := 32) dX12_readOne_59 (by decide) ?_
            rw [nI_1]
            refine ih (i + 1) (by omega) (fun o y ho hy => ?_)
            by_cases e : o = i
            · rw [e, hxi] at hy
              cases hy
              exact fun q => h47 (by rw [q])
            · exact hq o y (by omega) hy
          · refine j_aload_n (pc := 50) dX12_readOne_50 rfl ?_
            refine j_iconst (pc := 51) (v := 3) dX12_readOne_51 (by decide) ?_
            refine j_callV (pc := 52) (t := 12) (n_err h) dX12_readOne_52 l_X12_195 mk_X12_errs mv_X12_errs (by decide) rfl h.1.1 (by decide) rfl rfl (Nat.le_of_ble_eq_true rfl) (Nat.le_refl _) (Nat.le_refl _) (fun r T h_1 => ?_)
            obtain ⟨rfl, q2, q3, q4⟩ := h_1
            refine j_zret (pc := 55) dX12_readOne_55 rfl (by first | assumption | decide) ?_
            have hee := (nI_eq (by omega) (by omega)).mp h47
            have hoh : zoh w.2.2.2.1 c = true := List.any_eq_true.mpr ⟨_, List.mem_of_getElem? hxi, decide_eq_true hee⟩
            rw [zrO_3 h1 hf, if_pos hoh]
            exact ⟨rfl, q2, q3, q4⟩
      refine j_aload_n (pc := 0) dX12_readOne_0 rfl ?_
      refine j_getIv (pc := 1) dX12_readOne_1 f_X12_152 (Or.inl rfl) h.1.1 (h.2.2.1.2.2.1) ?_
      refine j_iconst (pc := 4) (v := 2) dX12_readOne_4 (by decide) ?_
      refine j_icmp_eq (pc := 5) (tgt := 14) dX12_readOne_5 (by decide) (fun h5 => ?_) (fun h5 => absurd (h.2.2.2.1.c2.mpr h1) h5)
      refine j_aload_n (pc := 14) dX12_readOne_14 rfl ?_
      refine j_callV (pc := 15) (t := 12) (n_columnHere h.1 h.2.1 h.2.2.1 h.2.2.2.1 h1 h.2.2.2.2.1) dX12_readOne_15 l_X12_199 mk_X12_columnHere mv_X12_columnHere (by decide) rfl h.1.1 (by decide) rfl rfl (Nat.le_of_ble_eq_true rfl) (Nat.le_refl _) (Nat.le_refl _) (fun r T h_1 => ?_)
      obtain ⟨rfl, rfl⟩ := h_1
      rw [hco]
      refine j_istore_n (pc := 18) (ls' := [_, _, _]) dX12_readOne_18 (by decide) rfl rfl ?_
      refine j_iload_n (pc := 19) dX12_readOne_19 rfl ?_
      refine j_iconst (pc := 20) (v := (-1)) dX12_readOne_20 (by decide) ?_
      refine j_icmp_ne (pc := 21) (tgt := 30) dX12_readOne_21 (by decide) (fun h21 => ?_) (fun h21 => absurd h21 (nI_m1 (by omega)))
      refine j_iconst (pc := 30) (v := 0) dX12_readOne_30 (by decide) ?_
      refine j_istore_n (pc := 31) (ls' := [_, _, _]) dX12_readOne_31 (by decide) rfl rfl ?_
      exact lp w.2.2.2.1.length 0 (by omega) (fun o y ho => absurd ho (Nat.not_lt_zero o))
