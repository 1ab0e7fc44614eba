def zkx : Nat → Int32
  | 0 => -8
  | k + 1 => nI (8 * k)
theorem zkx_1 : ∀ k : Nat, nI (8 * k) + (-8) = zkx k
  | 0 => by decide
  | k + 1 => by
    show nI (8 * (k + 1)) + (-8) = nI (8 * k)
    rw [show 8 * (k + 1) = 8 * k + 8 by omega, ← nI_add, Int32.add_assoc, show nI 8 + (-8) = 0 by decide, Int32.add_zero]
set_option maxRecDepth 20000 in
set_option maxHeartbeats 4000000 in
theorem n_laysPart {E : zE} {S : zM} {s : zST} {t : zTB} {i : Nat} {e : zOe} {L : List Nat} (h : zMO S s) (ht : sT s = some t) (he : (tO t)[i]? = some e) (hO4 : (tO t).length ≤ 4) (hK4 : (tK t).length ≤ 4) (hKe0 : (tK t)[e.1]? = some e.2.1) (v : Int64) (hv : zch e.2.1 v = true) (hL : mL S L) (hl : L.length + 8 ≤ 36) : zSp E 1 0 0 mX12_laysPart cX12_laysPart [zR 123, zI (nI i), zL v] S (fun r T => r = none ∧ zK zXk S T ∧ mL T (L ++ zpt e.2.1 e.2.2.1 e.2.2.2 v)) := by
  refine zSp.of (by decide) rfl (Nat.le_of_ble_eq_true rfl) rfl ?_
  have hM := h.1
  have hO := (h.2.2.2.2.1 t ht).1.2.1.2 i e he
  have hKe := (h.2.2.2.2.1 t ht).1.1.2 e.1 e.2.1 hKe0
  have hi4 : i < 4 := Nat.lt_of_lt_of_le (List.getElem?_eq_some_iff.mp he).1 hO4
  have he4 : e.1 < 4 := Nat.lt_of_lt_of_le (List.getElem?_eq_some_iff.mp hKe0).1 hK4
  refine j_lload_n (pc := 0) dX12_laysPart_0 rfl ?_
  refine j_ldcL (pc := 1) dX12_laysPart_1 k_X12_229 ?_
  refine j_lcmp (pc := 4) dX12_laysPart_4 ?_
  refine j_if_ne (pc := 5) (tgt := 28) dX12_laysPart_5 (by decide) (fun h5 => ?_) (fun h5 => ?_)
  · refine j_aload_n (pc := 28) dX12_laysPart_28 rfl ?_
    refine j_iconst (pc := 29) (v := 1) dX12_laysPart_29 (by decide) ?_
    refine j_iconst (pc := 30) (v := 0) dX12_laysPart_30 (by decide) ?_
    refine j_callV (pc := 31) (t := 12) (n_laysByte (b := 1) hM hL (by omega) (by decide) false) dX12_laysPart_31 l_X12_337 mk_X12_laysByte mv_X12_laysByte (by decide) rfl hM.1 (by decide) rfl rfl (Nat.le_of_ble_eq_true rfl) (Nat.le_refl _) (Nat.le_refl _) (fun r T1 h_1 => ?_)
    obtain ⟨rfl, k1, l1⟩ := h_1
    have m1 := k1.ms hM
    refine j_aload_n (pc := 34) dX12_laysPart_34 rfl ?_
    refine j_getPv (pc := 35) dX12_laysPart_35 f_X12_19 (Or.inr ⟨_, rfl⟩) m1.1 (mp_isText m1) ?_
    refine j_aload_n (pc := 38) dX12_laysPart_38 rfl ?_
    refine j_getPv (pc := 39) dX12_laysPart_39 f_X12_23 (Or.inr ⟨_, rfl⟩) m1.1 (mp_order m1) ?_
    refine j_iload_n (pc := 42) dX12_laysPart_42 rfl ?_
    refine j_ialdn (pc := 43) dX12_laysPart_43 (mk_order m1) (by omega) (Nat.le_of_ble_eq_true rfl) ((k1.2.2.2.1 126 i (by unfold zXk; omega)).trans hO.1) ?_
    refine j_zaldn (pc := 44) dX12_laysPart_44 (mk_isText m1) (by omega) (Nat.le_of_ble_eq_true rfl) ((k1.2.2.2.1 125 _ (by unfold zXk; omega)).trans hKe) ?_
    refine j_if_ne (pc := 45) (tgt := 89) dX12_laysPart_45 (by decide) (fun h45 => ?_) (fun h45 => ?_)
    · refine j_bipush (pc := 89) (v := 40) dX12_laysPart_89 (by decide) ?_
      refine j_istore (pc := 91) (ls' := [_, _, _, _, _, _]) dX12_laysPart_91 (by decide) rfl rfl ?_
      have hb1 : e.2.1 = true := zbi_ne0 h45
      have hm : ¬ v = zMiss := fun q => h5 ((lg_cmp_eq _ _).mpr q)
      rw [hb1] at hv
      have how : zow v = true := by rw [zch, if_neg hm, if_pos rfl] at hv; exact hv
      obtain ⟨a, ha0, ha48, rfl⟩ := zow_lN how
      have lp : ∀ (k : Nat) (y : Option zV) (P : List Nat) (T : zM), k ≤ 6 → zK zXk S T → P ++ zlts e.2.2.1 a k = zlts e.2.2.1 a 6 → mL T (L ++ (1 :: P)) → zJ E 1 0 0 mX12_laysPart cX12_laysPart 93 [some (zR 123), some (zI (nI i)), some (zL (lN a)), none, some (zI (zkx k)), y] [] T (fun r T => r = none ∧ zK zXk S T ∧ mL T (L ++ zpt e.2.1 e.2.2.1 e.2.2.2 (lN a))) := by
        intro k
        induction k with
        | zero =>
          intro y P T hk6 hk0 hP hLT
          have hMT := hk0.ms hM
          have hPl : (P ++ zlts e.2.2.1 a 0).length ≤ 6 := by rw [hP]; exact zlts_len _ _ 6
          rw [zlts, List.append_nil] at hPl
          refine j_iload (pc := 93) dX12_laysPart_93 rfl ?_
          refine j_if_lt (pc := 95) (tgt := 132) dX12_laysPart_95 (by decide) (fun h95 => ?_) (fun h95 => absurd (by decide) h95)
          refine j_aload_n (pc := 132) dX12_laysPart_132 rfl ?_
          refine j_iconst (pc := 133) (v := 0) dX12_laysPart_133 (by decide) ?_
          refine j_aload_n (pc := 134) dX12_laysPart_134 rfl ?_
          refine j_getPv (pc := 135) dX12_laysPart_135 f_X12_26 (Or.inr ⟨_, rfl⟩) hMT.1 (mp_isDown hMT) ?_
          refine j_iload_n (pc := 138) dX12_laysPart_138 rfl ?_
          refine j_zaldn (pc := 139) dX12_laysPart_139 (mk_isDown hMT) (by omega) (Nat.le_of_ble_eq_true rfl) ((hk0.2.2.2.1 127 i (by unfold zXk; omega)).trans hO.2.1) ?_
          refine j_callV (pc := 140) (t := 12) (n_laysByte hMT hLT (by simp only [List.length_append, List.length_cons, List.length_nil] at *; omega) (show 0 < 256 by decide) e.2.2.1) dX12_laysPart_140 l_X12_337 mk_X12_laysByte mv_X12_laysByte (by decide) rfl hMT.1 (by decide) rfl rfl (Nat.le_of_ble_eq_true rfl) (Nat.le_refl _) (Nat.le_refl _) (fun r T h_1 => ?_)
          obtain ⟨rfl, k9, l9⟩ := h_1
          have m9 := k9.ms hMT
          refine j_vret (pc := 143) dX12_laysPart_143 rfl ?_
          refine ⟨rfl, hk0.tr k9, ?_⟩
          rw [hb1, zpt_w hm ha48]
          rw [zlts, List.append_nil] at hP
          rw [hP] at l9
          have e9 : (if e.2.2.1 = true then 255 - 0 else 0) = if e.2.2.1 = true then 255 else 0 := rfl
          rw [e9] at l9
          simpa [List.append_assoc] using l9
        | succ k ih =>
          intro y P T hk6 hk0 hP hLT
          have hMT := hk0.ms hM
          rw [show zkx (k + 1) = nI (8 * k) from rfl]
          refine j_iload (pc := 93) dX12_laysPart_93 rfl ?_
          refine j_if_lt (pc := 95) (tgt := 132) dX12_laysPart_95 (by decide) (fun h95 => absurd h95 (nI_pos (by omega))) (fun h95 => ?_)
          refine j_lload_n (pc := 98) dX12_laysPart_98 rfl ?_
          refine j_iload (pc := 99) dX12_laysPart_99 rfl ?_
          refine j_lshr (pc := 101) dX12_laysPart_101 ?_
          rw [show lN a >>> ((nI (8 * k)).toInt64 &&& 63) = lN (a / 2 ^ (8 * k)) from zshr (by omega) (by omega)]
          refine j_ldcL (pc := 102) dX12_laysPart_102 k_X12_342 ?_
          refine j_land (pc := 105) dX12_laysPart_105 ?_
          rw [show lN (a / 2 ^ (8 * k)) &&& 255 = lN (a / 2 ^ (8 * k) % 256) from zlow8 (Nat.lt_of_le_of_lt (Nat.div_le_self _ _) (by omega))]
          refine j_l2i (pc := 106) dX12_laysPart_106 ?_
          rw [lN_i32]
          refine j_istore (pc := 107) (ls' := [_, _, _, _, _, _]) dX12_laysPart_107 (by decide) rfl rfl ?_
          refine j_iload (pc := 109) dX12_laysPart_109 rfl ?_
          refine j_if_le (pc := 111) (tgt := 126) dX12_laysPart_111 (by decide) (fun h111 => ?_) (fun h111 => ?_)
          · refine j_iinc (pc := 126) (v := _ + (-8)) (ls' := [_, _, _, _, _, _]) dX12_laysPart_126 rfl rfl (by decide) rfl rfl ?_
            refine j_goto (pc := 129) (tgt := 93) dX12_laysPart_129 (by decide) ?_
            have hl0 : a / 2 ^ (8 * k) % 256 = 0 := by
              rcases Nat.eq_zero_or_pos (a / 2 ^ (8 * k) % 256) with q | q
              · exact q
              · exact absurd h111 (nI_ge (a := 0) q (by omega))
            have ha0 : a / 2 ^ (8 * k) = 0 := (zow_at ha48 how (show k < 6 by omega)).resolve_right (fun q => by omega)
            rw [zlts, if_pos ha0, List.nil_append] at hP
            rw [zkx_1]
            exact ih _ P T (by omega) hk0 hP hLT
          · have hl0 : ¬ a / 2 ^ (8 * k) % 256 = 0 := fun q => h111 (by rw [q]; decide)
            have ha0 : ¬ a / 2 ^ (8 * k) = 0 := fun q => hl0 (by rw [q])
            have hPl : (P ++ zlts e.2.2.1 a (k + 1)).length ≤ 6 := by rw [hP]; exact zlts_len _ _ 6
            rw [zlts, if_neg ha0] at hPl hP
            refine j_aload_n (pc := 114) dX12_laysPart_114 rfl ?_
            refine j_iload (pc := 115) dX12_laysPart_115 rfl ?_
            refine j_aload_n (pc := 117) dX12_laysPart_117 rfl ?_
            refine j_getPv (pc := 118) dX12_laysPart_118 f_X12_26 (Or.inr ⟨_, rfl⟩) hMT.1 (mp_isDown hMT) ?_
            refine j_iload_n (pc := 121) dX12_laysPart_121 rfl ?_
            refine j_zaldn (pc := 122) dX12_laysPart_122 (mk_isDown hMT) (by omega) (Nat.le_of_ble_eq_true rfl) ((hk0.2.2.2.1 127 i (by unfold zXk; omega)).trans hO.2.1) ?_
            refine j_callV (pc := 123) (t := 12) (n_laysByte hMT hLT (by simp only [List.length_append, List.length_cons, List.length_nil] at *; omega) (show a / 2 ^ (8 * k) % 256 < 256 from Nat.mod_lt _ (by decide)) e.2.2.1) dX12_laysPart_123 l_X12_337 mk_X12_laysByte mv_X12_laysByte (by decide) rfl hMT.1 (by decide) rfl rfl (Nat.le_of_ble_eq_true rfl) (Nat.le_refl _) (Nat.le_refl _) (fun r T9 h_1 => ?_)
            obtain ⟨rfl, k9, l9⟩ := h_1
            have m9 := k9.ms hMT
            refine j_iinc (pc := 126) (v := _ + (-8)) (ls' := [_, _, _, _, _, _]) dX12_laysPart_126 rfl rfl (by decide) rfl rfl ?_
            refine j_goto (pc := 129) (tgt := 93) dX12_laysPart_129 (by decide) ?_
            rw [zkx_1]
            refine ih _ (P ++ [if e.2.2.1 = true then 255 - a / 2 ^ (8 * k) % 256 else a / 2 ^ (8 * k) % 256]) T9 (by omega) (hk0.tr k9) ?_ ?_
            · rw [List.append_assoc]
              exact hP
            · simpa [List.append_assoc] using l9
      exact lp 6 none [] T1 (Nat.le_refl _) k1 rfl l1
    · have hb1 : e.2.1 = false := zbi_eq0.mp h45
      have hm : ¬ v = zMiss := fun q => h5 ((lg_cmp_eq _ _).mpr q)
      rw [hb1] at hv
      obtain ⟨N, hN1, hN2, eN⟩ := zch_n hv hm
      refine j_lload_n (pc := 48) dX12_laysPart_48 rfl ?_
      refine j_l2i (pc := 49) dX12_laysPart_49 ?_
      refine j_ldcIw (pc := 50) dX12_laysPart_50 k_X12_341 ?_
      refine j_iadd (pc := 53) dX12_laysPart_53 ?_
      rw [eN]
      refine j_istore (pc := 54) (ls' := [_, _, _, _, _, _]) dX12_laysPart_54 (by decide) rfl rfl ?_
      refine j_aload_n (pc := 56) dX12_laysPart_56 rfl ?_
      refine j_iload (pc := 57) dX12_laysPart_57 rfl ?_
      refine j_sipush (pc := 59) (v := 256) dX12_laysPart_59 (by decide) ?_
      refine j_idiv (pc := 62) dX12_laysPart_62 (by decide) ?_
      rw [show nI N / 256 = nI (N / 256) from pk_div (d := 256) (by omega) (by decide) (by decide)]
      refine j_aload_n (pc := 63) dX12_laysPart_63 rfl ?_
      refine j_getPv (pc := 64) dX12_laysPart_64 f_X12_26 (Or.inr ⟨_, rfl⟩) m1.1 (mp_isDown m1) ?_
      refine j_iload_n (pc := 67) dX12_laysPart_67 rfl ?_
      refine j_zaldn (pc := 68) dX12_laysPart_68 (mk_isDown m1) (by omega) (Nat.le_of_ble_eq_true rfl) ((k1.2.2.2.1 127 i (by unfold zXk; omega)).trans hO.2.1) ?_
      refine j_callV (pc := 69) (t := 12) (n_laysByte m1 l1 (by simp only [List.length_append, List.length_cons, List.length_nil] at *; omega) (show N / 256 < 256 by omega) e.2.2.1) dX12_laysPart_69 l_X12_337 mk_X12_laysByte mv_X12_laysByte (by decide) rfl m1.1 (by decide) rfl rfl (Nat.le_of_ble_eq_true rfl) (Nat.le_refl _) (Nat.le_refl _) (fun r T2 h_1 => ?_)
      obtain ⟨rfl, k2, l2⟩ := h_1
      have m2 := k2.ms m1
      refine j_aload_n (pc := 72) dX12_laysPart_72 rfl ?_
      refine j_iload (pc := 73) dX12_laysPart_73 rfl ?_
      refine j_sipush (pc := 75) (v := 256) dX12_laysPart_75 (by decide) ?_
      refine j_irem (pc := 78) dX12_laysPart_78 (by decide) ?_
      rw [show nI N - nI N / 256 * 256 = nI (N % 256) from pk_rem (d := 256) (by omega) (by decide) (by decide)]
      refine j_aload_n (pc := 79) dX12_laysPart_79 rfl ?_
      refine j_getPv (pc := 80) dX12_laysPart_80 f_X12_26 (Or.inr ⟨_, rfl⟩) m2.1 (mp_isDown m2) ?_
      refine j_iload_n (pc := 83) dX12_laysPart_83 rfl ?_
      refine j_zaldn (pc := 84) dX12_laysPart_84 (mk_isDown m2) (by omega) (Nat.le_of_ble_eq_true rfl) ((k2.2.2.2.1 127 i (by unfold zXk; omega)).trans ((k1.2.2.2.1 127 i (by unfold zXk; omega)).trans hO.2.1)) ?_
      refine j_callV (pc := 85) (t := 12) (n_laysByte m2 l2 (by simp only [List.length_append, List.length_cons, List.length_nil] at *; omega) (show N % 256 < 256 by omega) e.2.2.1) dX12_laysPart_85 l_X12_337 mk_X12_laysByte mv_X12_laysByte (by decide) rfl m2.1 (by decide) rfl rfl (Nat.le_of_ble_eq_true rfl) (Nat.le_refl _) (Nat.le_refl _) (fun r T3 h_1 => ?_)
      obtain ⟨rfl, k3, l3⟩ := h_1
      have m3 := k3.ms m2
      refine j_vret (pc := 88) dX12_laysPart_88 rfl ?_
      refine ⟨rfl, (k1.tr k2).tr k3, ?_⟩
      rw [hb1, zpt_n hm (by omega) eN]
      simpa [List.append_assoc] using l3
  · refine j_aload_n (pc := 8) dX12_laysPart_8 rfl ?_
    refine j_aload_n (pc := 9) dX12_laysPart_9 rfl ?_
    refine j_getPv (pc := 10) dX12_laysPart_10 f_X12_29 (Or.inr ⟨_, rfl⟩) hM.1 (mp_isFirst hM) ?_
    refine j_iload_n (pc := 13) dX12_laysPart_13 rfl ?_
    refine j_zaldn (pc := 14) dX12_laysPart_14 (mk_isFirst hM) (by omega) (Nat.le_of_ble_eq_true rfl) (hO.2.2) ?_
    refine j_if_eq (pc := 15) (tgt := 22) dX12_laysPart_15 (by decide) (fun h15 => ?_) (fun h15 => ?_)
    · refine j_iconst (pc := 22) (v := 2) dX12_laysPart_22 (by decide) ?_
      refine j_iconst (pc := 23) (v := 0) dX12_laysPart_23 (by decide) ?_
      refine j_callV (pc := 24) (t := 12) (n_laysByte (b := 2) hM hL (by omega) (by decide) false) dX12_laysPart_24 l_X12_337 mk_X12_laysByte mv_X12_laysByte (by decide) rfl hM.1 (by decide) rfl rfl (Nat.le_of_ble_eq_true rfl) (Nat.le_refl _) (Nat.le_refl _) (fun r T1 h_1 => ?_)
      obtain ⟨rfl, k1, l1⟩ := h_1
      refine j_vret (pc := 27) dX12_laysPart_27 rfl ?_
      refine ⟨rfl, k1, ?_⟩
      rw [zpt, if_pos ((lg_cmp_eq _ _).mp h5), zbi_eq0.mp h15]
      exact l1
    · refine j_iconst (pc := 18) (v := 0) dX12_laysPart_18 (by decide) ?_
      refine j_goto (pc := 19) (tgt := 23) dX12_laysPart_19 (by decide) ?_
      refine j_iconst (pc := 23) (v := 0) dX12_laysPart_23 (by decide) ?_
      refine j_callV (pc := 24) (t := 12) (n_laysByte (b := 0) hM hL (by omega) (by decide) false) dX12_laysPart_24 l_X12_337 mk_X12_laysByte mv_X12_laysByte (by decide) rfl hM.1 (by decide) rfl rfl (Nat.le_of_ble_eq_true rfl) (Nat.le_refl _) (Nat.le_refl _) (fun r T1 h_1 => ?_)
      obtain ⟨rfl, k1, l1⟩ := h_1
      refine j_vret (pc := 27) dX12_laysPart_27 rfl ?_
      refine ⟨rfl, k1, ?_⟩
      rw [zpt, if_pos ((lg_cmp_eq _ _).mp h5), zbi_ne0 h15]
      exact l1
set_option maxRecDepth 20000 in
set_option maxHeartbeats 4000000 in
theorem n_laysKey {E : zE} {S : zM} {s : zST} {t : zTB} {n u id : Nat} (h : zMO S s) (hw : zWF n s) (ht : sT s = some t) (hu1 : u ≤ tv t) (hu2 : tv t ≤ u + 40) (hid : id < 64) (hth : (tH t u).1 id = true) : zSp E 2 0 0 mX12_laysKey cX12_laysKey [zR 123, zI (nI u), zI (nI id)] S (fun r T => r = none ∧ zK zXk S T ∧ mL T (zkf (tO t) (tH t u) id)) := by
  refine zSp.of (by decide) rfl (Nat.le_of_ble_eq_true rfl) rfl ?_
  have hM := h.1
  have hv := hw.v ht
  have hWt := (hw.t ht).1
  have lp : ∀ (m i : Nat) (T : zM), i + m = (tO t).length → zK zXk S T → mL T (zkp ((tO t).take i) (fun c => (tH t u).2 id c)) → zJ E 2 0 0 mX12_laysKey cX12_laysKey 7 [some (zR 123), some (zI (nI u)), some (zI (nI id)), some (zI (nI i))] [] T (fun r T => r = none ∧ zK zXk S T ∧ mL T (zkf (tO t) (tH t u) id)) := by
    intro m
    induction m with
    | zero =>
      intro i T hi hk hLT
      have ei : i = (tO t).length := by omega
      subst ei
      rw [List.take_length] at hLT
      have hMT := hk.ms hM
      have eO : zgI T 123 8 = nI (tO t).length := (hk.2.2.2.1 123 8 (by unfold zXk; omega)).trans (h.2.2.2.2.1 t ht).1.2.1.1
      refine j_iload_n (pc := 7) dX12_laysKey_7 rfl ?_
      refine j_aload_n (pc := 8) dX12_laysKey_8 rfl ?_
      refine j_getIv (pc := 9) dX12_laysKey_9 f_X12_274 (Or.inl rfl) hMT.1 (eO) ?_
      refine j_icmp_ge (pc := 12) (tgt := 38) dX12_laysKey_12 (by decide) (fun h12 => ?_) (fun h12 => absurd (nI_le (Nat.le_refl _) (by omega)) h12)
      refine j_aload_n (pc := 38) dX12_laysKey_38 rfl ?_
      refine j_iconst (pc := 39) (v := 0) dX12_laysKey_39 (by decide) ?_
      refine j_iconst (pc := 40) (v := 0) dX12_laysKey_40 (by decide) ?_
      refine j_callV (pc := 41) (t := 12) (n_laysByte (b := 0) hMT hLT (by have := zkp_len (fun c => (tH t u).2 id c) (tO t); omega) (by decide) false) dX12_laysKey_41 l_X12_337 mk_X12_laysByte mv_X12_laysByte (by decide) rfl hMT.1 (by decide) rfl rfl (Nat.le_of_ble_eq_true rfl) (Nat.le_refl _) (Nat.le_refl _) (fun r T1 h_1 => ?_)
      obtain ⟨rfl, k1, l1⟩ := h_1
      have m1 := k1.ms hMT
      refine j_aload_n (pc := 44) dX12_laysKey_44 rfl ?_
      refine j_iload_n (pc := 45) dX12_laysKey_45 rfl ?_
      refine j_iconst (pc := 46) (v := 0) dX12_laysKey_46 (by decide) ?_
      refine j_callV (pc := 47) (t := 12) (n_laysByte (b := id) m1 l1 (by have := zkp_len (fun c => (tH t u).2 id c) (tO t); simp only [List.length_append, List.length_cons, List.length_nil]; omega) (by omega) false) dX12_laysKey_47 l_X12_337 mk_X12_laysByte mv_X12_laysByte (by decide) rfl m1.1 (by decide) rfl rfl (Nat.le_of_ble_eq_true rfl) (Nat.le_refl _) (Nat.le_refl _) (fun r T2 h_1 => ?_)
      obtain ⟨rfl, k2, l2⟩ := h_1
      refine j_vret (pc := 50) dX12_laysKey_50 rfl ?_
      refine ⟨rfl, (hk.tr k1).tr k2, ?_⟩
      have e : zkf (tO t) (tH t u) id = zkp (tO t) (fun c => (tH t u).2 id c) ++ [0] ++ [id] := by
        show zkp (tO t) (fun c => (tH t u).2 id c) ++ [id / 256 % 256, id % 256] = _
        rw [show id / 256 % 256 = 0 by omega, show id % 256 = id by omega, List.append_assoc]
        rfl
      rw [e]
      exact l2
    | succ m ih =>
      intro i T hi hk hLT
      have hT2 := h.scr hk (fun c k z => zXk.s z)
      have hMT := hT2.1
      have eO : zgI T 123 8 = nI (tO t).length := (hk.2.2.2.1 123 8 (by unfold zXk; omega)).trans (h.2.2.2.2.1 t ht).1.2.1.1
      have he := gD (0, false, false, false) (show i < (tO t).length by omega)
      generalize (tO t).getD i (0, false, false, false) = e at he
      have hKe := hWt.2.2.1 e (List.mem_of_getElem? he)
      have hKl := (List.getElem?_eq_some_iff.mp hKe).1
      have hzc := (hWt.2.2.2.2.1.2 u hu1).2.2 id e.1 e.2.1 hth hKe
      refine j_iload_n (pc := 7) dX12_laysKey_7 rfl ?_
      refine j_aload_n (pc := 8) dX12_laysKey_8 rfl ?_
      refine j_getIv (pc := 9) dX12_laysKey_9 f_X12_274 (Or.inl rfl) hMT.1 (eO) ?_
      refine j_icmp_ge (pc := 12) (tgt := 38) dX12_laysKey_12 (by decide) (fun h12 => absurd h12 (nI_ge (by omega) (by omega))) (fun h12 => ?_)
      refine j_aload_n (pc := 15) dX12_laysKey_15 rfl ?_
      refine j_iload_n (pc := 16) dX12_laysKey_16 rfl ?_
      refine j_aload_n (pc := 17) dX12_laysKey_17 rfl ?_
      refine j_iload_n (pc := 18) dX12_laysKey_18 rfl ?_
      refine j_iload_n (pc := 19) dX12_laysKey_19 rfl ?_
      refine j_aload_n (pc := 20) dX12_laysKey_20 rfl ?_
      refine j_getPv (pc := 21) dX12_laysKey_21 f_X12_23 (Or.inr ⟨_, rfl⟩) hMT.1 (mp_order hMT) ?_
      refine j_iload_n (pc := 24) dX12_laysKey_24 rfl ?_
      refine j_ialdn (pc := 25) dX12_laysKey_25 (mk_order hMT) (by omega) (Nat.le_of_ble_eq_true rfl) ((hk.2.2.2.1 126 i (by unfold zXk; omega)).trans ((h.2.2.2.2.1 t ht).1.2.1.2 i e he).1) ?_
      refine j_callV (pc := 26) (t := 12) (n_valueThen hT2 ht hu1 hu2 (by omega) hid (by omega) hv.2.2.1 hth) dX12_laysKey_26 l_X12_327 mk_X12_valueThen mv_X12_valueThen (by decide) rfl hMT.1 (by decide) rfl rfl (Nat.le_of_ble_eq_true rfl) (Nat.le_refl _) (Nat.le_refl _) (fun r T h_1 => ?_)
      obtain ⟨rfl, rfl⟩ := h_1
      refine j_callV (pc := 29) (t := 12) (n_laysPart hT2 ht he hv.2.2.2.1 hv.2.2.1 hKe _ hzc hLT (by have := zkp_len (fun c => (tH t u).2 id c) ((tO t).take i); rw [List.length_take] at this; omega)) dX12_laysKey_29 l_X12_344 mk_X12_laysPart mv_X12_laysPart (by decide) rfl hMT.1 (by decide) rfl rfl (Nat.le_of_ble_eq_true rfl) (Nat.le_refl _) (Nat.le_refl _) (fun r T9 h_1 => ?_)
      obtain ⟨rfl, k1, l1⟩ := h_1
      refine j_iinc (pc := 32) (v := _ + 1) (ls' := [_, _, _, _]) dX12_laysKey_32 rfl rfl (by decide) rfl rfl ?_
      refine j_goto (pc := 35) (tgt := 7) dX12_laysKey_35 (by decide) ?_
      rw [nI_1]
      refine ih (i + 1) T9 (by omega) (hk.tr k1) ?_
      rw [zkp_take _ _ he]
      exact l1
  refine j_aload_n (pc := 0) dX12_laysKey_0 rfl ?_
  refine j_iconst (pc := 1) (v := 0) dX12_laysKey_1 (by decide) ?_
  refine j_putI (pc := 2) dX12_laysKey_2 f_X12_334 rfl hM.1 rfl ?_
  refine j_iconst (pc := 5) (v := 0) dX12_laysKey_5 (by decide) ?_
  refine j_istore_n (pc := 6) (ls' := [_, _, _, _]) dX12_laysKey_6 (by decide) rfl rfl ?_
  exact lp (tO t).length 0 _ (by omega) (zK.wI (Or.inr ⟨rfl, rfl⟩)) ⟨zgI_self, fun i hi => absurd hi (Nat.not_lt_zero i)⟩
