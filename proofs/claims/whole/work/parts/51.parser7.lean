theorem zOk_nil {w : zPi} (h : w.2.2.2.1 = []) : zOk w := by
  unfold zOk
  rw [h]
  exact ⟨List.nodup_nil, fun x hx => absurd hx List.not_mem_nil⟩
/-- a line -/
def zrL (X : List Nat) (w : zPi) : Except (Nat × Nat) zPi := if zisW w.1 499850046565 = true then zrCC X w else if zisW w.1 478660552050 = true then zrOO X w else if zisW w.1 7499639 = true then zrR X w else .error (1, w.1.2.2.1)
/-- lines one behind the other -/
def zrA (X : List Nat) : Nat → zPi → Except (Nat × Nat) zPi
  | 0, w => .error (1, w.1.2.2.1)
  | k + 1, w => match zrL X w with
    | .error e => .error e
    | .ok v => if v.1.2.1 = 0 then (if 0 < v.2.2.2.1.length then .ok v else .error (5, v.1.2.2.1)) else if zisS v.1 59 = true then zrA X k (zadv X v.1.1, v.2) else .error (1, v.1.2.2.1)
set_option maxRecDepth 20000 in
set_option maxHeartbeats 4000000 in
theorem l_lines {E : zE} {S : zM} {a tp tp2 cap : Nat} {F : List Nat} {n : Nat} {Z : Except (Nat × Nat) zPi} : ∀ (m i : Nat) (v : zPi) (T : zM) (y : Option zV), i + m = 900 → zF (zXa a) S T → zPd T a tp tp2 cap F n v → Z = zrA (F.take n) m v → zJ E 5 0 0 mX5_readTable cX5_readTable 9 [some (zR (a + 22)), some (zI (nI i)), y] [] T (fun r T => zPQ a tp tp2 cap F n S r T Z) := by
  intro m
  induction m with
  | zero =>
    intro i v T y hi hF h hz
    have ei : i = 900 := by omega
    subst ei
    have k22_0 := h.1.1
    have p0_0 := h.1.2.1
    have p1_0 := h.1.2.2
    have k23_0 := h.2.1.1
    have ka_0 := h.ka
    refine j_iload_n (pc := 9) dX5_readTable_9 rfl ?_
    refine j_sipush (pc := 10) (v := 900) dX5_readTable_10 (by decide) ?_
    refine j_icmp_ge (pc := 13) (tgt := 156) dX5_readTable_13 (by decide) (fun h13 => ?_) (fun h13 => ?_)
    · refine j_aload_n (pc := 156) dX5_readTable_156 rfl ?_
      refine j_iconst (pc := 157) (v := 1) dX5_readTable_157 (by decide) ?_
      refine j_callV (pc := 158) (t := 5) (c_fails (f := 1) h) dX5_readTable_158 l_X5_54 mk_X5_fails mv_X5_fails (by decide) rfl (by assumption) (by decide) rfl rfl (Nat.le_of_ble_eq_true rfl) (Nat.le_refl _) (Nat.le_refl _) (fun r T9 h_1 => ?_)
      obtain ⟨rfl, f9, g9, g10⟩ := h_1
      refine j_zret (pc := 161) dX5_readTable_161 rfl (by first | assumption | decide) ?_
      rw [hz]
      refine zPQ.pre hF ?_
      exact ⟨rfl, f9, g9, g10⟩
    · exact absurd (nI_le (a := 900) (Nat.le_refl _) (by decide)) h13
  | succ m ih =>
    intro i v T y hi hF h hz
    have k22_0 := h.1.1
    have p0_0 := h.1.2.1
    have p1_0 := h.1.2.2
    have k23_0 := h.2.1.1
    have ka_0 := h.ka
    have s81 : ∀ (r : Option zV) (T2 : zM), zPQ a tp tp2 cap F n T r T2 (zrL (F.take n) v) → zJ E 5 0 0 mX5_readTable cX5_readTable 81 [some (zR (a + 22)), some (zI (nI i)), y] (r.toList ++ []) T2 (fun r T => zPQ a tp tp2 cap F n S r T Z) := by
      intro r T2 h_1
      cases hc : zrL (F.take n) v with
      | error e =>
        rw [hc] at h_1
        obtain ⟨rfl, f2, g2, g3⟩ := h_1
        refine j_istore_n (pc := 81) (ls' := [_, _, _]) dX5_readTable_81 (by decide) rfl rfl ?_
        refine j_iload_n (pc := 82) dX5_readTable_82 rfl ?_
        refine j_if_ne (pc := 83) (tgt := 88) dX5_readTable_83 (by decide) (fun h83 => ?_) (fun h83 => ?_)
        · exact absurd rfl h83
        · refine j_iconst (pc := 86) (v := 0) dX5_readTable_86 (by decide) ?_
          refine j_zret (pc := 87) dX5_readTable_87 rfl (by first | assumption | decide) ?_
          rw [hz]
          show zPQ _ _ _ _ _ _ _ _ _ (match zrL (F.take n) v with | .error e => Except.error e | .ok v => if v.1.2.1 = 0 then (if 0 < v.2.2.2.1.length then .ok v else .error (5, v.1.2.2.1)) else if zisS v.1 59 = true then zrA (F.take n) m (zadv (F.take n) v.1.1, v.2) else .error (1, v.1.2.2.1))
          rw [hc]
          exact zPQ.pre hF ⟨rfl, f2, g2, g3⟩
      | ok u =>
        rw [hc] at h_1
        obtain ⟨rfl, f2, h2⟩ := h_1
        have k22_2 := h2.1.1
        have p0_2 := h2.1.2.1
        have p1_2 := h2.1.2.2
        have k23_2 := h2.2.1.1
        have ka_2 := h2.ka
        refine j_istore_n (pc := 81) (ls' := [_, _, _]) dX5_readTable_81 (by decide) rfl rfl ?_
        refine j_iload_n (pc := 82) dX5_readTable_82 rfl ?_
        refine j_if_ne (pc := 83) (tgt := 88) dX5_readTable_83 (by decide) (fun h83 => ?_) (fun h83 => ?_)
        · refine j_aload_n (pc := 88) dX5_readTable_88 rfl ?_
          refine j_getP (pc := 89) dX5_readTable_89 f_X5_14 (Or.inl ⟨_, rfl⟩) (by assumption) ?_
          rw [p0_2]
          refine j_getI (pc := 92) dX5_readTable_92 f_X5_58 (Or.inl rfl) (by assumption) ?_
          rw [h2.2.1.2.2.2.2.2.2.1]
          refine j_if_ne (pc := 95) (tgt := 125) dX5_readTable_95 (by decide) (fun h95 => ?_) (fun h95 => ?_)
          · refine j_aload_n (pc := 125) dX5_readTable_125 rfl ?_
            refine j_getP (pc := 126) dX5_readTable_126 f_X5_14 (Or.inl ⟨_, rfl⟩) (by assumption) ?_
            rw [p0_2]
            refine j_bipush (pc := 129) (v := 59) dX5_readTable_129 (by decide) ?_
            refine j_callV (pc := 131) (t := 2) (c_isSg h2 59) dX5_readTable_131 l_X5_72 mk_X2_isSign mv_X2_isSign (by decide) rfl (by assumption) (by decide) rfl rfl (Nat.le_of_ble_eq_true rfl) (Nat.le_refl _) (Nat.le_refl _) (fun r T h_1 => ?_)
            obtain ⟨rfl, rfl⟩ := h_1
            refine j_if_ne (pc := 134) (tgt := 143) dX5_readTable_134 (by decide) (fun h134 => ?_) (fun h134 => ?_)
            · refine j_aload_n (pc := 143) dX5_readTable_143 rfl ?_
              refine j_getP (pc := 144) dX5_readTable_144 f_X5_14 (Or.inl ⟨_, rfl⟩) (by assumption) ?_
              rw [p0_2]
              refine j_callV (pc := 147) (t := 2) (c_adv h2) dX5_readTable_147 l_X5_31 mk_X2_advance mv_X2_advance (by decide) rfl (by assumption) (by decide) rfl rfl (Nat.le_of_ble_eq_true rfl) (Nat.le_refl _) (Nat.le_refl _) (fun r T3 h_1 => ?_)
              obtain ⟨rfl, f3, h3⟩ := h_1
              refine j_iinc (pc := 150) (v := _ + 1) (ls' := [_, _, _]) dX5_readTable_150 rfl rfl (by decide) rfl rfl ?_
              refine j_goto (pc := 153) (tgt := 9) dX5_readTable_153 (by decide) ?_
              rw [nI_1]
              refine ih (i + 1) (zadv (F.take n) u.1.1, u.2) T3 _ (by omega) ((hF.tr f2).tr f3) h3 ?_
              rw [hz]
              show (match zrL (F.take n) v with | .error e => Except.error e | .ok v => if v.1.2.1 = 0 then (if 0 < v.2.2.2.1.length then .ok v else .error (5, v.1.2.2.1)) else if zisS v.1 59 = true then zrA (F.take n) m (zadv (F.take n) v.1.1, v.2) else .error (1, v.1.2.2.1)) = _
              rw [hc]
              show (if u.1.2.1 = 0 then (if 0 < u.2.2.2.1.length then Except.ok u else .error (5, u.1.2.2.1)) else if zisS u.1 59 = true then zrA (F.take n) m (zadv (F.take n) u.1.1, u.2) else .error (1, u.1.2.2.1)) = _
              rw [if_neg (fun z => h95 ((nI_eq (b := 0) (by have := h2.2.2.1.2.1; omega) (by decide)).mpr z)), if_pos (zbi_ne0 h134)]
            · refine j_aload_n (pc := 137) dX5_readTable_137 rfl ?_
              refine j_iconst (pc := 138) (v := 1) dX5_readTable_138 (by decide) ?_
              refine j_callV (pc := 139) (t := 5) (c_fails (f := 1) h2) dX5_readTable_139 l_X5_54 mk_X5_fails mv_X5_fails (by decide) rfl (by assumption) (by decide) rfl rfl (Nat.le_of_ble_eq_true rfl) (Nat.le_refl _) (Nat.le_refl _) (fun r T9 h_1 => ?_)
              obtain ⟨rfl, f9, g9, g10⟩ := h_1
              refine j_zret (pc := 142) dX5_readTable_142 rfl (by first | assumption | decide) ?_
              rw [hz]
              show zPQ _ _ _ _ _ _ _ _ _ (match zrL (F.take n) v with | .error e => Except.error e | .ok v => if v.1.2.1 = 0 then (if 0 < v.2.2.2.1.length then .ok v else .error (5, v.1.2.2.1)) else if zisS v.1 59 = true then zrA (F.take n) m (zadv (F.take n) v.1.1, v.2) else .error (1, v.1.2.2.1))
              rw [hc]
              show zPQ _ _ _ _ _ _ _ _ _ (if u.1.2.1 = 0 then (if 0 < u.2.2.2.1.length then Except.ok u else .error (5, u.1.2.2.1)) else if zisS u.1 59 = true then zrA (F.take n) m (zadv (F.take n) u.1.1, u.2) else .error (1, u.1.2.2.1))
              rw [if_neg (fun z => h95 ((nI_eq (b := 0) (by have := h2.2.2.1.2.1; omega) (by decide)).mpr z)), if_neg (by rw [zbi_eq0.mp h134]; decide)]
              exact zPQ.pre (hF.tr f2) ⟨rfl, f9, g9, g10⟩
          · refine j_aload_n (pc := 98) dX5_readTable_98 rfl ?_
            refine j_getP (pc := 99) dX5_readTable_99 f_X5_20 (Or.inl ⟨_, rfl⟩) (by assumption) ?_
            rw [p1_2]
            refine j_getP (pc := 102) dX5_readTable_102 f_X5_61 (Or.inl ⟨_, rfl⟩) (by assumption) ?_
            rw [h2.od.2]
            have ko := h2.od.1.1.1
            have lo := h2.od.1.2.2.2.1
            refine j_getI (pc := 105) dX5_readTable_105 f_X5_67 (Or.inl rfl) (by assumption) ?_
            rw [h2.od.1.2.2.1]
            refine j_if_gt (pc := 108) (tgt := 119) dX5_readTable_108 (by decide) (fun h108 => ?_) (fun h108 => ?_)
            · refine j_iconst (pc := 119) (v := 1) dX5_readTable_119 (by decide) ?_
              refine j_goto (pc := 120) (tgt := 124) dX5_readTable_120 (by decide) ?_
              refine j_zret (pc := 124) dX5_readTable_124 rfl (by first | assumption | decide) ?_
              rw [hz]
              show zPQ _ _ _ _ _ _ _ _ _ (match zrL (F.take n) v with | .error e => Except.error e | .ok v => if v.1.2.1 = 0 then (if 0 < v.2.2.2.1.length then .ok v else .error (5, v.1.2.2.1)) else if zisS v.1 59 = true then zrA (F.take n) m (zadv (F.take n) v.1.1, v.2) else .error (1, v.1.2.2.1))
              rw [hc]
              show zPQ _ _ _ _ _ _ _ _ _ (if u.1.2.1 = 0 then (if 0 < u.2.2.2.1.length then Except.ok u else .error (5, u.1.2.2.1)) else if zisS u.1 59 = true then zrA (F.take n) m (zadv (F.take n) u.1.1, u.2) else .error (1, u.1.2.2.1))
              rw [if_pos ((nI_eq (b := 0) (by have := h2.2.2.1.2.1; omega) (by decide)).mp h95), if_pos (Nat.pos_of_ne_zero (fun z => absurd h108 (by rw [z]; decide)))]
              exact zPQ.pre hF ⟨rfl, f2, h2⟩
            · refine j_aload_n (pc := 111) dX5_readTable_111 rfl ?_
              refine j_iconst (pc := 112) (v := 5) dX5_readTable_112 (by decide) ?_
              refine j_callV (pc := 113) (t := 5) (c_fails (f := 5) h2) dX5_readTable_113 l_X5_54 mk_X5_fails mv_X5_fails (by decide) rfl (by assumption) (by decide) rfl rfl (Nat.le_of_ble_eq_true rfl) (Nat.le_refl _) (Nat.le_refl _) (fun r T9 h_1 => ?_)
              obtain ⟨rfl, f9, g9, g10⟩ := h_1
              refine j_if_eq (pc := 116) (tgt := 123) dX5_readTable_116 (by decide) (fun h116 => ?_) (fun h116 => ?_)
              · refine j_iconst (pc := 123) (v := 0) dX5_readTable_123 (by decide) ?_
                refine j_zret (pc := 124) dX5_readTable_124 rfl (by first | assumption | decide) ?_
                rw [hz]
                show zPQ _ _ _ _ _ _ _ _ _ (match zrL (F.take n) v with | .error e => Except.error e | .ok v => if v.1.2.1 = 0 then (if 0 < v.2.2.2.1.length then .ok v else .error (5, v.1.2.2.1)) else if zisS v.1 59 = true then zrA (F.take n) m (zadv (F.take n) v.1.1, v.2) else .error (1, v.1.2.2.1))
                rw [hc]
                show zPQ _ _ _ _ _ _ _ _ _ (if u.1.2.1 = 0 then (if 0 < u.2.2.2.1.length then Except.ok u else .error (5, u.1.2.2.1)) else if zisS u.1 59 = true then zrA (F.take n) m (zadv (F.take n) u.1.1, u.2) else .error (1, u.1.2.2.1))
                rw [if_pos ((nI_eq (b := 0) (by have := h2.2.2.1.2.1; omega) (by decide)).mp h95), if_neg (fun z => h108 (Int32.not_le.mp (fun q => absurd q (nI_ge (a := 0) z (by omega)))))]
                exact zPQ.pre (hF.tr f2) ⟨rfl, f9, g9, g10⟩
              · refine j_iconst (pc := 119) (v := 1) dX5_readTable_119 (by decide) ?_
                refine j_goto (pc := 120) (tgt := 124) dX5_readTable_120 (by decide) ?_
                refine j_zret (pc := 124) dX5_readTable_124 rfl (by first | assumption | decide) ?_
                exact absurd rfl h116
        · exact absurd h83 (by decide)
    refine j_iload_n (pc := 9) dX5_readTable_9 rfl ?_
    refine j_sipush (pc := 10) (v := 900) dX5_readTable_10 (by decide) ?_
    refine j_icmp_ge (pc := 13) (tgt := 156) dX5_readTable_13 (by decide) (fun h13 => ?_) (fun h13 => ?_)
    · exact absurd h13 (nI_ge (b := 900) (by omega) (by decide))
    · refine j_aload_n (pc := 16) dX5_readTable_16 rfl ?_
      refine j_getP (pc := 17) dX5_readTable_17 f_X5_14 (Or.inl ⟨_, rfl⟩) (by assumption) ?_
      rw [p0_0]
      refine j_ldcL (pc := 20) dX5_readTable_20 k_X5_34 ?_
      refine j_callV (pc := 23) (t := 2) (c_isWd h _) dX5_readTable_23 l_X5_36 mk_X2_isWord mv_X2_isWord (by decide) rfl (by assumption) (by decide) rfl rfl (Nat.le_of_ble_eq_true rfl) (Nat.le_refl _) (Nat.le_refl _) (fun r T h_1 => ?_)
      obtain ⟨rfl, rfl⟩ := h_1
      refine j_if_eq (pc := 26) (tgt := 36) dX5_readTable_26 (by decide) (fun h26 => ?_) (fun h26 => ?_)
      · refine j_aload_n (pc := 36) dX5_readTable_36 rfl ?_
        refine j_getP (pc := 37) dX5_readTable_37 f_X5_14 (Or.inl ⟨_, rfl⟩) (by assumption) ?_
        rw [p0_0]
        refine j_ldcL (pc := 40) dX5_readTable_40 k_X5_44 ?_
        refine j_callV (pc := 43) (t := 2) (c_isWd h _) dX5_readTable_43 l_X5_36 mk_X2_isWord mv_X2_isWord (by decide) rfl (by assumption) (by decide) rfl rfl (Nat.le_of_ble_eq_true rfl) (Nat.le_refl _) (Nat.le_refl _) (fun r T h_1 => ?_)
        obtain ⟨rfl, rfl⟩ := h_1
        refine j_if_eq (pc := 46) (tgt := 56) dX5_readTable_46 (by decide) (fun h46 => ?_) (fun h46 => ?_)
        · refine j_aload_n (pc := 56) dX5_readTable_56 rfl ?_
          refine j_getP (pc := 57) dX5_readTable_57 f_X5_14 (Or.inl ⟨_, rfl⟩) (by assumption) ?_
          rw [p0_0]
          refine j_ldcL (pc := 60) dX5_readTable_60 k_X5_49 ?_
          refine j_callV (pc := 63) (t := 2) (c_isWd h _) dX5_readTable_63 l_X5_36 mk_X2_isWord mv_X2_isWord (by decide) rfl (by assumption) (by decide) rfl rfl (Nat.le_of_ble_eq_true rfl) (Nat.le_refl _) (Nat.le_refl _) (fun r T h_1 => ?_)
          obtain ⟨rfl, rfl⟩ := h_1
          refine j_if_eq (pc := 66) (tgt := 76) dX5_readTable_66 (by decide) (fun h66 => ?_) (fun h66 => ?_)
          · refine j_aload_n (pc := 76) dX5_readTable_76 rfl ?_
            refine j_iconst (pc := 77) (v := 1) dX5_readTable_77 (by decide) ?_
            refine j_callV (pc := 78) (t := 5) (c_fails (f := 1) h) dX5_readTable_78 l_X5_54 mk_X5_fails mv_X5_fails (by decide) rfl (by assumption) (by decide) rfl rfl (Nat.le_of_ble_eq_true rfl) (Nat.le_refl _) (Nat.le_refl _) (fun r T2 h_1 => ?_)
            skip
            exact s81 r T2 (by unfold zrL; rw [if_neg (by rw [zbi_eq0.mp h26]; decide), if_neg (by rw [zbi_eq0.mp h46]; decide), if_neg (by rw [zbi_eq0.mp h66]; decide)]; exact h_1)
          · refine j_aload_n (pc := 69) dX5_readTable_69 rfl ?_
            refine j_callV (pc := 70) (t := 5) (c_readRow h) dX5_readTable_70 l_X5_51 mk_X5_readRow mv_X5_readRow (by decide) rfl (by assumption) (by decide) rfl rfl (Nat.le_of_ble_eq_true rfl) (Nat.le_refl _) (Nat.le_refl _) (fun r T2 h_1 => ?_)
            skip
            refine j_goto (pc := 73) (tgt := 81) dX5_readTable_73 (by decide) ?_
            exact s81 r T2 (by unfold zrL; rw [if_neg (by rw [zbi_eq0.mp h26]; decide), if_neg (by rw [zbi_eq0.mp h46]; decide), if_pos (zbi_ne0 h66)]; exact h_1)
        · refine j_aload_n (pc := 49) dX5_readTable_49 rfl ?_
          refine j_callV (pc := 50) (t := 5) (c_readOrder h zOk_nil) dX5_readTable_50 l_X5_46 mk_X5_readOrder mv_X5_readOrder (by decide) rfl (by assumption) (by decide) rfl rfl (Nat.le_of_ble_eq_true rfl) (Nat.le_refl _) (Nat.le_refl _) (fun r T2 h_1 => ?_)
          skip
          refine j_goto (pc := 53) (tgt := 81) dX5_readTable_53 (by decide) ?_
          exact s81 r T2 (by unfold zrL; rw [if_neg (by rw [zbi_eq0.mp h26]; decide), if_pos (zbi_ne0 h46)]; exact h_1)
      · refine j_aload_n (pc := 29) dX5_readTable_29 rfl ?_
        refine j_callV (pc := 30) (t := 5) (c_readColumns h) dX5_readTable_30 l_X5_40 mk_X5_readColumns mv_X5_readColumns (by decide) rfl (by assumption) (by decide) rfl rfl (Nat.le_of_ble_eq_true rfl) (Nat.le_refl _) (Nat.le_refl _) (fun r T2 h_1 => ?_)
        skip
        refine j_goto (pc := 33) (tgt := 81) dX5_readTable_33 (by decide) ?_
        exact s81 r T2 (by unfold zrL; rw [if_pos (zbi_ne0 h26)]; exact h_1)
set_option maxRecDepth 20000 in
set_option maxHeartbeats 4000000 in
theorem c_readTable {E : zE} {S : zM} {a tp tp2 cap : Nat} {F : List Nat} {n : Nat} {w : zPi} (h : zPd S a tp tp2 cap F n w) : zSp E 5 0 0 mX5_readTable cX5_readTable [zR (a + 22)] S (fun r T => zPQ a tp tp2 cap F n S r T (zrA (F.take n) 900 (zadv (F.take n) w.1.1, w.2))) := by
  refine zSp.of (by decide) rfl (Nat.le_of_ble_eq_true rfl) rfl ?_
  have k22_0 := h.1.1
  have p0_0 := h.1.2.1
  have p1_0 := h.1.2.2
  have k23_0 := h.2.1.1
  have ka_0 := h.ka
  refine j_aload_n (pc := 0) dX5_readTable_0 rfl ?_
  refine j_getP (pc := 1) dX5_readTable_1 f_X5_14 (Or.inl ⟨_, rfl⟩) (by assumption) ?_
  rw [p0_0]
  refine j_callV (pc := 4) (t := 2) (c_adv h) dX5_readTable_4 l_X5_31 mk_X2_advance mv_X2_advance (by decide) rfl (by assumption) (by decide) rfl rfl (Nat.le_of_ble_eq_true rfl) (Nat.le_refl _) (Nat.le_refl _) (fun r T1 h_1 => ?_)
  obtain ⟨rfl, f1, h1⟩ := h_1
  refine j_iconst (pc := 7) (v := 0) dX5_readTable_7 (by decide) ?_
  refine j_istore_n (pc := 8) (ls' := [_, _, _]) dX5_readTable_8 (by decide) rfl rfl ?_
  exact l_lines 900 0 (zadv (F.take n) w.1.1, w.2) T1 _ (by omega) f1 h1 rfl
