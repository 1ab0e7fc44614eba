theorem zow_lN {v : Int64} (h : zow v = true) : ∃ a, 0 < a ∧ a < 2 ^ 48 ∧ v = lN a := by
  rw [zow, Bool.and_eq_true] at h
  have h1 := of_decide_eq_true h.1
  obtain ⟨a, ha, rfl⟩ := pk_lOf (Int64.not_lt.mpr (Int64.le_of_lt h1.1))
  exact ⟨a, (pk_lLT (a := 0) (by decide) ha).mp h1.1, (pk_lLT (b := 2 ^ 48) ha (by decide)).mp h1.2, rfl⟩
theorem zch_w {v : Int64} (h : zch true v = true) (hm : ¬ v = zMiss) : ∃ a, 0 < a ∧ a < 2 ^ 48 ∧ v = lN a := by
  rw [zch, if_neg hm, if_pos rfl] at h
  exact zow_lN h
theorem zmt_m {c : zSe} {x : Int64} (h : x = zMiss) : zmt c x = decide (c.2.2.1 = 3) := if_pos h
theorem zmt_h {c : zSe} {x : Int64} (h : ¬ x = zMiss) (h3 : 3 ≤ c.2.2.1) : zmt c x = decide (c.2.2.1 = 4) := by rw [zmt, if_neg h, if_pos h3]
abbrev zcp (c : zSe) (x : Int64) : Int32 := if c.2.1 then lg_cmp (zrl 5 x) (zrl 5 c.2.2.2) else lg_cmp x c.2.2.2
theorem zmt_0 {c : zSe} {x : Int64} (h : ¬ x = zMiss) (h3 : c.2.2.1 = 0) : zmt c x = decide (zcp c x = 0) := by rw [zmt, if_neg h, if_neg (by omega), if_pos h3]
theorem zmt_1 {c : zSe} {x : Int64} (h : ¬ x = zMiss) (h3 : c.2.2.1 = 1) : zmt c x = decide (zcp c x < 0) := by rw [zmt, if_neg h, if_neg (by omega), if_neg (by omega), if_pos h3]
theorem zmt_2 {c : zSe} {x : Int64} (h : ¬ x = zMiss) (h3 : c.2.2.1 = 2) : zmt c x = decide (0 < zcp c x) := by rw [zmt, if_neg h, if_neg (by omega), if_neg (by omega), if_neg (by omega)]
set_option maxRecDepth 20000 in
set_option maxHeartbeats 4000000 in
theorem n_meets {E : zE} {S : zM} {s : zST} {t : zTB} {i : Nat} {c : zSe} (h : zMO S s) (ht : sT s = some t) (hc : (tV t)[i]? = some c) (hV2 : (tV t).length ≤ 2) (hK4 : (tK t).length ≤ 4) (hV : ∀ c ∈ tV t, (tK t)[c.1]? = some c.2.1 ∧ c.2.2.1 < 5 ∧ (c.2.2.1 < 3 → c.2.2.2 ≠ zMiss ∧ zch c.2.1 c.2.2.2 = true)) (x : Int64) (hx : zch c.2.1 x = true) : zSp E 1 0 0 mX12_meets cX12_meets [zR 123, zI (nI i), zL x] S (fun r T => S = T ∧ r = some (zI (zbi (zmt c x)))) := by
  refine zSp.of (by decide) rfl (Nat.le_of_ble_eq_true rfl) rfl ?_
  have hM := h.1
  obtain ⟨v1, v2, v3⟩ := (h.2.2.2.2.1 t ht).1.2.2.1.2 i c hc
  obtain ⟨c1, c2, c3⟩ := hV c (List.mem_of_getElem? hc)
  have hi2 : i < 2 := Nat.lt_of_lt_of_le (List.getElem?_eq_some_iff.mp hc).1 hV2
  have hcK := (List.getElem?_eq_some_iff.mp c1).1
  have e2 : 2 < nI c.2.2.1 ↔ 2 < c.2.2.1 := nI_ltI (a := 2) (by decide) (by omega)
  have e3 : nI c.2.2.1 = 3 ↔ c.2.2.1 = 3 := nI_eq (b := 3) (by omega) (by decide)
  have e4 : nI c.2.2.1 = 4 ↔ c.2.2.1 = 4 := nI_eq (b := 4) (by omega) (by decide)
  have e0 : nI c.2.2.1 = 0 ↔ c.2.2.1 = 0 := nI_eq (b := 0) (by omega) (by decide)
  have e1 : nI c.2.2.1 = 1 ↔ c.2.2.1 = 1 := nI_eq (b := 1) (by omega) (by decide)
  refine j_aload_n (pc := 0) dX12_meets_0 rfl ?_
  refine j_getPv (pc := 1) dX12_meets_1 f_X12_69 (Or.inr ⟨_, rfl⟩) hM.1 (mp_sieveHow hM) ?_
  refine j_iload_n (pc := 4) dX12_meets_4 rfl ?_
  refine j_ialdn (pc := 5) dX12_meets_5 (mk_sieveHow hM) (by omega) (Nat.le_of_ble_eq_true rfl) (v2) ?_
  refine j_iconst (pc := 6) (v := 2) dX12_meets_6 (by decide) ?_
  refine j_icmp_gt (pc := 7) (tgt := 18) dX12_meets_7 (by decide) (fun h7 => ?_) (fun h7 => ?_)
  · refine j_aload_n (pc := 18) dX12_meets_18 rfl ?_
    refine j_getPv (pc := 19) dX12_meets_19 f_X12_69 (Or.inr ⟨_, rfl⟩) hM.1 (mp_sieveHow hM) ?_
    refine j_iload_n (pc := 22) dX12_meets_22 rfl ?_
    refine j_ialdn (pc := 23) dX12_meets_23 (mk_sieveHow hM) (by omega) (Nat.le_of_ble_eq_true rfl) (v2) ?_
    refine j_iconst (pc := 24) (v := 3) dX12_meets_24 (by decide) ?_
    refine j_icmp_ne (pc := 25) (tgt := 44) dX12_meets_25 (by decide) (fun h25 => ?_) (fun h25 => ?_)
    · refine j_aload_n (pc := 44) dX12_meets_44 rfl ?_
      refine j_getPv (pc := 45) dX12_meets_45 f_X12_69 (Or.inr ⟨_, rfl⟩) hM.1 (mp_sieveHow hM) ?_
      refine j_iload_n (pc := 48) dX12_meets_48 rfl ?_
      refine j_ialdn (pc := 49) dX12_meets_49 (mk_sieveHow hM) (by omega) (Nat.le_of_ble_eq_true rfl) (v2) ?_
      refine j_iconst (pc := 50) (v := 4) dX12_meets_50 (by decide) ?_
      refine j_icmp_ne (pc := 51) (tgt := 66) dX12_meets_51 (by decide) (fun h51 => ?_) (fun h51 => ?_)
      · refine j_iconst (pc := 66) (v := 0) dX12_meets_66 (by decide) ?_
        refine j_zret (pc := 67) dX12_meets_67 rfl (by first | assumption | decide) ?_
        have hn : zmt c x = false := by
          by_cases hxm : x = zMiss
          · rw [zmt_m hxm, decide_eq_false (fun q => h25 (e3.mpr q))]
          · rw [zmt_h hxm (e2.mp h7), decide_eq_false (fun q => h51 (e4.mpr q))]
        exact ⟨rfl, by rw [hn]; rfl⟩
      · refine j_lload_n (pc := 54) dX12_meets_54 rfl ?_
        refine j_ldcL (pc := 55) dX12_meets_55 k_X12_229 ?_
        refine j_lcmp (pc := 58) dX12_meets_58 ?_
        refine j_if_eq (pc := 59) (tgt := 66) dX12_meets_59 (by decide) (fun h59 => ?_) (fun h59 => ?_)
        · refine j_iconst (pc := 66) (v := 0) dX12_meets_66 (by decide) ?_
          refine j_zret (pc := 67) dX12_meets_67 rfl (by first | assumption | decide) ?_
          exact ⟨rfl, by rw [zmt_m ((lg_cmp_eq _ _).mp h59), e4.mp h51]; rfl⟩
        · refine j_iconst (pc := 62) (v := 1) dX12_meets_62 (by decide) ?_
          refine j_goto (pc := 63) (tgt := 67) dX12_meets_63 (by decide) ?_
          refine j_zret (pc := 67) dX12_meets_67 rfl (by first | assumption | decide) ?_
          have hxm : ¬ x = zMiss := fun q => h59 ((lg_cmp_eq _ _).mpr q)
          exact ⟨rfl, by rw [zmt_h hxm (by rw [e4.mp h51]; decide), e4.mp h51]; rfl⟩
    · refine j_lload_n (pc := 28) dX12_meets_28 rfl ?_
      refine j_ldcL (pc := 29) dX12_meets_29 k_X12_229 ?_
      refine j_lcmp (pc := 32) dX12_meets_32 ?_
      refine j_if_ne (pc := 33) (tgt := 40) dX12_meets_33 (by decide) (fun h33 => ?_) (fun h33 => ?_)
      · refine j_iconst (pc := 40) (v := 0) dX12_meets_40 (by decide) ?_
        refine j_goto (pc := 41) (tgt := 67) dX12_meets_41 (by decide) ?_
        refine j_zret (pc := 67) dX12_meets_67 rfl (by first | assumption | decide) ?_
        have hxm : ¬ x = zMiss := fun q => h33 ((lg_cmp_eq _ _).mpr q)
        exact ⟨rfl, by rw [zmt_h hxm (by rw [e3.mp h25]; decide), e3.mp h25]; rfl⟩
      · refine j_iconst (pc := 36) (v := 1) dX12_meets_36 (by decide) ?_
        refine j_goto (pc := 37) (tgt := 67) dX12_meets_37 (by decide) ?_
        refine j_zret (pc := 67) dX12_meets_67 rfl (by first | assumption | decide) ?_
        exact ⟨rfl, by rw [zmt_m ((lg_cmp_eq _ _).mp h33), e3.mp h25]; rfl⟩
  · refine j_lload_n (pc := 10) dX12_meets_10 rfl ?_
    refine j_ldcL (pc := 11) dX12_meets_11 k_X12_229 ?_
    refine j_lcmp (pc := 14) dX12_meets_14 ?_
    refine j_if_ne (pc := 15) (tgt := 68) dX12_meets_15 (by decide) (fun h15 => ?_) (fun h15 => ?_)
    · have hxm : ¬ x = zMiss := fun q => h15 ((lg_cmp_eq _ _).mpr q)
      have hh3 : c.2.2.1 < 3 := by have : ¬ 2 < c.2.2.1 := fun q => h7 (e2.mpr q); omega
      refine j_aload_n (pc := 68) dX12_meets_68 rfl ?_
      refine j_getPv (pc := 69) dX12_meets_69 f_X12_19 (Or.inr ⟨_, rfl⟩) hM.1 (mp_isText hM) ?_
      refine j_aload_n (pc := 72) dX12_meets_72 rfl ?_
      refine j_getPv (pc := 73) dX12_meets_73 f_X12_66 (Or.inr ⟨_, rfl⟩) hM.1 (mp_sieveColumn hM) ?_
      refine j_iload_n (pc := 76) dX12_meets_76 rfl ?_
      refine j_ialdn (pc := 77) dX12_meets_77 (mk_sieveColumn hM) (by omega) (Nat.le_of_ble_eq_true rfl) (v1) ?_
      refine j_zaldn (pc := 78) dX12_meets_78 (mk_isText hM) (by omega) (Nat.le_of_ble_eq_true rfl) ((h.2.2.2.2.1 t ht).1.1.2 c.1 c.2.1 c1) ?_
      refine j_istore (pc := 79) (ls' := [_, _, _, _, _, _, _, _, _]) dX12_meets_79 (by decide) rfl rfl ?_
      refine j_iload (pc := 81) dX12_meets_81 rfl ?_
      refine j_if_eq (pc := 83) (tgt := 93) dX12_meets_83 (by decide) (fun h83 => ?_) (fun h83 => ?_)
      · refine j_lload_n (pc := 93) dX12_meets_93 rfl ?_
        refine j_lstore (pc := 94) (ls' := [_, _, _, _, _, _, _, _, _]) dX12_meets_94 (by decide) rfl rfl ?_
        refine j_iload (pc := 96) dX12_meets_96 rfl ?_
        refine j_if_eq (pc := 98) (tgt := 113) dX12_meets_98 (by decide) (fun h98 => ?_) (fun h98 => absurd h83 h98)
        refine j_aload_n (pc := 113) dX12_meets_113 rfl ?_
        refine j_getPv (pc := 114) dX12_meets_114 f_X12_72 (Or.inr ⟨_, rfl⟩) hM.1 (mp_sieveValue hM) ?_
        refine j_iload_n (pc := 117) dX12_meets_117 rfl ?_
        refine j_laldn (pc := 118) dX12_meets_118 (mk_sieveValue hM) (by omega) (Nat.le_of_ble_eq_true rfl) (v3) ?_
        refine j_lstore (pc := 119) (ls' := [_, _, _, _, _, _, _, _, _]) dX12_meets_119 (by decide) rfl rfl ?_
        refine j_aload_n (pc := 121) dX12_meets_121 rfl ?_
        refine j_getPv (pc := 122) dX12_meets_122 f_X12_69 (Or.inr ⟨_, rfl⟩) hM.1 (mp_sieveHow hM) ?_
        refine j_iload_n (pc := 125) dX12_meets_125 rfl ?_
        refine j_ialdn (pc := 126) dX12_meets_126 (mk_sieveHow hM) (by omega) (Nat.le_of_ble_eq_true rfl) (v2) ?_
        refine j_if_ne (pc := 127) (tgt := 146) dX12_meets_127 (by decide) (fun h127 => ?_) (fun h127 => ?_)
        · refine j_aload_n (pc := 146) dX12_meets_146 rfl ?_
          refine j_getPv (pc := 147) dX12_meets_147 f_X12_69 (Or.inr ⟨_, rfl⟩) hM.1 (mp_sieveHow hM) ?_
          refine j_iload_n (pc := 150) dX12_meets_150 rfl ?_
          refine j_ialdn (pc := 151) dX12_meets_151 (mk_sieveHow hM) (by omega) (Nat.le_of_ble_eq_true rfl) (v2) ?_
          refine j_iconst (pc := 152) (v := 1) dX12_meets_152 (by decide) ?_
          refine j_icmp_ne (pc := 153) (tgt := 172) dX12_meets_153 (by decide) (fun h153 => ?_) (fun h153 => ?_)
          · refine j_lload (pc := 172) dX12_meets_172 rfl ?_
            refine j_lload (pc := 174) dX12_meets_174 rfl ?_
            refine j_lcmp (pc := 176) dX12_meets_176 ?_
            refine j_if_le (pc := 177) (tgt := 184) dX12_meets_177 (by decide) (fun h177 => ?_) (fun h177 => ?_)
            · refine j_iconst (pc := 184) (v := 0) dX12_meets_184 (by decide) ?_
              refine j_zret (pc := 185) dX12_meets_185 rfl (by first | assumption | decide) ?_
              have ec : zcp c x = lg_cmp x c.2.2.2 := by rw [zcp, zbi_eq0.mp h83]; rfl
              exact ⟨rfl, by rw [zmt_2 hxm (show c.2.2.1 = 2 by have h0 : ¬ c.2.2.1 = 0 := fun q => h127 (e0.mpr q); have h1 : ¬ c.2.2.1 = 1 := fun q => h153 (e1.mpr q); omega), ec, decide_eq_false (Int32.not_lt.mpr h177)]; rfl⟩
            · refine j_iconst (pc := 180) (v := 1) dX12_meets_180 (by decide) ?_
              refine j_goto (pc := 181) (tgt := 185) dX12_meets_181 (by decide) ?_
              refine j_zret (pc := 185) dX12_meets_185 rfl (by first | assumption | decide) ?_
              have ec : zcp c x = lg_cmp x c.2.2.2 := by rw [zcp, zbi_eq0.mp h83]; rfl
              exact ⟨rfl, by rw [zmt_2 hxm (show c.2.2.1 = 2 by have h0 : ¬ c.2.2.1 = 0 := fun q => h127 (e0.mpr q); have h1 : ¬ c.2.2.1 = 1 := fun q => h153 (e1.mpr q); omega), ec, decide_eq_true (Int32.not_le.mp h177)]; rfl⟩
          · refine j_lload (pc := 156) dX12_meets_156 rfl ?_
            refine j_lload (pc := 158) dX12_meets_158 rfl ?_
            refine j_lcmp (pc := 160) dX12_meets_160 ?_
            refine j_if_ge (pc := 161) (tgt := 168) dX12_meets_161 (by decide) (fun h161 => ?_) (fun h161 => ?_)
            · refine j_iconst (pc := 168) (v := 0) dX12_meets_168 (by decide) ?_
              refine j_goto (pc := 169) (tgt := 185) dX12_meets_169 (by decide) ?_
              refine j_zret (pc := 185) dX12_meets_185 rfl (by first | assumption | decide) ?_
              have ec : zcp c x = lg_cmp x c.2.2.2 := by rw [zcp, zbi_eq0.mp h83]; rfl
              exact ⟨rfl, by rw [zmt_1 hxm (e1.mp h153), ec, decide_eq_false (Int32.not_lt.mpr h161)]; rfl⟩
            · refine j_iconst (pc := 164) (v := 1) dX12_meets_164 (by decide) ?_
              refine j_goto (pc := 165) (tgt := 185) dX12_meets_165 (by decide) ?_
              refine j_zret (pc := 185) dX12_meets_185 rfl (by first | assumption | decide) ?_
              have ec : zcp c x = lg_cmp x c.2.2.2 := by rw [zcp, zbi_eq0.mp h83]; rfl
              exact ⟨rfl, by rw [zmt_1 hxm (e1.mp h153), ec, decide_eq_true (Int32.not_le.mp h161)]; rfl⟩
        · refine j_lload (pc := 130) dX12_meets_130 rfl ?_
          refine j_lload (pc := 132) dX12_meets_132 rfl ?_
          refine j_lcmp (pc := 134) dX12_meets_134 ?_
          refine j_if_ne (pc := 135) (tgt := 142) dX12_meets_135 (by decide) (fun h135 => ?_) (fun h135 => ?_)
          · refine j_iconst (pc := 142) (v := 0) dX12_meets_142 (by decide) ?_
            refine j_goto (pc := 143) (tgt := 185) dX12_meets_143 (by decide) ?_
            refine j_zret (pc := 185) dX12_meets_185 rfl (by first | assumption | decide) ?_
            have ec : zcp c x = lg_cmp x c.2.2.2 := by rw [zcp, zbi_eq0.mp h83]; rfl
            exact ⟨rfl, by rw [zmt_0 hxm (e0.mp h127), ec, decide_eq_false h135]; rfl⟩
          · refine j_iconst (pc := 138) (v := 1) dX12_meets_138 (by decide) ?_
            refine j_goto (pc := 139) (tgt := 185) dX12_meets_139 (by decide) ?_
            refine j_zret (pc := 185) dX12_meets_185 rfl (by first | assumption | decide) ?_
            have ec : zcp c x = lg_cmp x c.2.2.2 := by rw [zcp, zbi_eq0.mp h83]; rfl
            exact ⟨rfl, by rw [zmt_0 hxm (e0.mp h127), ec, decide_eq_true h135]; rfl⟩
      · have hb : c.2.1 = true := zbi_ne0 h83
        obtain ⟨ax, ax0, ax48, rfl⟩ := zch_w (by have := hx; rw [hb] at this; exact this) hxm
        obtain ⟨av, av0, av48, ev⟩ := zch_w (v := c.2.2.2) (by have := (c3 hh3).2; rw [hb] at this; exact this) (c3 hh3).1
        refine j_lload_n (pc := 86) dX12_meets_86 rfl ?_
        refine j_callS (pc := 87) (n_spread ax0 ax48) dX12_meets_87 l_X12_364 mk_X12_spread ms_X12_spread (by decide) rfl rfl (Nat.le_of_ble_eq_true rfl) (Nat.le_refl _) (Nat.le_refl _) (fun r T h_1 => ?_)
        obtain ⟨rfl, rfl⟩ := h_1
        refine j_goto (pc := 90) (tgt := 94) dX12_meets_90 (by decide) ?_
        refine j_lstore (pc := 94) (ls' := [_, _, _, _, _, _, _, _, _]) dX12_meets_94 (by decide) rfl rfl ?_
        refine j_iload (pc := 96) dX12_meets_96 rfl ?_
        refine j_if_eq (pc := 98) (tgt := 113) dX12_meets_98 (by decide) (fun h98 => absurd h98 h83) (fun h98 => ?_)
        refine j_aload_n (pc := 101) dX12_meets_101 rfl ?_
        refine j_getPv (pc := 102) dX12_meets_102 f_X12_72 (Or.inr ⟨_, rfl⟩) hM.1 (mp_sieveValue hM) ?_
        refine j_iload_n (pc := 105) dX12_meets_105 rfl ?_
        refine j_laldn (pc := 106) dX12_meets_106 (mk_sieveValue hM) (by omega) (Nat.le_of_ble_eq_true rfl) (v3.trans ev) ?_
        refine j_callS (pc := 107) (n_spread av0 av48) dX12_meets_107 l_X12_364 mk_X12_spread ms_X12_spread (by decide) rfl rfl (Nat.le_of_ble_eq_true rfl) (Nat.le_refl _) (Nat.le_refl _) (fun r T h_1 => ?_)
        obtain ⟨rfl, rfl⟩ := h_1
        refine j_goto (pc := 110) (tgt := 119) dX12_meets_110 (by decide) ?_
        refine j_lstore (pc := 119) (ls' := [_, _, _, _, _, _, _, _, _]) dX12_meets_119 (by decide) rfl rfl ?_
        refine j_aload_n (pc := 121) dX12_meets_121 rfl ?_
        refine j_getPv (pc := 122) dX12_meets_122 f_X12_69 (Or.inr ⟨_, rfl⟩) hM.1 (mp_sieveHow hM) ?_
        refine j_iload_n (pc := 125) dX12_meets_125 rfl ?_
        refine j_ialdn (pc := 126) dX12_meets_126 (mk_sieveHow hM) (by omega) (Nat.le_of_ble_eq_true rfl) (v2) ?_
        refine j_if_ne (pc := 127) (tgt := 146) dX12_meets_127 (by decide) (fun h127 => ?_) (fun h127 => ?_)
        · refine j_aload_n (pc := 146) dX12_meets_146 rfl ?_
          refine j_getPv (pc := 147) dX12_meets_147 f_X12_69 (Or.inr ⟨_, rfl⟩) hM.1 (mp_sieveHow hM) ?_
          refine j_iload_n (pc := 150) dX12_meets_150 rfl ?_
          refine j_ialdn (pc := 151) dX12_meets_151 (mk_sieveHow hM) (by omega) (Nat.le_of_ble_eq_true rfl) (v2) ?_
          refine j_iconst (pc := 152) (v := 1) dX12_meets_152 (by decide) ?_
          refine j_icmp_ne (pc := 153) (tgt := 172) dX12_meets_153 (by decide) (fun h153 => ?_) (fun h153 => ?_)
          · refine j_lload (pc := 172) dX12_meets_172 rfl ?_
            refine j_lload (pc := 174) dX12_meets_174 rfl ?_
            refine j_lcmp (pc := 176) dX12_meets_176 ?_
            refine j_if_le (pc := 177) (tgt := 184) dX12_meets_177 (by decide) (fun h177 => ?_) (fun h177 => ?_)
            · refine j_iconst (pc := 184) (v := 0) dX12_meets_184 (by decide) ?_
              refine j_zret (pc := 185) dX12_meets_185 rfl (by first | assumption | decide) ?_
              have ec : zcp c (lN ax) = lg_cmp (zrl 5 (lN ax)) (zrl 5 (lN av)) := by rw [zcp, if_pos hb, ev]
              exact ⟨rfl, by rw [zmt_2 hxm (show c.2.2.1 = 2 by have h0 : ¬ c.2.2.1 = 0 := fun q => h127 (e0.mpr q); have h1 : ¬ c.2.2.1 = 1 := fun q => h153 (e1.mpr q); omega), ec, decide_eq_false (Int32.not_lt.mpr h177)]; rfl⟩
            · refine j_iconst (pc := 180) (v := 1) dX12_meets_180 (by decide) ?_
              refine j_goto (pc := 181) (tgt := 185) dX12_meets_181 (by decide) ?_
              refine j_zret (pc := 185) dX12_meets_185 rfl (by first | assumption | decide) ?_
              have ec : zcp c (lN ax) = lg_cmp (zrl 5 (lN ax)) (zrl 5 (lN av)) := by rw [zcp, if_pos hb, ev]
              exact ⟨rfl, by rw [zmt_2 hxm (show c.2.2.1 = 2 by have h0 : ¬ c.2.2.1 = 0 := fun q => h127 (e0.mpr q); have h1 : ¬ c.2.2.1 = 1 := fun q => h153 (e1.mpr q); omega), ec, decide_eq_true (Int32.not_le.mp h177)]; rfl⟩
          · refine j_lload (pc := 156) dX12_meets_156 rfl ?_
            refine j_lload (pc := 158) dX12_meets_158 rfl ?_
            refine j_lcmp (pc := 160) dX12_meets_160 ?_
            refine j_if_ge (pc := 161) (tgt := 168) dX12_meets_161 (by decide) (fun h161 => ?_) (fun h161 => ?_)
            · refine j_iconst (pc := 168) (v := 0) dX12_meets_168 (by decide) ?_
              refine j_goto (pc := 169) (tgt := 185) dX12_meets_169 (by decide) ?_
              refine j_zret (pc := 185) dX12_meets_185 rfl (by first | assumption | decide) ?_
              have ec : zcp c (lN ax) = lg_cmp (zrl 5 (lN ax)) (zrl 5 (lN av)) := by rw [zcp, if_pos hb, ev]
              exact ⟨rfl, by rw [zmt_1 hxm (e1.mp h153), ec, decide_eq_false (Int32.not_lt.mpr h161)]; rfl⟩
            · refine j_iconst (pc := 164) (v := 1) dX12_meets_164 (by decide) ?_
              refine j_goto (pc := 165) (tgt := 185) dX12_meets_165 (by decide) ?_
              refine j_zret (pc := 185) dX12_meets_185 rfl (by first | assumption | decide) ?_
              have ec : zcp c (lN ax) = lg_cmp (zrl 5 (lN ax)) (zrl 5 (lN av)) := by rw [zcp, if_pos hb, ev]
              exact ⟨rfl, by rw [zmt_1 hxm (e1.mp h153), ec, decide_eq_true (Int32.not_le.mp h161)]; rfl⟩
        · refine j_lload (pc := 130) dX12_meets_130 rfl ?_
          refine j_lload (pc := 132) dX12_meets_132 rfl ?_
          refine j_lcmp (pc := 134) dX12_meets_134 ?_
          refine j_if_ne (pc := 135) (tgt := 142) dX12_meets_135 (by decide) (fun h135 => ?_) (fun h135 => ?_)
          · refine j_iconst (pc := 142) (v := 0) dX12_meets_142 (by decide) ?_
            refine j_goto (pc := 143) (tgt := 185) dX12_meets_143 (by decide) ?_
            refine j_zret (pc := 185) dX12_meets_185 rfl (by first | assumption | decide) ?_
            have ec : zcp c (lN ax) = lg_cmp (zrl 5 (lN ax)) (zrl 5 (lN av)) := by rw [zcp, if_pos hb, ev]
            exact ⟨rfl, by rw [zmt_0 hxm (e0.mp h127), ec, decide_eq_false h135]; rfl⟩
          · refine j_iconst (pc := 138) (v := 1) dX12_meets_138 (by decide) ?_
            refine j_goto (pc := 139) (tgt := 185) dX12_meets_139 (by decide) ?_
            refine j_zret (pc := 185) dX12_meets_185 rfl (by first | assumption | decide) ?_
            have ec : zcp c (lN ax) = lg_cmp (zrl 5 (lN ax)) (zrl 5 (lN av)) := by rw [zcp, if_pos hb, ev]
            exact ⟨rfl, by rw [zmt_0 hxm (e0.mp h127), ec, decide_eq_true h135]; rfl⟩
    · refine j_aload_n (pc := 18) dX12_meets_18 rfl ?_
      refine j_getPv (pc := 19) dX12_meets_19 f_X12_69 (Or.inr ⟨_, rfl⟩) hM.1 (mp_sieveHow hM) ?_
      refine j_iload_n (pc := 22) dX12_meets_22 rfl ?_
      refine j_ialdn (pc := 23) dX12_meets_23 (mk_sieveHow hM) (by omega) (Nat.le_of_ble_eq_true rfl) (v2) ?_
      refine j_iconst (pc := 24) (v := 3) dX12_meets_24 (by decide) ?_
      refine j_icmp_ne (pc := 25) (tgt := 44) dX12_meets_25 (by decide) (fun h25 => ?_) (fun h25 => ?_)
      · refine j_aload_n (pc := 44) dX12_meets_44 rfl ?_
        refine j_getPv (pc := 45) dX12_meets_45 f_X12_69 (Or.inr ⟨_, rfl⟩) hM.1 (mp_sieveHow hM) ?_
        refine j_iload_n (pc := 48) dX12_meets_48 rfl ?_
        refine j_ialdn (pc := 49) dX12_meets_49 (mk_sieveHow hM) (by omega) (Nat.le_of_ble_eq_true rfl) (v2) ?_
        refine j_iconst (pc := 50) (v := 4) dX12_meets_50 (by decide) ?_
        refine j_icmp_ne (pc := 51) (tgt := 66) dX12_meets_51 (by decide) (fun h51 => ?_) (fun h51 => ?_)
        · refine j_iconst (pc := 66) (v := 0) dX12_meets_66 (by decide) ?_
          refine j_zret (pc := 67) dX12_meets_67 rfl (by first | assumption | decide) ?_
          exact ⟨rfl, by rw [zmt_m ((lg_cmp_eq _ _).mp h15), decide_eq_false (fun q => h25 (e3.mpr q))]; rfl⟩
        · refine j_lload_n (pc := 54) dX12_meets_54 rfl ?_
          refine j_ldcL (pc := 55) dX12_meets_55 k_X12_229 ?_
          refine j_lcmp (pc := 58) dX12_meets_58 ?_
          refine j_if_eq (pc := 59) (tgt := 66) dX12_meets_59 (by decide) (fun h59 => ?_) (fun h59 => ?_)
          · refine j_iconst (pc := 66) (v := 0) dX12_meets_66 (by decide) ?_
            refine j_zret (pc := 67) dX12_meets_67 rfl (by first | assumption | decide) ?_
            exact ⟨rfl, by rw [zmt_m ((lg_cmp_eq _ _).mp h59), e4.mp h51]; rfl⟩
          · refine j_iconst (pc := 62) (v := 1) dX12_meets_62 (by decide) ?_
            refine j_goto (pc := 63) (tgt := 67) dX12_meets_63 (by decide) ?_
            refine j_zret (pc := 67) dX12_meets_67 rfl (by first | assumption | decide) ?_
            have hxm : ¬ x = zMiss := fun q => h59 ((lg_cmp_eq _ _).mpr q)
            exact ⟨rfl, by rw [zmt_h hxm (by rw [e4.mp h51]; decide), e4.mp h51]; rfl⟩
      · refine j_lload_n (pc := 28) dX12_meets_28 rfl ?_
        refine j_ldcL (pc := 29) dX12_meets_29 k_X12_229 ?_
        refine j_lcmp (pc := 32) dX12_meets_32 ?_
        refine j_if_ne (pc := 33) (tgt := 40) dX12_meets_33 (by decide) (fun h33 => ?_) (fun h33 => ?_)
        · refine j_iconst (pc := 40) (v := 0) dX12_meets_40 (by decide) ?_
          refine j_goto (pc := 41) (tgt := 67) dX12_meets_41 (by decide) ?_
          refine j_zret (pc := 67) dX12_meets_67 rfl (by first | assumption | decide) ?_
          have hxm : ¬ x = zMiss := fun q => h33 ((lg_cmp_eq _ _).mpr q)
          exact ⟨rfl, by rw [zmt_h hxm (by rw [e3.mp h25]; decide), e3.mp h25]; rfl⟩
        · refine j_iconst (pc := 36) (v := 1) dX12_meets_36 (by decide) ?_
          refine j_goto (pc := 37) (tgt := 67) dX12_meets_37 (by decide) ?_
          refine j_zret (pc := 67) dX12_meets_67 rfl (by first | assumption | decide) ?_
          exact ⟨rfl, by rw [zmt_m ((lg_cmp_eq _ _).mp h33), e3.mp h25]; rfl⟩
set_option maxRecDepth 20000 in
set_option maxHeartbeats 4000000 in
theorem n_doesPass {E : zE} {S : zM} {s : zST} {t : zTB} {n u i : Nat} (h : zMO S s) (hw : zWF n s) (ht : sT s = some t) (hu1 : u ≤ tv t) (hu2 : tv t ≤ u + 40) (hi : i < 64) : zSp E 2 0 0 mX12_doesPass cX12_doesPass [zR 123, zI (nI u), zI (nI i)] S (fun r T => S = T ∧ r = some (zI (zbi (zth (tH t u).1 (nI i) && zpf (tV t) (tH t u) i)))) := by
  refine zSp.of (by decide) rfl (Nat.le_of_ble_eq_true rfl) rfl ?_
  have hM := h.1
  have hv := hw.v ht
  have hWt := (hw.t ht).1
  have hu3 : u < 2 ^ 20 := by omega
  refine j_aload_n (pc := 0) dX12_doesPass_0 rfl ?_
  refine j_iload_n (pc := 1) dX12_doesPass_1 rfl ?_
  refine j_iload_n (pc := 2) dX12_doesPass_2 rfl ?_
  refine j_callV (pc := 3) (t := 12) (n_isThen h ht hu1 hu2 hu3 (nI i)) dX12_doesPass_3 l_X12_305 mk_X12_isThen mv_X12_isThen (by decide) rfl hM.1 (by decide) rfl rfl (Nat.le_of_ble_eq_true rfl) (Nat.le_refl _) (Nat.le_refl _) (fun r T h_1 => ?_)
  obtain ⟨rfl, rfl⟩ := h_1
  refine j_if_ne (pc := 6) (tgt := 11) dX12_doesPass_6 (by decide) (fun h6 => ?_) (fun h6 => ?_)
  · refine j_iconst (pc := 11) (v := 0) dX12_doesPass_11 (by decide) ?_
    refine j_istore_n (pc := 12) (ls' := [_, _, _, _]) dX12_doesPass_12 (by decide) rfl rfl ?_
    have hth2 := zbi_ne0 h6
    have hth : (tH t u).1 i = true := by rw [zth_nI _ hi] at hth2; exact hth2
    have lp : ∀ (m k : Nat), k + m = (tV t).length → (∀ k' c', k' < k → (tV t)[k']? = some c' → zmt c' ((tH t u).2 i c'.1) = true) → zJ E 2 0 0 mX12_doesPass cX12_doesPass 13 [some (zR 123), some (zI (nI u)), some (zI (nI i)), some (zI (nI k))] [] S (fun r T => S = T ∧ r = some (zI (zbi (zth (tH t u).1 (nI i) && zpf (tV t) (tH t u) i)))) := by
      intro m
      induction m with
      | zero =>
        intro k hk hq
        have ek : k = (tV t).length := by omega
        subst ek
        refine j_iload_n (pc := 13) dX12_doesPass_13 rfl ?_
        refine j_aload_n (pc := 14) dX12_doesPass_14 rfl ?_
        refine j_getIv (pc := 15) dX12_doesPass_15 f_X12_286 (Or.inl rfl) hM.1 ((h.2.2.2.2.1 t ht).1.2.2.1.1) ?_
        refine j_icmp_ge (pc := 18) (tgt := 49) dX12_doesPass_18 (by decide) (fun h18 => ?_) (fun h18 => absurd (nI_le (Nat.le_refl _) (by omega)) h18)
        refine j_iconst (pc := 49) (v := 1) dX12_doesPass_49 (by decide) ?_
        refine j_zret (pc := 50) dX12_doesPass_50 rfl (by first | assumption | decide) ?_
        have e : zpf (tV t) (tH t u) i = true := List.all_eq_true.mpr (fun c hc => by
          obtain ⟨k, hk⟩ := List.getElem?_of_mem hc
          exact hq k c (List.getElem?_eq_some_iff.mp hk).1 hk)
        exact ⟨rfl, by rw [hth2, e]; rfl⟩
      | succ m ih =>
        intro k hk hq
        have hc := gD (0, false, 0, 0) (show k < (tV t).length by omega)
        generalize (tV t).getD k (0, false, 0, 0) = c at hc
        have c1 := (hWt.2.2.2.1.2 c (List.mem_of_getElem? hc)).1
        have hcK := (List.getElem?_eq_some_iff.mp c1).1
        have hxc := (hWt.2.2.2.2.1.2 u hu1).2.2 i c.1 c.2.1 hth c1
        refine j_iload_n (pc := 13) dX12_doesPass_13 rfl ?_
        refine j_aload_n (pc := 14) dX12_doesPass_14 rfl ?_
        refine j_getIv (pc := 15) dX12_doesPass_15 f_X12_286 (Or.inl rfl) hM.1 ((h.2.2.2.2.1 t ht).1.2.2.1.1) ?_
        refine j_icmp_ge (pc := 18) (tgt := 49) dX12_doesPass_18 (by decide) (fun h18 => absurd h18 (nI_ge (by omega) (by omega))) (fun h18 => ?_)
        refine j_aload_n (pc := 21) dX12_doesPass_21 rfl ?_
        refine j_iload_n (pc := 22) dX12_doesPass_22 rfl ?_
        refine j_aload_n (pc := 23) dX12_doesPass_23 rfl ?_
        refine j_iload_n (pc := 24) dX12_doesPass_24 rfl ?_
        refine j_iload_n (pc := 25) dX12_doesPass_25 rfl ?_
        refine j_aload_n (pc := 26) dX12_doesPass_26 rfl ?_
        refine j_getPv (pc := 27) dX12_doesPass_27 f_X12_66 (Or.inr ⟨_, rfl⟩) hM.1 (mp_sieveColumn hM) ?_
        refine j_iload_n (pc := 30) dX12_doesPass_30 rfl ?_
        refine j_ialdn (pc := 31) dX12_doesPass_31 (mk_sieveColumn hM) (by omega) (Nat.le_of_ble_eq_true rfl) ((h.2.2.2.2.1 t ht).1.2.2.1.2 k c hc |>.1) ?_
        refine j_callV (pc := 32) (t := 12) (n_valueThen h ht hu1 hu2 hu3 hi (by omega) hv.2.2.1 hth) dX12_doesPass_32 l_X12_327 mk_X12_valueThen mv_X12_valueThen (by decide) rfl hM.1 (by decide) rfl rfl (Nat.le_of_ble_eq_true rfl) (Nat.le_refl _) (Nat.le_refl _) (fun r T h_1 => ?_)
        obtain ⟨rfl, rfl⟩ := h_1
        refine j_callV (pc := 35) (t := 12) (n_meets h ht hc hv.2.2.2.2.1 hv.2.2.1 hWt.2.2.2.1.2 _ hxc) dX12_doesPass_35 l_X12_368 mk_X12_meets mv_X12_meets (by decide) rfl hM.1 (by decide) rfl rfl (Nat.le_of_ble_eq_true rfl) (Nat.le_refl _) (Nat.le_refl _) (fun r T h_1 => ?_)
        obtain ⟨rfl, rfl⟩ := h_1
        refine j_if_ne (pc := 38) (tgt := 43) dX12_doesPass_38 (by decide) (fun h38 => ?_) (fun h38 => ?_)
        · refine j_iinc (pc := 43) (v := _ + 1) (ls' := [_, _, _, _]) dX12_doesPass_43 rfl rfl (by decide) rfl rfl ?_
          refine j_goto (pc := 46) (tgt := 13) dX12_doesPass_46 (by decide) ?_
          rw [nI_1]
          refine ih (k + 1) (by omega) (fun k' c' hk' hc' => ?_)
          by_cases g : k' = k
          · subst g
            rw [hc] at hc'
            cases hc'
            exact zbi_ne0 h38
          · exact hq k' c' (by omega) hc'
        · refine j_iconst (pc := 41) (v := 0) dX12_doesPass_41 (by decide) ?_
          refine j_zret (pc := 42) dX12_doesPass_42 rfl (by first | assumption | decide) ?_
          have e : zpf (tV t) (tH t u) i = false := by
            cases g : zpf (tV t) (tH t u) i with
            | false => rfl
            | true =>
              have := List.all_eq_true.mp g c (List.mem_of_getElem? hc)
              rw [zbi_eq0.mp h38] at this
              cases this
          exact ⟨rfl, by rw [hth2, e]; rfl⟩
    exact lp (tV t).length 0 (by omega) (fun k' _ hk' => absurd hk' (Nat.not_lt_zero k'))
  · refine j_iconst (pc := 9) (v := 0) dX12_doesPass_9 (by decide) ?_
    refine j_zret (pc := 10) dX12_doesPass_10 rfl (by first | assumption | decide) ?_
    exact ⟨rfl, by rw [zbi_eq0.mp h6]; rfl⟩
set_option maxRecDepth 20000 in
set_option maxHeartbeats 4000000 in
theorem m_passes {E : zE} {S : zM} {s : zST} {n : Nat} (h : zMO S s) (hw : zWF n s) (x : Int32) : zSp E 3 0 0 mX12_passes cX12_passes [zR 123, zI x] S (fun r T => r = some (zI (q_passes s x).1) ∧ zMO T (q_passes s x).2 ∧ zF zMX S T) := by
  refine zSp.of (by decide) rfl (Nat.le_of_ble_eq_true rfl) rfl ?_
  have hM := h.1
  cases hz : zrow s x with
  | false =>
    have e : q_passes s x = zrf s 1 := by
      unfold q_passes
      split
      · rfl
      · rename_i t ht
        rw [zrow_s ht] at hz
        simp [hz]
    refine j_aload_n (pc := 0) dX12_passes_0 rfl ?_
    refine j_aload_n (pc := 1) dX12_passes_1 rfl ?_
    refine j_iload_n (pc := 2) dX12_passes_2 rfl ?_
    refine j_callV (pc := 3) (t := 12) (n_isNow h hw _) dX12_passes_3 l_X12_324 mk_X12_isNow mv_X12_isNow (by decide) rfl hM.1 (by decide) rfl rfl (Nat.le_of_ble_eq_true rfl) (Nat.le_refl _) (Nat.le_refl _) (fun r T h_1 => ?_)
    obtain ⟨rfl, rfl⟩ := h_1
    rw [hz]
    refine j_callS (pc := 6) (n_unlF) dX12_passes_6 l_X12_312 mk_X12_unless ms_X12_unless (by decide) rfl rfl (Nat.le_of_ble_eq_true rfl) (Nat.le_refl _) (Nat.le_refl _) (fun r T h_1 => ?_)
    obtain ⟨rfl, rfl⟩ := h_1
    refine j_callV (pc := 9) (t := 12) (n_rf1 hM) dX12_passes_9 l_X12_256 mk_X12_isRefused mv_X12_isRefused (by decide) rfl hM.1 (by decide) rfl rfl (Nat.le_of_ble_eq_true rfl) (Nat.le_refl _) (Nat.le_refl _) (fun r T h_1 => ?_)
    obtain ⟨rfl, rfl⟩ := h_1
    refine j_if_eq (pc := 12) (tgt := 19) dX12_passes_12 (by decide) (fun h12 => absurd h12 (by decide)) (fun h12 => ?_)
    refine j_iconst (pc := 15) (v := (-1)) dX12_passes_15 (by decide) ?_
    refine j_goto (pc := 16) (tgt := 36) dX12_passes_16 (by decide) ?_
    refine j_iret (pc := 36) dX12_passes_36 rfl ?_
    exact m_ref h (n := 1) (by decide) e
  | true =>
    obtain ⟨t, j, ht, hj, rfl, hjr⟩ := zrow_t hz
    have hv := hw.v ht
    have hjt : zth (tW t).1 (nI j) = true := by rw [zth_nI _ hj]; exact hjr
    have hcl : (nI j).toNatClampNeg = j := nI_clamp (by omega)
    refine j_aload_n (pc := 0) dX12_passes_0 rfl ?_
    refine j_aload_n (pc := 1) dX12_passes_1 rfl ?_
    refine j_iload_n (pc := 2) dX12_passes_2 rfl ?_
    refine j_callV (pc := 3) (t := 12) (n_isNow h hw _) dX12_passes_3 l_X12_324 mk_X12_isNow mv_X12_isNow (by decide) rfl hM.1 (by decide) rfl rfl (Nat.le_of_ble_eq_true rfl) (Nat.le_refl _) (Nat.le_refl _) (fun r T h_1 => ?_)
    obtain ⟨rfl, rfl⟩ := h_1
    rw [hz]
    refine j_callS (pc := 6) (n_unlT) dX12_passes_6 l_X12_312 mk_X12_unless ms_X12_unless (by decide) rfl rfl (Nat.le_of_ble_eq_true rfl) (Nat.le_refl _) (Nat.le_refl _) (fun r T h_1 => ?_)
    obtain ⟨rfl, rfl⟩ := h_1
    refine j_callV (pc := 9) (t := 12) (n_ok hM) dX12_passes_9 l_X12_256 mk_X12_isRefused mv_X12_isRefused (by decide) rfl hM.1 (by decide) rfl rfl (Nat.le_of_ble_eq_true rfl) (Nat.le_refl _) (Nat.le_refl _) (fun r T h_1 => ?_)
    obtain ⟨rfl, rfl⟩ := h_1
    refine j_if_eq (pc := 12) (tgt := 19) dX12_passes_12 (by decide) (fun h12 => ?_) (fun h12 => absurd rfl h12)
    refine j_aload_n (pc := 19) dX12_passes_19 rfl ?_
    refine j_aload_n (pc := 20) dX12_passes_20 rfl ?_
    refine j_getIv (pc := 21) dX12_passes_21 f_X12_277 (Or.inl rfl) hM.1 ((h.2.2.2.2.1 t ht).1.2.2.2.1.1) ?_
    refine j_iload_n (pc := 24) dX12_passes_24 rfl ?_
    refine j_callV (pc := 25) (t := 12) (n_doesPass (h.no (n := 0) (by decide)) (zWF.no hw) ht (Nat.le_refl _) (Nat.le_add_right _ _) hj) dX12_passes_25 l_X12_385 mk_X12_doesPass mv_X12_doesPass (by decide) rfl hM.1 (by decide) rfl rfl (Nat.le_of_ble_eq_true rfl) (Nat.le_refl _) (Nat.le_refl _) (fun r T h_1 => ?_)
    obtain ⟨rfl, rfl⟩ := h_1
    rw [hjt, Bool.true_and]
    refine j_if_eq (pc := 28) (tgt := 35) dX12_passes_28 (by decide) (fun h28 => ?_) (fun h28 => ?_)
    · refine j_iconst (pc := 35) (v := 0) dX12_passes_35 (by decide) ?_
      refine j_iret (pc := 36) dX12_passes_36 rfl ?_
      exact m_ans h (by simp only [q_passes, ht]; rw [if_pos hjt, zn, hcl, show zbi (zps (tV t) ((tW t).2 j)) = 0 from h28])
    · refine j_iconst (pc := 31) (v := 1) dX12_passes_31 (by decide) ?_
      refine j_goto (pc := 32) (tgt := 36) dX12_passes_32 (by decide) ?_
      refine j_iret (pc := 36) dX12_passes_36 rfl ?_
      exact m_ans h (by simp only [q_passes, ht]; rw [if_pos hjt, zn, hcl, show zps (tV t) ((tW t).2 j) = true from zbi_ne0 h28]; rfl)
